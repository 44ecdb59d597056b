theorem dX10_comesFrom_0 : decode cX10_comesFrom 0 = .ok (.iconst 0, 1) := by decide +kernel
theorem dX10_comesFrom_1 : decode cX10_comesFrom 1 = .ok (.istore_n 3, 1) := by decide +kernel
theorem dX10_comesFrom_2 : decode cX10_comesFrom 2 = .ok (.aload_n 0, 1) := by decide +kernel
theorem dX10_comesFrom_3 : decode cX10_comesFrom 3 = .ok (.iload_n 1, 1) := by decide +kernel
theorem dX10_comesFrom_4 : decode cX10_comesFrom 4 = .ok (.iconst 2, 1) := by decide +kernel
theorem dX10_comesFrom_5 : decode cX10_comesFrom 5 = .ok (.invokevirtual 45, 3) := by decide +kernel
theorem dX10_comesFrom_8 : decode cX10_comesFrom 8 = .ok (.istore 4, 2) := by decide +kernel
theorem dX10_comesFrom_10 : decode cX10_comesFrom 10 = .ok (.iload 4, 2) := by decide +kernel
theorem dX10_comesFrom_12 : decode cX10_comesFrom 12 = .ok (.bipush (-4), 2) := by decide +kernel
theorem dX10_comesFrom_14 : decode cX10_comesFrom 14 = .ok (.if_icmp .eq 31, 3) := by decide +kernel
theorem dX10_comesFrom_17 : decode cX10_comesFrom 17 = .ok (.iload_n 3, 1) := by decide +kernel
theorem dX10_comesFrom_18 : decode cX10_comesFrom 18 = .ok (.ifCond .ne 9, 3) := by decide +kernel
theorem dX10_comesFrom_21 : decode cX10_comesFrom 21 = .ok (.iload 4, 2) := by decide +kernel
theorem dX10_comesFrom_23 : decode cX10_comesFrom 23 = .ok (.iload_n 2, 1) := by decide +kernel
theorem dX10_comesFrom_24 : decode cX10_comesFrom 24 = .ok (.if_icmp .ne 7, 3) := by decide +kernel
theorem dX10_comesFrom_27 : decode cX10_comesFrom 27 = .ok (.iconst 1, 1) := by decide +kernel
theorem dX10_comesFrom_28 : decode cX10_comesFrom 28 = .ok (.goto 4, 3) := by decide +kernel
theorem dX10_comesFrom_31 : decode cX10_comesFrom 31 = .ok (.iconst 0, 1) := by decide +kernel
theorem dX10_comesFrom_32 : decode cX10_comesFrom 32 = .ok (.istore_n 3, 1) := by decide +kernel
theorem dX10_comesFrom_33 : decode cX10_comesFrom 33 = .ok (.aload_n 0, 1) := by decide +kernel
theorem dX10_comesFrom_34 : decode cX10_comesFrom 34 = .ok (.iload 4, 2) := by decide +kernel
theorem dX10_comesFrom_36 : decode cX10_comesFrom 36 = .ok (.iconst 2, 1) := by decide +kernel
theorem dX10_comesFrom_37 : decode cX10_comesFrom 37 = .ok (.invokevirtual 45, 3) := by decide +kernel
theorem dX10_comesFrom_40 : decode cX10_comesFrom 40 = .ok (.istore 4, 2) := by decide +kernel
theorem dX10_comesFrom_42 : decode cX10_comesFrom 42 = .ok (.goto (-32), 3) := by decide +kernel
theorem dX10_comesFrom_45 : decode cX10_comesFrom 45 = .ok (.iload_n 3, 1) := by decide +kernel
theorem dX10_comesFrom_46 : decode cX10_comesFrom 46 = .ok (.ireturn, 1) := by decide +kernel
theorem dX10_allFrom_0 : decode cX10_allFrom 0 = .ok (.iconst 0, 1) := by decide +kernel
theorem dX10_allFrom_1 : decode cX10_allFrom 1 = .ok (.istore_n 2, 1) := by decide +kernel
theorem dX10_allFrom_2 : decode cX10_allFrom 2 = .ok (.iconst 0, 1) := by decide +kernel
theorem dX10_allFrom_3 : decode cX10_allFrom 3 = .ok (.istore_n 3, 1) := by decide +kernel
theorem dX10_allFrom_4 : decode cX10_allFrom 4 = .ok (.iload_n 3, 1) := by decide +kernel
theorem dX10_allFrom_5 : decode cX10_allFrom 5 = .ok (.aload_n 0, 1) := by decide +kernel
theorem dX10_allFrom_6 : decode cX10_allFrom 6 = .ok (.getfield 7, 3) := by decide +kernel
theorem dX10_allFrom_9 : decode cX10_allFrom 9 = .ok (.iconst 0, 1) := by decide +kernel
theorem dX10_allFrom_10 : decode cX10_allFrom 10 = .ok (.iaload, 1) := by decide +kernel
theorem dX10_allFrom_11 : decode cX10_allFrom 11 = .ok (.if_icmp .ge 26, 3) := by decide +kernel
theorem dX10_allFrom_14 : decode cX10_allFrom 14 = .ok (.iload_n 2, 1) := by decide +kernel
theorem dX10_allFrom_15 : decode cX10_allFrom 15 = .ok (.aload_n 0, 1) := by decide +kernel
theorem dX10_allFrom_16 : decode cX10_allFrom 16 = .ok (.iload_n 3, 1) := by decide +kernel
theorem dX10_allFrom_17 : decode cX10_allFrom 17 = .ok (.iload_n 1, 1) := by decide +kernel
theorem dX10_allFrom_18 : decode cX10_allFrom 18 = .ok (.invokevirtual 183, 3) := by decide +kernel
theorem dX10_allFrom_21 : decode cX10_allFrom 21 = .ok (.ifCond .eq 7, 3) := by decide +kernel
theorem dX10_allFrom_24 : decode cX10_allFrom 24 = .ok (.iconst 1, 1) := by decide +kernel
theorem dX10_allFrom_25 : decode cX10_allFrom 25 = .ok (.goto 4, 3) := by decide +kernel
theorem dX10_allFrom_28 : decode cX10_allFrom 28 = .ok (.iconst 0, 1) := by decide +kernel
theorem dX10_allFrom_29 : decode cX10_allFrom 29 = .ok (.iadd, 1) := by decide +kernel
theorem dX10_allFrom_30 : decode cX10_allFrom 30 = .ok (.istore_n 2, 1) := by decide +kernel
theorem dX10_allFrom_31 : decode cX10_allFrom 31 = .ok (.iinc 3 1, 3) := by decide +kernel
theorem dX10_allFrom_34 : decode cX10_allFrom 34 = .ok (.goto (-30), 3) := by decide +kernel
theorem dX10_allFrom_37 : decode cX10_allFrom 37 = .ok (.iload_n 2, 1) := by decide +kernel
theorem dX10_allFrom_38 : decode cX10_allFrom 38 = .ok (.ireturn, 1) := by decide +kernel
theorem dX10_farFromFather_0 : decode cX10_farFromFather 0 = .ok (.aload_n 0, 1) := by decide +kernel
theorem dX10_farFromFather_1 : decode cX10_farFromFather 1 = .ok (.iload_n 1, 1) := by decide +kernel
theorem dX10_farFromFather_2 : decode cX10_farFromFather 2 = .ok (.iconst 2, 1) := by decide +kernel
theorem dX10_farFromFather_3 : decode cX10_farFromFather 3 = .ok (.invokevirtual 45, 3) := by decide +kernel
theorem dX10_farFromFather_6 : decode cX10_farFromFather 6 = .ok (.istore_n 2, 1) := by decide +kernel
theorem dX10_farFromFather_7 : decode cX10_farFromFather 7 = .ok (.iload_n 2, 1) := by decide +kernel
theorem dX10_farFromFather_8 : decode cX10_farFromFather 8 = .ok (.bipush (-4), 2) := by decide +kernel
theorem dX10_farFromFather_10 : decode cX10_farFromFather 10 = .ok (.if_icmp .ne 8, 3) := by decide +kernel
theorem dX10_farFromFather_13 : decode cX10_farFromFather 13 = .ok (.bipush (-4), 2) := by decide +kernel
theorem dX10_farFromFather_15 : decode cX10_farFromFather 15 = .ok (.goto 18, 3) := by decide +kernel
theorem dX10_farFromFather_18 : decode cX10_farFromFather 18 = .ok (.aload_n 0, 1) := by decide +kernel
theorem dX10_farFromFather_19 : decode cX10_farFromFather 19 = .ok (.iload_n 1, 1) := by decide +kernel
theorem dX10_farFromFather_20 : decode cX10_farFromFather 20 = .ok (.iconst 0, 1) := by decide +kernel
theorem dX10_farFromFather_21 : decode cX10_farFromFather 21 = .ok (.invokevirtual 45, 3) := by decide +kernel
theorem dX10_farFromFather_24 : decode cX10_farFromFather 24 = .ok (.aload_n 0, 1) := by decide +kernel
theorem dX10_farFromFather_25 : decode cX10_farFromFather 25 = .ok (.iload_n 2, 1) := by decide +kernel
theorem dX10_farFromFather_26 : decode cX10_farFromFather 26 = .ok (.iconst 0, 1) := by decide +kernel
theorem dX10_farFromFather_27 : decode cX10_farFromFather 27 = .ok (.invokevirtual 45, 3) := by decide +kernel
theorem dX10_farFromFather_30 : decode cX10_farFromFather 30 = .ok (.invokestatic 137, 3) := by decide +kernel
theorem dX10_farFromFather_33 : decode cX10_farFromFather 33 = .ok (.ireturn, 1) := by decide +kernel
theorem dX10_person_0 : decode cX10_person 0 = .ok (.aload_n 0, 1) := by decide +kernel
theorem dX10_person_1 : decode cX10_person 1 = .ok (.iload_n 1, 1) := by decide +kernel
theorem dX10_person_2 : decode cX10_person 2 = .ok (.invokevirtual 116, 3) := by decide +kernel
theorem dX10_person_5 : decode cX10_person 5 = .ok (.ifCond .ne 5, 3) := by decide +kernel
theorem dX10_person_8 : decode cX10_person 8 = .ok (.iconst (-1), 1) := by decide +kernel
theorem dX10_person_9 : decode cX10_person 9 = .ok (.ireturn, 1) := by decide +kernel
theorem dX10_person_10 : decode cX10_person 10 = .ok (.iload_n 2, 1) := by decide +kernel
theorem dX10_person_11 : decode cX10_person 11 = .ok (.tableswitch 114 0 11 #[61, 61, 61, 61, 61, 68, 75, 82, 89, 96, 102, 108], 61) := by decide +kernel
theorem dX10_person_72 : decode cX10_person 72 = .ok (.aload_n 0, 1) := by decide +kernel
theorem dX10_person_73 : decode cX10_person 73 = .ok (.iload_n 1, 1) := by decide +kernel
theorem dX10_person_74 : decode cX10_person 74 = .ok (.iload_n 2, 1) := by decide +kernel
theorem dX10_person_75 : decode cX10_person 75 = .ok (.invokevirtual 45, 3) := by decide +kernel
theorem dX10_person_78 : decode cX10_person 78 = .ok (.ireturn, 1) := by decide +kernel
theorem dX10_person_79 : decode cX10_person 79 = .ok (.aload_n 0, 1) := by decide +kernel
theorem dX10_person_80 : decode cX10_person 80 = .ok (.iload_n 1, 1) := by decide +kernel
theorem dX10_person_81 : decode cX10_person 81 = .ok (.iconst 0, 1) := by decide +kernel
theorem dX10_person_82 : decode cX10_person 82 = .ok (.invokevirtual 112, 3) := by decide +kernel
theorem dX10_person_85 : decode cX10_person 85 = .ok (.ireturn, 1) := by decide +kernel
theorem dX10_person_86 : decode cX10_person 86 = .ok (.aload_n 0, 1) := by decide +kernel
theorem dX10_person_87 : decode cX10_person 87 = .ok (.iload_n 1, 1) := by decide +kernel
theorem dX10_person_88 : decode cX10_person 88 = .ok (.iconst 1, 1) := by decide +kernel
theorem dX10_person_89 : decode cX10_person 89 = .ok (.invokevirtual 112, 3) := by decide +kernel
theorem dX10_person_92 : decode cX10_person 92 = .ok (.ireturn, 1) := by decide +kernel
theorem dX10_person_93 : decode cX10_person 93 = .ok (.aload_n 0, 1) := by decide +kernel
theorem dX10_person_94 : decode cX10_person 94 = .ok (.iload_n 1, 1) := by decide +kernel
theorem dX10_person_95 : decode cX10_person 95 = .ok (.iconst 0, 1) := by decide +kernel
theorem dX10_person_96 : decode cX10_person 96 = .ok (.invokevirtual 186, 3) := by decide +kernel
theorem dX10_person_99 : decode cX10_person 99 = .ok (.ireturn, 1) := by decide +kernel
theorem dX10_person_100 : decode cX10_person 100 = .ok (.aload_n 0, 1) := by decide +kernel
theorem dX10_person_101 : decode cX10_person 101 = .ok (.iload_n 1, 1) := by decide +kernel
theorem dX10_person_102 : decode cX10_person 102 = .ok (.iconst 1, 1) := by decide +kernel
theorem dX10_person_103 : decode cX10_person 103 = .ok (.invokevirtual 186, 3) := by decide +kernel
theorem dX10_person_106 : decode cX10_person 106 = .ok (.ireturn, 1) := by decide +kernel
theorem dX10_person_107 : decode cX10_person 107 = .ok (.aload_n 0, 1) := by decide +kernel
theorem dX10_person_108 : decode cX10_person 108 = .ok (.iload_n 1, 1) := by decide +kernel
theorem dX10_person_109 : decode cX10_person 109 = .ok (.invokevirtual 189, 3) := by decide +kernel
theorem dX10_person_112 : decode cX10_person 112 = .ok (.ireturn, 1) := by decide +kernel
theorem dX10_person_113 : decode cX10_person 113 = .ok (.aload_n 0, 1) := by decide +kernel
theorem dX10_person_114 : decode cX10_person 114 = .ok (.iload_n 1, 1) := by decide +kernel
theorem dX10_person_115 : decode cX10_person 115 = .ok (.invokevirtual 192, 3) := by decide +kernel
theorem dX10_person_118 : decode cX10_person 118 = .ok (.ireturn, 1) := by decide +kernel
theorem dX10_person_119 : decode cX10_person 119 = .ok (.aload_n 0, 1) := by decide +kernel
theorem dX10_person_120 : decode cX10_person 120 = .ok (.iload_n 1, 1) := by decide +kernel
theorem dX10_person_121 : decode cX10_person 121 = .ok (.invokevirtual 195, 3) := by decide +kernel
theorem dX10_person_124 : decode cX10_person 124 = .ok (.ireturn, 1) := by decide +kernel
theorem dX10_person_125 : decode cX10_person 125 = .ok (.iconst (-1), 1) := by decide +kernel
theorem dX10_person_126 : decode cX10_person 126 = .ok (.ireturn, 1) := by decide +kernel
theorem dX10_mark_0 : decode cX10_mark 0 = .ok (.aload_n 0, 1) := by decide +kernel
theorem dX10_mark_1 : decode cX10_mark 1 = .ok (.iload_n 1, 1) := by decide +kernel
theorem dX10_mark_2 : decode cX10_mark 2 = .ok (.invokevirtual 116, 3) := by decide +kernel
theorem dX10_mark_5 : decode cX10_mark 5 = .ok (.ifCond .eq 25, 3) := by decide +kernel
theorem dX10_mark_8 : decode cX10_mark 8 = .ok (.iload_n 2, 1) := by decide +kernel
theorem dX10_mark_9 : decode cX10_mark 9 = .ok (.iconst 0, 1) := by decide +kernel
theorem dX10_mark_10 : decode cX10_mark 10 = .ok (.iconst 5, 1) := by decide +kernel
theorem dX10_mark_11 : decode cX10_mark 11 = .ok (.invokestatic 41, 3) := by decide +kernel
theorem dX10_mark_14 : decode cX10_mark 14 = .ok (.ifCond .eq 16, 3) := by decide +kernel
theorem dX10_mark_17 : decode cX10_mark 17 = .ok (.aload_n 0, 1) := by decide +kernel
theorem dX10_mark_18 : decode cX10_mark 18 = .ok (.iload_n 1, 1) := by decide +kernel
theorem dX10_mark_19 : decode cX10_mark 19 = .ok (.iconst 0, 1) := by decide +kernel
theorem dX10_mark_20 : decode cX10_mark 20 = .ok (.invokevirtual 45, 3) := by decide +kernel
theorem dX10_mark_23 : decode cX10_mark 23 = .ok (.iload_n 2, 1) := by decide +kernel
theorem dX10_mark_24 : decode cX10_mark 24 = .ok (.invokestatic 53, 3) := by decide +kernel
theorem dX10_mark_27 : decode cX10_mark 27 = .ok (.goto 4, 3) := by decide +kernel
theorem dX10_mark_30 : decode cX10_mark 30 = .ok (.iconst (-1), 1) := by decide +kernel
theorem dX10_mark_31 : decode cX10_mark 31 = .ok (.ireturn, 1) := by decide +kernel
theorem dX10_whyNot_0 : decode cX10_whyNot 0 = .ok (.aload_n 0, 1) := by decide +kernel
theorem dX10_whyNot_1 : decode cX10_whyNot 1 = .ok (.iload_n 1, 1) := by decide +kernel
theorem dX10_whyNot_2 : decode cX10_whyNot 2 = .ok (.invokevirtual 116, 3) := by decide +kernel
theorem dX10_whyNot_5 : decode cX10_whyNot 5 = .ok (.ifCond .eq 21, 3) := by decide +kernel
theorem dX10_whyNot_8 : decode cX10_whyNot 8 = .ok (.iload_n 2, 1) := by decide +kernel
theorem dX10_whyNot_9 : decode cX10_whyNot 9 = .ok (.iload_n 3, 1) := by decide +kernel
theorem dX10_whyNot_10 : decode cX10_whyNot 10 = .ok (.invokestatic 119, 3) := by decide +kernel
theorem dX10_whyNot_13 : decode cX10_whyNot 13 = .ok (.ifCond .eq 13, 3) := by decide +kernel
theorem dX10_whyNot_16 : decode cX10_whyNot 16 = .ok (.aload_n 0, 1) := by decide +kernel
theorem dX10_whyNot_17 : decode cX10_whyNot 17 = .ok (.iload_n 1, 1) := by decide +kernel
theorem dX10_whyNot_18 : decode cX10_whyNot 18 = .ok (.iload_n 2, 1) := by decide +kernel
theorem dX10_whyNot_19 : decode cX10_whyNot 19 = .ok (.iload_n 3, 1) := by decide +kernel
theorem dX10_whyNot_20 : decode cX10_whyNot 20 = .ok (.invokevirtual 122, 3) := by decide +kernel
theorem dX10_whyNot_23 : decode cX10_whyNot 23 = .ok (.goto 4, 3) := by decide +kernel
theorem dX10_whyNot_26 : decode cX10_whyNot 26 = .ok (.iconst (-1), 1) := by decide +kernel
theorem dX10_whyNot_27 : decode cX10_whyNot 27 = .ok (.ireturn, 1) := by decide +kernel
theorem dX10_choicesOf_0 : decode cX10_choicesOf 0 = .ok (.iconst 0, 1) := by decide +kernel
theorem dX10_choicesOf_1 : decode cX10_choicesOf 1 = .ok (.istore_n 2, 1) := by decide +kernel
theorem dX10_choicesOf_2 : decode cX10_choicesOf 2 = .ok (.iconst 0, 1) := by decide +kernel
theorem dX10_choicesOf_3 : decode cX10_choicesOf 3 = .ok (.istore_n 3, 1) := by decide +kernel
theorem dX10_choicesOf_4 : decode cX10_choicesOf 4 = .ok (.iload_n 3, 1) := by decide +kernel
theorem dX10_choicesOf_5 : decode cX10_choicesOf 5 = .ok (.bipush 30, 2) := by decide +kernel
theorem dX10_choicesOf_7 : decode cX10_choicesOf 7 = .ok (.if_icmp .ge 31, 3) := by decide +kernel
theorem dX10_choicesOf_10 : decode cX10_choicesOf 10 = .ok (.iload_n 2, 1) := by decide +kernel
theorem dX10_choicesOf_11 : decode cX10_choicesOf 11 = .ok (.aload_n 0, 1) := by decide +kernel
theorem dX10_choicesOf_12 : decode cX10_choicesOf 12 = .ok (.iload_n 1, 1) := by decide +kernel
theorem dX10_choicesOf_13 : decode cX10_choicesOf 13 = .ok (.iload_n 3, 1) := by decide +kernel
theorem dX10_choicesOf_14 : decode cX10_choicesOf 14 = .ok (.iconst 5, 1) := by decide +kernel
theorem dX10_choicesOf_15 : decode cX10_choicesOf 15 = .ok (.idiv, 1) := by decide +kernel
theorem dX10_choicesOf_16 : decode cX10_choicesOf 16 = .ok (.iload_n 3, 1) := by decide +kernel
theorem dX10_choicesOf_17 : decode cX10_choicesOf 17 = .ok (.iconst 5, 1) := by decide +kernel
theorem dX10_choicesOf_18 : decode cX10_choicesOf 18 = .ok (.irem, 1) := by decide +kernel
theorem dX10_choicesOf_19 : decode cX10_choicesOf 19 = .ok (.invokevirtual 122, 3) := by decide +kernel
theorem dX10_choicesOf_22 : decode cX10_choicesOf 22 = .ok (.ifCond .ne 7, 3) := by decide +kernel
theorem dX10_choicesOf_25 : decode cX10_choicesOf 25 = .ok (.iconst 1, 1) := by decide +kernel
theorem dX10_choicesOf_26 : decode cX10_choicesOf 26 = .ok (.goto 4, 3) := by decide +kernel
theorem dX10_choicesOf_29 : decode cX10_choicesOf 29 = .ok (.iconst 0, 1) := by decide +kernel
theorem dX10_choicesOf_30 : decode cX10_choicesOf 30 = .ok (.iadd, 1) := by decide +kernel
theorem dX10_choicesOf_31 : decode cX10_choicesOf 31 = .ok (.istore_n 2, 1) := by decide +kernel
theorem dX10_choicesOf_32 : decode cX10_choicesOf 32 = .ok (.iinc 3 1, 3) := by decide +kernel
theorem dX10_choicesOf_35 : decode cX10_choicesOf 35 = .ok (.goto (-31), 3) := by decide +kernel
theorem dX10_choicesOf_38 : decode cX10_choicesOf 38 = .ok (.iload_n 2, 1) := by decide +kernel
theorem dX10_choicesOf_39 : decode cX10_choicesOf 39 = .ok (.ireturn, 1) := by decide +kernel
theorem dX10_choices_0 : decode cX10_choices 0 = .ok (.aload_n 0, 1) := by decide +kernel
theorem dX10_choices_1 : decode cX10_choices 1 = .ok (.iload_n 1, 1) := by decide +kernel
theorem dX10_choices_2 : decode cX10_choices 2 = .ok (.invokevirtual 116, 3) := by decide +kernel
theorem dX10_choices_5 : decode cX10_choices 5 = .ok (.ifCond .eq 20, 3) := by decide +kernel
theorem dX10_choices_8 : decode cX10_choices 8 = .ok (.iload_n 2, 1) := by decide +kernel
theorem dX10_choices_9 : decode cX10_choices 9 = .ok (.iconst 0, 1) := by decide +kernel
theorem dX10_choices_10 : decode cX10_choices 10 = .ok (.iconst 1, 1) := by decide +kernel
theorem dX10_choices_11 : decode cX10_choices 11 = .ok (.invokestatic 41, 3) := by decide +kernel
theorem dX10_choices_14 : decode cX10_choices 14 = .ok (.ifCond .eq 11, 3) := by decide +kernel
theorem dX10_choices_17 : decode cX10_choices 17 = .ok (.aload_n 0, 1) := by decide +kernel
theorem dX10_choices_18 : decode cX10_choices 18 = .ok (.iload_n 1, 1) := by decide +kernel
theorem dX10_choices_19 : decode cX10_choices 19 = .ok (.invokevirtual 198, 3) := by decide +kernel
theorem dX10_choices_22 : decode cX10_choices 22 = .ok (.goto 4, 3) := by decide +kernel
theorem dX10_choices_25 : decode cX10_choices 25 = .ok (.iconst (-1), 1) := by decide +kernel
theorem dX10_choices_26 : decode cX10_choices 26 = .ok (.ireturn, 1) := by decide +kernel
theorem dX10_leastFar_0 : decode cX10_leastFar 0 = .ok (.bipush 6, 2) := by decide +kernel
theorem dX10_leastFar_2 : decode cX10_leastFar 2 = .ok (.istore_n 3, 1) := by decide +kernel
theorem dX10_leastFar_3 : decode cX10_leastFar 3 = .ok (.iconst 0, 1) := by decide +kernel
theorem dX10_leastFar_4 : decode cX10_leastFar 4 = .ok (.istore 4, 2) := by decide +kernel
theorem dX10_leastFar_6 : decode cX10_leastFar 6 = .ok (.iload 4, 2) := by decide +kernel
theorem dX10_leastFar_8 : decode cX10_leastFar 8 = .ok (.aload_n 0, 1) := by decide +kernel
theorem dX10_leastFar_9 : decode cX10_leastFar 9 = .ok (.getfield 7, 3) := by decide +kernel
theorem dX10_leastFar_12 : decode cX10_leastFar 12 = .ok (.iconst 0, 1) := by decide +kernel
theorem dX10_leastFar_13 : decode cX10_leastFar 13 = .ok (.iaload, 1) := by decide +kernel
theorem dX10_leastFar_14 : decode cX10_leastFar 14 = .ok (.if_icmp .ge 55, 3) := by decide +kernel
theorem dX10_leastFar_17 : decode cX10_leastFar 17 = .ok (.iload 4, 2) := by decide +kernel
theorem dX10_leastFar_19 : decode cX10_leastFar 19 = .ok (.iload_n 2, 1) := by decide +kernel
theorem dX10_leastFar_20 : decode cX10_leastFar 20 = .ok (.if_icmp .eq 26, 3) := by decide +kernel
theorem dX10_leastFar_23 : decode cX10_leastFar 23 = .ok (.aload_n 0, 1) := by decide +kernel
theorem dX10_leastFar_24 : decode cX10_leastFar 24 = .ok (.iload 4, 2) := by decide +kernel
theorem dX10_leastFar_26 : decode cX10_leastFar 26 = .ok (.invokevirtual 56, 3) := by decide +kernel
theorem dX10_leastFar_29 : decode cX10_leastFar 29 = .ok (.ifCond .eq 17, 3) := by decide +kernel
theorem dX10_leastFar_32 : decode cX10_leastFar 32 = .ok (.iload_n 1, 1) := by decide +kernel
theorem dX10_leastFar_33 : decode cX10_leastFar 33 = .ok (.aload_n 0, 1) := by decide +kernel
theorem dX10_leastFar_34 : decode cX10_leastFar 34 = .ok (.iload 4, 2) := by decide +kernel
theorem dX10_leastFar_36 : decode cX10_leastFar 36 = .ok (.iconst 0, 1) := by decide +kernel
theorem dX10_leastFar_37 : decode cX10_leastFar 37 = .ok (.invokevirtual 45, 3) := by decide +kernel
theorem dX10_leastFar_40 : decode cX10_leastFar 40 = .ok (.invokestatic 137, 3) := by decide +kernel
theorem dX10_leastFar_43 : decode cX10_leastFar 43 = .ok (.goto 5, 3) := by decide +kernel
theorem dX10_leastFar_46 : decode cX10_leastFar 46 = .ok (.bipush 6, 2) := by decide +kernel
theorem dX10_leastFar_48 : decode cX10_leastFar 48 = .ok (.istore 5, 2) := by decide +kernel
theorem dX10_leastFar_50 : decode cX10_leastFar 50 = .ok (.iload 5, 2) := by decide +kernel
theorem dX10_leastFar_52 : decode cX10_leastFar 52 = .ok (.iload_n 3, 1) := by decide +kernel
theorem dX10_leastFar_53 : decode cX10_leastFar 53 = .ok (.if_icmp .ge 8, 3) := by decide +kernel
theorem dX10_leastFar_56 : decode cX10_leastFar 56 = .ok (.iload 5, 2) := by decide +kernel
theorem dX10_leastFar_58 : decode cX10_leastFar 58 = .ok (.goto 4, 3) := by decide +kernel
theorem dX10_leastFar_61 : decode cX10_leastFar 61 = .ok (.iload_n 3, 1) := by decide +kernel
theorem dX10_leastFar_62 : decode cX10_leastFar 62 = .ok (.istore_n 3, 1) := by decide +kernel
theorem dX10_leastFar_63 : decode cX10_leastFar 63 = .ok (.iinc 4 1, 3) := by decide +kernel
theorem dX10_leastFar_66 : decode cX10_leastFar 66 = .ok (.goto (-60), 3) := by decide +kernel
theorem dX10_leastFar_69 : decode cX10_leastFar 69 = .ok (.iload_n 3, 1) := by decide +kernel
theorem dX10_leastFar_70 : decode cX10_leastFar 70 = .ok (.ireturn, 1) := by decide +kernel
theorem dX10_best_0 : decode cX10_best 0 = .ok (.aload_n 0, 1) := by decide +kernel
theorem dX10_best_1 : decode cX10_best 1 = .ok (.iload_n 1, 1) := by decide +kernel
theorem dX10_best_2 : decode cX10_best 2 = .ok (.invokevirtual 116, 3) := by decide +kernel
theorem dX10_best_5 : decode cX10_best 5 = .ok (.ifCond .ne 5, 3) := by decide +kernel
theorem dX10_best_8 : decode cX10_best 8 = .ok (.iconst (-1), 1) := by decide +kernel
theorem dX10_best_9 : decode cX10_best 9 = .ok (.ireturn, 1) := by decide +kernel
theorem dX10_best_10 : decode cX10_best 10 = .ok (.bipush (-4), 2) := by decide +kernel
theorem dX10_best_12 : decode cX10_best 12 = .ok (.istore_n 2, 1) := by decide +kernel
theorem dX10_best_13 : decode cX10_best 13 = .ok (.iconst (-1), 1) := by decide +kernel
theorem dX10_best_14 : decode cX10_best 14 = .ok (.istore_n 3, 1) := by decide +kernel
theorem dX10_best_15 : decode cX10_best 15 = .ok (.iconst 0, 1) := by decide +kernel
theorem dX10_best_16 : decode cX10_best 16 = .ok (.istore 4, 2) := by decide +kernel
theorem dX10_best_18 : decode cX10_best 18 = .ok (.iload 4, 2) := by decide +kernel
theorem dX10_best_20 : decode cX10_best 20 = .ok (.bipush 30, 2) := by decide +kernel
theorem dX10_best_22 : decode cX10_best 22 = .ok (.if_icmp .ge 91, 3) := by decide +kernel
theorem dX10_best_25 : decode cX10_best 25 = .ok (.aload_n 0, 1) := by decide +kernel
theorem dX10_best_26 : decode cX10_best 26 = .ok (.iload_n 1, 1) := by decide +kernel
theorem dX10_best_27 : decode cX10_best 27 = .ok (.iload 4, 2) := by decide +kernel
theorem dX10_best_29 : decode cX10_best 29 = .ok (.iconst 5, 1) := by decide +kernel
theorem dX10_best_30 : decode cX10_best 30 = .ok (.idiv, 1) := by decide +kernel
theorem dX10_best_31 : decode cX10_best 31 = .ok (.iload 4, 2) := by decide +kernel
theorem dX10_best_33 : decode cX10_best 33 = .ok (.iconst 5, 1) := by decide +kernel
theorem dX10_best_34 : decode cX10_best 34 = .ok (.irem, 1) := by decide +kernel
theorem dX10_best_35 : decode cX10_best 35 = .ok (.invokevirtual 122, 3) := by decide +kernel
theorem dX10_best_38 : decode cX10_best 38 = .ok (.ifCond .ne 7, 3) := by decide +kernel
theorem dX10_best_41 : decode cX10_best 41 = .ok (.iconst 1, 1) := by decide +kernel
theorem dX10_best_42 : decode cX10_best 42 = .ok (.goto 4, 3) := by decide +kernel
theorem dX10_best_45 : decode cX10_best 45 = .ok (.iconst 0, 1) := by decide +kernel
theorem dX10_best_46 : decode cX10_best 46 = .ok (.istore 5, 2) := by decide +kernel
theorem dX10_best_48 : decode cX10_best 48 = .ok (.iload 5, 2) := by decide +kernel
theorem dX10_best_50 : decode cX10_best 50 = .ok (.ifCond .eq 28, 3) := by decide +kernel
theorem dX10_best_53 : decode cX10_best 53 = .ok (.aload_n 0, 1) := by decide +kernel
theorem dX10_best_54 : decode cX10_best 54 = .ok (.aload_n 0, 1) := by decide +kernel
theorem dX10_best_55 : decode cX10_best 55 = .ok (.iload_n 1, 1) := by decide +kernel
theorem dX10_best_56 : decode cX10_best 56 = .ok (.iconst 0, 1) := by decide +kernel
theorem dX10_best_57 : decode cX10_best 57 = .ok (.invokevirtual 45, 3) := by decide +kernel
theorem dX10_best_60 : decode cX10_best 60 = .ok (.iload 4, 2) := by decide +kernel
theorem dX10_best_62 : decode cX10_best 62 = .ok (.iconst 5, 1) := by decide +kernel
theorem dX10_best_63 : decode cX10_best 63 = .ok (.idiv, 1) := by decide +kernel
theorem dX10_best_64 : decode cX10_best 64 = .ok (.iload 4, 2) := by decide +kernel
theorem dX10_best_66 : decode cX10_best 66 = .ok (.iconst 5, 1) := by decide +kernel
theorem dX10_best_67 : decode cX10_best 67 = .ok (.irem, 1) := by decide +kernel
theorem dX10_best_68 : decode cX10_best 68 = .ok (.invokestatic 105, 3) := by decide +kernel
theorem dX10_best_71 : decode cX10_best 71 = .ok (.iload_n 1, 1) := by decide +kernel
theorem dX10_best_72 : decode cX10_best 72 = .ok (.invokevirtual 201, 3) := by decide +kernel
theorem dX10_best_75 : decode cX10_best 75 = .ok (.goto 4, 3) := by decide +kernel
theorem dX10_best_78 : decode cX10_best 78 = .ok (.iconst (-1), 1) := by decide +kernel
theorem dX10_best_79 : decode cX10_best 79 = .ok (.istore 6, 2) := by decide +kernel
theorem dX10_best_81 : decode cX10_best 81 = .ok (.iload 6, 2) := by decide +kernel
theorem dX10_best_83 : decode cX10_best 83 = .ok (.iload_n 3, 1) := by decide +kernel
theorem dX10_best_84 : decode cX10_best 84 = .ok (.if_icmp .le 8, 3) := by decide +kernel
theorem dX10_best_87 : decode cX10_best 87 = .ok (.iload 4, 2) := by decide +kernel
theorem dX10_best_89 : decode cX10_best 89 = .ok (.goto 4, 3) := by decide +kernel
theorem dX10_best_92 : decode cX10_best 92 = .ok (.iload_n 2, 1) := by decide +kernel
theorem dX10_best_93 : decode cX10_best 93 = .ok (.istore_n 2, 1) := by decide +kernel
theorem dX10_best_94 : decode cX10_best 94 = .ok (.iload 6, 2) := by decide +kernel
theorem dX10_best_96 : decode cX10_best 96 = .ok (.iload_n 3, 1) := by decide +kernel
theorem dX10_best_97 : decode cX10_best 97 = .ok (.if_icmp .le 8, 3) := by decide +kernel
theorem dX10_best_100 : decode cX10_best 100 = .ok (.iload 6, 2) := by decide +kernel
theorem dX10_best_102 : decode cX10_best 102 = .ok (.goto 4, 3) := by decide +kernel
theorem dX10_best_105 : decode cX10_best 105 = .ok (.iload_n 3, 1) := by decide +kernel
theorem dX10_best_106 : decode cX10_best 106 = .ok (.istore_n 3, 1) := by decide +kernel
theorem dX10_best_107 : decode cX10_best 107 = .ok (.iinc 4 1, 3) := by decide +kernel
theorem dX10_best_110 : decode cX10_best 110 = .ok (.goto (-92), 3) := by decide +kernel
theorem dX10_best_113 : decode cX10_best 113 = .ok (.iload_n 2, 1) := by decide +kernel
theorem dX10_best_114 : decode cX10_best 114 = .ok (.ireturn, 1) := by decide +kernel
theorem dX10_differs_0 : decode cX10_differs 0 = .ok (.aload_n 0, 1) := by decide +kernel
theorem dX10_differs_1 : decode cX10_differs 1 = .ok (.iload_n 1, 1) := by decide +kernel
theorem dX10_differs_2 : decode cX10_differs 2 = .ok (.invokevirtual 116, 3) := by decide +kernel
theorem dX10_differs_5 : decode cX10_differs 5 = .ok (.ifCond .eq 29, 3) := by decide +kernel
theorem dX10_differs_8 : decode cX10_differs 8 = .ok (.aload_n 0, 1) := by decide +kernel
theorem dX10_differs_9 : decode cX10_differs 9 = .ok (.iload_n 2, 1) := by decide +kernel
theorem dX10_differs_10 : decode cX10_differs 10 = .ok (.invokevirtual 116, 3) := by decide +kernel
theorem dX10_differs_13 : decode cX10_differs 13 = .ok (.ifCond .eq 21, 3) := by decide +kernel
theorem dX10_differs_16 : decode cX10_differs 16 = .ok (.aload_n 0, 1) := by decide +kernel
theorem dX10_differs_17 : decode cX10_differs 17 = .ok (.iload_n 1, 1) := by decide +kernel
theorem dX10_differs_18 : decode cX10_differs 18 = .ok (.iconst 0, 1) := by decide +kernel
theorem dX10_differs_19 : decode cX10_differs 19 = .ok (.invokevirtual 45, 3) := by decide +kernel
theorem dX10_differs_22 : decode cX10_differs 22 = .ok (.aload_n 0, 1) := by decide +kernel
theorem dX10_differs_23 : decode cX10_differs 23 = .ok (.iload_n 2, 1) := by decide +kernel
theorem dX10_differs_24 : decode cX10_differs 24 = .ok (.iconst 0, 1) := by decide +kernel
theorem dX10_differs_25 : decode cX10_differs 25 = .ok (.invokevirtual 45, 3) := by decide +kernel
theorem dX10_differs_28 : decode cX10_differs 28 = .ok (.invokestatic 137, 3) := by decide +kernel
theorem dX10_differs_31 : decode cX10_differs 31 = .ok (.goto 4, 3) := by decide +kernel
theorem dX10_differs_34 : decode cX10_differs 34 = .ok (.iconst (-1), 1) := by decide +kernel
theorem dX10_differs_35 : decode cX10_differs 35 = .ok (.ireturn, 1) := by decide +kernel
theorem dX10_kin_0 : decode cX10_kin 0 = .ok (.aload_n 0, 1) := by decide +kernel
theorem dX10_kin_1 : decode cX10_kin 1 = .ok (.iload_n 1, 1) := by decide +kernel
theorem dX10_kin_2 : decode cX10_kin 2 = .ok (.invokevirtual 116, 3) := by decide +kernel
theorem dX10_kin_5 : decode cX10_kin 5 = .ok (.ifCond .eq 11, 3) := by decide +kernel
theorem dX10_kin_8 : decode cX10_kin 8 = .ok (.aload_n 0, 1) := by decide +kernel
theorem dX10_kin_9 : decode cX10_kin 9 = .ok (.iload_n 2, 1) := by decide +kernel
theorem dX10_kin_10 : decode cX10_kin 10 = .ok (.invokevirtual 116, 3) := by decide +kernel
theorem dX10_kin_13 : decode cX10_kin 13 = .ok (.ifCond .ne 5, 3) := by decide +kernel
theorem dX10_kin_16 : decode cX10_kin 16 = .ok (.iconst (-1), 1) := by decide +kernel
theorem dX10_kin_17 : decode cX10_kin 17 = .ok (.ireturn, 1) := by decide +kernel
theorem dX10_kin_18 : decode cX10_kin 18 = .ok (.iload_n 1, 1) := by decide +kernel
theorem dX10_kin_19 : decode cX10_kin 19 = .ok (.istore_n 3, 1) := by decide +kernel
theorem dX10_kin_20 : decode cX10_kin 20 = .ok (.iload_n 2, 1) := by decide +kernel
theorem dX10_kin_21 : decode cX10_kin 21 = .ok (.istore 4, 2) := by decide +kernel
theorem dX10_kin_23 : decode cX10_kin 23 = .ok (.iconst 0, 1) := by decide +kernel
theorem dX10_kin_24 : decode cX10_kin 24 = .ok (.istore 5, 2) := by decide +kernel
theorem dX10_kin_26 : decode cX10_kin 26 = .ok (.iload_n 3, 1) := by decide +kernel
theorem dX10_kin_27 : decode cX10_kin 27 = .ok (.iload 4, 2) := by decide +kernel
theorem dX10_kin_29 : decode cX10_kin 29 = .ok (.if_icmp .eq 61, 3) := by decide +kernel
theorem dX10_kin_32 : decode cX10_kin 32 = .ok (.iload_n 3, 1) := by decide +kernel
theorem dX10_kin_33 : decode cX10_kin 33 = .ok (.iload 4, 2) := by decide +kernel
theorem dX10_kin_35 : decode cX10_kin 35 = .ok (.if_icmp .le 12, 3) := by decide +kernel
theorem dX10_kin_38 : decode cX10_kin 38 = .ok (.aload_n 0, 1) := by decide +kernel
theorem dX10_kin_39 : decode cX10_kin 39 = .ok (.iload_n 3, 1) := by decide +kernel
theorem dX10_kin_40 : decode cX10_kin 40 = .ok (.iconst 2, 1) := by decide +kernel
theorem dX10_kin_41 : decode cX10_kin 41 = .ok (.invokevirtual 45, 3) := by decide +kernel
theorem dX10_kin_44 : decode cX10_kin 44 = .ok (.goto 10, 3) := by decide +kernel
theorem dX10_kin_47 : decode cX10_kin 47 = .ok (.aload_n 0, 1) := by decide +kernel
theorem dX10_kin_48 : decode cX10_kin 48 = .ok (.iload 4, 2) := by decide +kernel
theorem dX10_kin_50 : decode cX10_kin 50 = .ok (.iconst 2, 1) := by decide +kernel
theorem dX10_kin_51 : decode cX10_kin 51 = .ok (.invokevirtual 45, 3) := by decide +kernel
theorem dX10_kin_54 : decode cX10_kin 54 = .ok (.bipush (-4), 2) := by decide +kernel
theorem dX10_kin_56 : decode cX10_kin 56 = .ok (.if_icmp .eq 34, 3) := by decide +kernel
theorem dX10_kin_59 : decode cX10_kin 59 = .ok (.iload_n 3, 1) := by decide +kernel
theorem dX10_kin_60 : decode cX10_kin 60 = .ok (.iload 4, 2) := by decide +kernel
theorem dX10_kin_62 : decode cX10_kin 62 = .ok (.if_icmp .le 13, 3) := by decide +kernel
theorem dX10_kin_65 : decode cX10_kin 65 = .ok (.aload_n 0, 1) := by decide +kernel
theorem dX10_kin_66 : decode cX10_kin 66 = .ok (.iload_n 3, 1) := by decide +kernel
theorem dX10_kin_67 : decode cX10_kin 67 = .ok (.iconst 2, 1) := by decide +kernel
theorem dX10_kin_68 : decode cX10_kin 68 = .ok (.invokevirtual 45, 3) := by decide +kernel
theorem dX10_kin_71 : decode cX10_kin 71 = .ok (.istore_n 3, 1) := by decide +kernel
theorem dX10_kin_72 : decode cX10_kin 72 = .ok (.goto 12, 3) := by decide +kernel
theorem dX10_kin_75 : decode cX10_kin 75 = .ok (.aload_n 0, 1) := by decide +kernel
theorem dX10_kin_76 : decode cX10_kin 76 = .ok (.iload 4, 2) := by decide +kernel
theorem dX10_kin_78 : decode cX10_kin 78 = .ok (.iconst 2, 1) := by decide +kernel
theorem dX10_kin_79 : decode cX10_kin 79 = .ok (.invokevirtual 45, 3) := by decide +kernel
theorem dX10_kin_82 : decode cX10_kin 82 = .ok (.istore 4, 2) := by decide +kernel
theorem dX10_kin_84 : decode cX10_kin 84 = .ok (.iinc 5 1, 3) := by decide +kernel
theorem dX10_kin_87 : decode cX10_kin 87 = .ok (.goto (-61), 3) := by decide +kernel
theorem dX10_kin_90 : decode cX10_kin 90 = .ok (.iload_n 3, 1) := by decide +kernel
theorem dX10_kin_91 : decode cX10_kin 91 = .ok (.iload 4, 2) := by decide +kernel
theorem dX10_kin_93 : decode cX10_kin 93 = .ok (.if_icmp .ne 8, 3) := by decide +kernel
theorem dX10_kin_96 : decode cX10_kin 96 = .ok (.iload 5, 2) := by decide +kernel
theorem dX10_kin_98 : decode cX10_kin 98 = .ok (.goto 5, 3) := by decide +kernel
theorem dX10_kin_101 : decode cX10_kin 101 = .ok (.bipush (-4), 2) := by decide +kernel
theorem dX10_kin_103 : decode cX10_kin 103 = .ok (.ireturn, 1) := by decide +kernel
theorem dX10_bearer_0 : decode cX10_bearer 0 = .ok (.iload_n 1, 1) := by decide +kernel
theorem dX10_bearer_1 : decode cX10_bearer 1 = .ok (.invokestatic 86, 3) := by decide +kernel
theorem dX10_bearer_4 : decode cX10_bearer 4 = .ok (.ifCond .eq 11, 3) := by decide +kernel
theorem dX10_bearer_7 : decode cX10_bearer 7 = .ok (.aload_n 0, 1) := by decide +kernel
theorem dX10_bearer_8 : decode cX10_bearer 8 = .ok (.iload_n 1, 1) := by decide +kernel
theorem dX10_bearer_9 : decode cX10_bearer 9 = .ok (.invokevirtual 89, 3) := by decide +kernel
theorem dX10_bearer_12 : decode cX10_bearer 12 = .ok (.goto 4, 3) := by decide +kernel
theorem dX10_bearer_15 : decode cX10_bearer 15 = .ok (.iconst (-1), 1) := by decide +kernel
theorem dX10_bearer_16 : decode cX10_bearer 16 = .ok (.ireturn, 1) := by decide +kernel
theorem dX10_fewest_0 : decode cX10_fewest 0 = .ok (.iconst 0, 1) := by decide +kernel
theorem dX10_fewest_1 : decode cX10_fewest 1 = .ok (.istore_n 3, 1) := by decide +kernel
theorem dX10_fewest_2 : decode cX10_fewest 2 = .ok (.iload_n 3, 1) := by decide +kernel
theorem dX10_fewest_3 : decode cX10_fewest 3 = .ok (.sipush 15625, 3) := by decide +kernel
theorem dX10_fewest_6 : decode cX10_fewest 6 = .ok (.if_icmp .ge 16, 3) := by decide +kernel
theorem dX10_fewest_9 : decode cX10_fewest 9 = .ok (.aload_n 0, 1) := by decide +kernel
theorem dX10_fewest_10 : decode cX10_fewest 10 = .ok (.getfield 35, 3) := by decide +kernel
theorem dX10_fewest_13 : decode cX10_fewest 13 = .ok (.iload_n 3, 1) := by decide +kernel
theorem dX10_fewest_14 : decode cX10_fewest 14 = .ok (.iconst (-1), 1) := by decide +kernel
theorem dX10_fewest_15 : decode cX10_fewest 15 = .ok (.iastore, 1) := by decide +kernel
theorem dX10_fewest_16 : decode cX10_fewest 16 = .ok (.iinc 3 1, 3) := by decide +kernel
theorem dX10_fewest_19 : decode cX10_fewest 19 = .ok (.goto (-17), 3) := by decide +kernel
theorem dX10_fewest_22 : decode cX10_fewest 22 = .ok (.iconst 0, 1) := by decide +kernel
theorem dX10_fewest_23 : decode cX10_fewest 23 = .ok (.istore_n 3, 1) := by decide +kernel
theorem dX10_fewest_24 : decode cX10_fewest 24 = .ok (.iload_n 3, 1) := by decide +kernel
theorem dX10_fewest_25 : decode cX10_fewest 25 = .ok (.aload_n 0, 1) := by decide +kernel
theorem dX10_fewest_26 : decode cX10_fewest 26 = .ok (.getfield 7, 3) := by decide +kernel
theorem dX10_fewest_29 : decode cX10_fewest 29 = .ok (.iconst 0, 1) := by decide +kernel
theorem dX10_fewest_30 : decode cX10_fewest 30 = .ok (.iaload, 1) := by decide +kernel
theorem dX10_fewest_31 : decode cX10_fewest 31 = .ok (.if_icmp .ge 44, 3) := by decide +kernel
theorem dX10_fewest_34 : decode cX10_fewest 34 = .ok (.aload_n 0, 1) := by decide +kernel
theorem dX10_fewest_35 : decode cX10_fewest 35 = .ok (.getfield 35, 3) := by decide +kernel
theorem dX10_fewest_38 : decode cX10_fewest 38 = .ok (.aload_n 0, 1) := by decide +kernel
theorem dX10_fewest_39 : decode cX10_fewest 39 = .ok (.iload_n 3, 1) := by decide +kernel
theorem dX10_fewest_40 : decode cX10_fewest 40 = .ok (.iconst 0, 1) := by decide +kernel
theorem dX10_fewest_41 : decode cX10_fewest 41 = .ok (.invokevirtual 45, 3) := by decide +kernel
theorem dX10_fewest_44 : decode cX10_fewest 44 = .ok (.aload_n 0, 1) := by decide +kernel
theorem dX10_fewest_45 : decode cX10_fewest 45 = .ok (.iload_n 3, 1) := by decide +kernel
theorem dX10_fewest_46 : decode cX10_fewest 46 = .ok (.invokevirtual 56, 3) := by decide +kernel
theorem dX10_fewest_49 : decode cX10_fewest 49 = .ok (.ifCond .eq 8, 3) := by decide +kernel
theorem dX10_fewest_52 : decode cX10_fewest 52 = .ok (.bipush (-2), 2) := by decide +kernel
theorem dX10_fewest_54 : decode cX10_fewest 54 = .ok (.goto 14, 3) := by decide +kernel
theorem dX10_fewest_57 : decode cX10_fewest 57 = .ok (.aload_n 0, 1) := by decide +kernel
theorem dX10_fewest_58 : decode cX10_fewest 58 = .ok (.getfield 35, 3) := by decide +kernel
theorem dX10_fewest_61 : decode cX10_fewest 61 = .ok (.aload_n 0, 1) := by decide +kernel
theorem dX10_fewest_62 : decode cX10_fewest 62 = .ok (.iload_n 3, 1) := by decide +kernel
theorem dX10_fewest_63 : decode cX10_fewest 63 = .ok (.iconst 0, 1) := by decide +kernel
theorem dX10_fewest_64 : decode cX10_fewest 64 = .ok (.invokevirtual 45, 3) := by decide +kernel
theorem dX10_fewest_67 : decode cX10_fewest 67 = .ok (.iaload, 1) := by decide +kernel
theorem dX10_fewest_68 : decode cX10_fewest 68 = .ok (.iastore, 1) := by decide +kernel
theorem dX10_fewest_69 : decode cX10_fewest 69 = .ok (.iinc 3 1, 3) := by decide +kernel
theorem dX10_fewest_72 : decode cX10_fewest 72 = .ok (.goto (-48), 3) := by decide +kernel
theorem dX10_fewest_75 : decode cX10_fewest 75 = .ok (.iconst 1, 1) := by decide +kernel
theorem dX10_fewest_76 : decode cX10_fewest 76 = .ok (.istore_n 3, 1) := by decide +kernel
theorem dX10_fewest_77 : decode cX10_fewest 77 = .ok (.aload_n 0, 1) := by decide +kernel
theorem dX10_fewest_78 : decode cX10_fewest 78 = .ok (.getfield 35, 3) := by decide +kernel
theorem dX10_fewest_81 : decode cX10_fewest 81 = .ok (.iload_n 1, 1) := by decide +kernel
theorem dX10_fewest_82 : decode cX10_fewest 82 = .ok (.iconst 0, 1) := by decide +kernel
theorem dX10_fewest_83 : decode cX10_fewest 83 = .ok (.iastore, 1) := by decide +kernel
theorem dX10_fewest_84 : decode cX10_fewest 84 = .ok (.aload_n 0, 1) := by decide +kernel
theorem dX10_fewest_85 : decode cX10_fewest 85 = .ok (.getfield 38, 3) := by decide +kernel
theorem dX10_fewest_88 : decode cX10_fewest 88 = .ok (.iconst 0, 1) := by decide +kernel
theorem dX10_fewest_89 : decode cX10_fewest 89 = .ok (.iload_n 1, 1) := by decide +kernel
theorem dX10_fewest_90 : decode cX10_fewest 90 = .ok (.iastore, 1) := by decide +kernel
theorem dX10_fewest_91 : decode cX10_fewest 91 = .ok (.iconst 0, 1) := by decide +kernel
theorem dX10_fewest_92 : decode cX10_fewest 92 = .ok (.istore 4, 2) := by decide +kernel
theorem dX10_fewest_94 : decode cX10_fewest 94 = .ok (.iload 4, 2) := by decide +kernel
theorem dX10_fewest_96 : decode cX10_fewest 96 = .ok (.iload_n 3, 1) := by decide +kernel
theorem dX10_fewest_97 : decode cX10_fewest 97 = .ok (.if_icmp .ge 98, 3) := by decide +kernel
theorem dX10_fewest_100 : decode cX10_fewest 100 = .ok (.aload_n 0, 1) := by decide +kernel
theorem dX10_fewest_101 : decode cX10_fewest 101 = .ok (.getfield 35, 3) := by decide +kernel
theorem dX10_fewest_104 : decode cX10_fewest 104 = .ok (.iload_n 2, 1) := by decide +kernel
theorem dX10_fewest_105 : decode cX10_fewest 105 = .ok (.iaload, 1) := by decide +kernel
theorem dX10_fewest_106 : decode cX10_fewest 106 = .ok (.iconst (-1), 1) := by decide +kernel
theorem dX10_fewest_107 : decode cX10_fewest 107 = .ok (.if_icmp .ne 88, 3) := by decide +kernel
theorem dX10_fewest_110 : decode cX10_fewest 110 = .ok (.iconst 0, 1) := by decide +kernel
theorem dX10_fewest_111 : decode cX10_fewest 111 = .ok (.istore 5, 2) := by decide +kernel
theorem dX10_fewest_113 : decode cX10_fewest 113 = .ok (.iload 5, 2) := by decide +kernel
theorem dX10_fewest_115 : decode cX10_fewest 115 = .ok (.bipush 30, 2) := by decide +kernel
theorem dX10_fewest_117 : decode cX10_fewest 117 = .ok (.if_icmp .ge 72, 3) := by decide +kernel
theorem dX10_fewest_120 : decode cX10_fewest 120 = .ok (.aload_n 0, 1) := by decide +kernel
theorem dX10_fewest_121 : decode cX10_fewest 121 = .ok (.getfield 38, 3) := by decide +kernel
theorem dX10_fewest_124 : decode cX10_fewest 124 = .ok (.iload 4, 2) := by decide +kernel
theorem dX10_fewest_126 : decode cX10_fewest 126 = .ok (.iaload, 1) := by decide +kernel
theorem dX10_fewest_127 : decode cX10_fewest 127 = .ok (.iload 5, 2) := by decide +kernel
theorem dX10_fewest_129 : decode cX10_fewest 129 = .ok (.iconst 5, 1) := by decide +kernel
theorem dX10_fewest_130 : decode cX10_fewest 130 = .ok (.idiv, 1) := by decide +kernel
theorem dX10_fewest_131 : decode cX10_fewest 131 = .ok (.iload 5, 2) := by decide +kernel
theorem dX10_fewest_133 : decode cX10_fewest 133 = .ok (.iconst 5, 1) := by decide +kernel
theorem dX10_fewest_134 : decode cX10_fewest 134 = .ok (.irem, 1) := by decide +kernel
theorem dX10_fewest_135 : decode cX10_fewest 135 = .ok (.invokestatic 105, 3) := by decide +kernel
theorem dX10_fewest_138 : decode cX10_fewest 138 = .ok (.istore 6, 2) := by decide +kernel
theorem dX10_fewest_140 : decode cX10_fewest 140 = .ok (.aload_n 0, 1) := by decide +kernel
theorem dX10_fewest_141 : decode cX10_fewest 141 = .ok (.getfield 35, 3) := by decide +kernel
theorem dX10_fewest_144 : decode cX10_fewest 144 = .ok (.iload 6, 2) := by decide +kernel
theorem dX10_fewest_146 : decode cX10_fewest 146 = .ok (.iaload, 1) := by decide +kernel
theorem dX10_fewest_147 : decode cX10_fewest 147 = .ok (.iconst (-1), 1) := by decide +kernel
theorem dX10_fewest_148 : decode cX10_fewest 148 = .ok (.if_icmp .ne 35, 3) := by decide +kernel
theorem dX10_fewest_151 : decode cX10_fewest 151 = .ok (.aload_n 0, 1) := by decide +kernel
theorem dX10_fewest_152 : decode cX10_fewest 152 = .ok (.getfield 35, 3) := by decide +kernel
theorem dX10_fewest_155 : decode cX10_fewest 155 = .ok (.iload 6, 2) := by decide +kernel
theorem dX10_fewest_157 : decode cX10_fewest 157 = .ok (.aload_n 0, 1) := by decide +kernel
theorem dX10_fewest_158 : decode cX10_fewest 158 = .ok (.getfield 35, 3) := by decide +kernel
theorem dX10_fewest_161 : decode cX10_fewest 161 = .ok (.aload_n 0, 1) := by decide +kernel
theorem dX10_fewest_162 : decode cX10_fewest 162 = .ok (.getfield 38, 3) := by decide +kernel
theorem dX10_fewest_165 : decode cX10_fewest 165 = .ok (.iload 4, 2) := by decide +kernel
theorem dX10_fewest_167 : decode cX10_fewest 167 = .ok (.iaload, 1) := by decide +kernel
theorem dX10_fewest_168 : decode cX10_fewest 168 = .ok (.iaload, 1) := by decide +kernel
theorem dX10_fewest_169 : decode cX10_fewest 169 = .ok (.iconst 1, 1) := by decide +kernel
theorem dX10_fewest_170 : decode cX10_fewest 170 = .ok (.iadd, 1) := by decide +kernel
theorem dX10_fewest_171 : decode cX10_fewest 171 = .ok (.iastore, 1) := by decide +kernel
theorem dX10_fewest_172 : decode cX10_fewest 172 = .ok (.aload_n 0, 1) := by decide +kernel
theorem dX10_fewest_173 : decode cX10_fewest 173 = .ok (.getfield 38, 3) := by decide +kernel
theorem dX10_fewest_176 : decode cX10_fewest 176 = .ok (.iload_n 3, 1) := by decide +kernel
theorem dX10_fewest_177 : decode cX10_fewest 177 = .ok (.iload 6, 2) := by decide +kernel
theorem dX10_fewest_179 : decode cX10_fewest 179 = .ok (.iastore, 1) := by decide +kernel
theorem dX10_fewest_180 : decode cX10_fewest 180 = .ok (.iinc 3 1, 3) := by decide +kernel
theorem dX10_fewest_183 : decode cX10_fewest 183 = .ok (.iinc 5 1, 3) := by decide +kernel
theorem dX10_fewest_186 : decode cX10_fewest 186 = .ok (.goto (-73), 3) := by decide +kernel
theorem dX10_fewest_189 : decode cX10_fewest 189 = .ok (.iinc 4 1, 3) := by decide +kernel
theorem dX10_fewest_192 : decode cX10_fewest 192 = .ok (.goto (-98), 3) := by decide +kernel
theorem dX10_fewest_195 : decode cX10_fewest 195 = .ok (.aload_n 0, 1) := by decide +kernel
theorem dX10_fewest_196 : decode cX10_fewest 196 = .ok (.getfield 35, 3) := by decide +kernel
theorem dX10_fewest_199 : decode cX10_fewest 199 = .ok (.iload_n 2, 1) := by decide +kernel
theorem dX10_fewest_200 : decode cX10_fewest 200 = .ok (.iaload, 1) := by decide +kernel
theorem dX10_fewest_201 : decode cX10_fewest 201 = .ok (.ifCond .ge 8, 3) := by decide +kernel
theorem dX10_fewest_204 : decode cX10_fewest 204 = .ok (.bipush (-4), 2) := by decide +kernel
theorem dX10_fewest_206 : decode cX10_fewest 206 = .ok (.goto 9, 3) := by decide +kernel
theorem dX10_fewest_209 : decode cX10_fewest 209 = .ok (.aload_n 0, 1) := by decide +kernel
theorem dX10_fewest_210 : decode cX10_fewest 210 = .ok (.getfield 35, 3) := by decide +kernel
theorem dX10_fewest_213 : decode cX10_fewest 213 = .ok (.iload_n 2, 1) := by decide +kernel
theorem dX10_fewest_214 : decode cX10_fewest 214 = .ok (.iaload, 1) := by decide +kernel
theorem dX10_fewest_215 : decode cX10_fewest 215 = .ok (.ireturn, 1) := by decide +kernel
theorem dX10_line_0 : decode cX10_line 0 = .ok (.aload_n 0, 1) := by decide +kernel
theorem dX10_line_1 : decode cX10_line 1 = .ok (.iload_n 1, 1) := by decide +kernel
theorem dX10_line_2 : decode cX10_line 2 = .ok (.invokevirtual 116, 3) := by decide +kernel
theorem dX10_line_5 : decode cX10_line 5 = .ok (.ifCond .eq 19, 3) := by decide +kernel
theorem dX10_line_8 : decode cX10_line 8 = .ok (.iload_n 2, 1) := by decide +kernel
theorem dX10_line_9 : decode cX10_line 9 = .ok (.invokestatic 86, 3) := by decide +kernel
theorem dX10_line_12 : decode cX10_line 12 = .ok (.ifCond .eq 12, 3) := by decide +kernel
theorem dX10_line_15 : decode cX10_line 15 = .ok (.iload_n 3, 1) := by decide +kernel
theorem dX10_line_16 : decode cX10_line 16 = .ok (.iconst 0, 1) := by decide +kernel
theorem dX10_line_17 : decode cX10_line 17 = .ok (.iconst 1, 1) := by decide +kernel
theorem dX10_line_18 : decode cX10_line 18 = .ok (.invokestatic 41, 3) := by decide +kernel
theorem dX10_line_21 : decode cX10_line 21 = .ok (.ifCond .ne 5, 3) := by decide +kernel
theorem dX10_line_24 : decode cX10_line 24 = .ok (.iconst (-1), 1) := by decide +kernel
theorem dX10_line_25 : decode cX10_line 25 = .ok (.ireturn, 1) := by decide +kernel
theorem dX10_line_26 : decode cX10_line 26 = .ok (.aload_n 0, 1) := by decide +kernel
theorem dX10_line_27 : decode cX10_line 27 = .ok (.iload_n 1, 1) := by decide +kernel
theorem dX10_line_28 : decode cX10_line 28 = .ok (.invokevirtual 56, 3) := by decide +kernel
theorem dX10_line_31 : decode cX10_line 31 = .ok (.ifCond .eq 17, 3) := by decide +kernel
theorem dX10_line_34 : decode cX10_line 34 = .ok (.aload_n 0, 1) := by decide +kernel
theorem dX10_line_35 : decode cX10_line 35 = .ok (.aload_n 0, 1) := by decide +kernel
theorem dX10_line_36 : decode cX10_line 36 = .ok (.iload_n 1, 1) := by decide +kernel
theorem dX10_line_37 : decode cX10_line 37 = .ok (.iconst 0, 1) := by decide +kernel
theorem dX10_line_38 : decode cX10_line 38 = .ok (.invokevirtual 45, 3) := by decide +kernel
theorem dX10_line_41 : decode cX10_line 41 = .ok (.iload_n 2, 1) := by decide +kernel
theorem dX10_line_42 : decode cX10_line 42 = .ok (.invokevirtual 204, 3) := by decide +kernel
theorem dX10_line_45 : decode cX10_line 45 = .ok (.goto 5, 3) := by decide +kernel
theorem dX10_line_48 : decode cX10_line 48 = .ok (.bipush (-2), 2) := by decide +kernel
theorem dX10_line_50 : decode cX10_line 50 = .ok (.ireturn, 1) := by decide +kernel
theorem dX10_isConfused_0 : decode cX10_isConfused 0 = .ok (.aload_n 0, 1) := by decide +kernel
theorem dX10_isConfused_1 : decode cX10_isConfused 1 = .ok (.iload_n 1, 1) := by decide +kernel
theorem dX10_isConfused_2 : decode cX10_isConfused 2 = .ok (.iconst 2, 1) := by decide +kernel
theorem dX10_isConfused_3 : decode cX10_isConfused 3 = .ok (.invokevirtual 45, 3) := by decide +kernel
theorem dX10_isConfused_6 : decode cX10_isConfused 6 = .ok (.iload_n 2, 1) := by decide +kernel
theorem dX10_isConfused_7 : decode cX10_isConfused 7 = .ok (.if_icmp .eq 13, 3) := by decide +kernel
theorem dX10_isConfused_10 : decode cX10_isConfused 10 = .ok (.aload_n 0, 1) := by decide +kernel
theorem dX10_isConfused_11 : decode cX10_isConfused 11 = .ok (.iload_n 2, 1) := by decide +kernel
theorem dX10_isConfused_12 : decode cX10_isConfused 12 = .ok (.iconst 2, 1) := by decide +kernel
theorem dX10_isConfused_13 : decode cX10_isConfused 13 = .ok (.invokevirtual 45, 3) := by decide +kernel
theorem dX10_isConfused_16 : decode cX10_isConfused 16 = .ok (.iload_n 1, 1) := by decide +kernel
theorem dX10_isConfused_17 : decode cX10_isConfused 17 = .ok (.if_icmp .ne 7, 3) := by decide +kernel
theorem dX10_isConfused_20 : decode cX10_isConfused 20 = .ok (.iconst 1, 1) := by decide +kernel
theorem dX10_isConfused_21 : decode cX10_isConfused 21 = .ok (.goto 4, 3) := by decide +kernel
theorem dX10_isConfused_24 : decode cX10_isConfused 24 = .ok (.iconst 0, 1) := by decide +kernel
theorem dX10_isConfused_25 : decode cX10_isConfused 25 = .ok (.istore_n 3, 1) := by decide +kernel
theorem dX10_isConfused_26 : decode cX10_isConfused 26 = .ok (.aload_n 0, 1) := by decide +kernel
theorem dX10_isConfused_27 : decode cX10_isConfused 27 = .ok (.iload_n 1, 1) := by decide +kernel
theorem dX10_isConfused_28 : decode cX10_isConfused 28 = .ok (.invokevirtual 56, 3) := by decide +kernel
theorem dX10_isConfused_31 : decode cX10_isConfused 31 = .ok (.ifCond .eq 38, 3) := by decide +kernel
theorem dX10_isConfused_34 : decode cX10_isConfused 34 = .ok (.aload_n 0, 1) := by decide +kernel
theorem dX10_isConfused_35 : decode cX10_isConfused 35 = .ok (.iload_n 2, 1) := by decide +kernel
theorem dX10_isConfused_36 : decode cX10_isConfused 36 = .ok (.invokevirtual 56, 3) := by decide +kernel
theorem dX10_isConfused_39 : decode cX10_isConfused 39 = .ok (.ifCond .eq 30, 3) := by decide +kernel
theorem dX10_isConfused_42 : decode cX10_isConfused 42 = .ok (.iload_n 3, 1) := by decide +kernel
theorem dX10_isConfused_43 : decode cX10_isConfused 43 = .ok (.ifCond .ne 26, 3) := by decide +kernel
theorem dX10_isConfused_46 : decode cX10_isConfused 46 = .ok (.aload_n 0, 1) := by decide +kernel
theorem dX10_isConfused_47 : decode cX10_isConfused 47 = .ok (.iload_n 1, 1) := by decide +kernel
theorem dX10_isConfused_48 : decode cX10_isConfused 48 = .ok (.iconst 0, 1) := by decide +kernel
theorem dX10_isConfused_49 : decode cX10_isConfused 49 = .ok (.invokevirtual 45, 3) := by decide +kernel
theorem dX10_isConfused_52 : decode cX10_isConfused 52 = .ok (.aload_n 0, 1) := by decide +kernel
theorem dX10_isConfused_53 : decode cX10_isConfused 53 = .ok (.iload_n 2, 1) := by decide +kernel
theorem dX10_isConfused_54 : decode cX10_isConfused 54 = .ok (.iconst 0, 1) := by decide +kernel
theorem dX10_isConfused_55 : decode cX10_isConfused 55 = .ok (.invokevirtual 45, 3) := by decide +kernel
theorem dX10_isConfused_58 : decode cX10_isConfused 58 = .ok (.invokestatic 137, 3) := by decide +kernel
theorem dX10_isConfused_61 : decode cX10_isConfused 61 = .ok (.iconst 1, 1) := by decide +kernel
theorem dX10_isConfused_62 : decode cX10_isConfused 62 = .ok (.if_icmp .ne 7, 3) := by decide +kernel
theorem dX10_isConfused_65 : decode cX10_isConfused 65 = .ok (.iconst 1, 1) := by decide +kernel
theorem dX10_isConfused_66 : decode cX10_isConfused 66 = .ok (.goto 4, 3) := by decide +kernel
theorem dX10_isConfused_69 : decode cX10_isConfused 69 = .ok (.iconst 0, 1) := by decide +kernel
theorem dX10_isConfused_70 : decode cX10_isConfused 70 = .ok (.ireturn, 1) := by decide +kernel
theorem dX10_confused_0 : decode cX10_confused 0 = .ok (.iconst 0, 1) := by decide +kernel
theorem dX10_confused_1 : decode cX10_confused 1 = .ok (.istore_n 1, 1) := by decide +kernel
theorem dX10_confused_2 : decode cX10_confused 2 = .ok (.iconst 0, 1) := by decide +kernel
theorem dX10_confused_3 : decode cX10_confused 3 = .ok (.istore_n 2, 1) := by decide +kernel
theorem dX10_confused_4 : decode cX10_confused 4 = .ok (.iload_n 2, 1) := by decide +kernel
theorem dX10_confused_5 : decode cX10_confused 5 = .ok (.aload_n 0, 1) := by decide +kernel
theorem dX10_confused_6 : decode cX10_confused 6 = .ok (.getfield 7, 3) := by decide +kernel
theorem dX10_confused_9 : decode cX10_confused 9 = .ok (.iconst 0, 1) := by decide +kernel
theorem dX10_confused_10 : decode cX10_confused 10 = .ok (.iaload, 1) := by decide +kernel
theorem dX10_confused_11 : decode cX10_confused 11 = .ok (.if_icmp .ge 46, 3) := by decide +kernel
theorem dX10_confused_14 : decode cX10_confused 14 = .ok (.iload_n 2, 1) := by decide +kernel
theorem dX10_confused_15 : decode cX10_confused 15 = .ok (.iconst 1, 1) := by decide +kernel
theorem dX10_confused_16 : decode cX10_confused 16 = .ok (.iadd, 1) := by decide +kernel
theorem dX10_confused_17 : decode cX10_confused 17 = .ok (.istore_n 3, 1) := by decide +kernel
theorem dX10_confused_18 : decode cX10_confused 18 = .ok (.iload_n 3, 1) := by decide +kernel
theorem dX10_confused_19 : decode cX10_confused 19 = .ok (.aload_n 0, 1) := by decide +kernel
theorem dX10_confused_20 : decode cX10_confused 20 = .ok (.getfield 7, 3) := by decide +kernel
theorem dX10_confused_23 : decode cX10_confused 23 = .ok (.iconst 0, 1) := by decide +kernel
theorem dX10_confused_24 : decode cX10_confused 24 = .ok (.iaload, 1) := by decide +kernel
theorem dX10_confused_25 : decode cX10_confused 25 = .ok (.if_icmp .ge 26, 3) := by decide +kernel
theorem dX10_confused_28 : decode cX10_confused 28 = .ok (.iload_n 1, 1) := by decide +kernel
theorem dX10_confused_29 : decode cX10_confused 29 = .ok (.aload_n 0, 1) := by decide +kernel
theorem dX10_confused_30 : decode cX10_confused 30 = .ok (.iload_n 2, 1) := by decide +kernel
theorem dX10_confused_31 : decode cX10_confused 31 = .ok (.iload_n 3, 1) := by decide +kernel
theorem dX10_confused_32 : decode cX10_confused 32 = .ok (.invokevirtual 207, 3) := by decide +kernel
theorem dX10_confused_35 : decode cX10_confused 35 = .ok (.ifCond .eq 7, 3) := by decide +kernel
theorem dX10_confused_38 : decode cX10_confused 38 = .ok (.iconst 1, 1) := by decide +kernel
theorem dX10_confused_39 : decode cX10_confused 39 = .ok (.goto 4, 3) := by decide +kernel
theorem dX10_confused_42 : decode cX10_confused 42 = .ok (.iconst 0, 1) := by decide +kernel
theorem dX10_confused_43 : decode cX10_confused 43 = .ok (.iadd, 1) := by decide +kernel
theorem dX10_confused_44 : decode cX10_confused 44 = .ok (.istore_n 1, 1) := by decide +kernel
theorem dX10_confused_45 : decode cX10_confused 45 = .ok (.iinc 3 1, 3) := by decide +kernel
theorem dX10_confused_48 : decode cX10_confused 48 = .ok (.goto (-30), 3) := by decide +kernel
theorem dX10_confused_51 : decode cX10_confused 51 = .ok (.iinc 2 1, 3) := by decide +kernel
theorem dX10_confused_54 : decode cX10_confused 54 = .ok (.goto (-50), 3) := by decide +kernel
theorem dX10_confused_57 : decode cX10_confused 57 = .ok (.iload_n 1, 1) := by decide +kernel
theorem dX10_confused_58 : decode cX10_confused 58 = .ok (.ireturn, 1) := by decide +kernel
theorem dX10_founders_0 : decode cX10_founders 0 = .ok (.iconst 0, 1) := by decide +kernel
theorem dX10_founders_1 : decode cX10_founders 1 = .ok (.istore_n 1, 1) := by decide +kernel
theorem dX10_founders_2 : decode cX10_founders 2 = .ok (.iconst 0, 1) := by decide +kernel
theorem dX10_founders_3 : decode cX10_founders 3 = .ok (.istore_n 2, 1) := by decide +kernel
theorem dX10_founders_4 : decode cX10_founders 4 = .ok (.iload_n 2, 1) := by decide +kernel
theorem dX10_founders_5 : decode cX10_founders 5 = .ok (.aload_n 0, 1) := by decide +kernel
theorem dX10_founders_6 : decode cX10_founders 6 = .ok (.getfield 7, 3) := by decide +kernel
theorem dX10_founders_9 : decode cX10_founders 9 = .ok (.iconst 0, 1) := by decide +kernel
theorem dX10_founders_10 : decode cX10_founders 10 = .ok (.iaload, 1) := by decide +kernel
theorem dX10_founders_11 : decode cX10_founders 11 = .ok (.if_icmp .ge 28, 3) := by decide +kernel
theorem dX10_founders_14 : decode cX10_founders 14 = .ok (.iload_n 1, 1) := by decide +kernel
theorem dX10_founders_15 : decode cX10_founders 15 = .ok (.aload_n 0, 1) := by decide +kernel
theorem dX10_founders_16 : decode cX10_founders 16 = .ok (.iload_n 2, 1) := by decide +kernel
theorem dX10_founders_17 : decode cX10_founders 17 = .ok (.iconst 2, 1) := by decide +kernel
theorem dX10_founders_18 : decode cX10_founders 18 = .ok (.invokevirtual 45, 3) := by decide +kernel
theorem dX10_founders_21 : decode cX10_founders 21 = .ok (.bipush (-4), 2) := by decide +kernel
theorem dX10_founders_23 : decode cX10_founders 23 = .ok (.if_icmp .ne 7, 3) := by decide +kernel
theorem dX10_founders_26 : decode cX10_founders 26 = .ok (.iconst 1, 1) := by decide +kernel
theorem dX10_founders_27 : decode cX10_founders 27 = .ok (.goto 4, 3) := by decide +kernel
theorem dX10_founders_30 : decode cX10_founders 30 = .ok (.iconst 0, 1) := by decide +kernel
theorem dX10_founders_31 : decode cX10_founders 31 = .ok (.iadd, 1) := by decide +kernel
theorem dX10_founders_32 : decode cX10_founders 32 = .ok (.istore_n 1, 1) := by decide +kernel
theorem dX10_founders_33 : decode cX10_founders 33 = .ok (.iinc 2 1, 3) := by decide +kernel
theorem dX10_founders_36 : decode cX10_founders 36 = .ok (.goto (-32), 3) := by decide +kernel
theorem dX10_founders_39 : decode cX10_founders 39 = .ok (.iload_n 1, 1) := by decide +kernel
theorem dX10_founders_40 : decode cX10_founders 40 = .ok (.ireturn, 1) := by decide +kernel
theorem dX10_deepest_0 : decode cX10_deepest 0 = .ok (.iconst 0, 1) := by decide +kernel
theorem dX10_deepest_1 : decode cX10_deepest 1 = .ok (.istore_n 1, 1) := by decide +kernel
theorem dX10_deepest_2 : decode cX10_deepest 2 = .ok (.iconst 0, 1) := by decide +kernel
theorem dX10_deepest_3 : decode cX10_deepest 3 = .ok (.istore_n 2, 1) := by decide +kernel
theorem dX10_deepest_4 : decode cX10_deepest 4 = .ok (.iload_n 2, 1) := by decide +kernel
theorem dX10_deepest_5 : decode cX10_deepest 5 = .ok (.aload_n 0, 1) := by decide +kernel
theorem dX10_deepest_6 : decode cX10_deepest 6 = .ok (.getfield 7, 3) := by decide +kernel
theorem dX10_deepest_9 : decode cX10_deepest 9 = .ok (.iconst 0, 1) := by decide +kernel
theorem dX10_deepest_10 : decode cX10_deepest 10 = .ok (.iaload, 1) := by decide +kernel
theorem dX10_deepest_11 : decode cX10_deepest 11 = .ok (.if_icmp .ge 28, 3) := by decide +kernel
theorem dX10_deepest_14 : decode cX10_deepest 14 = .ok (.aload_n 0, 1) := by decide +kernel
theorem dX10_deepest_15 : decode cX10_deepest 15 = .ok (.iload_n 2, 1) := by decide +kernel
theorem dX10_deepest_16 : decode cX10_deepest 16 = .ok (.invokevirtual 192, 3) := by decide +kernel
theorem dX10_deepest_19 : decode cX10_deepest 19 = .ok (.iload_n 1, 1) := by decide +kernel
theorem dX10_deepest_20 : decode cX10_deepest 20 = .ok (.if_icmp .le 11, 3) := by decide +kernel
theorem dX10_deepest_23 : decode cX10_deepest 23 = .ok (.aload_n 0, 1) := by decide +kernel
theorem dX10_deepest_24 : decode cX10_deepest 24 = .ok (.iload_n 2, 1) := by decide +kernel
theorem dX10_deepest_25 : decode cX10_deepest 25 = .ok (.invokevirtual 192, 3) := by decide +kernel
theorem dX10_deepest_28 : decode cX10_deepest 28 = .ok (.goto 4, 3) := by decide +kernel
theorem dX10_deepest_31 : decode cX10_deepest 31 = .ok (.iload_n 1, 1) := by decide +kernel
theorem dX10_deepest_32 : decode cX10_deepest 32 = .ok (.istore_n 1, 1) := by decide +kernel
theorem dX10_deepest_33 : decode cX10_deepest 33 = .ok (.iinc 2 1, 3) := by decide +kernel
theorem dX10_deepest_36 : decode cX10_deepest 36 = .ok (.goto (-32), 3) := by decide +kernel
theorem dX10_deepest_39 : decode cX10_deepest 39 = .ok (.iload_n 1, 1) := by decide +kernel
theorem dX10_deepest_40 : decode cX10_deepest 40 = .ok (.ireturn, 1) := by decide +kernel
theorem dX10_differentShields_0 : decode cX10_differentShields 0 = .ok (.iconst 0, 1) := by decide +kernel
theorem dX10_differentShields_1 : decode cX10_differentShields 1 = .ok (.istore_n 1, 1) := by decide +kernel
theorem dX10_differentShields_2 : decode cX10_differentShields 2 = .ok (.iconst 0, 1) := by decide +kernel
theorem dX10_differentShields_3 : decode cX10_differentShields 3 = .ok (.istore_n 2, 1) := by decide +kernel
theorem dX10_differentShields_4 : decode cX10_differentShields 4 = .ok (.iload_n 2, 1) := by decide +kernel
theorem dX10_differentShields_5 : decode cX10_differentShields 5 = .ok (.aload_n 0, 1) := by decide +kernel
theorem dX10_differentShields_6 : decode cX10_differentShields 6 = .ok (.getfield 7, 3) := by decide +kernel
theorem dX10_differentShields_9 : decode cX10_differentShields 9 = .ok (.iconst 0, 1) := by decide +kernel
theorem dX10_differentShields_10 : decode cX10_differentShields 10 = .ok (.iaload, 1) := by decide +kernel
theorem dX10_differentShields_11 : decode cX10_differentShields 11 = .ok (.if_icmp .ge 64, 3) := by decide +kernel
theorem dX10_differentShields_14 : decode cX10_differentShields 14 = .ok (.iconst 1, 1) := by decide +kernel
theorem dX10_differentShields_15 : decode cX10_differentShields 15 = .ok (.istore_n 3, 1) := by decide +kernel
theorem dX10_differentShields_16 : decode cX10_differentShields 16 = .ok (.iconst 0, 1) := by decide +kernel
theorem dX10_differentShields_17 : decode cX10_differentShields 17 = .ok (.istore 4, 2) := by decide +kernel
theorem dX10_differentShields_19 : decode cX10_differentShields 19 = .ok (.iload 4, 2) := by decide +kernel
theorem dX10_differentShields_21 : decode cX10_differentShields 21 = .ok (.iload_n 2, 1) := by decide +kernel
theorem dX10_differentShields_22 : decode cX10_differentShields 22 = .ok (.if_icmp .ge 35, 3) := by decide +kernel
theorem dX10_differentShields_25 : decode cX10_differentShields 25 = .ok (.iload_n 3, 1) := by decide +kernel
theorem dX10_differentShields_26 : decode cX10_differentShields 26 = .ok (.ifCond .eq 23, 3) := by decide +kernel
theorem dX10_differentShields_29 : decode cX10_differentShields 29 = .ok (.aload_n 0, 1) := by decide +kernel
theorem dX10_differentShields_30 : decode cX10_differentShields 30 = .ok (.iload 4, 2) := by decide +kernel
theorem dX10_differentShields_32 : decode cX10_differentShields 32 = .ok (.iconst 0, 1) := by decide +kernel
theorem dX10_differentShields_33 : decode cX10_differentShields 33 = .ok (.invokevirtual 45, 3) := by decide +kernel
theorem dX10_differentShields_36 : decode cX10_differentShields 36 = .ok (.aload_n 0, 1) := by decide +kernel
theorem dX10_differentShields_37 : decode cX10_differentShields 37 = .ok (.iload_n 2, 1) := by decide +kernel
theorem dX10_differentShields_38 : decode cX10_differentShields 38 = .ok (.iconst 0, 1) := by decide +kernel
theorem dX10_differentShields_39 : decode cX10_differentShields 39 = .ok (.invokevirtual 45, 3) := by decide +kernel
theorem dX10_differentShields_42 : decode cX10_differentShields 42 = .ok (.if_icmp .eq 7, 3) := by decide +kernel
theorem dX10_differentShields_45 : decode cX10_differentShields 45 = .ok (.iconst 1, 1) := by decide +kernel
theorem dX10_differentShields_46 : decode cX10_differentShields 46 = .ok (.goto 4, 3) := by decide +kernel
theorem dX10_differentShields_49 : decode cX10_differentShields 49 = .ok (.iconst 0, 1) := by decide +kernel
theorem dX10_differentShields_50 : decode cX10_differentShields 50 = .ok (.istore_n 3, 1) := by decide +kernel
theorem dX10_differentShields_51 : decode cX10_differentShields 51 = .ok (.iinc 4 1, 3) := by decide +kernel
theorem dX10_differentShields_54 : decode cX10_differentShields 54 = .ok (.goto (-35), 3) := by decide +kernel
theorem dX10_differentShields_57 : decode cX10_differentShields 57 = .ok (.iload_n 1, 1) := by decide +kernel
theorem dX10_differentShields_58 : decode cX10_differentShields 58 = .ok (.iload_n 3, 1) := by decide +kernel
theorem dX10_differentShields_59 : decode cX10_differentShields 59 = .ok (.ifCond .eq 7, 3) := by decide +kernel
theorem dX10_differentShields_62 : decode cX10_differentShields 62 = .ok (.iconst 1, 1) := by decide +kernel
theorem dX10_differentShields_63 : decode cX10_differentShields 63 = .ok (.goto 4, 3) := by decide +kernel
theorem dX10_differentShields_66 : decode cX10_differentShields 66 = .ok (.iconst 0, 1) := by decide +kernel
theorem dX10_differentShields_67 : decode cX10_differentShields 67 = .ok (.iadd, 1) := by decide +kernel
theorem dX10_differentShields_68 : decode cX10_differentShields 68 = .ok (.istore_n 1, 1) := by decide +kernel
theorem dX10_differentShields_69 : decode cX10_differentShields 69 = .ok (.iinc 2 1, 3) := by decide +kernel
theorem dX10_differentShields_72 : decode cX10_differentShields 72 = .ok (.goto (-68), 3) := by decide +kernel
theorem dX10_differentShields_75 : decode cX10_differentShields 75 = .ok (.iload_n 1, 1) := by decide +kernel
theorem dX10_differentShields_76 : decode cX10_differentShields 76 = .ok (.ireturn, 1) := by decide +kernel
theorem dX10_livingBy_0 : decode cX10_livingBy 0 = .ok (.iconst 0, 1) := by decide +kernel
theorem dX10_livingBy_1 : decode cX10_livingBy 1 = .ok (.istore_n 2, 1) := by decide +kernel
theorem dX10_livingBy_2 : decode cX10_livingBy 2 = .ok (.iconst 0, 1) := by decide +kernel
theorem dX10_livingBy_3 : decode cX10_livingBy 3 = .ok (.istore_n 3, 1) := by decide +kernel
theorem dX10_livingBy_4 : decode cX10_livingBy 4 = .ok (.iload_n 3, 1) := by decide +kernel
theorem dX10_livingBy_5 : decode cX10_livingBy 5 = .ok (.aload_n 0, 1) := by decide +kernel
theorem dX10_livingBy_6 : decode cX10_livingBy 6 = .ok (.getfield 7, 3) := by decide +kernel
theorem dX10_livingBy_9 : decode cX10_livingBy 9 = .ok (.iconst 0, 1) := by decide +kernel
theorem dX10_livingBy_10 : decode cX10_livingBy 10 = .ok (.iaload, 1) := by decide +kernel
theorem dX10_livingBy_11 : decode cX10_livingBy 11 = .ok (.if_icmp .ge 69, 3) := by decide +kernel
theorem dX10_livingBy_14 : decode cX10_livingBy 14 = .ok (.iload_n 1, 1) := by decide +kernel
theorem dX10_livingBy_15 : decode cX10_livingBy 15 = .ok (.bipush 6, 2) := by decide +kernel
theorem dX10_livingBy_17 : decode cX10_livingBy 17 = .ok (.if_icmp .ne 20, 3) := by decide +kernel
theorem dX10_livingBy_20 : decode cX10_livingBy 20 = .ok (.aload_n 0, 1) := by decide +kernel
theorem dX10_livingBy_21 : decode cX10_livingBy 21 = .ok (.iload_n 3, 1) := by decide +kernel
theorem dX10_livingBy_22 : decode cX10_livingBy 22 = .ok (.invokevirtual 195, 3) := by decide +kernel
theorem dX10_livingBy_25 : decode cX10_livingBy 25 = .ok (.iconst 1, 1) := by decide +kernel
theorem dX10_livingBy_26 : decode cX10_livingBy 26 = .ok (.if_icmp .le 7, 3) := by decide +kernel
theorem dX10_livingBy_29 : decode cX10_livingBy 29 = .ok (.iconst 1, 1) := by decide +kernel
theorem dX10_livingBy_30 : decode cX10_livingBy 30 = .ok (.goto 21, 3) := by decide +kernel
theorem dX10_livingBy_33 : decode cX10_livingBy 33 = .ok (.iconst 0, 1) := by decide +kernel
theorem dX10_livingBy_34 : decode cX10_livingBy 34 = .ok (.goto 17, 3) := by decide +kernel
theorem dX10_livingBy_37 : decode cX10_livingBy 37 = .ok (.aload_n 0, 1) := by decide +kernel
theorem dX10_livingBy_38 : decode cX10_livingBy 38 = .ok (.iload_n 3, 1) := by decide +kernel
theorem dX10_livingBy_39 : decode cX10_livingBy 39 = .ok (.iconst 0, 1) := by decide +kernel
theorem dX10_livingBy_40 : decode cX10_livingBy 40 = .ok (.invokevirtual 112, 3) := by decide +kernel
theorem dX10_livingBy_43 : decode cX10_livingBy 43 = .ok (.ifCond .ne 7, 3) := by decide +kernel
theorem dX10_livingBy_46 : decode cX10_livingBy 46 = .ok (.iconst 1, 1) := by decide +kernel
theorem dX10_livingBy_47 : decode cX10_livingBy 47 = .ok (.goto 4, 3) := by decide +kernel
theorem dX10_livingBy_50 : decode cX10_livingBy 50 = .ok (.iconst 0, 1) := by decide +kernel
theorem dX10_livingBy_51 : decode cX10_livingBy 51 = .ok (.istore 4, 2) := by decide +kernel
theorem dX10_livingBy_53 : decode cX10_livingBy 53 = .ok (.iload_n 2, 1) := by decide +kernel
theorem dX10_livingBy_54 : decode cX10_livingBy 54 = .ok (.aload_n 0, 1) := by decide +kernel
theorem dX10_livingBy_55 : decode cX10_livingBy 55 = .ok (.iload_n 3, 1) := by decide +kernel
theorem dX10_livingBy_56 : decode cX10_livingBy 56 = .ok (.invokevirtual 56, 3) := by decide +kernel
theorem dX10_livingBy_59 : decode cX10_livingBy 59 = .ok (.ifCond .eq 12, 3) := by decide +kernel
theorem dX10_livingBy_62 : decode cX10_livingBy 62 = .ok (.iload 4, 2) := by decide +kernel
theorem dX10_livingBy_64 : decode cX10_livingBy 64 = .ok (.ifCond .eq 7, 3) := by decide +kernel
theorem dX10_livingBy_67 : decode cX10_livingBy 67 = .ok (.iconst 1, 1) := by decide +kernel
theorem dX10_livingBy_68 : decode cX10_livingBy 68 = .ok (.goto 4, 3) := by decide +kernel
theorem dX10_livingBy_71 : decode cX10_livingBy 71 = .ok (.iconst 0, 1) := by decide +kernel
theorem dX10_livingBy_72 : decode cX10_livingBy 72 = .ok (.iadd, 1) := by decide +kernel
theorem dX10_livingBy_73 : decode cX10_livingBy 73 = .ok (.istore_n 2, 1) := by decide +kernel
theorem dX10_livingBy_74 : decode cX10_livingBy 74 = .ok (.iinc 3 1, 3) := by decide +kernel
theorem dX10_livingBy_77 : decode cX10_livingBy 77 = .ok (.goto (-73), 3) := by decide +kernel
theorem dX10_livingBy_80 : decode cX10_livingBy 80 = .ok (.iload_n 2, 1) := by decide +kernel
theorem dX10_livingBy_81 : decode cX10_livingBy 81 = .ok (.ireturn, 1) := by decide +kernel
theorem dX10_count_0 : decode cX10_count 0 = .ok (.iload_n 1, 1) := by decide +kernel
theorem dX10_count_1 : decode cX10_count 1 = .ok (.tableswitch 125 0 11 #[63, 70, 75, 80, 85, 90, 95, 95, 101, 108, 115, 120], 63) := by decide +kernel
theorem dX10_count_64 : decode cX10_count 64 = .ok (.aload_n 0, 1) := by decide +kernel
theorem dX10_count_65 : decode cX10_count 65 = .ok (.getfield 7, 3) := by decide +kernel
theorem dX10_count_68 : decode cX10_count 68 = .ok (.iconst 0, 1) := by decide +kernel
theorem dX10_count_69 : decode cX10_count 69 = .ok (.iaload, 1) := by decide +kernel
theorem dX10_count_70 : decode cX10_count 70 = .ok (.ireturn, 1) := by decide +kernel
theorem dX10_count_71 : decode cX10_count 71 = .ok (.aload_n 0, 1) := by decide +kernel
theorem dX10_count_72 : decode cX10_count 72 = .ok (.invokevirtual 71, 3) := by decide +kernel
theorem dX10_count_75 : decode cX10_count 75 = .ok (.ireturn, 1) := by decide +kernel
theorem dX10_count_76 : decode cX10_count 76 = .ok (.aload_n 0, 1) := by decide +kernel
theorem dX10_count_77 : decode cX10_count 77 = .ok (.invokevirtual 210, 3) := by decide +kernel
theorem dX10_count_80 : decode cX10_count 80 = .ok (.ireturn, 1) := by decide +kernel
theorem dX10_count_81 : decode cX10_count 81 = .ok (.aload_n 0, 1) := by decide +kernel
theorem dX10_count_82 : decode cX10_count 82 = .ok (.invokevirtual 213, 3) := by decide +kernel
theorem dX10_count_85 : decode cX10_count 85 = .ok (.ireturn, 1) := by decide +kernel
theorem dX10_count_86 : decode cX10_count 86 = .ok (.aload_n 0, 1) := by decide +kernel
theorem dX10_count_87 : decode cX10_count 87 = .ok (.invokevirtual 216, 3) := by decide +kernel
theorem dX10_count_90 : decode cX10_count 90 = .ok (.ireturn, 1) := by decide +kernel
theorem dX10_count_91 : decode cX10_count 91 = .ok (.aload_n 0, 1) := by decide +kernel
theorem dX10_count_92 : decode cX10_count 92 = .ok (.invokevirtual 219, 3) := by decide +kernel
theorem dX10_count_95 : decode cX10_count 95 = .ok (.ireturn, 1) := by decide +kernel
theorem dX10_count_96 : decode cX10_count 96 = .ok (.aload_n 0, 1) := by decide +kernel
theorem dX10_count_97 : decode cX10_count 97 = .ok (.iload_n 1, 1) := by decide +kernel
theorem dX10_count_98 : decode cX10_count 98 = .ok (.invokevirtual 222, 3) := by decide +kernel
theorem dX10_count_101 : decode cX10_count 101 = .ok (.ireturn, 1) := by decide +kernel
theorem dX10_count_102 : decode cX10_count 102 = .ok (.aload_n 0, 1) := by decide +kernel
theorem dX10_count_103 : decode cX10_count 103 = .ok (.getfield 7, 3) := by decide +kernel
theorem dX10_count_106 : decode cX10_count 106 = .ok (.iconst 2, 1) := by decide +kernel
theorem dX10_count_107 : decode cX10_count 107 = .ok (.iaload, 1) := by decide +kernel
theorem dX10_count_108 : decode cX10_count 108 = .ok (.ireturn, 1) := by decide +kernel
theorem dX10_count_109 : decode cX10_count 109 = .ok (.aload_n 0, 1) := by decide +kernel
theorem dX10_count_110 : decode cX10_count 110 = .ok (.getfield 7, 3) := by decide +kernel
theorem dX10_count_113 : decode cX10_count 113 = .ok (.iconst 1, 1) := by decide +kernel
theorem dX10_count_114 : decode cX10_count 114 = .ok (.iaload, 1) := by decide +kernel
theorem dX10_count_115 : decode cX10_count 115 = .ok (.ireturn, 1) := by decide +kernel
theorem dX10_count_116 : decode cX10_count 116 = .ok (.aload_n 0, 1) := by decide +kernel
theorem dX10_count_117 : decode cX10_count 117 = .ok (.getfield 146, 3) := by decide +kernel
theorem dX10_count_120 : decode cX10_count 120 = .ok (.ireturn, 1) := by decide +kernel
theorem dX10_count_121 : decode cX10_count 121 = .ok (.aload_n 0, 1) := by decide +kernel
theorem dX10_count_122 : decode cX10_count 122 = .ok (.getfield 60, 3) := by decide +kernel
theorem dX10_count_125 : decode cX10_count 125 = .ok (.ireturn, 1) := by decide +kernel
theorem dX10_count_126 : decode cX10_count 126 = .ok (.iconst (-1), 1) := by decide +kernel
theorem dX10_count_127 : decode cX10_count 127 = .ok (.ireturn, 1) := by decide +kernel
theorem dX10_borne_0 : decode cX10_borne 0 = .ok (.iload_n 1, 1) := by decide +kernel
theorem dX10_borne_1 : decode cX10_borne 1 = .ok (.iload_n 2, 1) := by decide +kernel
theorem dX10_borne_2 : decode cX10_borne 2 = .ok (.invokestatic 119, 3) := by decide +kernel
theorem dX10_borne_5 : decode cX10_borne 5 = .ok (.ifCond .ne 5, 3) := by decide +kernel
theorem dX10_borne_8 : decode cX10_borne 8 = .ok (.iconst (-1), 1) := by decide +kernel
theorem dX10_borne_9 : decode cX10_borne 9 = .ok (.ireturn, 1) := by decide +kernel
theorem dX10_borne_10 : decode cX10_borne 10 = .ok (.iconst 0, 1) := by decide +kernel
theorem dX10_borne_11 : decode cX10_borne 11 = .ok (.istore_n 3, 1) := by decide +kernel
theorem dX10_borne_12 : decode cX10_borne 12 = .ok (.iconst 0, 1) := by decide +kernel
theorem dX10_borne_13 : decode cX10_borne 13 = .ok (.istore 4, 2) := by decide +kernel
theorem dX10_borne_15 : decode cX10_borne 15 = .ok (.iload 4, 2) := by decide +kernel
theorem dX10_borne_17 : decode cX10_borne 17 = .ok (.aload_n 0, 1) := by decide +kernel
theorem dX10_borne_18 : decode cX10_borne 18 = .ok (.getfield 7, 3) := by decide +kernel
theorem dX10_borne_21 : decode cX10_borne 21 = .ok (.iconst 0, 1) := by decide +kernel
theorem dX10_borne_22 : decode cX10_borne 22 = .ok (.iaload, 1) := by decide +kernel
theorem dX10_borne_23 : decode cX10_borne 23 = .ok (.if_icmp .ge 41, 3) := by decide +kernel
theorem dX10_borne_26 : decode cX10_borne 26 = .ok (.iload_n 3, 1) := by decide +kernel
theorem dX10_borne_27 : decode cX10_borne 27 = .ok (.aload_n 0, 1) := by decide +kernel
theorem dX10_borne_28 : decode cX10_borne 28 = .ok (.iload 4, 2) := by decide +kernel
theorem dX10_borne_30 : decode cX10_borne 30 = .ok (.invokevirtual 56, 3) := by decide +kernel
theorem dX10_borne_33 : decode cX10_borne 33 = .ok (.ifCond .eq 22, 3) := by decide +kernel
theorem dX10_borne_36 : decode cX10_borne 36 = .ok (.aload_n 0, 1) := by decide +kernel
theorem dX10_borne_37 : decode cX10_borne 37 = .ok (.iload 4, 2) := by decide +kernel
theorem dX10_borne_39 : decode cX10_borne 39 = .ok (.iconst 0, 1) := by decide +kernel
theorem dX10_borne_40 : decode cX10_borne 40 = .ok (.invokevirtual 45, 3) := by decide +kernel
theorem dX10_borne_43 : decode cX10_borne 43 = .ok (.iload_n 1, 1) := by decide +kernel
theorem dX10_borne_44 : decode cX10_borne 44 = .ok (.invokestatic 53, 3) := by decide +kernel
theorem dX10_borne_47 : decode cX10_borne 47 = .ok (.iload_n 2, 1) := by decide +kernel
theorem dX10_borne_48 : decode cX10_borne 48 = .ok (.if_icmp .ne 7, 3) := by decide +kernel
theorem dX10_borne_51 : decode cX10_borne 51 = .ok (.iconst 1, 1) := by decide +kernel
theorem dX10_borne_52 : decode cX10_borne 52 = .ok (.goto 4, 3) := by decide +kernel
theorem dX10_borne_55 : decode cX10_borne 55 = .ok (.iconst 0, 1) := by decide +kernel
theorem dX10_borne_56 : decode cX10_borne 56 = .ok (.iadd, 1) := by decide +kernel
theorem dX10_borne_57 : decode cX10_borne 57 = .ok (.istore_n 3, 1) := by decide +kernel
theorem dX10_borne_58 : decode cX10_borne 58 = .ok (.iinc 4 1, 3) := by decide +kernel
theorem dX10_borne_61 : decode cX10_borne 61 = .ok (.goto (-46), 3) := by decide +kernel
theorem dX10_borne_64 : decode cX10_borne 64 = .ok (.iload_n 3, 1) := by decide +kernel
theorem dX10_borne_65 : decode cX10_borne 65 = .ok (.ireturn, 1) := by decide +kernel
theorem dX10_unlike_0 : decode cX10_unlike 0 = .ok (.iconst 0, 1) := by decide +kernel
theorem dX10_unlike_1 : decode cX10_unlike 1 = .ok (.istore_n 1, 1) := by decide +kernel
theorem dX10_unlike_2 : decode cX10_unlike 2 = .ok (.iconst 0, 1) := by decide +kernel
theorem dX10_unlike_3 : decode cX10_unlike 3 = .ok (.istore_n 2, 1) := by decide +kernel
theorem dX10_unlike_4 : decode cX10_unlike 4 = .ok (.iconst 0, 1) := by decide +kernel
theorem dX10_unlike_5 : decode cX10_unlike 5 = .ok (.istore_n 3, 1) := by decide +kernel
theorem dX10_unlike_6 : decode cX10_unlike 6 = .ok (.iload_n 3, 1) := by decide +kernel
theorem dX10_unlike_7 : decode cX10_unlike 7 = .ok (.aload_n 0, 1) := by decide +kernel
theorem dX10_unlike_8 : decode cX10_unlike 8 = .ok (.getfield 7, 3) := by decide +kernel
theorem dX10_unlike_11 : decode cX10_unlike 11 = .ok (.iconst 0, 1) := by decide +kernel
theorem dX10_unlike_12 : decode cX10_unlike 12 = .ok (.iaload, 1) := by decide +kernel
theorem dX10_unlike_13 : decode cX10_unlike 13 = .ok (.if_icmp .ge 70, 3) := by decide +kernel
theorem dX10_unlike_16 : decode cX10_unlike 16 = .ok (.iload_n 3, 1) := by decide +kernel
theorem dX10_unlike_17 : decode cX10_unlike 17 = .ok (.iconst 1, 1) := by decide +kernel
theorem dX10_unlike_18 : decode cX10_unlike 18 = .ok (.iadd, 1) := by decide +kernel
theorem dX10_unlike_19 : decode cX10_unlike 19 = .ok (.istore 4, 2) := by decide +kernel
theorem dX10_unlike_21 : decode cX10_unlike 21 = .ok (.iload 4, 2) := by decide +kernel
theorem dX10_unlike_23 : decode cX10_unlike 23 = .ok (.aload_n 0, 1) := by decide +kernel
theorem dX10_unlike_24 : decode cX10_unlike 24 = .ok (.getfield 7, 3) := by decide +kernel
theorem dX10_unlike_27 : decode cX10_unlike 27 = .ok (.iconst 0, 1) := by decide +kernel
theorem dX10_unlike_28 : decode cX10_unlike 28 = .ok (.iaload, 1) := by decide +kernel
theorem dX10_unlike_29 : decode cX10_unlike 29 = .ok (.if_icmp .ge 48, 3) := by decide +kernel
theorem dX10_unlike_32 : decode cX10_unlike 32 = .ok (.aload_n 0, 1) := by decide +kernel
theorem dX10_unlike_33 : decode cX10_unlike 33 = .ok (.iload_n 3, 1) := by decide +kernel
theorem dX10_unlike_34 : decode cX10_unlike 34 = .ok (.invokevirtual 56, 3) := by decide +kernel
theorem dX10_unlike_37 : decode cX10_unlike 37 = .ok (.ifCond .eq 34, 3) := by decide +kernel
theorem dX10_unlike_40 : decode cX10_unlike 40 = .ok (.aload_n 0, 1) := by decide +kernel
theorem dX10_unlike_41 : decode cX10_unlike 41 = .ok (.iload 4, 2) := by decide +kernel
theorem dX10_unlike_43 : decode cX10_unlike 43 = .ok (.invokevirtual 56, 3) := by decide +kernel
theorem dX10_unlike_46 : decode cX10_unlike 46 = .ok (.ifCond .eq 25, 3) := by decide +kernel
theorem dX10_unlike_49 : decode cX10_unlike 49 = .ok (.iload_n 1, 1) := by decide +kernel
theorem dX10_unlike_50 : decode cX10_unlike 50 = .ok (.aload_n 0, 1) := by decide +kernel
theorem dX10_unlike_51 : decode cX10_unlike 51 = .ok (.iload_n 3, 1) := by decide +kernel
theorem dX10_unlike_52 : decode cX10_unlike 52 = .ok (.iconst 0, 1) := by decide +kernel
theorem dX10_unlike_53 : decode cX10_unlike 53 = .ok (.invokevirtual 45, 3) := by decide +kernel
theorem dX10_unlike_56 : decode cX10_unlike 56 = .ok (.aload_n 0, 1) := by decide +kernel
theorem dX10_unlike_57 : decode cX10_unlike 57 = .ok (.iload 4, 2) := by decide +kernel
theorem dX10_unlike_59 : decode cX10_unlike 59 = .ok (.iconst 0, 1) := by decide +kernel
theorem dX10_unlike_60 : decode cX10_unlike 60 = .ok (.invokevirtual 45, 3) := by decide +kernel
theorem dX10_unlike_63 : decode cX10_unlike 63 = .ok (.invokestatic 137, 3) := by decide +kernel
theorem dX10_unlike_66 : decode cX10_unlike 66 = .ok (.iadd, 1) := by decide +kernel
theorem dX10_unlike_67 : decode cX10_unlike 67 = .ok (.istore_n 1, 1) := by decide +kernel
theorem dX10_unlike_68 : decode cX10_unlike 68 = .ok (.iinc 2 1, 3) := by decide +kernel
theorem dX10_unlike_71 : decode cX10_unlike 71 = .ok (.iinc 4 1, 3) := by decide +kernel
theorem dX10_unlike_74 : decode cX10_unlike 74 = .ok (.goto (-53), 3) := by decide +kernel
theorem dX10_unlike_77 : decode cX10_unlike 77 = .ok (.iinc 3 1, 3) := by decide +kernel
theorem dX10_unlike_80 : decode cX10_unlike 80 = .ok (.goto (-74), 3) := by decide +kernel
theorem dX10_unlike_83 : decode cX10_unlike 83 = .ok (.iload_n 1, 1) := by decide +kernel
theorem dX10_unlike_84 : decode cX10_unlike 84 = .ok (.i2d, 1) := by decide +kernel
theorem dX10_unlike_85 : decode cX10_unlike 85 = .ok (.dstore_n 3, 1) := by decide +kernel
theorem dX10_unlike_86 : decode cX10_unlike 86 = .ok (.iload_n 2, 1) := by decide +kernel
theorem dX10_unlike_87 : decode cX10_unlike 87 = .ok (.i2d, 1) := by decide +kernel
theorem dX10_unlike_88 : decode cX10_unlike 88 = .ok (.dstore 5, 2) := by decide +kernel
theorem dX10_unlike_90 : decode cX10_unlike 90 = .ok (.iload_n 2, 1) := by decide +kernel
theorem dX10_unlike_91 : decode cX10_unlike 91 = .ok (.ifCond .ne 7, 3) := by decide +kernel
theorem dX10_unlike_94 : decode cX10_unlike 94 = .ok (.dconst 0, 1) := by decide +kernel
theorem dX10_unlike_95 : decode cX10_unlike 95 = .ok (.goto 7, 3) := by decide +kernel
theorem dX10_unlike_98 : decode cX10_unlike 98 = .ok (.dload_n 3, 1) := by decide +kernel
theorem dX10_unlike_99 : decode cX10_unlike 99 = .ok (.dload 5, 2) := by decide +kernel
theorem dX10_unlike_101 : decode cX10_unlike 101 = .ok (.ddiv, 1) := by decide +kernel
theorem dX10_unlike_102 : decode cX10_unlike 102 = .ok (.dreturn, 1) := by decide +kernel
theorem dX10_allChoices_0 : decode cX10_allChoices 0 = .ok (.iconst 0, 1) := by decide +kernel
theorem dX10_allChoices_1 : decode cX10_allChoices 1 = .ok (.istore_n 1, 1) := by decide +kernel
theorem dX10_allChoices_2 : decode cX10_allChoices 2 = .ok (.iconst 0, 1) := by decide +kernel
theorem dX10_allChoices_3 : decode cX10_allChoices 3 = .ok (.istore_n 2, 1) := by decide +kernel
theorem dX10_allChoices_4 : decode cX10_allChoices 4 = .ok (.iload_n 2, 1) := by decide +kernel
theorem dX10_allChoices_5 : decode cX10_allChoices 5 = .ok (.aload_n 0, 1) := by decide +kernel
theorem dX10_allChoices_6 : decode cX10_allChoices 6 = .ok (.getfield 7, 3) := by decide +kernel
theorem dX10_allChoices_9 : decode cX10_allChoices 9 = .ok (.iconst 0, 1) := by decide +kernel
theorem dX10_allChoices_10 : decode cX10_allChoices 10 = .ok (.iaload, 1) := by decide +kernel
theorem dX10_allChoices_11 : decode cX10_allChoices 11 = .ok (.if_icmp .ge 29, 3) := by decide +kernel
theorem dX10_allChoices_14 : decode cX10_allChoices 14 = .ok (.iload_n 1, 1) := by decide +kernel
theorem dX10_allChoices_15 : decode cX10_allChoices 15 = .ok (.aload_n 0, 1) := by decide +kernel
theorem dX10_allChoices_16 : decode cX10_allChoices 16 = .ok (.iload_n 2, 1) := by decide +kernel
theorem dX10_allChoices_17 : decode cX10_allChoices 17 = .ok (.invokevirtual 56, 3) := by decide +kernel
theorem dX10_allChoices_20 : decode cX10_allChoices 20 = .ok (.ifCond .eq 11, 3) := by decide +kernel
theorem dX10_allChoices_23 : decode cX10_allChoices 23 = .ok (.aload_n 0, 1) := by decide +kernel
theorem dX10_allChoices_24 : decode cX10_allChoices 24 = .ok (.iload_n 2, 1) := by decide +kernel
theorem dX10_allChoices_25 : decode cX10_allChoices 25 = .ok (.invokevirtual 198, 3) := by decide +kernel
theorem dX10_allChoices_28 : decode cX10_allChoices 28 = .ok (.goto 4, 3) := by decide +kernel
theorem dX10_allChoices_31 : decode cX10_allChoices 31 = .ok (.iconst 0, 1) := by decide +kernel
theorem dX10_allChoices_32 : decode cX10_allChoices 32 = .ok (.iadd, 1) := by decide +kernel
theorem dX10_allChoices_33 : decode cX10_allChoices 33 = .ok (.istore_n 1, 1) := by decide +kernel
theorem dX10_allChoices_34 : decode cX10_allChoices 34 = .ok (.iinc 2 1, 3) := by decide +kernel
theorem dX10_allChoices_37 : decode cX10_allChoices 37 = .ok (.goto (-33), 3) := by decide +kernel
theorem dX10_allChoices_40 : decode cX10_allChoices 40 = .ok (.iload_n 1, 1) := by decide +kernel
theorem dX10_allChoices_41 : decode cX10_allChoices 41 = .ok (.ireturn, 1) := by decide +kernel
theorem dX10_ifDead_0 : decode cX10_ifDead 0 = .ok (.aload_n 0, 1) := by decide +kernel
theorem dX10_ifDead_1 : decode cX10_ifDead 1 = .ok (.iload_n 1, 1) := by decide +kernel
theorem dX10_ifDead_2 : decode cX10_ifDead 2 = .ok (.invokevirtual 116, 3) := by decide +kernel
theorem dX10_ifDead_5 : decode cX10_ifDead 5 = .ok (.ifCond .eq 12, 3) := by decide +kernel
theorem dX10_ifDead_8 : decode cX10_ifDead 8 = .ok (.iload_n 2, 1) := by decide +kernel
theorem dX10_ifDead_9 : decode cX10_ifDead 9 = .ok (.iconst 0, 1) := by decide +kernel
theorem dX10_ifDead_10 : decode cX10_ifDead 10 = .ok (.iconst 2, 1) := by decide +kernel
theorem dX10_ifDead_11 : decode cX10_ifDead 11 = .ok (.invokestatic 41, 3) := by decide +kernel
theorem dX10_ifDead_14 : decode cX10_ifDead 14 = .ok (.ifCond .ne 5, 3) := by decide +kernel
theorem dX10_ifDead_17 : decode cX10_ifDead 17 = .ok (.iconst (-1), 1) := by decide +kernel
theorem dX10_ifDead_18 : decode cX10_ifDead 18 = .ok (.ireturn, 1) := by decide +kernel
theorem dX10_ifDead_19 : decode cX10_ifDead 19 = .ok (.aload_n 0, 1) := by decide +kernel
theorem dX10_ifDead_20 : decode cX10_ifDead 20 = .ok (.iload_n 1, 1) := by decide +kernel
theorem dX10_ifDead_21 : decode cX10_ifDead 21 = .ok (.invokevirtual 56, 3) := by decide +kernel
theorem dX10_ifDead_24 : decode cX10_ifDead 24 = .ok (.ifCond .ne 6, 3) := by decide +kernel
theorem dX10_ifDead_27 : decode cX10_ifDead 27 = .ok (.bipush (-2), 2) := by decide +kernel
theorem dX10_ifDead_29 : decode cX10_ifDead 29 = .ok (.ireturn, 1) := by decide +kernel
theorem dX10_ifDead_30 : decode cX10_ifDead 30 = .ok (.aload_n 0, 1) := by decide +kernel
theorem dX10_ifDead_31 : decode cX10_ifDead 31 = .ok (.iload_n 1, 1) := by decide +kernel
theorem dX10_ifDead_32 : decode cX10_ifDead 32 = .ok (.iconst 1, 1) := by decide +kernel
theorem dX10_ifDead_33 : decode cX10_ifDead 33 = .ok (.iconst 0, 1) := by decide +kernel
theorem dX10_ifDead_34 : decode cX10_ifDead 34 = .ok (.invokevirtual 82, 3) := by decide +kernel
theorem dX10_ifDead_37 : decode cX10_ifDead 37 = .ok (.iload_n 2, 1) := by decide +kernel
theorem dX10_ifDead_38 : decode cX10_ifDead 38 = .ok (.ifCond .ne 11, 3) := by decide +kernel
theorem dX10_ifDead_41 : decode cX10_ifDead 41 = .ok (.aload_n 0, 1) := by decide +kernel
theorem dX10_ifDead_42 : decode cX10_ifDead 42 = .ok (.iload_n 1, 1) := by decide +kernel
theorem dX10_ifDead_43 : decode cX10_ifDead 43 = .ok (.invokevirtual 134, 3) := by decide +kernel
theorem dX10_ifDead_46 : decode cX10_ifDead 46 = .ok (.goto 19, 3) := by decide +kernel
theorem dX10_ifDead_49 : decode cX10_ifDead 49 = .ok (.iload_n 2, 1) := by decide +kernel
theorem dX10_ifDead_50 : decode cX10_ifDead 50 = .ok (.iconst 1, 1) := by decide +kernel
theorem dX10_ifDead_51 : decode cX10_ifDead 51 = .ok (.if_icmp .ne 10, 3) := by decide +kernel
theorem dX10_ifDead_54 : decode cX10_ifDead 54 = .ok (.aload_n 0, 1) := by decide +kernel
theorem dX10_ifDead_55 : decode cX10_ifDead 55 = .ok (.invokevirtual 213, 3) := by decide +kernel
theorem dX10_ifDead_58 : decode cX10_ifDead 58 = .ok (.goto 7, 3) := by decide +kernel
theorem dX10_ifDead_61 : decode cX10_ifDead 61 = .ok (.aload_n 0, 1) := by decide +kernel
theorem dX10_ifDead_62 : decode cX10_ifDead 62 = .ok (.invokevirtual 225, 3) := by decide +kernel
theorem dX10_ifDead_65 : decode cX10_ifDead 65 = .ok (.istore_n 3, 1) := by decide +kernel
theorem dX10_ifDead_66 : decode cX10_ifDead 66 = .ok (.aload_n 0, 1) := by decide +kernel
theorem dX10_ifDead_67 : decode cX10_ifDead 67 = .ok (.iload_n 1, 1) := by decide +kernel
theorem dX10_ifDead_68 : decode cX10_ifDead 68 = .ok (.iconst 1, 1) := by decide +kernel
theorem dX10_ifDead_69 : decode cX10_ifDead 69 = .ok (.iconst 1, 1) := by decide +kernel
theorem dX10_ifDead_70 : decode cX10_ifDead 70 = .ok (.invokevirtual 82, 3) := by decide +kernel
theorem dX10_ifDead_73 : decode cX10_ifDead 73 = .ok (.iload_n 3, 1) := by decide +kernel
theorem dX10_ifDead_74 : decode cX10_ifDead 74 = .ok (.ireturn, 1) := by decide +kernel
theorem dL_law_0 : decode cL_law 0 = .ok (.new 7, 3) := by decide +kernel
theorem dL_law_3 : decode cL_law 3 = .ok (.dup, 1) := by decide +kernel
theorem dL_law_4 : decode cL_law 4 = .ok (.invokespecial 9, 3) := by decide +kernel
theorem dL_law_7 : decode cL_law 7 = .ok (.astore_n 1, 1) := by decide +kernel
theorem dL_law_8 : decode cL_law 8 = .ok (.new 10, 3) := by decide +kernel
theorem dL_law_11 : decode cL_law 11 = .ok (.dup, 1) := by decide +kernel
theorem dL_law_12 : decode cL_law 12 = .ok (.invokespecial 12, 3) := by decide +kernel
theorem dL_law_15 : decode cL_law 15 = .ok (.astore_n 2, 1) := by decide +kernel
theorem dL_law_16 : decode cL_law 16 = .ok (.iconst 0, 1) := by decide +kernel
theorem dL_law_17 : decode cL_law 17 = .ok (.istore_n 3, 1) := by decide +kernel
theorem dL_law_18 : decode cL_law 18 = .ok (.iload_n 3, 1) := by decide +kernel
theorem dL_law_19 : decode cL_law 19 = .ok (.aload_n 0, 1) := by decide +kernel
theorem dL_law_20 : decode cL_law 20 = .ok (.arraylength, 1) := by decide +kernel
theorem dL_law_21 : decode cL_law 21 = .ok (.iconst 4, 1) := by decide +kernel
theorem dL_law_22 : decode cL_law 22 = .ok (.isub, 1) := by decide +kernel
theorem dL_law_23 : decode cL_law 23 = .ok (.if_icmp .gt 794, 3) := by decide +kernel
theorem dL_law_26 : decode cL_law 26 = .ok (.aload_n 0, 1) := by decide +kernel
theorem dL_law_27 : decode cL_law 27 = .ok (.iload_n 3, 1) := by decide +kernel
theorem dL_law_28 : decode cL_law 28 = .ok (.iaload, 1) := by decide +kernel
theorem dL_law_29 : decode cL_law 29 = .ok (.bipush 31, 2) := by decide +kernel
theorem dL_law_31 : decode cL_law 31 = .ok (.iand, 1) := by decide +kernel
theorem dL_law_32 : decode cL_law 32 = .ok (.tableswitch 779 0 24 #[116, 139, 182, 205, 228, 251, 264, 277, 290, 313, 346, 379, 422, 455, 478, 511, 544, 567, 610, 633, 666, 707, 740, 753, 766], 116) := by decide +kernel
theorem dL_law_148 : decode cL_law 148 = .ok (.aload_n 1, 1) := by decide +kernel
theorem dL_law_149 : decode cL_law 149 = .ok (.aload_n 0, 1) := by decide +kernel
theorem dL_law_150 : decode cL_law 150 = .ok (.iload_n 3, 1) := by decide +kernel
theorem dL_law_151 : decode cL_law 151 = .ok (.iconst 1, 1) := by decide +kernel
theorem dL_law_152 : decode cL_law 152 = .ok (.iadd, 1) := by decide +kernel
theorem dL_law_153 : decode cL_law 153 = .ok (.iaload, 1) := by decide +kernel
theorem dL_law_154 : decode cL_law 154 = .ok (.invokevirtual 13, 3) := by decide +kernel
theorem dL_law_157 : decode cL_law 157 = .ok (.aload_n 2, 1) := by decide +kernel
theorem dL_law_158 : decode cL_law 158 = .ok (.aload_n 0, 1) := by decide +kernel
theorem dL_law_159 : decode cL_law 159 = .ok (.iload_n 3, 1) := by decide +kernel
theorem dL_law_160 : decode cL_law 160 = .ok (.iconst 1, 1) := by decide +kernel
theorem dL_law_161 : decode cL_law 161 = .ok (.iadd, 1) := by decide +kernel
theorem dL_law_162 : decode cL_law 162 = .ok (.iaload, 1) := by decide +kernel
theorem dL_law_163 : decode cL_law 163 = .ok (.invokevirtual 17, 3) := by decide +kernel
theorem dL_law_166 : decode cL_law 166 = .ok (.if_icmp .eq 645, 3) := by decide +kernel
theorem dL_law_169 : decode cL_law 169 = .ok (.iconst 0, 1) := by decide +kernel
theorem dL_law_170 : decode cL_law 170 = .ok (.ireturn, 1) := by decide +kernel
theorem dL_law_171 : decode cL_law 171 = .ok (.aload_n 1, 1) := by decide +kernel
theorem dL_law_172 : decode cL_law 172 = .ok (.aload_n 0, 1) := by decide +kernel
theorem dL_law_173 : decode cL_law 173 = .ok (.iload_n 3, 1) := by decide +kernel
theorem dL_law_174 : decode cL_law 174 = .ok (.iconst 1, 1) := by decide +kernel
theorem dL_law_175 : decode cL_law 175 = .ok (.iadd, 1) := by decide +kernel
theorem dL_law_176 : decode cL_law 176 = .ok (.iaload, 1) := by decide +kernel
theorem dL_law_177 : decode cL_law 177 = .ok (.aload_n 0, 1) := by decide +kernel
theorem dL_law_178 : decode cL_law 178 = .ok (.iload_n 3, 1) := by decide +kernel
theorem dL_law_179 : decode cL_law 179 = .ok (.iconst 2, 1) := by decide +kernel
theorem dL_law_180 : decode cL_law 180 = .ok (.iadd, 1) := by decide +kernel
theorem dL_law_181 : decode cL_law 181 = .ok (.iaload, 1) := by decide +kernel
theorem dL_law_182 : decode cL_law 182 = .ok (.aload_n 0, 1) := by decide +kernel
theorem dL_law_183 : decode cL_law 183 = .ok (.iload_n 3, 1) := by decide +kernel
theorem dL_law_184 : decode cL_law 184 = .ok (.iconst 3, 1) := by decide +kernel
theorem dL_law_185 : decode cL_law 185 = .ok (.iadd, 1) := by decide +kernel
theorem dL_law_186 : decode cL_law 186 = .ok (.iaload, 1) := by decide +kernel
theorem dL_law_187 : decode cL_law 187 = .ok (.invokevirtual 18, 3) := by decide +kernel
theorem dL_law_190 : decode cL_law 190 = .ok (.aload_n 2, 1) := by decide +kernel
theorem dL_law_191 : decode cL_law 191 = .ok (.aload_n 0, 1) := by decide +kernel
theorem dL_law_192 : decode cL_law 192 = .ok (.iload_n 3, 1) := by decide +kernel
theorem dL_law_193 : decode cL_law 193 = .ok (.iconst 1, 1) := by decide +kernel
theorem dL_law_194 : decode cL_law 194 = .ok (.iadd, 1) := by decide +kernel
theorem dL_law_195 : decode cL_law 195 = .ok (.iaload, 1) := by decide +kernel
theorem dL_law_196 : decode cL_law 196 = .ok (.aload_n 0, 1) := by decide +kernel
theorem dL_law_197 : decode cL_law 197 = .ok (.iload_n 3, 1) := by decide +kernel
theorem dL_law_198 : decode cL_law 198 = .ok (.iconst 2, 1) := by decide +kernel
theorem dL_law_199 : decode cL_law 199 = .ok (.iadd, 1) := by decide +kernel
theorem dL_law_200 : decode cL_law 200 = .ok (.iaload, 1) := by decide +kernel
theorem dL_law_201 : decode cL_law 201 = .ok (.aload_n 0, 1) := by decide +kernel
theorem dL_law_202 : decode cL_law 202 = .ok (.iload_n 3, 1) := by decide +kernel
theorem dL_law_203 : decode cL_law 203 = .ok (.iconst 3, 1) := by decide +kernel
theorem dL_law_204 : decode cL_law 204 = .ok (.iadd, 1) := by decide +kernel
theorem dL_law_205 : decode cL_law 205 = .ok (.iaload, 1) := by decide +kernel
theorem dL_law_206 : decode cL_law 206 = .ok (.invokevirtual 22, 3) := by decide +kernel
theorem dL_law_209 : decode cL_law 209 = .ok (.if_icmp .eq 602, 3) := by decide +kernel
theorem dL_law_212 : decode cL_law 212 = .ok (.iconst 0, 1) := by decide +kernel
theorem dL_law_213 : decode cL_law 213 = .ok (.ireturn, 1) := by decide +kernel
theorem dL_law_214 : decode cL_law 214 = .ok (.aload_n 1, 1) := by decide +kernel
theorem dL_law_215 : decode cL_law 215 = .ok (.aload_n 0, 1) := by decide +kernel
theorem dL_law_216 : decode cL_law 216 = .ok (.iload_n 3, 1) := by decide +kernel
theorem dL_law_217 : decode cL_law 217 = .ok (.iconst 1, 1) := by decide +kernel
theorem dL_law_218 : decode cL_law 218 = .ok (.iadd, 1) := by decide +kernel
theorem dL_law_219 : decode cL_law 219 = .ok (.iaload, 1) := by decide +kernel
theorem dL_law_220 : decode cL_law 220 = .ok (.invokevirtual 23, 3) := by decide +kernel
theorem dL_law_223 : decode cL_law 223 = .ok (.aload_n 2, 1) := by decide +kernel
theorem dL_law_224 : decode cL_law 224 = .ok (.aload_n 0, 1) := by decide +kernel
theorem dL_law_225 : decode cL_law 225 = .ok (.iload_n 3, 1) := by decide +kernel
theorem dL_law_226 : decode cL_law 226 = .ok (.iconst 1, 1) := by decide +kernel
theorem dL_law_227 : decode cL_law 227 = .ok (.iadd, 1) := by decide +kernel
theorem dL_law_228 : decode cL_law 228 = .ok (.iaload, 1) := by decide +kernel
theorem dL_law_229 : decode cL_law 229 = .ok (.invokevirtual 26, 3) := by decide +kernel
theorem dL_law_232 : decode cL_law 232 = .ok (.if_icmp .eq 579, 3) := by decide +kernel
theorem dL_law_235 : decode cL_law 235 = .ok (.iconst 0, 1) := by decide +kernel
theorem dL_law_236 : decode cL_law 236 = .ok (.ireturn, 1) := by decide +kernel
theorem dL_law_237 : decode cL_law 237 = .ok (.aload_n 1, 1) := by decide +kernel
theorem dL_law_238 : decode cL_law 238 = .ok (.aload_n 0, 1) := by decide +kernel
theorem dL_law_239 : decode cL_law 239 = .ok (.iload_n 3, 1) := by decide +kernel
theorem dL_law_240 : decode cL_law 240 = .ok (.iconst 1, 1) := by decide +kernel
theorem dL_law_241 : decode cL_law 241 = .ok (.iadd, 1) := by decide +kernel
theorem dL_law_242 : decode cL_law 242 = .ok (.iaload, 1) := by decide +kernel
theorem dL_law_243 : decode cL_law 243 = .ok (.invokevirtual 27, 3) := by decide +kernel
theorem dL_law_246 : decode cL_law 246 = .ok (.aload_n 2, 1) := by decide +kernel
theorem dL_law_247 : decode cL_law 247 = .ok (.aload_n 0, 1) := by decide +kernel
theorem dL_law_248 : decode cL_law 248 = .ok (.iload_n 3, 1) := by decide +kernel
theorem dL_law_249 : decode cL_law 249 = .ok (.iconst 1, 1) := by decide +kernel
theorem dL_law_250 : decode cL_law 250 = .ok (.iadd, 1) := by decide +kernel
theorem dL_law_251 : decode cL_law 251 = .ok (.iaload, 1) := by decide +kernel
theorem dL_law_252 : decode cL_law 252 = .ok (.invokevirtual 30, 3) := by decide +kernel
theorem dL_law_255 : decode cL_law 255 = .ok (.if_icmp .eq 556, 3) := by decide +kernel
theorem dL_law_258 : decode cL_law 258 = .ok (.iconst 0, 1) := by decide +kernel
theorem dL_law_259 : decode cL_law 259 = .ok (.ireturn, 1) := by decide +kernel
theorem dL_law_260 : decode cL_law 260 = .ok (.aload_n 1, 1) := by decide +kernel
theorem dL_law_261 : decode cL_law 261 = .ok (.aload_n 0, 1) := by decide +kernel
theorem dL_law_262 : decode cL_law 262 = .ok (.iload_n 3, 1) := by decide +kernel
theorem dL_law_263 : decode cL_law 263 = .ok (.iconst 1, 1) := by decide +kernel
theorem dL_law_264 : decode cL_law 264 = .ok (.iadd, 1) := by decide +kernel
theorem dL_law_265 : decode cL_law 265 = .ok (.iaload, 1) := by decide +kernel
theorem dL_law_266 : decode cL_law 266 = .ok (.invokevirtual 31, 3) := by decide +kernel
theorem dL_law_269 : decode cL_law 269 = .ok (.aload_n 2, 1) := by decide +kernel
theorem dL_law_270 : decode cL_law 270 = .ok (.aload_n 0, 1) := by decide +kernel
theorem dL_law_271 : decode cL_law 271 = .ok (.iload_n 3, 1) := by decide +kernel
theorem dL_law_272 : decode cL_law 272 = .ok (.iconst 1, 1) := by decide +kernel
theorem dL_law_273 : decode cL_law 273 = .ok (.iadd, 1) := by decide +kernel
theorem dL_law_274 : decode cL_law 274 = .ok (.iaload, 1) := by decide +kernel
theorem dL_law_275 : decode cL_law 275 = .ok (.invokevirtual 34, 3) := by decide +kernel
theorem dL_law_278 : decode cL_law 278 = .ok (.if_icmp .eq 533, 3) := by decide +kernel
theorem dL_law_281 : decode cL_law 281 = .ok (.iconst 0, 1) := by decide +kernel
theorem dL_law_282 : decode cL_law 282 = .ok (.ireturn, 1) := by decide +kernel
theorem dL_law_283 : decode cL_law 283 = .ok (.aload_n 1, 1) := by decide +kernel
theorem dL_law_284 : decode cL_law 284 = .ok (.invokevirtual 35, 3) := by decide +kernel
theorem dL_law_287 : decode cL_law 287 = .ok (.aload_n 2, 1) := by decide +kernel
theorem dL_law_288 : decode cL_law 288 = .ok (.invokevirtual 39, 3) := by decide +kernel
theorem dL_law_291 : decode cL_law 291 = .ok (.if_icmp .eq 520, 3) := by decide +kernel
theorem dL_law_294 : decode cL_law 294 = .ok (.iconst 0, 1) := by decide +kernel
theorem dL_law_295 : decode cL_law 295 = .ok (.ireturn, 1) := by decide +kernel
theorem dL_law_296 : decode cL_law 296 = .ok (.aload_n 1, 1) := by decide +kernel
theorem dL_law_297 : decode cL_law 297 = .ok (.invokevirtual 40, 3) := by decide +kernel
theorem dL_law_300 : decode cL_law 300 = .ok (.aload_n 2, 1) := by decide +kernel
theorem dL_law_301 : decode cL_law 301 = .ok (.invokevirtual 43, 3) := by decide +kernel
theorem dL_law_304 : decode cL_law 304 = .ok (.if_icmp .eq 507, 3) := by decide +kernel
theorem dL_law_307 : decode cL_law 307 = .ok (.iconst 0, 1) := by decide +kernel
theorem dL_law_308 : decode cL_law 308 = .ok (.ireturn, 1) := by decide +kernel
theorem dL_law_309 : decode cL_law 309 = .ok (.aload_n 1, 1) := by decide +kernel
theorem dL_law_310 : decode cL_law 310 = .ok (.invokevirtual 44, 3) := by decide +kernel
theorem dL_law_313 : decode cL_law 313 = .ok (.aload_n 2, 1) := by decide +kernel
theorem dL_law_314 : decode cL_law 314 = .ok (.invokevirtual 47, 3) := by decide +kernel
theorem dL_law_317 : decode cL_law 317 = .ok (.if_icmp .eq 494, 3) := by decide +kernel
theorem dL_law_320 : decode cL_law 320 = .ok (.iconst 0, 1) := by decide +kernel
theorem dL_law_321 : decode cL_law 321 = .ok (.ireturn, 1) := by decide +kernel
theorem dL_law_322 : decode cL_law 322 = .ok (.aload_n 1, 1) := by decide +kernel
theorem dL_law_323 : decode cL_law 323 = .ok (.aload_n 0, 1) := by decide +kernel
theorem dL_law_324 : decode cL_law 324 = .ok (.iload_n 3, 1) := by decide +kernel
theorem dL_law_325 : decode cL_law 325 = .ok (.iconst 1, 1) := by decide +kernel
theorem dL_law_326 : decode cL_law 326 = .ok (.iadd, 1) := by decide +kernel
theorem dL_law_327 : decode cL_law 327 = .ok (.iaload, 1) := by decide +kernel
theorem dL_law_328 : decode cL_law 328 = .ok (.invokevirtual 48, 3) := by decide +kernel
theorem dL_law_331 : decode cL_law 331 = .ok (.aload_n 2, 1) := by decide +kernel
theorem dL_law_332 : decode cL_law 332 = .ok (.aload_n 0, 1) := by decide +kernel
theorem dL_law_333 : decode cL_law 333 = .ok (.iload_n 3, 1) := by decide +kernel
theorem dL_law_334 : decode cL_law 334 = .ok (.iconst 1, 1) := by decide +kernel
theorem dL_law_335 : decode cL_law 335 = .ok (.iadd, 1) := by decide +kernel
theorem dL_law_336 : decode cL_law 336 = .ok (.iaload, 1) := by decide +kernel
theorem dL_law_337 : decode cL_law 337 = .ok (.invokevirtual 51, 3) := by decide +kernel
theorem dL_law_340 : decode cL_law 340 = .ok (.if_icmp .eq 471, 3) := by decide +kernel
theorem dL_law_343 : decode cL_law 343 = .ok (.iconst 0, 1) := by decide +kernel
theorem dL_law_344 : decode cL_law 344 = .ok (.ireturn, 1) := by decide +kernel
theorem dL_law_345 : decode cL_law 345 = .ok (.aload_n 1, 1) := by decide +kernel
theorem dL_law_346 : decode cL_law 346 = .ok (.aload_n 0, 1) := by decide +kernel
theorem dL_law_347 : decode cL_law 347 = .ok (.iload_n 3, 1) := by decide +kernel
theorem dL_law_348 : decode cL_law 348 = .ok (.iconst 1, 1) := by decide +kernel
theorem dL_law_349 : decode cL_law 349 = .ok (.iadd, 1) := by decide +kernel
theorem dL_law_350 : decode cL_law 350 = .ok (.iaload, 1) := by decide +kernel
theorem dL_law_351 : decode cL_law 351 = .ok (.aload_n 0, 1) := by decide +kernel
theorem dL_law_352 : decode cL_law 352 = .ok (.iload_n 3, 1) := by decide +kernel
theorem dL_law_353 : decode cL_law 353 = .ok (.iconst 2, 1) := by decide +kernel
theorem dL_law_354 : decode cL_law 354 = .ok (.iadd, 1) := by decide +kernel
theorem dL_law_355 : decode cL_law 355 = .ok (.iaload, 1) := by decide +kernel
theorem dL_law_356 : decode cL_law 356 = .ok (.invokevirtual 52, 3) := by decide +kernel
theorem dL_law_359 : decode cL_law 359 = .ok (.aload_n 2, 1) := by decide +kernel
theorem dL_law_360 : decode cL_law 360 = .ok (.aload_n 0, 1) := by decide +kernel
theorem dL_law_361 : decode cL_law 361 = .ok (.iload_n 3, 1) := by decide +kernel
theorem dL_law_362 : decode cL_law 362 = .ok (.iconst 1, 1) := by decide +kernel
theorem dL_law_363 : decode cL_law 363 = .ok (.iadd, 1) := by decide +kernel
theorem dL_law_364 : decode cL_law 364 = .ok (.iaload, 1) := by decide +kernel
theorem dL_law_365 : decode cL_law 365 = .ok (.aload_n 0, 1) := by decide +kernel
theorem dL_law_366 : decode cL_law 366 = .ok (.iload_n 3, 1) := by decide +kernel
theorem dL_law_367 : decode cL_law 367 = .ok (.iconst 2, 1) := by decide +kernel
theorem dL_law_368 : decode cL_law 368 = .ok (.iadd, 1) := by decide +kernel
theorem dL_law_369 : decode cL_law 369 = .ok (.iaload, 1) := by decide +kernel
theorem dL_law_370 : decode cL_law 370 = .ok (.invokevirtual 56, 3) := by decide +kernel
theorem dL_law_373 : decode cL_law 373 = .ok (.if_icmp .eq 438, 3) := by decide +kernel
theorem dL_law_376 : decode cL_law 376 = .ok (.iconst 0, 1) := by decide +kernel
theorem dL_law_377 : decode cL_law 377 = .ok (.ireturn, 1) := by decide +kernel
theorem dL_law_378 : decode cL_law 378 = .ok (.aload_n 1, 1) := by decide +kernel
theorem dL_law_379 : decode cL_law 379 = .ok (.aload_n 0, 1) := by decide +kernel
theorem dL_law_380 : decode cL_law 380 = .ok (.iload_n 3, 1) := by decide +kernel
theorem dL_law_381 : decode cL_law 381 = .ok (.iconst 1, 1) := by decide +kernel
theorem dL_law_382 : decode cL_law 382 = .ok (.iadd, 1) := by decide +kernel
theorem dL_law_383 : decode cL_law 383 = .ok (.iaload, 1) := by decide +kernel
theorem dL_law_384 : decode cL_law 384 = .ok (.aload_n 0, 1) := by decide +kernel
theorem dL_law_385 : decode cL_law 385 = .ok (.iload_n 3, 1) := by decide +kernel
theorem dL_law_386 : decode cL_law 386 = .ok (.iconst 2, 1) := by decide +kernel
theorem dL_law_387 : decode cL_law 387 = .ok (.iadd, 1) := by decide +kernel
theorem dL_law_388 : decode cL_law 388 = .ok (.iaload, 1) := by decide +kernel
theorem dL_law_389 : decode cL_law 389 = .ok (.invokevirtual 57, 3) := by decide +kernel
theorem dL_law_392 : decode cL_law 392 = .ok (.aload_n 2, 1) := by decide +kernel
theorem dL_law_393 : decode cL_law 393 = .ok (.aload_n 0, 1) := by decide +kernel
theorem dL_law_394 : decode cL_law 394 = .ok (.iload_n 3, 1) := by decide +kernel
theorem dL_law_395 : decode cL_law 395 = .ok (.iconst 1, 1) := by decide +kernel
theorem dL_law_396 : decode cL_law 396 = .ok (.iadd, 1) := by decide +kernel
theorem dL_law_397 : decode cL_law 397 = .ok (.iaload, 1) := by decide +kernel
theorem dL_law_398 : decode cL_law 398 = .ok (.aload_n 0, 1) := by decide +kernel
theorem dL_law_399 : decode cL_law 399 = .ok (.iload_n 3, 1) := by decide +kernel
theorem dL_law_400 : decode cL_law 400 = .ok (.iconst 2, 1) := by decide +kernel
theorem dL_law_401 : decode cL_law 401 = .ok (.iadd, 1) := by decide +kernel
theorem dL_law_402 : decode cL_law 402 = .ok (.iaload, 1) := by decide +kernel
theorem dL_law_403 : decode cL_law 403 = .ok (.invokevirtual 60, 3) := by decide +kernel
theorem dL_law_406 : decode cL_law 406 = .ok (.if_icmp .eq 405, 3) := by decide +kernel
theorem dL_law_409 : decode cL_law 409 = .ok (.iconst 0, 1) := by decide +kernel
theorem dL_law_410 : decode cL_law 410 = .ok (.ireturn, 1) := by decide +kernel
theorem dL_law_411 : decode cL_law 411 = .ok (.aload_n 1, 1) := by decide +kernel
theorem dL_law_412 : decode cL_law 412 = .ok (.aload_n 0, 1) := by decide +kernel
theorem dL_law_413 : decode cL_law 413 = .ok (.iload_n 3, 1) := by decide +kernel
theorem dL_law_414 : decode cL_law 414 = .ok (.iconst 1, 1) := by decide +kernel
theorem dL_law_415 : decode cL_law 415 = .ok (.iadd, 1) := by decide +kernel
theorem dL_law_416 : decode cL_law 416 = .ok (.iaload, 1) := by decide +kernel
theorem dL_law_417 : decode cL_law 417 = .ok (.aload_n 0, 1) := by decide +kernel
theorem dL_law_418 : decode cL_law 418 = .ok (.iload_n 3, 1) := by decide +kernel
theorem dL_law_419 : decode cL_law 419 = .ok (.iconst 2, 1) := by decide +kernel
theorem dL_law_420 : decode cL_law 420 = .ok (.iadd, 1) := by decide +kernel
theorem dL_law_421 : decode cL_law 421 = .ok (.iaload, 1) := by decide +kernel
theorem dL_law_422 : decode cL_law 422 = .ok (.aload_n 0, 1) := by decide +kernel
theorem dL_law_423 : decode cL_law 423 = .ok (.iload_n 3, 1) := by decide +kernel
theorem dL_law_424 : decode cL_law 424 = .ok (.iconst 3, 1) := by decide +kernel
theorem dL_law_425 : decode cL_law 425 = .ok (.iadd, 1) := by decide +kernel
theorem dL_law_426 : decode cL_law 426 = .ok (.iaload, 1) := by decide +kernel
theorem dL_law_427 : decode cL_law 427 = .ok (.invokevirtual 61, 3) := by decide +kernel
theorem dL_law_430 : decode cL_law 430 = .ok (.aload_n 2, 1) := by decide +kernel
theorem dL_law_431 : decode cL_law 431 = .ok (.aload_n 0, 1) := by decide +kernel
theorem dL_law_432 : decode cL_law 432 = .ok (.iload_n 3, 1) := by decide +kernel
theorem dL_law_433 : decode cL_law 433 = .ok (.iconst 1, 1) := by decide +kernel
theorem dL_law_434 : decode cL_law 434 = .ok (.iadd, 1) := by decide +kernel
theorem dL_law_435 : decode cL_law 435 = .ok (.iaload, 1) := by decide +kernel
theorem dL_law_436 : decode cL_law 436 = .ok (.aload_n 0, 1) := by decide +kernel
theorem dL_law_437 : decode cL_law 437 = .ok (.iload_n 3, 1) := by decide +kernel
theorem dL_law_438 : decode cL_law 438 = .ok (.iconst 2, 1) := by decide +kernel
theorem dL_law_439 : decode cL_law 439 = .ok (.iadd, 1) := by decide +kernel
theorem dL_law_440 : decode cL_law 440 = .ok (.iaload, 1) := by decide +kernel
theorem dL_law_441 : decode cL_law 441 = .ok (.aload_n 0, 1) := by decide +kernel
theorem dL_law_442 : decode cL_law 442 = .ok (.iload_n 3, 1) := by decide +kernel
theorem dL_law_443 : decode cL_law 443 = .ok (.iconst 3, 1) := by decide +kernel
theorem dL_law_444 : decode cL_law 444 = .ok (.iadd, 1) := by decide +kernel
theorem dL_law_445 : decode cL_law 445 = .ok (.iaload, 1) := by decide +kernel
theorem dL_law_446 : decode cL_law 446 = .ok (.invokevirtual 64, 3) := by decide +kernel
theorem dL_law_449 : decode cL_law 449 = .ok (.if_icmp .eq 362, 3) := by decide +kernel
theorem dL_law_452 : decode cL_law 452 = .ok (.iconst 0, 1) := by decide +kernel
theorem dL_law_453 : decode cL_law 453 = .ok (.ireturn, 1) := by decide +kernel
theorem dL_law_454 : decode cL_law 454 = .ok (.aload_n 1, 1) := by decide +kernel
theorem dL_law_455 : decode cL_law 455 = .ok (.aload_n 0, 1) := by decide +kernel
theorem dL_law_456 : decode cL_law 456 = .ok (.iload_n 3, 1) := by decide +kernel
theorem dL_law_457 : decode cL_law 457 = .ok (.iconst 1, 1) := by decide +kernel
theorem dL_law_458 : decode cL_law 458 = .ok (.iadd, 1) := by decide +kernel
theorem dL_law_459 : decode cL_law 459 = .ok (.iaload, 1) := by decide +kernel
theorem dL_law_460 : decode cL_law 460 = .ok (.aload_n 0, 1) := by decide +kernel
theorem dL_law_461 : decode cL_law 461 = .ok (.iload_n 3, 1) := by decide +kernel
theorem dL_law_462 : decode cL_law 462 = .ok (.iconst 2, 1) := by decide +kernel
theorem dL_law_463 : decode cL_law 463 = .ok (.iadd, 1) := by decide +kernel
theorem dL_law_464 : decode cL_law 464 = .ok (.iaload, 1) := by decide +kernel
theorem dL_law_465 : decode cL_law 465 = .ok (.invokevirtual 65, 3) := by decide +kernel
theorem dL_law_468 : decode cL_law 468 = .ok (.aload_n 2, 1) := by decide +kernel
theorem dL_law_469 : decode cL_law 469 = .ok (.aload_n 0, 1) := by decide +kernel
theorem dL_law_470 : decode cL_law 470 = .ok (.iload_n 3, 1) := by decide +kernel
theorem dL_law_471 : decode cL_law 471 = .ok (.iconst 1, 1) := by decide +kernel
theorem dL_law_472 : decode cL_law 472 = .ok (.iadd, 1) := by decide +kernel
theorem dL_law_473 : decode cL_law 473 = .ok (.iaload, 1) := by decide +kernel
theorem dL_law_474 : decode cL_law 474 = .ok (.aload_n 0, 1) := by decide +kernel
theorem dL_law_475 : decode cL_law 475 = .ok (.iload_n 3, 1) := by decide +kernel
theorem dL_law_476 : decode cL_law 476 = .ok (.iconst 2, 1) := by decide +kernel
theorem dL_law_477 : decode cL_law 477 = .ok (.iadd, 1) := by decide +kernel
theorem dL_law_478 : decode cL_law 478 = .ok (.iaload, 1) := by decide +kernel
theorem dL_law_479 : decode cL_law 479 = .ok (.invokevirtual 68, 3) := by decide +kernel
theorem dL_law_482 : decode cL_law 482 = .ok (.if_icmp .eq 329, 3) := by decide +kernel
theorem dL_law_485 : decode cL_law 485 = .ok (.iconst 0, 1) := by decide +kernel
theorem dL_law_486 : decode cL_law 486 = .ok (.ireturn, 1) := by decide +kernel
theorem dL_law_487 : decode cL_law 487 = .ok (.aload_n 1, 1) := by decide +kernel
theorem dL_law_488 : decode cL_law 488 = .ok (.aload_n 0, 1) := by decide +kernel
theorem dL_law_489 : decode cL_law 489 = .ok (.iload_n 3, 1) := by decide +kernel
theorem dL_law_490 : decode cL_law 490 = .ok (.iconst 1, 1) := by decide +kernel
theorem dL_law_491 : decode cL_law 491 = .ok (.iadd, 1) := by decide +kernel
theorem dL_law_492 : decode cL_law 492 = .ok (.iaload, 1) := by decide +kernel
theorem dL_law_493 : decode cL_law 493 = .ok (.invokevirtual 69, 3) := by decide +kernel
theorem dL_law_496 : decode cL_law 496 = .ok (.aload_n 2, 1) := by decide +kernel
theorem dL_law_497 : decode cL_law 497 = .ok (.aload_n 0, 1) := by decide +kernel
theorem dL_law_498 : decode cL_law 498 = .ok (.iload_n 3, 1) := by decide +kernel
theorem dL_law_499 : decode cL_law 499 = .ok (.iconst 1, 1) := by decide +kernel
theorem dL_law_500 : decode cL_law 500 = .ok (.iadd, 1) := by decide +kernel
theorem dL_law_501 : decode cL_law 501 = .ok (.iaload, 1) := by decide +kernel
theorem dL_law_502 : decode cL_law 502 = .ok (.invokevirtual 72, 3) := by decide +kernel
theorem dL_law_505 : decode cL_law 505 = .ok (.if_icmp .eq 306, 3) := by decide +kernel
theorem dL_law_508 : decode cL_law 508 = .ok (.iconst 0, 1) := by decide +kernel
theorem dL_law_509 : decode cL_law 509 = .ok (.ireturn, 1) := by decide +kernel
theorem dL_law_510 : decode cL_law 510 = .ok (.aload_n 1, 1) := by decide +kernel
theorem dL_law_511 : decode cL_law 511 = .ok (.aload_n 0, 1) := by decide +kernel
theorem dL_law_512 : decode cL_law 512 = .ok (.iload_n 3, 1) := by decide +kernel
theorem dL_law_513 : decode cL_law 513 = .ok (.iconst 1, 1) := by decide +kernel
theorem dL_law_514 : decode cL_law 514 = .ok (.iadd, 1) := by decide +kernel
theorem dL_law_515 : decode cL_law 515 = .ok (.iaload, 1) := by decide +kernel
theorem dL_law_516 : decode cL_law 516 = .ok (.aload_n 0, 1) := by decide +kernel
theorem dL_law_517 : decode cL_law 517 = .ok (.iload_n 3, 1) := by decide +kernel
theorem dL_law_518 : decode cL_law 518 = .ok (.iconst 2, 1) := by decide +kernel
theorem dL_law_519 : decode cL_law 519 = .ok (.iadd, 1) := by decide +kernel
theorem dL_law_520 : decode cL_law 520 = .ok (.iaload, 1) := by decide +kernel
theorem dL_law_521 : decode cL_law 521 = .ok (.invokevirtual 73, 3) := by decide +kernel
theorem dL_law_524 : decode cL_law 524 = .ok (.aload_n 2, 1) := by decide +kernel
theorem dL_law_525 : decode cL_law 525 = .ok (.aload_n 0, 1) := by decide +kernel
theorem dL_law_526 : decode cL_law 526 = .ok (.iload_n 3, 1) := by decide +kernel
theorem dL_law_527 : decode cL_law 527 = .ok (.iconst 1, 1) := by decide +kernel
theorem dL_law_528 : decode cL_law 528 = .ok (.iadd, 1) := by decide +kernel
theorem dL_law_529 : decode cL_law 529 = .ok (.iaload, 1) := by decide +kernel
theorem dL_law_530 : decode cL_law 530 = .ok (.aload_n 0, 1) := by decide +kernel
theorem dL_law_531 : decode cL_law 531 = .ok (.iload_n 3, 1) := by decide +kernel
theorem dL_law_532 : decode cL_law 532 = .ok (.iconst 2, 1) := by decide +kernel
theorem dL_law_533 : decode cL_law 533 = .ok (.iadd, 1) := by decide +kernel
theorem dL_law_534 : decode cL_law 534 = .ok (.iaload, 1) := by decide +kernel
theorem dL_law_535 : decode cL_law 535 = .ok (.invokevirtual 76, 3) := by decide +kernel
theorem dL_law_538 : decode cL_law 538 = .ok (.if_icmp .eq 273, 3) := by decide +kernel
theorem dL_law_541 : decode cL_law 541 = .ok (.iconst 0, 1) := by decide +kernel
theorem dL_law_542 : decode cL_law 542 = .ok (.ireturn, 1) := by decide +kernel
theorem dL_law_543 : decode cL_law 543 = .ok (.aload_n 1, 1) := by decide +kernel
theorem dL_law_544 : decode cL_law 544 = .ok (.aload_n 0, 1) := by decide +kernel
theorem dL_law_545 : decode cL_law 545 = .ok (.iload_n 3, 1) := by decide +kernel
theorem dL_law_546 : decode cL_law 546 = .ok (.iconst 1, 1) := by decide +kernel
theorem dL_law_547 : decode cL_law 547 = .ok (.iadd, 1) := by decide +kernel
theorem dL_law_548 : decode cL_law 548 = .ok (.iaload, 1) := by decide +kernel
theorem dL_law_549 : decode cL_law 549 = .ok (.aload_n 0, 1) := by decide +kernel
theorem dL_law_550 : decode cL_law 550 = .ok (.iload_n 3, 1) := by decide +kernel
theorem dL_law_551 : decode cL_law 551 = .ok (.iconst 2, 1) := by decide +kernel
theorem dL_law_552 : decode cL_law 552 = .ok (.iadd, 1) := by decide +kernel
theorem dL_law_553 : decode cL_law 553 = .ok (.iaload, 1) := by decide +kernel
theorem dL_law_554 : decode cL_law 554 = .ok (.invokevirtual 77, 3) := by decide +kernel
theorem dL_law_557 : decode cL_law 557 = .ok (.aload_n 2, 1) := by decide +kernel
theorem dL_law_558 : decode cL_law 558 = .ok (.aload_n 0, 1) := by decide +kernel
theorem dL_law_559 : decode cL_law 559 = .ok (.iload_n 3, 1) := by decide +kernel
theorem dL_law_560 : decode cL_law 560 = .ok (.iconst 1, 1) := by decide +kernel
theorem dL_law_561 : decode cL_law 561 = .ok (.iadd, 1) := by decide +kernel
theorem dL_law_562 : decode cL_law 562 = .ok (.iaload, 1) := by decide +kernel
theorem dL_law_563 : decode cL_law 563 = .ok (.aload_n 0, 1) := by decide +kernel
theorem dL_law_564 : decode cL_law 564 = .ok (.iload_n 3, 1) := by decide +kernel
theorem dL_law_565 : decode cL_law 565 = .ok (.iconst 2, 1) := by decide +kernel
theorem dL_law_566 : decode cL_law 566 = .ok (.iadd, 1) := by decide +kernel
theorem dL_law_567 : decode cL_law 567 = .ok (.iaload, 1) := by decide +kernel
theorem dL_law_568 : decode cL_law 568 = .ok (.invokevirtual 80, 3) := by decide +kernel
theorem dL_law_571 : decode cL_law 571 = .ok (.if_icmp .eq 240, 3) := by decide +kernel
theorem dL_law_574 : decode cL_law 574 = .ok (.iconst 0, 1) := by decide +kernel
theorem dL_law_575 : decode cL_law 575 = .ok (.ireturn, 1) := by decide +kernel
theorem dL_law_576 : decode cL_law 576 = .ok (.aload_n 1, 1) := by decide +kernel
theorem dL_law_577 : decode cL_law 577 = .ok (.aload_n 0, 1) := by decide +kernel
theorem dL_law_578 : decode cL_law 578 = .ok (.iload_n 3, 1) := by decide +kernel
theorem dL_law_579 : decode cL_law 579 = .ok (.iconst 1, 1) := by decide +kernel
theorem dL_law_580 : decode cL_law 580 = .ok (.iadd, 1) := by decide +kernel
theorem dL_law_581 : decode cL_law 581 = .ok (.iaload, 1) := by decide +kernel
theorem dL_law_582 : decode cL_law 582 = .ok (.invokevirtual 81, 3) := by decide +kernel
theorem dL_law_585 : decode cL_law 585 = .ok (.aload_n 2, 1) := by decide +kernel
theorem dL_law_586 : decode cL_law 586 = .ok (.aload_n 0, 1) := by decide +kernel
theorem dL_law_587 : decode cL_law 587 = .ok (.iload_n 3, 1) := by decide +kernel
theorem dL_law_588 : decode cL_law 588 = .ok (.iconst 1, 1) := by decide +kernel
theorem dL_law_589 : decode cL_law 589 = .ok (.iadd, 1) := by decide +kernel
theorem dL_law_590 : decode cL_law 590 = .ok (.iaload, 1) := by decide +kernel
theorem dL_law_591 : decode cL_law 591 = .ok (.invokevirtual 84, 3) := by decide +kernel
theorem dL_law_594 : decode cL_law 594 = .ok (.if_icmp .eq 217, 3) := by decide +kernel
theorem dL_law_597 : decode cL_law 597 = .ok (.iconst 0, 1) := by decide +kernel
theorem dL_law_598 : decode cL_law 598 = .ok (.ireturn, 1) := by decide +kernel
theorem dL_law_599 : decode cL_law 599 = .ok (.aload_n 1, 1) := by decide +kernel
theorem dL_law_600 : decode cL_law 600 = .ok (.aload_n 0, 1) := by decide +kernel
theorem dL_law_601 : decode cL_law 601 = .ok (.iload_n 3, 1) := by decide +kernel
theorem dL_law_602 : decode cL_law 602 = .ok (.iconst 1, 1) := by decide +kernel
theorem dL_law_603 : decode cL_law 603 = .ok (.iadd, 1) := by decide +kernel
theorem dL_law_604 : decode cL_law 604 = .ok (.iaload, 1) := by decide +kernel
theorem dL_law_605 : decode cL_law 605 = .ok (.aload_n 0, 1) := by decide +kernel
theorem dL_law_606 : decode cL_law 606 = .ok (.iload_n 3, 1) := by decide +kernel
theorem dL_law_607 : decode cL_law 607 = .ok (.iconst 2, 1) := by decide +kernel
theorem dL_law_608 : decode cL_law 608 = .ok (.iadd, 1) := by decide +kernel
theorem dL_law_609 : decode cL_law 609 = .ok (.iaload, 1) := by decide +kernel
theorem dL_law_610 : decode cL_law 610 = .ok (.aload_n 0, 1) := by decide +kernel
theorem dL_law_611 : decode cL_law 611 = .ok (.iload_n 3, 1) := by decide +kernel
theorem dL_law_612 : decode cL_law 612 = .ok (.iconst 3, 1) := by decide +kernel
theorem dL_law_613 : decode cL_law 613 = .ok (.iadd, 1) := by decide +kernel
theorem dL_law_614 : decode cL_law 614 = .ok (.iaload, 1) := by decide +kernel
theorem dL_law_615 : decode cL_law 615 = .ok (.invokevirtual 85, 3) := by decide +kernel
theorem dL_law_618 : decode cL_law 618 = .ok (.aload_n 2, 1) := by decide +kernel
theorem dL_law_619 : decode cL_law 619 = .ok (.aload_n 0, 1) := by decide +kernel
theorem dL_law_620 : decode cL_law 620 = .ok (.iload_n 3, 1) := by decide +kernel
theorem dL_law_621 : decode cL_law 621 = .ok (.iconst 1, 1) := by decide +kernel
theorem dL_law_622 : decode cL_law 622 = .ok (.iadd, 1) := by decide +kernel
theorem dL_law_623 : decode cL_law 623 = .ok (.iaload, 1) := by decide +kernel
theorem dL_law_624 : decode cL_law 624 = .ok (.aload_n 0, 1) := by decide +kernel
theorem dL_law_625 : decode cL_law 625 = .ok (.iload_n 3, 1) := by decide +kernel
theorem dL_law_626 : decode cL_law 626 = .ok (.iconst 2, 1) := by decide +kernel
theorem dL_law_627 : decode cL_law 627 = .ok (.iadd, 1) := by decide +kernel
theorem dL_law_628 : decode cL_law 628 = .ok (.iaload, 1) := by decide +kernel
theorem dL_law_629 : decode cL_law 629 = .ok (.aload_n 0, 1) := by decide +kernel
theorem dL_law_630 : decode cL_law 630 = .ok (.iload_n 3, 1) := by decide +kernel
theorem dL_law_631 : decode cL_law 631 = .ok (.iconst 3, 1) := by decide +kernel
theorem dL_law_632 : decode cL_law 632 = .ok (.iadd, 1) := by decide +kernel
theorem dL_law_633 : decode cL_law 633 = .ok (.iaload, 1) := by decide +kernel
theorem dL_law_634 : decode cL_law 634 = .ok (.invokevirtual 88, 3) := by decide +kernel
theorem dL_law_637 : decode cL_law 637 = .ok (.if_icmp .eq 174, 3) := by decide +kernel
theorem dL_law_640 : decode cL_law 640 = .ok (.iconst 0, 1) := by decide +kernel
theorem dL_law_641 : decode cL_law 641 = .ok (.ireturn, 1) := by decide +kernel
theorem dL_law_642 : decode cL_law 642 = .ok (.aload_n 1, 1) := by decide +kernel
theorem dL_law_643 : decode cL_law 643 = .ok (.aload_n 0, 1) := by decide +kernel
theorem dL_law_644 : decode cL_law 644 = .ok (.iload_n 3, 1) := by decide +kernel
theorem dL_law_645 : decode cL_law 645 = .ok (.iconst 1, 1) := by decide +kernel
theorem dL_law_646 : decode cL_law 646 = .ok (.iadd, 1) := by decide +kernel
theorem dL_law_647 : decode cL_law 647 = .ok (.iaload, 1) := by decide +kernel
theorem dL_law_648 : decode cL_law 648 = .ok (.invokevirtual 89, 3) := by decide +kernel
theorem dL_law_651 : decode cL_law 651 = .ok (.aload_n 2, 1) := by decide +kernel
theorem dL_law_652 : decode cL_law 652 = .ok (.aload_n 0, 1) := by decide +kernel
theorem dL_law_653 : decode cL_law 653 = .ok (.iload_n 3, 1) := by decide +kernel
theorem dL_law_654 : decode cL_law 654 = .ok (.iconst 1, 1) := by decide +kernel
theorem dL_law_655 : decode cL_law 655 = .ok (.iadd, 1) := by decide +kernel
theorem dL_law_656 : decode cL_law 656 = .ok (.iaload, 1) := by decide +kernel
theorem dL_law_657 : decode cL_law 657 = .ok (.invokevirtual 92, 3) := by decide +kernel
theorem dL_law_660 : decode cL_law 660 = .ok (.if_icmp .eq 151, 3) := by decide +kernel
theorem dL_law_663 : decode cL_law 663 = .ok (.iconst 0, 1) := by decide +kernel
theorem dL_law_664 : decode cL_law 664 = .ok (.ireturn, 1) := by decide +kernel
theorem dL_law_665 : decode cL_law 665 = .ok (.aload_n 1, 1) := by decide +kernel
theorem dL_law_666 : decode cL_law 666 = .ok (.aload_n 0, 1) := by decide +kernel
theorem dL_law_667 : decode cL_law 667 = .ok (.iload_n 3, 1) := by decide +kernel
theorem dL_law_668 : decode cL_law 668 = .ok (.iconst 1, 1) := by decide +kernel
theorem dL_law_669 : decode cL_law 669 = .ok (.iadd, 1) := by decide +kernel
theorem dL_law_670 : decode cL_law 670 = .ok (.iaload, 1) := by decide +kernel
theorem dL_law_671 : decode cL_law 671 = .ok (.aload_n 0, 1) := by decide +kernel
theorem dL_law_672 : decode cL_law 672 = .ok (.iload_n 3, 1) := by decide +kernel
theorem dL_law_673 : decode cL_law 673 = .ok (.iconst 2, 1) := by decide +kernel
theorem dL_law_674 : decode cL_law 674 = .ok (.iadd, 1) := by decide +kernel
theorem dL_law_675 : decode cL_law 675 = .ok (.iaload, 1) := by decide +kernel
theorem dL_law_676 : decode cL_law 676 = .ok (.invokevirtual 93, 3) := by decide +kernel
theorem dL_law_679 : decode cL_law 679 = .ok (.aload_n 2, 1) := by decide +kernel
theorem dL_law_680 : decode cL_law 680 = .ok (.aload_n 0, 1) := by decide +kernel
theorem dL_law_681 : decode cL_law 681 = .ok (.iload_n 3, 1) := by decide +kernel
theorem dL_law_682 : decode cL_law 682 = .ok (.iconst 1, 1) := by decide +kernel
theorem dL_law_683 : decode cL_law 683 = .ok (.iadd, 1) := by decide +kernel
theorem dL_law_684 : decode cL_law 684 = .ok (.iaload, 1) := by decide +kernel
theorem dL_law_685 : decode cL_law 685 = .ok (.aload_n 0, 1) := by decide +kernel
theorem dL_law_686 : decode cL_law 686 = .ok (.iload_n 3, 1) := by decide +kernel
theorem dL_law_687 : decode cL_law 687 = .ok (.iconst 2, 1) := by decide +kernel
theorem dL_law_688 : decode cL_law 688 = .ok (.iadd, 1) := by decide +kernel
theorem dL_law_689 : decode cL_law 689 = .ok (.iaload, 1) := by decide +kernel
theorem dL_law_690 : decode cL_law 690 = .ok (.invokevirtual 96, 3) := by decide +kernel
theorem dL_law_693 : decode cL_law 693 = .ok (.if_icmp .eq 118, 3) := by decide +kernel
theorem dL_law_696 : decode cL_law 696 = .ok (.iconst 0, 1) := by decide +kernel
theorem dL_law_697 : decode cL_law 697 = .ok (.ireturn, 1) := by decide +kernel
theorem dL_law_698 : decode cL_law 698 = .ok (.aload_n 1, 1) := by decide +kernel
theorem dL_law_699 : decode cL_law 699 = .ok (.invokevirtual 97, 3) := by decide +kernel
theorem dL_law_702 : decode cL_law 702 = .ok (.dstore 4, 2) := by decide +kernel
theorem dL_law_704 : decode cL_law 704 = .ok (.aload_n 2, 1) := by decide +kernel
theorem dL_law_705 : decode cL_law 705 = .ok (.invokevirtual 101, 3) := by decide +kernel
theorem dL_law_708 : decode cL_law 708 = .ok (.dstore 6, 2) := by decide +kernel
theorem dL_law_710 : decode cL_law 710 = .ok (.dload 4, 2) := by decide +kernel
theorem dL_law_712 : decode cL_law 712 = .ok (.dload 6, 2) := by decide +kernel
theorem dL_law_714 : decode cL_law 714 = .ok (.dcmp .l, 1) := by decide +kernel
theorem dL_law_715 : decode cL_law 715 = .ok (.ifCond .eq 21, 3) := by decide +kernel
theorem dL_law_718 : decode cL_law 718 = .ok (.dload 4, 2) := by decide +kernel
theorem dL_law_720 : decode cL_law 720 = .ok (.dload 4, 2) := by decide +kernel
theorem dL_law_722 : decode cL_law 722 = .ok (.dcmp .l, 1) := by decide +kernel
theorem dL_law_723 : decode cL_law 723 = .ok (.ifCond .eq 11, 3) := by decide +kernel
theorem dL_law_726 : decode cL_law 726 = .ok (.dload 6, 2) := by decide +kernel
theorem dL_law_728 : decode cL_law 728 = .ok (.dload 6, 2) := by decide +kernel
theorem dL_law_730 : decode cL_law 730 = .ok (.dcmp .l, 1) := by decide +kernel
theorem dL_law_731 : decode cL_law 731 = .ok (.ifCond .ne 5, 3) := by decide +kernel
theorem dL_law_734 : decode cL_law 734 = .ok (.iconst 0, 1) := by decide +kernel
theorem dL_law_735 : decode cL_law 735 = .ok (.ireturn, 1) := by decide +kernel
theorem dL_law_736 : decode cL_law 736 = .ok (.goto 75, 3) := by decide +kernel
theorem dL_law_739 : decode cL_law 739 = .ok (.aload_n 1, 1) := by decide +kernel
theorem dL_law_740 : decode cL_law 740 = .ok (.aload_n 0, 1) := by decide +kernel
theorem dL_law_741 : decode cL_law 741 = .ok (.iload_n 3, 1) := by decide +kernel
theorem dL_law_742 : decode cL_law 742 = .ok (.iconst 1, 1) := by decide +kernel
theorem dL_law_743 : decode cL_law 743 = .ok (.iadd, 1) := by decide +kernel
theorem dL_law_744 : decode cL_law 744 = .ok (.iaload, 1) := by decide +kernel
theorem dL_law_745 : decode cL_law 745 = .ok (.aload_n 0, 1) := by decide +kernel
theorem dL_law_746 : decode cL_law 746 = .ok (.iload_n 3, 1) := by decide +kernel
theorem dL_law_747 : decode cL_law 747 = .ok (.iconst 2, 1) := by decide +kernel
theorem dL_law_748 : decode cL_law 748 = .ok (.iadd, 1) := by decide +kernel
theorem dL_law_749 : decode cL_law 749 = .ok (.iaload, 1) := by decide +kernel
theorem dL_law_750 : decode cL_law 750 = .ok (.invokevirtual 102, 3) := by decide +kernel
theorem dL_law_753 : decode cL_law 753 = .ok (.aload_n 2, 1) := by decide +kernel
theorem dL_law_754 : decode cL_law 754 = .ok (.aload_n 0, 1) := by decide +kernel
theorem dL_law_755 : decode cL_law 755 = .ok (.iload_n 3, 1) := by decide +kernel
theorem dL_law_756 : decode cL_law 756 = .ok (.iconst 1, 1) := by decide +kernel
theorem dL_law_757 : decode cL_law 757 = .ok (.iadd, 1) := by decide +kernel
theorem dL_law_758 : decode cL_law 758 = .ok (.iaload, 1) := by decide +kernel
theorem dL_law_759 : decode cL_law 759 = .ok (.aload_n 0, 1) := by decide +kernel
theorem dL_law_760 : decode cL_law 760 = .ok (.iload_n 3, 1) := by decide +kernel
theorem dL_law_761 : decode cL_law 761 = .ok (.iconst 2, 1) := by decide +kernel
theorem dL_law_762 : decode cL_law 762 = .ok (.iadd, 1) := by decide +kernel
theorem dL_law_763 : decode cL_law 763 = .ok (.iaload, 1) := by decide +kernel
theorem dL_law_764 : decode cL_law 764 = .ok (.invokevirtual 105, 3) := by decide +kernel
theorem dL_law_767 : decode cL_law 767 = .ok (.if_icmp .eq 44, 3) := by decide +kernel
theorem dL_law_770 : decode cL_law 770 = .ok (.iconst 0, 1) := by decide +kernel
theorem dL_law_771 : decode cL_law 771 = .ok (.ireturn, 1) := by decide +kernel
theorem dL_law_772 : decode cL_law 772 = .ok (.aload_n 1, 1) := by decide +kernel
theorem dL_law_773 : decode cL_law 773 = .ok (.invokevirtual 106, 3) := by decide +kernel
theorem dL_law_776 : decode cL_law 776 = .ok (.aload_n 2, 1) := by decide +kernel
theorem dL_law_777 : decode cL_law 777 = .ok (.invokevirtual 109, 3) := by decide +kernel
theorem dL_law_780 : decode cL_law 780 = .ok (.if_icmp .eq 31, 3) := by decide +kernel
theorem dL_law_783 : decode cL_law 783 = .ok (.iconst 0, 1) := by decide +kernel
theorem dL_law_784 : decode cL_law 784 = .ok (.ireturn, 1) := by decide +kernel
theorem dL_law_785 : decode cL_law 785 = .ok (.aload_n 1, 1) := by decide +kernel
theorem dL_law_786 : decode cL_law 786 = .ok (.invokevirtual 110, 3) := by decide +kernel
theorem dL_law_789 : decode cL_law 789 = .ok (.aload_n 2, 1) := by decide +kernel
theorem dL_law_790 : decode cL_law 790 = .ok (.invokevirtual 113, 3) := by decide +kernel
theorem dL_law_793 : decode cL_law 793 = .ok (.if_icmp .eq 18, 3) := by decide +kernel
theorem dL_law_796 : decode cL_law 796 = .ok (.iconst 0, 1) := by decide +kernel
theorem dL_law_797 : decode cL_law 797 = .ok (.ireturn, 1) := by decide +kernel
theorem dL_law_798 : decode cL_law 798 = .ok (.aload_n 1, 1) := by decide +kernel
theorem dL_law_799 : decode cL_law 799 = .ok (.invokevirtual 114, 3) := by decide +kernel
theorem dL_law_802 : decode cL_law 802 = .ok (.aload_n 2, 1) := by decide +kernel
theorem dL_law_803 : decode cL_law 803 = .ok (.invokevirtual 117, 3) := by decide +kernel
theorem dL_law_806 : decode cL_law 806 = .ok (.if_icmp .eq 5, 3) := by decide +kernel
theorem dL_law_809 : decode cL_law 809 = .ok (.iconst 0, 1) := by decide +kernel
theorem dL_law_810 : decode cL_law 810 = .ok (.ireturn, 1) := by decide +kernel
theorem dL_law_811 : decode cL_law 811 = .ok (.iinc 3 4, 3) := by decide +kernel
theorem dL_law_814 : decode cL_law 814 = .ok (.goto (-796), 3) := by decide +kernel
theorem dL_law_817 : decode cL_law 817 = .ok (.iconst 1, 1) := by decide +kernel
theorem dL_law_818 : decode cL_law 818 = .ok (.ireturn, 1) := by decide +kernel
