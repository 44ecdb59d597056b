theorem dX9_found_0 : decode cX9_found 0 = .ok (.aload_n 0, 1) := by decide +kernel
theorem dX9_found_1 : decode cX9_found 1 = .ok (.getfield 25, 3) := by decide +kernel
theorem dX9_found_4 : decode cX9_found 4 = .ok (.aload_n 0, 1) := by decide +kernel
theorem dX9_found_5 : decode cX9_found 5 = .ok (.getfield 10, 3) := by decide +kernel
theorem dX9_found_8 : decode cX9_found 8 = .ok (.invokevirtual 57, 3) := by decide +kernel
theorem dX9_found_11 : decode cX9_found 11 = .ok (.aload_n 0, 1) := by decide +kernel
theorem dX9_found_12 : decode cX9_found 12 = .ok (.aload_n 0, 1) := by decide +kernel
theorem dX9_found_13 : decode cX9_found 13 = .ok (.getfield 10, 3) := by decide +kernel
theorem dX9_found_16 : decode cX9_found 16 = .ok (.iload_n 1, 1) := by decide +kernel
theorem dX9_found_17 : decode cX9_found 17 = .ok (.invokevirtual 61, 3) := by decide +kernel
theorem dX9_found_20 : decode cX9_found 20 = .ok (.invokevirtual 65, 3) := by decide +kernel
theorem dX9_found_23 : decode cX9_found 23 = .ok (.ireturn, 1) := by decide +kernel
theorem dX9_bear_0 : decode cX9_bear 0 = .ok (.aload_n 0, 1) := by decide +kernel
theorem dX9_bear_1 : decode cX9_bear 1 = .ok (.getfield 25, 3) := by decide +kernel
theorem dX9_bear_4 : decode cX9_bear 4 = .ok (.aload_n 0, 1) := by decide +kernel
theorem dX9_bear_5 : decode cX9_bear 5 = .ok (.getfield 10, 3) := by decide +kernel
theorem dX9_bear_8 : decode cX9_bear 8 = .ok (.invokevirtual 57, 3) := by decide +kernel
theorem dX9_bear_11 : decode cX9_bear 11 = .ok (.aload_n 0, 1) := by decide +kernel
theorem dX9_bear_12 : decode cX9_bear 12 = .ok (.aload_n 0, 1) := by decide +kernel
theorem dX9_bear_13 : decode cX9_bear 13 = .ok (.getfield 10, 3) := by decide +kernel
theorem dX9_bear_16 : decode cX9_bear 16 = .ok (.iload_n 1, 1) := by decide +kernel
theorem dX9_bear_17 : decode cX9_bear 17 = .ok (.iload_n 2, 1) := by decide +kernel
theorem dX9_bear_18 : decode cX9_bear 18 = .ok (.iload_n 3, 1) := by decide +kernel
theorem dX9_bear_19 : decode cX9_bear 19 = .ok (.invokevirtual 68, 3) := by decide +kernel
theorem dX9_bear_22 : decode cX9_bear 22 = .ok (.invokevirtual 65, 3) := by decide +kernel
theorem dX9_bear_25 : decode cX9_bear 25 = .ok (.ireturn, 1) := by decide +kernel
theorem dX9_die_0 : decode cX9_die 0 = .ok (.aload_n 0, 1) := by decide +kernel
theorem dX9_die_1 : decode cX9_die 1 = .ok (.getfield 25, 3) := by decide +kernel
theorem dX9_die_4 : decode cX9_die 4 = .ok (.aload_n 0, 1) := by decide +kernel
theorem dX9_die_5 : decode cX9_die 5 = .ok (.getfield 10, 3) := by decide +kernel
theorem dX9_die_8 : decode cX9_die 8 = .ok (.invokevirtual 57, 3) := by decide +kernel
theorem dX9_die_11 : decode cX9_die 11 = .ok (.aload_n 0, 1) := by decide +kernel
theorem dX9_die_12 : decode cX9_die 12 = .ok (.aload_n 0, 1) := by decide +kernel
theorem dX9_die_13 : decode cX9_die 13 = .ok (.getfield 10, 3) := by decide +kernel
theorem dX9_die_16 : decode cX9_die 16 = .ok (.iload_n 1, 1) := by decide +kernel
theorem dX9_die_17 : decode cX9_die 17 = .ok (.invokevirtual 72, 3) := by decide +kernel
theorem dX9_die_20 : decode cX9_die 20 = .ok (.invokevirtual 65, 3) := by decide +kernel
theorem dX9_die_23 : decode cX9_die 23 = .ok (.ireturn, 1) := by decide +kernel
theorem dX9_inherit_0 : decode cX9_inherit 0 = .ok (.aload_n 0, 1) := by decide +kernel
theorem dX9_inherit_1 : decode cX9_inherit 1 = .ok (.getfield 25, 3) := by decide +kernel
theorem dX9_inherit_4 : decode cX9_inherit 4 = .ok (.aload_n 0, 1) := by decide +kernel
theorem dX9_inherit_5 : decode cX9_inherit 5 = .ok (.getfield 10, 3) := by decide +kernel
theorem dX9_inherit_8 : decode cX9_inherit 8 = .ok (.invokevirtual 57, 3) := by decide +kernel
theorem dX9_inherit_11 : decode cX9_inherit 11 = .ok (.aload_n 0, 1) := by decide +kernel
theorem dX9_inherit_12 : decode cX9_inherit 12 = .ok (.aload_n 0, 1) := by decide +kernel
theorem dX9_inherit_13 : decode cX9_inherit 13 = .ok (.getfield 10, 3) := by decide +kernel
theorem dX9_inherit_16 : decode cX9_inherit 16 = .ok (.iload_n 1, 1) := by decide +kernel
theorem dX9_inherit_17 : decode cX9_inherit 17 = .ok (.invokevirtual 75, 3) := by decide +kernel
theorem dX9_inherit_20 : decode cX9_inherit 20 = .ok (.invokevirtual 65, 3) := by decide +kernel
theorem dX9_inherit_23 : decode cX9_inherit 23 = .ok (.ireturn, 1) := by decide +kernel
theorem dX9_keepIfChanged_0 : decode cX9_keepIfChanged 0 = .ok (.iload_n 1, 1) := by decide +kernel
theorem dX9_keepIfChanged_1 : decode cX9_keepIfChanged 1 = .ok (.ifCond .lt 10, 3) := by decide +kernel
theorem dX9_keepIfChanged_4 : decode cX9_keepIfChanged 4 = .ok (.aload_n 0, 1) := by decide +kernel
theorem dX9_keepIfChanged_5 : decode cX9_keepIfChanged 5 = .ok (.getfield 25, 3) := by decide +kernel
theorem dX9_keepIfChanged_8 : decode cX9_keepIfChanged 8 = .ok (.invokevirtual 78, 3) := by decide +kernel
theorem dX9_keepIfChanged_11 : decode cX9_keepIfChanged 11 = .ok (.iload_n 1, 1) := by decide +kernel
theorem dX9_keepIfChanged_12 : decode cX9_keepIfChanged 12 = .ok (.ireturn, 1) := by decide +kernel
theorem dX9_append_0 : decode cX9_append 0 = .ok (.iload_n 1, 1) := by decide +kernel
theorem dX9_append_1 : decode cX9_append 1 = .ok (.bipush 33, 2) := by decide +kernel
theorem dX9_append_3 : decode cX9_append 3 = .ok (.if_icmp .lt 9, 3) := by decide +kernel
theorem dX9_append_6 : decode cX9_append 6 = .ok (.iload_n 1, 1) := by decide +kernel
theorem dX9_append_7 : decode cX9_append 7 = .ok (.bipush 126, 2) := by decide +kernel
theorem dX9_append_9 : decode cX9_append 9 = .ok (.if_icmp .le 5, 3) := by decide +kernel
theorem dX9_append_12 : decode cX9_append 12 = .ok (.iconst (-1), 1) := by decide +kernel
theorem dX9_append_13 : decode cX9_append 13 = .ok (.ireturn, 1) := by decide +kernel
theorem dX9_append_14 : decode cX9_append 14 = .ok (.aload_n 0, 1) := by decide +kernel
theorem dX9_append_15 : decode cX9_append 15 = .ok (.getfield 32, 3) := by decide +kernel
theorem dX9_append_18 : decode cX9_append 18 = .ok (.invokevirtual 81, 3) := by decide +kernel
theorem dX9_append_21 : decode cX9_append 21 = .ok (.ifCond .eq 6, 3) := by decide +kernel
theorem dX9_append_24 : decode cX9_append 24 = .ok (.bipush (-3), 2) := by decide +kernel
theorem dX9_append_26 : decode cX9_append 26 = .ok (.ireturn, 1) := by decide +kernel
theorem dX9_append_27 : decode cX9_append 27 = .ok (.aload_n 0, 1) := by decide +kernel
theorem dX9_append_28 : decode cX9_append 28 = .ok (.getfield 32, 3) := by decide +kernel
theorem dX9_append_31 : decode cX9_append 31 = .ok (.iload_n 1, 1) := by decide +kernel
theorem dX9_append_32 : decode cX9_append 32 = .ok (.invokevirtual 85, 3) := by decide +kernel
theorem dX9_append_35 : decode cX9_append 35 = .ok (.aload_n 0, 1) := by decide +kernel
theorem dX9_append_36 : decode cX9_append 36 = .ok (.getfield 32, 3) := by decide +kernel
theorem dX9_append_39 : decode cX9_append 39 = .ok (.invokevirtual 89, 3) := by decide +kernel
theorem dX9_append_42 : decode cX9_append 42 = .ok (.ireturn, 1) := by decide +kernel
theorem dX9_clear_0 : decode cX9_clear 0 = .ok (.aload_n 0, 1) := by decide +kernel
theorem dX9_clear_1 : decode cX9_clear 1 = .ok (.getfield 32, 3) := by decide +kernel
theorem dX9_clear_4 : decode cX9_clear 4 = .ok (.invokevirtual 89, 3) := by decide +kernel
theorem dX9_clear_7 : decode cX9_clear 7 = .ok (.istore_n 1, 1) := by decide +kernel
theorem dX9_clear_8 : decode cX9_clear 8 = .ok (.aload_n 0, 1) := by decide +kernel
theorem dX9_clear_9 : decode cX9_clear 9 = .ok (.getfield 32, 3) := by decide +kernel
theorem dX9_clear_12 : decode cX9_clear 12 = .ok (.invokevirtual 93, 3) := by decide +kernel
theorem dX9_clear_15 : decode cX9_clear 15 = .ok (.iload_n 1, 1) := by decide +kernel
theorem dX9_clear_16 : decode cX9_clear 16 = .ok (.ireturn, 1) := by decide +kernel
theorem dX9_fault_0 : decode cX9_fault 0 = .ok (.aload_n 0, 1) := by decide +kernel
theorem dX9_fault_1 : decode cX9_fault 1 = .ok (.getfield 32, 3) := by decide +kernel
theorem dX9_fault_4 : decode cX9_fault 4 = .ok (.invokevirtual 96, 3) := by decide +kernel
theorem dX9_fault_7 : decode cX9_fault 7 = .ok (.ireturn, 1) := by decide +kernel
theorem dX9_enrol_0 : decode cX9_enrol 0 = .ok (.aload_n 0, 1) := by decide +kernel
theorem dX9_enrol_1 : decode cX9_enrol 1 = .ok (.getfield 32, 3) := by decide +kernel
theorem dX9_enrol_4 : decode cX9_enrol 4 = .ok (.invokevirtual 96, 3) := by decide +kernel
theorem dX9_enrol_7 : decode cX9_enrol 7 = .ok (.bipush (-4), 2) := by decide +kernel
theorem dX9_enrol_9 : decode cX9_enrol 9 = .ok (.if_icmp .eq 6, 3) := by decide +kernel
theorem dX9_enrol_12 : decode cX9_enrol 12 = .ok (.bipush (-2), 2) := by decide +kernel
theorem dX9_enrol_14 : decode cX9_enrol 14 = .ok (.ireturn, 1) := by decide +kernel
theorem dX9_enrol_15 : decode cX9_enrol 15 = .ok (.aload_n 0, 1) := by decide +kernel
theorem dX9_enrol_16 : decode cX9_enrol 16 = .ok (.getfield 25, 3) := by decide +kernel
theorem dX9_enrol_19 : decode cX9_enrol 19 = .ok (.aload_n 0, 1) := by decide +kernel
theorem dX9_enrol_20 : decode cX9_enrol 20 = .ok (.getfield 10, 3) := by decide +kernel
theorem dX9_enrol_23 : decode cX9_enrol 23 = .ok (.invokevirtual 57, 3) := by decide +kernel
theorem dX9_enrol_26 : decode cX9_enrol 26 = .ok (.iconst 0, 1) := by decide +kernel
theorem dX9_enrol_27 : decode cX9_enrol 27 = .ok (.istore_n 1, 1) := by decide +kernel
theorem dX9_enrol_28 : decode cX9_enrol 28 = .ok (.aload_n 0, 1) := by decide +kernel
theorem dX9_enrol_29 : decode cX9_enrol 29 = .ok (.iconst 0, 1) := by decide +kernel
theorem dX9_enrol_30 : decode cX9_enrol 30 = .ok (.putfield 47, 3) := by decide +kernel
theorem dX9_enrol_33 : decode cX9_enrol 33 = .ok (.iconst 0, 1) := by decide +kernel
theorem dX9_enrol_34 : decode cX9_enrol 34 = .ok (.istore_n 2, 1) := by decide +kernel
theorem dX9_enrol_35 : decode cX9_enrol 35 = .ok (.iload_n 2, 1) := by decide +kernel
theorem dX9_enrol_36 : decode cX9_enrol 36 = .ok (.aload_n 0, 1) := by decide +kernel
theorem dX9_enrol_37 : decode cX9_enrol 37 = .ok (.getfield 32, 3) := by decide +kernel
theorem dX9_enrol_40 : decode cX9_enrol 40 = .ok (.invokevirtual 89, 3) := by decide +kernel
theorem dX9_enrol_43 : decode cX9_enrol 43 = .ok (.if_icmp .ge 63, 3) := by decide +kernel
theorem dX9_enrol_46 : decode cX9_enrol 46 = .ok (.aload_n 0, 1) := by decide +kernel
theorem dX9_enrol_47 : decode cX9_enrol 47 = .ok (.getfield 47, 3) := by decide +kernel
theorem dX9_enrol_50 : decode cX9_enrol 50 = .ok (.ifCond .ne 56, 3) := by decide +kernel
theorem dX9_enrol_53 : decode cX9_enrol 53 = .ok (.aload_n 0, 1) := by decide +kernel
theorem dX9_enrol_54 : decode cX9_enrol 54 = .ok (.getfield 32, 3) := by decide +kernel
theorem dX9_enrol_57 : decode cX9_enrol 57 = .ok (.iload_n 2, 1) := by decide +kernel
theorem dX9_enrol_58 : decode cX9_enrol 58 = .ok (.invokevirtual 99, 3) := by decide +kernel
theorem dX9_enrol_61 : decode cX9_enrol 61 = .ok (.ifCond .ne 6, 3) := by decide +kernel
theorem dX9_enrol_64 : decode cX9_enrol 64 = .ok (.goto 36, 3) := by decide +kernel
theorem dX9_enrol_67 : decode cX9_enrol 67 = .ok (.aload_n 0, 1) := by decide +kernel
theorem dX9_enrol_68 : decode cX9_enrol 68 = .ok (.iload_n 2, 1) := by decide +kernel
theorem dX9_enrol_69 : decode cX9_enrol 69 = .ok (.invokevirtual 103, 3) := by decide +kernel
theorem dX9_enrol_72 : decode cX9_enrol 72 = .ok (.istore_n 3, 1) := by decide +kernel
theorem dX9_enrol_73 : decode cX9_enrol 73 = .ok (.iload_n 3, 1) := by decide +kernel
theorem dX9_enrol_74 : decode cX9_enrol 74 = .ok (.bipush 10, 2) := by decide +kernel
theorem dX9_enrol_76 : decode cX9_enrol 76 = .ok (.if_icmp .lt 9, 3) := by decide +kernel
theorem dX9_enrol_79 : decode cX9_enrol 79 = .ok (.iinc 1 1, 3) := by decide +kernel
theorem dX9_enrol_82 : decode cX9_enrol 82 = .ok (.goto 18, 3) := by decide +kernel
theorem dX9_enrol_85 : decode cX9_enrol 85 = .ok (.aload_n 0, 1) := by decide +kernel
theorem dX9_enrol_86 : decode cX9_enrol 86 = .ok (.iload_n 3, 1) := by decide +kernel
theorem dX9_enrol_87 : decode cX9_enrol 87 = .ok (.putfield 47, 3) := by decide +kernel
theorem dX9_enrol_90 : decode cX9_enrol 90 = .ok (.aload_n 0, 1) := by decide +kernel
theorem dX9_enrol_91 : decode cX9_enrol 91 = .ok (.iload_n 1, 1) := by decide +kernel
theorem dX9_enrol_92 : decode cX9_enrol 92 = .ok (.putfield 51, 3) := by decide +kernel
theorem dX9_enrol_95 : decode cX9_enrol 95 = .ok (.aload_n 0, 1) := by decide +kernel
theorem dX9_enrol_96 : decode cX9_enrol 96 = .ok (.iload_n 2, 1) := by decide +kernel
theorem dX9_enrol_97 : decode cX9_enrol 97 = .ok (.putfield 54, 3) := by decide +kernel
theorem dX9_enrol_100 : decode cX9_enrol 100 = .ok (.iinc 2 1, 3) := by decide +kernel
theorem dX9_enrol_103 : decode cX9_enrol 103 = .ok (.goto (-68), 3) := by decide +kernel
theorem dX9_enrol_106 : decode cX9_enrol 106 = .ok (.aload_n 0, 1) := by decide +kernel
theorem dX9_enrol_107 : decode cX9_enrol 107 = .ok (.getfield 25, 3) := by decide +kernel
theorem dX9_enrol_110 : decode cX9_enrol 110 = .ok (.invokevirtual 78, 3) := by decide +kernel
theorem dX9_enrol_113 : decode cX9_enrol 113 = .ok (.aload_n 0, 1) := by decide +kernel
theorem dX9_enrol_114 : decode cX9_enrol 114 = .ok (.getfield 32, 3) := by decide +kernel
theorem dX9_enrol_117 : decode cX9_enrol 117 = .ok (.invokevirtual 93, 3) := by decide +kernel
theorem dX9_enrol_120 : decode cX9_enrol 120 = .ok (.iload_n 1, 1) := by decide +kernel
theorem dX9_enrol_121 : decode cX9_enrol 121 = .ok (.ireturn, 1) := by decide +kernel
theorem dX9_enrolDeed_0 : decode cX9_enrolDeed 0 = .ok (.aload_n 0, 1) := by decide +kernel
theorem dX9_enrolDeed_1 : decode cX9_enrolDeed 1 = .ok (.getfield 32, 3) := by decide +kernel
theorem dX9_enrolDeed_4 : decode cX9_enrolDeed 4 = .ok (.iload_n 1, 1) := by decide +kernel
theorem dX9_enrolDeed_5 : decode cX9_enrolDeed 5 = .ok (.invokevirtual 106, 3) := by decide +kernel
theorem dX9_enrolDeed_8 : decode cX9_enrolDeed 8 = .ok (.lookupswitch 121 #[(100, 103), (102, 36), (115, 54)], 36) := by decide +kernel
theorem dX9_enrolDeed_44 : decode cX9_enrolDeed 44 = .ok (.aload_n 0, 1) := by decide +kernel
theorem dX9_enrolDeed_45 : decode cX9_enrolDeed 45 = .ok (.getfield 10, 3) := by decide +kernel
theorem dX9_enrolDeed_48 : decode cX9_enrolDeed 48 = .ok (.aload_n 0, 1) := by decide +kernel
theorem dX9_enrolDeed_49 : decode cX9_enrolDeed 49 = .ok (.getfield 32, 3) := by decide +kernel
theorem dX9_enrolDeed_52 : decode cX9_enrolDeed 52 = .ok (.iload_n 1, 1) := by decide +kernel
theorem dX9_enrolDeed_53 : decode cX9_enrolDeed 53 = .ok (.iconst 1, 1) := by decide +kernel
theorem dX9_enrolDeed_54 : decode cX9_enrolDeed 54 = .ok (.iadd, 1) := by decide +kernel
theorem dX9_enrolDeed_55 : decode cX9_enrolDeed 55 = .ok (.invokevirtual 109, 3) := by decide +kernel
theorem dX9_enrolDeed_58 : decode cX9_enrolDeed 58 = .ok (.invokevirtual 61, 3) := by decide +kernel
theorem dX9_enrolDeed_61 : decode cX9_enrolDeed 61 = .ok (.ireturn, 1) := by decide +kernel
theorem dX9_enrolDeed_62 : decode cX9_enrolDeed 62 = .ok (.aload_n 0, 1) := by decide +kernel
theorem dX9_enrolDeed_63 : decode cX9_enrolDeed 63 = .ok (.getfield 32, 3) := by decide +kernel
theorem dX9_enrolDeed_66 : decode cX9_enrolDeed 66 = .ok (.iload_n 1, 1) := by decide +kernel
theorem dX9_enrolDeed_67 : decode cX9_enrolDeed 67 = .ok (.iconst 1, 1) := by decide +kernel
theorem dX9_enrolDeed_68 : decode cX9_enrolDeed 68 = .ok (.iadd, 1) := by decide +kernel
theorem dX9_enrolDeed_69 : decode cX9_enrolDeed 69 = .ok (.invokevirtual 112, 3) := by decide +kernel
theorem dX9_enrolDeed_72 : decode cX9_enrolDeed 72 = .ok (.istore_n 2, 1) := by decide +kernel
theorem dX9_enrolDeed_73 : decode cX9_enrolDeed 73 = .ok (.aload_n 0, 1) := by decide +kernel
theorem dX9_enrolDeed_74 : decode cX9_enrolDeed 74 = .ok (.getfield 10, 3) := by decide +kernel
theorem dX9_enrolDeed_77 : decode cX9_enrolDeed 77 = .ok (.aload_n 0, 1) := by decide +kernel
theorem dX9_enrolDeed_78 : decode cX9_enrolDeed 78 = .ok (.getfield 32, 3) := by decide +kernel
theorem dX9_enrolDeed_81 : decode cX9_enrolDeed 81 = .ok (.iload_n 1, 1) := by decide +kernel
theorem dX9_enrolDeed_82 : decode cX9_enrolDeed 82 = .ok (.iconst 1, 1) := by decide +kernel
theorem dX9_enrolDeed_83 : decode cX9_enrolDeed 83 = .ok (.iadd, 1) := by decide +kernel
theorem dX9_enrolDeed_84 : decode cX9_enrolDeed 84 = .ok (.invokevirtual 115, 3) := by decide +kernel
theorem dX9_enrolDeed_87 : decode cX9_enrolDeed 87 = .ok (.aload_n 0, 1) := by decide +kernel
theorem dX9_enrolDeed_88 : decode cX9_enrolDeed 88 = .ok (.getfield 32, 3) := by decide +kernel
theorem dX9_enrolDeed_91 : decode cX9_enrolDeed 91 = .ok (.iload_n 2, 1) := by decide +kernel
theorem dX9_enrolDeed_92 : decode cX9_enrolDeed 92 = .ok (.iconst 1, 1) := by decide +kernel
theorem dX9_enrolDeed_93 : decode cX9_enrolDeed 93 = .ok (.iadd, 1) := by decide +kernel
theorem dX9_enrolDeed_94 : decode cX9_enrolDeed 94 = .ok (.invokevirtual 118, 3) := by decide +kernel
theorem dX9_enrolDeed_97 : decode cX9_enrolDeed 97 = .ok (.aload_n 0, 1) := by decide +kernel
theorem dX9_enrolDeed_98 : decode cX9_enrolDeed 98 = .ok (.getfield 32, 3) := by decide +kernel
theorem dX9_enrolDeed_101 : decode cX9_enrolDeed 101 = .ok (.iload_n 2, 1) := by decide +kernel
theorem dX9_enrolDeed_102 : decode cX9_enrolDeed 102 = .ok (.iconst 3, 1) := by decide +kernel
theorem dX9_enrolDeed_103 : decode cX9_enrolDeed 103 = .ok (.iadd, 1) := by decide +kernel
theorem dX9_enrolDeed_104 : decode cX9_enrolDeed 104 = .ok (.invokevirtual 118, 3) := by decide +kernel
theorem dX9_enrolDeed_107 : decode cX9_enrolDeed 107 = .ok (.invokevirtual 68, 3) := by decide +kernel
theorem dX9_enrolDeed_110 : decode cX9_enrolDeed 110 = .ok (.ireturn, 1) := by decide +kernel
theorem dX9_enrolDeed_111 : decode cX9_enrolDeed 111 = .ok (.aload_n 0, 1) := by decide +kernel
theorem dX9_enrolDeed_112 : decode cX9_enrolDeed 112 = .ok (.getfield 10, 3) := by decide +kernel
theorem dX9_enrolDeed_115 : decode cX9_enrolDeed 115 = .ok (.aload_n 0, 1) := by decide +kernel
theorem dX9_enrolDeed_116 : decode cX9_enrolDeed 116 = .ok (.getfield 32, 3) := by decide +kernel
theorem dX9_enrolDeed_119 : decode cX9_enrolDeed 119 = .ok (.iload_n 1, 1) := by decide +kernel
theorem dX9_enrolDeed_120 : decode cX9_enrolDeed 120 = .ok (.iconst 1, 1) := by decide +kernel
theorem dX9_enrolDeed_121 : decode cX9_enrolDeed 121 = .ok (.iadd, 1) := by decide +kernel
theorem dX9_enrolDeed_122 : decode cX9_enrolDeed 122 = .ok (.invokevirtual 115, 3) := by decide +kernel
theorem dX9_enrolDeed_125 : decode cX9_enrolDeed 125 = .ok (.invokevirtual 72, 3) := by decide +kernel
theorem dX9_enrolDeed_128 : decode cX9_enrolDeed 128 = .ok (.ireturn, 1) := by decide +kernel
theorem dX9_enrolDeed_129 : decode cX9_enrolDeed 129 = .ok (.aload_n 0, 1) := by decide +kernel
theorem dX9_enrolDeed_130 : decode cX9_enrolDeed 130 = .ok (.getfield 10, 3) := by decide +kernel
theorem dX9_enrolDeed_133 : decode cX9_enrolDeed 133 = .ok (.aload_n 0, 1) := by decide +kernel
theorem dX9_enrolDeed_134 : decode cX9_enrolDeed 134 = .ok (.getfield 32, 3) := by decide +kernel
theorem dX9_enrolDeed_137 : decode cX9_enrolDeed 137 = .ok (.iload_n 1, 1) := by decide +kernel
theorem dX9_enrolDeed_138 : decode cX9_enrolDeed 138 = .ok (.iconst 1, 1) := by decide +kernel
theorem dX9_enrolDeed_139 : decode cX9_enrolDeed 139 = .ok (.iadd, 1) := by decide +kernel
theorem dX9_enrolDeed_140 : decode cX9_enrolDeed 140 = .ok (.invokevirtual 115, 3) := by decide +kernel
theorem dX9_enrolDeed_143 : decode cX9_enrolDeed 143 = .ok (.invokevirtual 75, 3) := by decide +kernel
theorem dX9_enrolDeed_146 : decode cX9_enrolDeed 146 = .ok (.ireturn, 1) := by decide +kernel
theorem dX9_why_0 : decode cX9_why 0 = .ok (.iload_n 1, 1) := by decide +kernel
theorem dX9_why_1 : decode cX9_why 1 = .ok (.ifCond .lt 8, 3) := by decide +kernel
theorem dX9_why_4 : decode cX9_why 4 = .ok (.iload_n 1, 1) := by decide +kernel
theorem dX9_why_5 : decode cX9_why 5 = .ok (.iconst 2, 1) := by decide +kernel
theorem dX9_why_6 : decode cX9_why 6 = .ok (.if_icmp .le 5, 3) := by decide +kernel
theorem dX9_why_9 : decode cX9_why 9 = .ok (.iconst (-1), 1) := by decide +kernel
theorem dX9_why_10 : decode cX9_why 10 = .ok (.ireturn, 1) := by decide +kernel
theorem dX9_why_11 : decode cX9_why 11 = .ok (.aload_n 0, 1) := by decide +kernel
theorem dX9_why_12 : decode cX9_why 12 = .ok (.getfield 47, 3) := by decide +kernel
theorem dX9_why_15 : decode cX9_why 15 = .ok (.ifCond .ne 6, 3) := by decide +kernel
theorem dX9_why_18 : decode cX9_why 18 = .ok (.bipush (-4), 2) := by decide +kernel
theorem dX9_why_20 : decode cX9_why 20 = .ok (.ireturn, 1) := by decide +kernel
theorem dX9_why_21 : decode cX9_why 21 = .ok (.iload_n 1, 1) := by decide +kernel
theorem dX9_why_22 : decode cX9_why 22 = .ok (.ifCond .ne 8, 3) := by decide +kernel
theorem dX9_why_25 : decode cX9_why 25 = .ok (.aload_n 0, 1) := by decide +kernel
theorem dX9_why_26 : decode cX9_why 26 = .ok (.getfield 47, 3) := by decide +kernel
theorem dX9_why_29 : decode cX9_why 29 = .ok (.ireturn, 1) := by decide +kernel
theorem dX9_why_30 : decode cX9_why 30 = .ok (.iload_n 1, 1) := by decide +kernel
theorem dX9_why_31 : decode cX9_why 31 = .ok (.iconst 1, 1) := by decide +kernel
theorem dX9_why_32 : decode cX9_why 32 = .ok (.if_icmp .ne 10, 3) := by decide +kernel
theorem dX9_why_35 : decode cX9_why 35 = .ok (.aload_n 0, 1) := by decide +kernel
theorem dX9_why_36 : decode cX9_why 36 = .ok (.getfield 51, 3) := by decide +kernel
theorem dX9_why_39 : decode cX9_why 39 = .ok (.goto 7, 3) := by decide +kernel
theorem dX9_why_42 : decode cX9_why 42 = .ok (.aload_n 0, 1) := by decide +kernel
theorem dX9_why_43 : decode cX9_why 43 = .ok (.getfield 54, 3) := by decide +kernel
theorem dX9_why_46 : decode cX9_why 46 = .ok (.ireturn, 1) := by decide +kernel
theorem dX9_person_0 : decode cX9_person 0 = .ok (.aload_n 0, 1) := by decide +kernel
theorem dX9_person_1 : decode cX9_person 1 = .ok (.getfield 10, 3) := by decide +kernel
theorem dX9_person_4 : decode cX9_person 4 = .ok (.iload_n 1, 1) := by decide +kernel
theorem dX9_person_5 : decode cX9_person 5 = .ok (.invokevirtual 121, 3) := by decide +kernel
theorem dX9_person_8 : decode cX9_person 8 = .ok (.ifCond .ne 5, 3) := by decide +kernel
theorem dX9_person_11 : decode cX9_person 11 = .ok (.iconst (-1), 1) := by decide +kernel
theorem dX9_person_12 : decode cX9_person 12 = .ok (.ireturn, 1) := by decide +kernel
theorem dX9_person_13 : decode cX9_person 13 = .ok (.iload_n 2, 1) := by decide +kernel
theorem dX9_person_14 : decode cX9_person 14 = .ok (.tableswitch 187 0 11 #[62, 71, 88, 100, 112, 124, 133, 142, 151, 160, 169, 178], 62) := by decide +kernel
theorem dX9_person_76 : decode cX9_person 76 = .ok (.aload_n 0, 1) := by decide +kernel
theorem dX9_person_77 : decode cX9_person 77 = .ok (.getfield 10, 3) := by decide +kernel
theorem dX9_person_80 : decode cX9_person 80 = .ok (.iload_n 1, 1) := by decide +kernel
theorem dX9_person_81 : decode cX9_person 81 = .ok (.invokevirtual 124, 3) := by decide +kernel
theorem dX9_person_84 : decode cX9_person 84 = .ok (.ireturn, 1) := by decide +kernel
theorem dX9_person_85 : decode cX9_person 85 = .ok (.aload_n 0, 1) := by decide +kernel
theorem dX9_person_86 : decode cX9_person 86 = .ok (.getfield 10, 3) := by decide +kernel
theorem dX9_person_89 : decode cX9_person 89 = .ok (.iload_n 1, 1) := by decide +kernel
theorem dX9_person_90 : decode cX9_person 90 = .ok (.invokevirtual 127, 3) := by decide +kernel
theorem dX9_person_93 : decode cX9_person 93 = .ok (.ifCond .eq 7, 3) := by decide +kernel
theorem dX9_person_96 : decode cX9_person 96 = .ok (.iconst 1, 1) := by decide +kernel
theorem dX9_person_97 : decode cX9_person 97 = .ok (.goto 4, 3) := by decide +kernel
theorem dX9_person_100 : decode cX9_person 100 = .ok (.iconst 0, 1) := by decide +kernel
theorem dX9_person_101 : decode cX9_person 101 = .ok (.ireturn, 1) := by decide +kernel
theorem dX9_person_102 : decode cX9_person 102 = .ok (.aload_n 0, 1) := by decide +kernel
theorem dX9_person_103 : decode cX9_person 103 = .ok (.getfield 10, 3) := by decide +kernel
theorem dX9_person_106 : decode cX9_person 106 = .ok (.iload_n 1, 1) := by decide +kernel
theorem dX9_person_107 : decode cX9_person 107 = .ok (.invokevirtual 130, 3) := by decide +kernel
theorem dX9_person_110 : decode cX9_person 110 = .ok (.invokestatic 133, 3) := by decide +kernel
theorem dX9_person_113 : decode cX9_person 113 = .ok (.ireturn, 1) := by decide +kernel
theorem dX9_person_114 : decode cX9_person 114 = .ok (.aload_n 0, 1) := by decide +kernel
theorem dX9_person_115 : decode cX9_person 115 = .ok (.getfield 10, 3) := by decide +kernel
theorem dX9_person_118 : decode cX9_person 118 = .ok (.iload_n 1, 1) := by decide +kernel
theorem dX9_person_119 : decode cX9_person 119 = .ok (.invokevirtual 136, 3) := by decide +kernel
theorem dX9_person_122 : decode cX9_person 122 = .ok (.invokestatic 133, 3) := by decide +kernel
theorem dX9_person_125 : decode cX9_person 125 = .ok (.ireturn, 1) := by decide +kernel
theorem dX9_person_126 : decode cX9_person 126 = .ok (.aload_n 0, 1) := by decide +kernel
theorem dX9_person_127 : decode cX9_person 127 = .ok (.getfield 10, 3) := by decide +kernel
theorem dX9_person_130 : decode cX9_person 130 = .ok (.iload_n 1, 1) := by decide +kernel
theorem dX9_person_131 : decode cX9_person 131 = .ok (.invokevirtual 139, 3) := by decide +kernel
theorem dX9_person_134 : decode cX9_person 134 = .ok (.invokestatic 133, 3) := by decide +kernel
theorem dX9_person_137 : decode cX9_person 137 = .ok (.ireturn, 1) := by decide +kernel
theorem dX9_person_138 : decode cX9_person 138 = .ok (.aload_n 0, 1) := by decide +kernel
theorem dX9_person_139 : decode cX9_person 139 = .ok (.getfield 10, 3) := by decide +kernel
theorem dX9_person_142 : decode cX9_person 142 = .ok (.iload_n 1, 1) := by decide +kernel
theorem dX9_person_143 : decode cX9_person 143 = .ok (.invokevirtual 142, 3) := by decide +kernel
theorem dX9_person_146 : decode cX9_person 146 = .ok (.ireturn, 1) := by decide +kernel
theorem dX9_person_147 : decode cX9_person 147 = .ok (.aload_n 0, 1) := by decide +kernel
theorem dX9_person_148 : decode cX9_person 148 = .ok (.getfield 10, 3) := by decide +kernel
theorem dX9_person_151 : decode cX9_person 151 = .ok (.iload_n 1, 1) := by decide +kernel
theorem dX9_person_152 : decode cX9_person 152 = .ok (.invokestatic 145, 3) := by decide +kernel
theorem dX9_person_155 : decode cX9_person 155 = .ok (.ireturn, 1) := by decide +kernel
theorem dX9_person_156 : decode cX9_person 156 = .ok (.aload_n 0, 1) := by decide +kernel
theorem dX9_person_157 : decode cX9_person 157 = .ok (.getfield 10, 3) := by decide +kernel
theorem dX9_person_160 : decode cX9_person 160 = .ok (.iload_n 1, 1) := by decide +kernel
theorem dX9_person_161 : decode cX9_person 161 = .ok (.invokestatic 151, 3) := by decide +kernel
theorem dX9_person_164 : decode cX9_person 164 = .ok (.ireturn, 1) := by decide +kernel
theorem dX9_person_165 : decode cX9_person 165 = .ok (.aload_n 0, 1) := by decide +kernel
theorem dX9_person_166 : decode cX9_person 166 = .ok (.getfield 10, 3) := by decide +kernel
theorem dX9_person_169 : decode cX9_person 169 = .ok (.iload_n 1, 1) := by decide +kernel
theorem dX9_person_170 : decode cX9_person 170 = .ok (.invokestatic 154, 3) := by decide +kernel
theorem dX9_person_173 : decode cX9_person 173 = .ok (.ireturn, 1) := by decide +kernel
theorem dX9_person_174 : decode cX9_person 174 = .ok (.aload_n 0, 1) := by decide +kernel
theorem dX9_person_175 : decode cX9_person 175 = .ok (.getfield 10, 3) := by decide +kernel
theorem dX9_person_178 : decode cX9_person 178 = .ok (.iload_n 1, 1) := by decide +kernel
theorem dX9_person_179 : decode cX9_person 179 = .ok (.invokestatic 157, 3) := by decide +kernel
theorem dX9_person_182 : decode cX9_person 182 = .ok (.ireturn, 1) := by decide +kernel
theorem dX9_person_183 : decode cX9_person 183 = .ok (.aload_n 0, 1) := by decide +kernel
theorem dX9_person_184 : decode cX9_person 184 = .ok (.getfield 10, 3) := by decide +kernel
theorem dX9_person_187 : decode cX9_person 187 = .ok (.iload_n 1, 1) := by decide +kernel
theorem dX9_person_188 : decode cX9_person 188 = .ok (.invokestatic 160, 3) := by decide +kernel
theorem dX9_person_191 : decode cX9_person 191 = .ok (.ireturn, 1) := by decide +kernel
theorem dX9_person_192 : decode cX9_person 192 = .ok (.aload_n 0, 1) := by decide +kernel
theorem dX9_person_193 : decode cX9_person 193 = .ok (.getfield 10, 3) := by decide +kernel
theorem dX9_person_196 : decode cX9_person 196 = .ok (.iload_n 1, 1) := by decide +kernel
theorem dX9_person_197 : decode cX9_person 197 = .ok (.invokestatic 163, 3) := by decide +kernel
theorem dX9_person_200 : decode cX9_person 200 = .ok (.ireturn, 1) := by decide +kernel
theorem dX9_person_201 : decode cX9_person 201 = .ok (.iconst (-1), 1) := by decide +kernel
theorem dX9_person_202 : decode cX9_person 202 = .ok (.ireturn, 1) := by decide +kernel
theorem dX9_orNotFound_0 : decode cX9_orNotFound 0 = .ok (.iload_n 0, 1) := by decide +kernel
theorem dX9_orNotFound_1 : decode cX9_orNotFound 1 = .ok (.ifCond .ge 8, 3) := by decide +kernel
theorem dX9_orNotFound_4 : decode cX9_orNotFound 4 = .ok (.bipush (-4), 2) := by decide +kernel
theorem dX9_orNotFound_6 : decode cX9_orNotFound 6 = .ok (.goto 4, 3) := by decide +kernel
theorem dX9_orNotFound_9 : decode cX9_orNotFound 9 = .ok (.iload_n 0, 1) := by decide +kernel
theorem dX9_orNotFound_10 : decode cX9_orNotFound 10 = .ok (.ireturn, 1) := by decide +kernel
theorem dX9_mark_0 : decode cX9_mark 0 = .ok (.aload_n 0, 1) := by decide +kernel
theorem dX9_mark_1 : decode cX9_mark 1 = .ok (.getfield 10, 3) := by decide +kernel
theorem dX9_mark_4 : decode cX9_mark 4 = .ok (.iload_n 1, 1) := by decide +kernel
theorem dX9_mark_5 : decode cX9_mark 5 = .ok (.invokevirtual 121, 3) := by decide +kernel
theorem dX9_mark_8 : decode cX9_mark 8 = .ok (.ifCond .eq 10, 3) := by decide +kernel
theorem dX9_mark_11 : decode cX9_mark 11 = .ok (.iload_n 2, 1) := by decide +kernel
theorem dX9_mark_12 : decode cX9_mark 12 = .ok (.invokestatic 166, 3) := by decide +kernel
theorem dX9_mark_15 : decode cX9_mark 15 = .ok (.ifCond .ne 5, 3) := by decide +kernel
theorem dX9_mark_18 : decode cX9_mark 18 = .ok (.iconst (-1), 1) := by decide +kernel
theorem dX9_mark_19 : decode cX9_mark 19 = .ok (.ireturn, 1) := by decide +kernel
theorem dX9_mark_20 : decode cX9_mark 20 = .ok (.aload_n 0, 1) := by decide +kernel
theorem dX9_mark_21 : decode cX9_mark 21 = .ok (.getfield 10, 3) := by decide +kernel
theorem dX9_mark_24 : decode cX9_mark 24 = .ok (.iload_n 1, 1) := by decide +kernel
theorem dX9_mark_25 : decode cX9_mark 25 = .ok (.invokevirtual 124, 3) := by decide +kernel
theorem dX9_mark_28 : decode cX9_mark 28 = .ok (.iload_n 2, 1) := by decide +kernel
theorem dX9_mark_29 : decode cX9_mark 29 = .ok (.invokestatic 171, 3) := by decide +kernel
theorem dX9_mark_32 : decode cX9_mark 32 = .ok (.ireturn, 1) := by decide +kernel
theorem dX9_whyNot_0 : decode cX9_whyNot 0 = .ok (.aload_n 0, 1) := by decide +kernel
theorem dX9_whyNot_1 : decode cX9_whyNot 1 = .ok (.getfield 10, 3) := by decide +kernel
theorem dX9_whyNot_4 : decode cX9_whyNot 4 = .ok (.iload_n 1, 1) := by decide +kernel
theorem dX9_whyNot_5 : decode cX9_whyNot 5 = .ok (.invokevirtual 121, 3) := by decide +kernel
theorem dX9_whyNot_8 : decode cX9_whyNot 8 = .ok (.ifCond .eq 17, 3) := by decide +kernel
theorem dX9_whyNot_11 : decode cX9_whyNot 11 = .ok (.iload_n 2, 1) := by decide +kernel
theorem dX9_whyNot_12 : decode cX9_whyNot 12 = .ok (.invokestatic 166, 3) := by decide +kernel
theorem dX9_whyNot_15 : decode cX9_whyNot 15 = .ok (.ifCond .eq 10, 3) := by decide +kernel
theorem dX9_whyNot_18 : decode cX9_whyNot 18 = .ok (.iload_n 3, 1) := by decide +kernel
theorem dX9_whyNot_19 : decode cX9_whyNot 19 = .ok (.invokestatic 175, 3) := by decide +kernel
theorem dX9_whyNot_22 : decode cX9_whyNot 22 = .ok (.ifCond .ne 5, 3) := by decide +kernel
theorem dX9_whyNot_25 : decode cX9_whyNot 25 = .ok (.iconst (-1), 1) := by decide +kernel
theorem dX9_whyNot_26 : decode cX9_whyNot 26 = .ok (.ireturn, 1) := by decide +kernel
theorem dX9_whyNot_27 : decode cX9_whyNot 27 = .ok (.aload_n 0, 1) := by decide +kernel
theorem dX9_whyNot_28 : decode cX9_whyNot 28 = .ok (.getfield 10, 3) := by decide +kernel
theorem dX9_whyNot_31 : decode cX9_whyNot 31 = .ok (.iload_n 1, 1) := by decide +kernel
theorem dX9_whyNot_32 : decode cX9_whyNot 32 = .ok (.iload_n 2, 1) := by decide +kernel
theorem dX9_whyNot_33 : decode cX9_whyNot 33 = .ok (.iload_n 3, 1) := by decide +kernel
theorem dX9_whyNot_34 : decode cX9_whyNot 34 = .ok (.invokevirtual 178, 3) := by decide +kernel
theorem dX9_whyNot_37 : decode cX9_whyNot 37 = .ok (.ireturn, 1) := by decide +kernel
theorem dX9_choices_0 : decode cX9_choices 0 = .ok (.aload_n 0, 1) := by decide +kernel
theorem dX9_choices_1 : decode cX9_choices 1 = .ok (.getfield 10, 3) := by decide +kernel
theorem dX9_choices_4 : decode cX9_choices 4 = .ok (.iload_n 1, 1) := by decide +kernel
theorem dX9_choices_5 : decode cX9_choices 5 = .ok (.invokevirtual 121, 3) := by decide +kernel
theorem dX9_choices_8 : decode cX9_choices 8 = .ok (.ifCond .eq 10, 3) := by decide +kernel
theorem dX9_choices_11 : decode cX9_choices 11 = .ok (.iload_n 2, 1) := by decide +kernel
theorem dX9_choices_12 : decode cX9_choices 12 = .ok (.invokestatic 181, 3) := by decide +kernel
theorem dX9_choices_15 : decode cX9_choices 15 = .ok (.ifCond .ne 5, 3) := by decide +kernel
theorem dX9_choices_18 : decode cX9_choices 18 = .ok (.iconst (-1), 1) := by decide +kernel
theorem dX9_choices_19 : decode cX9_choices 19 = .ok (.ireturn, 1) := by decide +kernel
theorem dX9_choices_20 : decode cX9_choices 20 = .ok (.iload_n 2, 1) := by decide +kernel
theorem dX9_choices_21 : decode cX9_choices 21 = .ok (.ifCond .ne 14, 3) := by decide +kernel
theorem dX9_choices_24 : decode cX9_choices 24 = .ok (.aload_n 0, 1) := by decide +kernel
theorem dX9_choices_25 : decode cX9_choices 25 = .ok (.getfield 10, 3) := by decide +kernel
theorem dX9_choices_28 : decode cX9_choices 28 = .ok (.iload_n 1, 1) := by decide +kernel
theorem dX9_choices_29 : decode cX9_choices 29 = .ok (.invokestatic 184, 3) := by decide +kernel
theorem dX9_choices_32 : decode cX9_choices 32 = .ok (.goto 11, 3) := by decide +kernel
theorem dX9_choices_35 : decode cX9_choices 35 = .ok (.aload_n 0, 1) := by decide +kernel
theorem dX9_choices_36 : decode cX9_choices 36 = .ok (.getfield 10, 3) := by decide +kernel
theorem dX9_choices_39 : decode cX9_choices 39 = .ok (.iload_n 1, 1) := by decide +kernel
theorem dX9_choices_40 : decode cX9_choices 40 = .ok (.invokestatic 189, 3) := by decide +kernel
theorem dX9_choices_43 : decode cX9_choices 43 = .ok (.ireturn, 1) := by decide +kernel
theorem dX9_best_0 : decode cX9_best 0 = .ok (.aload_n 0, 1) := by decide +kernel
theorem dX9_best_1 : decode cX9_best 1 = .ok (.getfield 10, 3) := by decide +kernel
theorem dX9_best_4 : decode cX9_best 4 = .ok (.iload_n 1, 1) := by decide +kernel
theorem dX9_best_5 : decode cX9_best 5 = .ok (.invokevirtual 121, 3) := by decide +kernel
theorem dX9_best_8 : decode cX9_best 8 = .ok (.ifCond .ne 5, 3) := by decide +kernel
theorem dX9_best_11 : decode cX9_best 11 = .ok (.iconst (-1), 1) := by decide +kernel
theorem dX9_best_12 : decode cX9_best 12 = .ok (.ireturn, 1) := by decide +kernel
theorem dX9_best_13 : decode cX9_best 13 = .ok (.aload_n 0, 1) := by decide +kernel
theorem dX9_best_14 : decode cX9_best 14 = .ok (.getfield 10, 3) := by decide +kernel
theorem dX9_best_17 : decode cX9_best 17 = .ok (.iload_n 1, 1) := by decide +kernel
theorem dX9_best_18 : decode cX9_best 18 = .ok (.invokestatic 192, 3) := by decide +kernel
theorem dX9_best_21 : decode cX9_best 21 = .ok (.ireturn, 1) := by decide +kernel
theorem dX9_differs_0 : decode cX9_differs 0 = .ok (.aload_n 0, 1) := by decide +kernel
theorem dX9_differs_1 : decode cX9_differs 1 = .ok (.getfield 10, 3) := by decide +kernel
theorem dX9_differs_4 : decode cX9_differs 4 = .ok (.iload_n 1, 1) := by decide +kernel
theorem dX9_differs_5 : decode cX9_differs 5 = .ok (.invokevirtual 121, 3) := by decide +kernel
theorem dX9_differs_8 : decode cX9_differs 8 = .ok (.ifCond .eq 14, 3) := by decide +kernel
theorem dX9_differs_11 : decode cX9_differs 11 = .ok (.aload_n 0, 1) := by decide +kernel
theorem dX9_differs_12 : decode cX9_differs 12 = .ok (.getfield 10, 3) := by decide +kernel
theorem dX9_differs_15 : decode cX9_differs 15 = .ok (.iload_n 2, 1) := by decide +kernel
theorem dX9_differs_16 : decode cX9_differs 16 = .ok (.invokevirtual 121, 3) := by decide +kernel
theorem dX9_differs_19 : decode cX9_differs 19 = .ok (.ifCond .ne 5, 3) := by decide +kernel
theorem dX9_differs_22 : decode cX9_differs 22 = .ok (.iconst (-1), 1) := by decide +kernel
theorem dX9_differs_23 : decode cX9_differs 23 = .ok (.ireturn, 1) := by decide +kernel
theorem dX9_differs_24 : decode cX9_differs 24 = .ok (.aload_n 0, 1) := by decide +kernel
theorem dX9_differs_25 : decode cX9_differs 25 = .ok (.getfield 10, 3) := by decide +kernel
theorem dX9_differs_28 : decode cX9_differs 28 = .ok (.iload_n 1, 1) := by decide +kernel
theorem dX9_differs_29 : decode cX9_differs 29 = .ok (.invokevirtual 124, 3) := by decide +kernel
theorem dX9_differs_32 : decode cX9_differs 32 = .ok (.aload_n 0, 1) := by decide +kernel
theorem dX9_differs_33 : decode cX9_differs 33 = .ok (.getfield 10, 3) := by decide +kernel
theorem dX9_differs_36 : decode cX9_differs 36 = .ok (.iload_n 2, 1) := by decide +kernel
theorem dX9_differs_37 : decode cX9_differs 37 = .ok (.invokevirtual 124, 3) := by decide +kernel
theorem dX9_differs_40 : decode cX9_differs 40 = .ok (.invokestatic 195, 3) := by decide +kernel
theorem dX9_differs_43 : decode cX9_differs 43 = .ok (.ireturn, 1) := by decide +kernel
theorem dX9_kin_0 : decode cX9_kin 0 = .ok (.aload_n 0, 1) := by decide +kernel
theorem dX9_kin_1 : decode cX9_kin 1 = .ok (.getfield 10, 3) := by decide +kernel
theorem dX9_kin_4 : decode cX9_kin 4 = .ok (.iload_n 1, 1) := by decide +kernel
theorem dX9_kin_5 : decode cX9_kin 5 = .ok (.invokevirtual 121, 3) := by decide +kernel
theorem dX9_kin_8 : decode cX9_kin 8 = .ok (.ifCond .eq 14, 3) := by decide +kernel
theorem dX9_kin_11 : decode cX9_kin 11 = .ok (.aload_n 0, 1) := by decide +kernel
theorem dX9_kin_12 : decode cX9_kin 12 = .ok (.getfield 10, 3) := by decide +kernel
theorem dX9_kin_15 : decode cX9_kin 15 = .ok (.iload_n 2, 1) := by decide +kernel
theorem dX9_kin_16 : decode cX9_kin 16 = .ok (.invokevirtual 121, 3) := by decide +kernel
theorem dX9_kin_19 : decode cX9_kin 19 = .ok (.ifCond .ne 5, 3) := by decide +kernel
theorem dX9_kin_22 : decode cX9_kin 22 = .ok (.iconst (-1), 1) := by decide +kernel
theorem dX9_kin_23 : decode cX9_kin 23 = .ok (.ireturn, 1) := by decide +kernel
theorem dX9_kin_24 : decode cX9_kin 24 = .ok (.aload_n 0, 1) := by decide +kernel
theorem dX9_kin_25 : decode cX9_kin 25 = .ok (.getfield 10, 3) := by decide +kernel
theorem dX9_kin_28 : decode cX9_kin 28 = .ok (.iload_n 1, 1) := by decide +kernel
theorem dX9_kin_29 : decode cX9_kin 29 = .ok (.iload_n 2, 1) := by decide +kernel
theorem dX9_kin_30 : decode cX9_kin 30 = .ok (.invokestatic 198, 3) := by decide +kernel
theorem dX9_kin_33 : decode cX9_kin 33 = .ok (.ireturn, 1) := by decide +kernel
theorem dX9_bearer_0 : decode cX9_bearer 0 = .ok (.iload_n 1, 1) := by decide +kernel
theorem dX9_bearer_1 : decode cX9_bearer 1 = .ok (.invokestatic 202, 3) := by decide +kernel
theorem dX9_bearer_4 : decode cX9_bearer 4 = .ok (.ifCond .ne 5, 3) := by decide +kernel
theorem dX9_bearer_7 : decode cX9_bearer 7 = .ok (.iconst (-1), 1) := by decide +kernel
theorem dX9_bearer_8 : decode cX9_bearer 8 = .ok (.ireturn, 1) := by decide +kernel
theorem dX9_bearer_9 : decode cX9_bearer 9 = .ok (.aload_n 0, 1) := by decide +kernel
theorem dX9_bearer_10 : decode cX9_bearer 10 = .ok (.getfield 10, 3) := by decide +kernel
theorem dX9_bearer_13 : decode cX9_bearer 13 = .ok (.iload_n 1, 1) := by decide +kernel
theorem dX9_bearer_14 : decode cX9_bearer 14 = .ok (.invokevirtual 205, 3) := by decide +kernel
theorem dX9_bearer_17 : decode cX9_bearer 17 = .ok (.invokestatic 133, 3) := by decide +kernel
theorem dX9_bearer_20 : decode cX9_bearer 20 = .ok (.ireturn, 1) := by decide +kernel
theorem dX9_line_0 : decode cX9_line 0 = .ok (.aload_n 0, 1) := by decide +kernel
theorem dX9_line_1 : decode cX9_line 1 = .ok (.getfield 10, 3) := by decide +kernel
theorem dX9_line_4 : decode cX9_line 4 = .ok (.iload_n 1, 1) := by decide +kernel
theorem dX9_line_5 : decode cX9_line 5 = .ok (.invokevirtual 121, 3) := by decide +kernel
theorem dX9_line_8 : decode cX9_line 8 = .ok (.ifCond .eq 17, 3) := by decide +kernel
theorem dX9_line_11 : decode cX9_line 11 = .ok (.iload_n 2, 1) := by decide +kernel
theorem dX9_line_12 : decode cX9_line 12 = .ok (.invokestatic 202, 3) := by decide +kernel
theorem dX9_line_15 : decode cX9_line 15 = .ok (.ifCond .eq 10, 3) := by decide +kernel
theorem dX9_line_18 : decode cX9_line 18 = .ok (.iload_n 3, 1) := by decide +kernel
theorem dX9_line_19 : decode cX9_line 19 = .ok (.invokestatic 181, 3) := by decide +kernel
theorem dX9_line_22 : decode cX9_line 22 = .ok (.ifCond .ne 5, 3) := by decide +kernel
theorem dX9_line_25 : decode cX9_line 25 = .ok (.iconst (-1), 1) := by decide +kernel
theorem dX9_line_26 : decode cX9_line 26 = .ok (.ireturn, 1) := by decide +kernel
theorem dX9_line_27 : decode cX9_line 27 = .ok (.aload_n 0, 1) := by decide +kernel
theorem dX9_line_28 : decode cX9_line 28 = .ok (.getfield 10, 3) := by decide +kernel
theorem dX9_line_31 : decode cX9_line 31 = .ok (.iload_n 1, 1) := by decide +kernel
theorem dX9_line_32 : decode cX9_line 32 = .ok (.invokevirtual 127, 3) := by decide +kernel
theorem dX9_line_35 : decode cX9_line 35 = .ok (.ifCond .ne 6, 3) := by decide +kernel
theorem dX9_line_38 : decode cX9_line 38 = .ok (.bipush (-2), 2) := by decide +kernel
theorem dX9_line_40 : decode cX9_line 40 = .ok (.ireturn, 1) := by decide +kernel
theorem dX9_line_41 : decode cX9_line 41 = .ok (.aload_n 0, 1) := by decide +kernel
theorem dX9_line_42 : decode cX9_line 42 = .ok (.getfield 10, 3) := by decide +kernel
theorem dX9_line_45 : decode cX9_line 45 = .ok (.iload_n 1, 1) := by decide +kernel
theorem dX9_line_46 : decode cX9_line 46 = .ok (.invokevirtual 124, 3) := by decide +kernel
theorem dX9_line_49 : decode cX9_line 49 = .ok (.istore 4, 2) := by decide +kernel
theorem dX9_line_51 : decode cX9_line 51 = .ok (.iload 4, 2) := by decide +kernel
theorem dX9_line_53 : decode cX9_line 53 = .ok (.iload_n 2, 1) := by decide +kernel
theorem dX9_line_54 : decode cX9_line 54 = .ok (.if_icmp .ne 5, 3) := by decide +kernel
theorem dX9_line_57 : decode cX9_line 57 = .ok (.iconst 0, 1) := by decide +kernel
theorem dX9_line_58 : decode cX9_line 58 = .ok (.ireturn, 1) := by decide +kernel
theorem dX9_line_59 : decode cX9_line 59 = .ok (.aload_n 0, 1) := by decide +kernel
theorem dX9_line_60 : decode cX9_line 60 = .ok (.getfield 10, 3) := by decide +kernel
theorem dX9_line_63 : decode cX9_line 63 = .ok (.iload_n 2, 1) := by decide +kernel
theorem dX9_line_64 : decode cX9_line 64 = .ok (.invokevirtual 205, 3) := by decide +kernel
theorem dX9_line_67 : decode cX9_line 67 = .ok (.iconst (-1), 1) := by decide +kernel
theorem dX9_line_68 : decode cX9_line 68 = .ok (.if_icmp .eq 6, 3) := by decide +kernel
theorem dX9_line_71 : decode cX9_line 71 = .ok (.bipush (-4), 2) := by decide +kernel
theorem dX9_line_73 : decode cX9_line 73 = .ok (.ireturn, 1) := by decide +kernel
theorem dX9_line_74 : decode cX9_line 74 = .ok (.iload_n 3, 1) := by decide +kernel
theorem dX9_line_75 : decode cX9_line 75 = .ok (.ifCond .ne 20, 3) := by decide +kernel
theorem dX9_line_78 : decode cX9_line 78 = .ok (.aload_n 0, 1) := by decide +kernel
theorem dX9_line_79 : decode cX9_line 79 = .ok (.getfield 39, 3) := by decide +kernel
theorem dX9_line_82 : decode cX9_line 82 = .ok (.aload_n 0, 1) := by decide +kernel
theorem dX9_line_83 : decode cX9_line 83 = .ok (.getfield 10, 3) := by decide +kernel
theorem dX9_line_86 : decode cX9_line 86 = .ok (.iload 4, 2) := by decide +kernel
theorem dX9_line_88 : decode cX9_line 88 = .ok (.iload_n 2, 1) := by decide +kernel
theorem dX9_line_89 : decode cX9_line 89 = .ok (.invokevirtual 208, 3) := by decide +kernel
theorem dX9_line_92 : decode cX9_line 92 = .ok (.goto 17, 3) := by decide +kernel
theorem dX9_line_95 : decode cX9_line 95 = .ok (.aload_n 0, 1) := by decide +kernel
theorem dX9_line_96 : decode cX9_line 96 = .ok (.getfield 39, 3) := by decide +kernel
theorem dX9_line_99 : decode cX9_line 99 = .ok (.aload_n 0, 1) := by decide +kernel
theorem dX9_line_100 : decode cX9_line 100 = .ok (.getfield 10, 3) := by decide +kernel
theorem dX9_line_103 : decode cX9_line 103 = .ok (.iload_n 2, 1) := by decide +kernel
theorem dX9_line_104 : decode cX9_line 104 = .ok (.iload 4, 2) := by decide +kernel
theorem dX9_line_106 : decode cX9_line 106 = .ok (.invokevirtual 208, 3) := by decide +kernel
theorem dX9_line_109 : decode cX9_line 109 = .ok (.ireturn, 1) := by decide +kernel
theorem dX9_isWay_0 : decode cX9_isWay 0 = .ok (.iload_n 0, 1) := by decide +kernel
theorem dX9_isWay_1 : decode cX9_isWay 1 = .ok (.ifCond .eq 8, 3) := by decide +kernel
theorem dX9_isWay_4 : decode cX9_isWay 4 = .ok (.iload_n 0, 1) := by decide +kernel
theorem dX9_isWay_5 : decode cX9_isWay 5 = .ok (.iconst 1, 1) := by decide +kernel
theorem dX9_isWay_6 : decode cX9_isWay 6 = .ok (.if_icmp .ne 7, 3) := by decide +kernel
theorem dX9_isWay_9 : decode cX9_isWay 9 = .ok (.iconst 1, 1) := by decide +kernel
theorem dX9_isWay_10 : decode cX9_isWay 10 = .ok (.goto 4, 3) := by decide +kernel
theorem dX9_isWay_13 : decode cX9_isWay 13 = .ok (.iconst 0, 1) := by decide +kernel
theorem dX9_isWay_14 : decode cX9_isWay 14 = .ok (.ireturn, 1) := by decide +kernel
theorem dX9_count_0 : decode cX9_count 0 = .ok (.iload_n 1, 1) := by decide +kernel
theorem dX9_count_1 : decode cX9_count 1 = .ok (.tableswitch 159 0 11 #[63, 71, 79, 87, 95, 103, 111, 119, 127, 135, 143, 151], 63) := by decide +kernel
theorem dX9_count_64 : decode cX9_count 64 = .ok (.aload_n 0, 1) := by decide +kernel
theorem dX9_count_65 : decode cX9_count 65 = .ok (.getfield 10, 3) := by decide +kernel
theorem dX9_count_68 : decode cX9_count 68 = .ok (.invokevirtual 211, 3) := by decide +kernel
theorem dX9_count_71 : decode cX9_count 71 = .ok (.ireturn, 1) := by decide +kernel
theorem dX9_count_72 : decode cX9_count 72 = .ok (.aload_n 0, 1) := by decide +kernel
theorem dX9_count_73 : decode cX9_count 73 = .ok (.getfield 10, 3) := by decide +kernel
theorem dX9_count_76 : decode cX9_count 76 = .ok (.invokevirtual 214, 3) := by decide +kernel
theorem dX9_count_79 : decode cX9_count 79 = .ok (.ireturn, 1) := by decide +kernel
theorem dX9_count_80 : decode cX9_count 80 = .ok (.aload_n 0, 1) := by decide +kernel
theorem dX9_count_81 : decode cX9_count 81 = .ok (.getfield 10, 3) := by decide +kernel
theorem dX9_count_84 : decode cX9_count 84 = .ok (.invokestatic 217, 3) := by decide +kernel
theorem dX9_count_87 : decode cX9_count 87 = .ok (.ireturn, 1) := by decide +kernel
theorem dX9_count_88 : decode cX9_count 88 = .ok (.aload_n 0, 1) := by decide +kernel
theorem dX9_count_89 : decode cX9_count 89 = .ok (.getfield 10, 3) := by decide +kernel
theorem dX9_count_92 : decode cX9_count 92 = .ok (.invokestatic 223, 3) := by decide +kernel
theorem dX9_count_95 : decode cX9_count 95 = .ok (.ireturn, 1) := by decide +kernel
theorem dX9_count_96 : decode cX9_count 96 = .ok (.aload_n 0, 1) := by decide +kernel
theorem dX9_count_97 : decode cX9_count 97 = .ok (.getfield 10, 3) := by decide +kernel
theorem dX9_count_100 : decode cX9_count 100 = .ok (.invokestatic 226, 3) := by decide +kernel
theorem dX9_count_103 : decode cX9_count 103 = .ok (.ireturn, 1) := by decide +kernel
theorem dX9_count_104 : decode cX9_count 104 = .ok (.aload_n 0, 1) := by decide +kernel
theorem dX9_count_105 : decode cX9_count 105 = .ok (.getfield 10, 3) := by decide +kernel
theorem dX9_count_108 : decode cX9_count 108 = .ok (.invokestatic 229, 3) := by decide +kernel
theorem dX9_count_111 : decode cX9_count 111 = .ok (.ireturn, 1) := by decide +kernel
theorem dX9_count_112 : decode cX9_count 112 = .ok (.aload_n 0, 1) := by decide +kernel
theorem dX9_count_113 : decode cX9_count 113 = .ok (.getfield 10, 3) := by decide +kernel
theorem dX9_count_116 : decode cX9_count 116 = .ok (.invokestatic 232, 3) := by decide +kernel
theorem dX9_count_119 : decode cX9_count 119 = .ok (.ireturn, 1) := by decide +kernel
theorem dX9_count_120 : decode cX9_count 120 = .ok (.aload_n 0, 1) := by decide +kernel
theorem dX9_count_121 : decode cX9_count 121 = .ok (.getfield 10, 3) := by decide +kernel
theorem dX9_count_124 : decode cX9_count 124 = .ok (.invokestatic 235, 3) := by decide +kernel
theorem dX9_count_127 : decode cX9_count 127 = .ok (.ireturn, 1) := by decide +kernel
theorem dX9_count_128 : decode cX9_count 128 = .ok (.aload_n 0, 1) := by decide +kernel
theorem dX9_count_129 : decode cX9_count 129 = .ok (.getfield 10, 3) := by decide +kernel
theorem dX9_count_132 : decode cX9_count 132 = .ok (.invokevirtual 238, 3) := by decide +kernel
theorem dX9_count_135 : decode cX9_count 135 = .ok (.ireturn, 1) := by decide +kernel
theorem dX9_count_136 : decode cX9_count 136 = .ok (.aload_n 0, 1) := by decide +kernel
theorem dX9_count_137 : decode cX9_count 137 = .ok (.getfield 10, 3) := by decide +kernel
theorem dX9_count_140 : decode cX9_count 140 = .ok (.invokevirtual 241, 3) := by decide +kernel
theorem dX9_count_143 : decode cX9_count 143 = .ok (.ireturn, 1) := by decide +kernel
theorem dX9_count_144 : decode cX9_count 144 = .ok (.aload_n 0, 1) := by decide +kernel
theorem dX9_count_145 : decode cX9_count 145 = .ok (.getfield 32, 3) := by decide +kernel
theorem dX9_count_148 : decode cX9_count 148 = .ok (.invokevirtual 89, 3) := by decide +kernel
theorem dX9_count_151 : decode cX9_count 151 = .ok (.ireturn, 1) := by decide +kernel
theorem dX9_count_152 : decode cX9_count 152 = .ok (.aload_n 0, 1) := by decide +kernel
theorem dX9_count_153 : decode cX9_count 153 = .ok (.getfield 25, 3) := by decide +kernel
theorem dX9_count_156 : decode cX9_count 156 = .ok (.invokevirtual 244, 3) := by decide +kernel
theorem dX9_count_159 : decode cX9_count 159 = .ok (.ireturn, 1) := by decide +kernel
theorem dX9_count_160 : decode cX9_count 160 = .ok (.iconst (-1), 1) := by decide +kernel
theorem dX9_count_161 : decode cX9_count 161 = .ok (.ireturn, 1) := by decide +kernel
theorem dX9_borne_0 : decode cX9_borne 0 = .ok (.iload_n 1, 1) := by decide +kernel
theorem dX9_borne_1 : decode cX9_borne 1 = .ok (.invokestatic 166, 3) := by decide +kernel
theorem dX9_borne_4 : decode cX9_borne 4 = .ok (.ifCond .eq 10, 3) := by decide +kernel
theorem dX9_borne_7 : decode cX9_borne 7 = .ok (.iload_n 2, 1) := by decide +kernel
theorem dX9_borne_8 : decode cX9_borne 8 = .ok (.invokestatic 175, 3) := by decide +kernel
theorem dX9_borne_11 : decode cX9_borne 11 = .ok (.ifCond .ne 5, 3) := by decide +kernel
theorem dX9_borne_14 : decode cX9_borne 14 = .ok (.iconst (-1), 1) := by decide +kernel
theorem dX9_borne_15 : decode cX9_borne 15 = .ok (.ireturn, 1) := by decide +kernel
theorem dX9_borne_16 : decode cX9_borne 16 = .ok (.aload_n 0, 1) := by decide +kernel
theorem dX9_borne_17 : decode cX9_borne 17 = .ok (.getfield 10, 3) := by decide +kernel
theorem dX9_borne_20 : decode cX9_borne 20 = .ok (.iload_n 1, 1) := by decide +kernel
theorem dX9_borne_21 : decode cX9_borne 21 = .ok (.iload_n 2, 1) := by decide +kernel
theorem dX9_borne_22 : decode cX9_borne 22 = .ok (.invokestatic 245, 3) := by decide +kernel
theorem dX9_borne_25 : decode cX9_borne 25 = .ok (.ireturn, 1) := by decide +kernel
theorem dX9_unlike_0 : decode cX9_unlike 0 = .ok (.aload_n 0, 1) := by decide +kernel
theorem dX9_unlike_1 : decode cX9_unlike 1 = .ok (.getfield 10, 3) := by decide +kernel
theorem dX9_unlike_4 : decode cX9_unlike 4 = .ok (.invokestatic 248, 3) := by decide +kernel
theorem dX9_unlike_7 : decode cX9_unlike 7 = .ok (.dreturn, 1) := by decide +kernel
theorem dX9_ifDead_0 : decode cX9_ifDead 0 = .ok (.aload_n 0, 1) := by decide +kernel
theorem dX9_ifDead_1 : decode cX9_ifDead 1 = .ok (.getfield 10, 3) := by decide +kernel
theorem dX9_ifDead_4 : decode cX9_ifDead 4 = .ok (.iload_n 1, 1) := by decide +kernel
theorem dX9_ifDead_5 : decode cX9_ifDead 5 = .ok (.invokevirtual 121, 3) := by decide +kernel
theorem dX9_ifDead_8 : decode cX9_ifDead 8 = .ok (.ifCond .eq 12, 3) := by decide +kernel
theorem dX9_ifDead_11 : decode cX9_ifDead 11 = .ok (.iload_n 2, 1) := by decide +kernel
theorem dX9_ifDead_12 : decode cX9_ifDead 12 = .ok (.ifCond .lt 8, 3) := by decide +kernel
theorem dX9_ifDead_15 : decode cX9_ifDead 15 = .ok (.iload_n 2, 1) := by decide +kernel
theorem dX9_ifDead_16 : decode cX9_ifDead 16 = .ok (.iconst 2, 1) := by decide +kernel
theorem dX9_ifDead_17 : decode cX9_ifDead 17 = .ok (.if_icmp .le 5, 3) := by decide +kernel
theorem dX9_ifDead_20 : decode cX9_ifDead 20 = .ok (.iconst (-1), 1) := by decide +kernel
theorem dX9_ifDead_21 : decode cX9_ifDead 21 = .ok (.ireturn, 1) := by decide +kernel
theorem dX9_ifDead_22 : decode cX9_ifDead 22 = .ok (.aload_n 0, 1) := by decide +kernel
theorem dX9_ifDead_23 : decode cX9_ifDead 23 = .ok (.getfield 10, 3) := by decide +kernel
theorem dX9_ifDead_26 : decode cX9_ifDead 26 = .ok (.iload_n 1, 1) := by decide +kernel
theorem dX9_ifDead_27 : decode cX9_ifDead 27 = .ok (.invokevirtual 127, 3) := by decide +kernel
theorem dX9_ifDead_30 : decode cX9_ifDead 30 = .ok (.ifCond .ne 6, 3) := by decide +kernel
theorem dX9_ifDead_33 : decode cX9_ifDead 33 = .ok (.bipush (-2), 2) := by decide +kernel
theorem dX9_ifDead_35 : decode cX9_ifDead 35 = .ok (.ireturn, 1) := by decide +kernel
theorem dX9_ifDead_36 : decode cX9_ifDead 36 = .ok (.aload_n 0, 1) := by decide +kernel
theorem dX9_ifDead_37 : decode cX9_ifDead 37 = .ok (.getfield 19, 3) := by decide +kernel
theorem dX9_ifDead_40 : decode cX9_ifDead 40 = .ok (.aload_n 0, 1) := by decide +kernel
theorem dX9_ifDead_41 : decode cX9_ifDead 41 = .ok (.getfield 10, 3) := by decide +kernel
theorem dX9_ifDead_44 : decode cX9_ifDead 44 = .ok (.invokevirtual 252, 3) := by decide +kernel
theorem dX9_ifDead_47 : decode cX9_ifDead 47 = .ok (.aload_n 0, 1) := by decide +kernel
theorem dX9_ifDead_48 : decode cX9_ifDead 48 = .ok (.getfield 19, 3) := by decide +kernel
theorem dX9_ifDead_51 : decode cX9_ifDead 51 = .ok (.iload_n 1, 1) := by decide +kernel
theorem dX9_ifDead_52 : decode cX9_ifDead 52 = .ok (.invokevirtual 72, 3) := by decide +kernel
theorem dX9_ifDead_55 : decode cX9_ifDead 55 = .ok (.pop, 1) := by decide +kernel
theorem dX9_ifDead_56 : decode cX9_ifDead 56 = .ok (.iload_n 2, 1) := by decide +kernel
theorem dX9_ifDead_57 : decode cX9_ifDead 57 = .ok (.ifCond .ne 15, 3) := by decide +kernel
theorem dX9_ifDead_60 : decode cX9_ifDead 60 = .ok (.aload_n 0, 1) := by decide +kernel
theorem dX9_ifDead_61 : decode cX9_ifDead 61 = .ok (.getfield 19, 3) := by decide +kernel
theorem dX9_ifDead_64 : decode cX9_ifDead 64 = .ok (.iload_n 1, 1) := by decide +kernel
theorem dX9_ifDead_65 : decode cX9_ifDead 65 = .ok (.invokestatic 255, 3) := by decide +kernel
theorem dX9_ifDead_68 : decode cX9_ifDead 68 = .ok (.invokestatic 133, 3) := by decide +kernel
theorem dX9_ifDead_71 : decode cX9_ifDead 71 = .ok (.ireturn, 1) := by decide +kernel
theorem dX9_ifDead_72 : decode cX9_ifDead 72 = .ok (.iload_n 2, 1) := by decide +kernel
theorem dX9_ifDead_73 : decode cX9_ifDead 73 = .ok (.iconst 1, 1) := by decide +kernel
theorem dX9_ifDead_74 : decode cX9_ifDead 74 = .ok (.if_icmp .ne 13, 3) := by decide +kernel
theorem dX9_ifDead_77 : decode cX9_ifDead 77 = .ok (.aload_n 0, 1) := by decide +kernel
theorem dX9_ifDead_78 : decode cX9_ifDead 78 = .ok (.getfield 19, 3) := by decide +kernel
theorem dX9_ifDead_81 : decode cX9_ifDead 81 = .ok (.invokestatic 223, 3) := by decide +kernel
theorem dX9_ifDead_84 : decode cX9_ifDead 84 = .ok (.goto 10, 3) := by decide +kernel
theorem dX9_ifDead_87 : decode cX9_ifDead 87 = .ok (.aload_n 0, 1) := by decide +kernel
theorem dX9_ifDead_88 : decode cX9_ifDead 88 = .ok (.getfield 19, 3) := by decide +kernel
theorem dX9_ifDead_91 : decode cX9_ifDead 91 = .ok (.invokestatic 258, 3) := by decide +kernel
theorem dX9_ifDead_94 : decode cX9_ifDead 94 = .ok (.ireturn, 1) := by decide +kernel
theorem dX9_undo_0 : decode cX9_undo 0 = .ok (.aload_n 0, 1) := by decide +kernel
theorem dX9_undo_1 : decode cX9_undo 1 = .ok (.getfield 25, 3) := by decide +kernel
theorem dX9_undo_4 : decode cX9_undo 4 = .ok (.invokevirtual 244, 3) := by decide +kernel
theorem dX9_undo_7 : decode cX9_undo 7 = .ok (.ifCond .ne 6, 3) := by decide +kernel
theorem dX9_undo_10 : decode cX9_undo 10 = .ok (.bipush (-2), 2) := by decide +kernel
theorem dX9_undo_12 : decode cX9_undo 12 = .ok (.ireturn, 1) := by decide +kernel
theorem dX9_undo_13 : decode cX9_undo 13 = .ok (.aload_n 0, 1) := by decide +kernel
theorem dX9_undo_14 : decode cX9_undo 14 = .ok (.getfield 25, 3) := by decide +kernel
theorem dX9_undo_17 : decode cX9_undo 17 = .ok (.aload_n 0, 1) := by decide +kernel
theorem dX9_undo_18 : decode cX9_undo 18 = .ok (.getfield 10, 3) := by decide +kernel
theorem dX9_undo_21 : decode cX9_undo 21 = .ok (.invokevirtual 261, 3) := by decide +kernel
theorem dX9_undo_24 : decode cX9_undo 24 = .ok (.aload_n 0, 1) := by decide +kernel
theorem dX9_undo_25 : decode cX9_undo 25 = .ok (.getfield 25, 3) := by decide +kernel
theorem dX9_undo_28 : decode cX9_undo 28 = .ok (.invokevirtual 244, 3) := by decide +kernel
theorem dX9_undo_31 : decode cX9_undo 31 = .ok (.ireturn, 1) := by decide +kernel
theorem dX9_save_0 : decode cX9_save 0 = .ok (.aload_n 0, 1) := by decide +kernel
theorem dX9_save_1 : decode cX9_save 1 = .ok (.getfield 16, 3) := by decide +kernel
theorem dX9_save_4 : decode cX9_save 4 = .ok (.aload_n 0, 1) := by decide +kernel
theorem dX9_save_5 : decode cX9_save 5 = .ok (.getfield 10, 3) := by decide +kernel
theorem dX9_save_8 : decode cX9_save 8 = .ok (.invokevirtual 252, 3) := by decide +kernel
theorem dX9_save_11 : decode cX9_save 11 = .ok (.aload_n 0, 1) := by decide +kernel
theorem dX9_save_12 : decode cX9_save 12 = .ok (.iconst 1, 1) := by decide +kernel
theorem dX9_save_13 : decode cX9_save 13 = .ok (.putfield 43, 3) := by decide +kernel
theorem dX9_save_16 : decode cX9_save 16 = .ok (.aload_n 0, 1) := by decide +kernel
theorem dX9_save_17 : decode cX9_save 17 = .ok (.getfield 10, 3) := by decide +kernel
theorem dX9_save_20 : decode cX9_save 20 = .ok (.invokevirtual 214, 3) := by decide +kernel
theorem dX9_save_23 : decode cX9_save 23 = .ok (.ireturn, 1) := by decide +kernel
theorem dX9_restore_0 : decode cX9_restore 0 = .ok (.aload_n 0, 1) := by decide +kernel
theorem dX9_restore_1 : decode cX9_restore 1 = .ok (.getfield 43, 3) := by decide +kernel
theorem dX9_restore_4 : decode cX9_restore 4 = .ok (.ifCond .ne 6, 3) := by decide +kernel
theorem dX9_restore_7 : decode cX9_restore 7 = .ok (.bipush (-2), 2) := by decide +kernel
theorem dX9_restore_9 : decode cX9_restore 9 = .ok (.ireturn, 1) := by decide +kernel
theorem dX9_restore_10 : decode cX9_restore 10 = .ok (.aload_n 0, 1) := by decide +kernel
theorem dX9_restore_11 : decode cX9_restore 11 = .ok (.getfield 25, 3) := by decide +kernel
theorem dX9_restore_14 : decode cX9_restore 14 = .ok (.aload_n 0, 1) := by decide +kernel
theorem dX9_restore_15 : decode cX9_restore 15 = .ok (.getfield 10, 3) := by decide +kernel
theorem dX9_restore_18 : decode cX9_restore 18 = .ok (.invokevirtual 57, 3) := by decide +kernel
theorem dX9_restore_21 : decode cX9_restore 21 = .ok (.aload_n 0, 1) := by decide +kernel
theorem dX9_restore_22 : decode cX9_restore 22 = .ok (.getfield 10, 3) := by decide +kernel
theorem dX9_restore_25 : decode cX9_restore 25 = .ok (.aload_n 0, 1) := by decide +kernel
theorem dX9_restore_26 : decode cX9_restore 26 = .ok (.getfield 16, 3) := by decide +kernel
theorem dX9_restore_29 : decode cX9_restore 29 = .ok (.invokevirtual 252, 3) := by decide +kernel
theorem dX9_restore_32 : decode cX9_restore 32 = .ok (.aload_n 0, 1) := by decide +kernel
theorem dX9_restore_33 : decode cX9_restore 33 = .ok (.getfield 25, 3) := by decide +kernel
theorem dX9_restore_36 : decode cX9_restore 36 = .ok (.invokevirtual 78, 3) := by decide +kernel
theorem dX9_restore_39 : decode cX9_restore 39 = .ok (.aload_n 0, 1) := by decide +kernel
theorem dX9_restore_40 : decode cX9_restore 40 = .ok (.getfield 10, 3) := by decide +kernel
theorem dX9_restore_43 : decode cX9_restore 43 = .ok (.invokevirtual 214, 3) := by decide +kernel
theorem dX9_restore_46 : decode cX9_restore 46 = .ok (.ireturn, 1) := by decide +kernel
theorem dL_cell_0 : decode cL_cell 0 = .ok (.iload_n 1, 1) := by decide +kernel
theorem dL_cell_1 : decode cL_cell 1 = .ok (.aload_n 0, 1) := by decide +kernel
theorem dL_cell_2 : decode cL_cell 2 = .ok (.arraylength, 1) := by decide +kernel
theorem dL_cell_3 : decode cL_cell 3 = .ok (.if_icmp .ge 9, 3) := by decide +kernel
theorem dL_cell_6 : decode cL_cell 6 = .ok (.aload_n 0, 1) := by decide +kernel
theorem dL_cell_7 : decode cL_cell 7 = .ok (.iload_n 1, 1) := by decide +kernel
theorem dL_cell_8 : decode cL_cell 8 = .ok (.iaload, 1) := by decide +kernel
theorem dL_cell_9 : decode cL_cell 9 = .ok (.goto 14, 3) := by decide +kernel
theorem dL_cell_12 : decode cL_cell 12 = .ok (.ldc 7, 2) := by decide +kernel
theorem dL_cell_14 : decode cL_cell 14 = .ok (.iload_n 1, 1) := by decide +kernel
theorem dL_cell_15 : decode cL_cell 15 = .ok (.sipush 367, 3) := by decide +kernel
theorem dL_cell_18 : decode cL_cell 18 = .ok (.iadd, 1) := by decide +kernel
theorem dL_cell_19 : decode cL_cell 19 = .ok (.imul, 1) := by decide +kernel
theorem dL_cell_20 : decode cL_cell 20 = .ok (.ldc 8, 2) := by decide +kernel
theorem dL_cell_22 : decode cL_cell 22 = .ok (.iadd, 1) := by decide +kernel
theorem dL_cell_23 : decode cL_cell 23 = .ok (.ldc 9, 2) := by decide +kernel
theorem dL_cell_25 : decode cL_cell 25 = .ok (.iand, 1) := by decide +kernel
theorem dL_cell_26 : decode cL_cell 26 = .ok (.ireturn, 1) := by decide +kernel
theorem dL_seen_0 : decode cL_seen 0 = .ok (.ldc2_w 10, 3) := by decide +kernel
theorem dL_seen_3 : decode cL_seen 3 = .ok (.lstore_n 1, 1) := by decide +kernel
theorem dL_seen_4 : decode cL_seen 4 = .ok (.iconst 0, 1) := by decide +kernel
theorem dL_seen_5 : decode cL_seen 5 = .ok (.istore_n 3, 1) := by decide +kernel
theorem dL_seen_6 : decode cL_seen 6 = .ok (.iload_n 3, 1) := by decide +kernel
theorem dL_seen_7 : decode cL_seen 7 = .ok (.bipush 10, 2) := by decide +kernel
theorem dL_seen_9 : decode cL_seen 9 = .ok (.if_icmp .ge 22, 3) := by decide +kernel
theorem dL_seen_12 : decode cL_seen 12 = .ok (.ldc2_w 12, 3) := by decide +kernel
theorem dL_seen_15 : decode cL_seen 15 = .ok (.lload_n 1, 1) := by decide +kernel
theorem dL_seen_16 : decode cL_seen 16 = .ok (.lmul, 1) := by decide +kernel
theorem dL_seen_17 : decode cL_seen 17 = .ok (.aload_n 0, 1) := by decide +kernel
theorem dL_seen_18 : decode cL_seen 18 = .ok (.iload_n 3, 1) := by decide +kernel
theorem dL_seen_19 : decode cL_seen 19 = .ok (.invokevirtual 14, 3) := by decide +kernel
theorem dL_seen_22 : decode cL_seen 22 = .ok (.i2l, 1) := by decide +kernel
theorem dL_seen_23 : decode cL_seen 23 = .ok (.ladd, 1) := by decide +kernel
theorem dL_seen_24 : decode cL_seen 24 = .ok (.lstore_n 1, 1) := by decide +kernel
theorem dL_seen_25 : decode cL_seen 25 = .ok (.iinc 3 1, 3) := by decide +kernel
theorem dL_seen_28 : decode cL_seen 28 = .ok (.goto (-22), 3) := by decide +kernel
theorem dL_seen_31 : decode cL_seen 31 = .ok (.iconst 0, 1) := by decide +kernel
theorem dL_seen_32 : decode cL_seen 32 = .ok (.istore_n 3, 1) := by decide +kernel
theorem dL_seen_33 : decode cL_seen 33 = .ok (.iload_n 3, 1) := by decide +kernel
theorem dL_seen_34 : decode cL_seen 34 = .ok (.bipush 20, 2) := by decide +kernel
theorem dL_seen_36 : decode cL_seen 36 = .ok (.if_icmp .ge 39, 3) := by decide +kernel
theorem dL_seen_39 : decode cL_seen 39 = .ok (.iconst 0, 1) := by decide +kernel
theorem dL_seen_40 : decode cL_seen 40 = .ok (.istore 4, 2) := by decide +kernel
theorem dL_seen_42 : decode cL_seen 42 = .ok (.iload 4, 2) := by decide +kernel
theorem dL_seen_44 : decode cL_seen 44 = .ok (.iconst 5, 1) := by decide +kernel
theorem dL_seen_45 : decode cL_seen 45 = .ok (.if_icmp .ge 24, 3) := by decide +kernel
theorem dL_seen_48 : decode cL_seen 48 = .ok (.ldc2_w 12, 3) := by decide +kernel
theorem dL_seen_51 : decode cL_seen 51 = .ok (.lload_n 1, 1) := by decide +kernel
theorem dL_seen_52 : decode cL_seen 52 = .ok (.lmul, 1) := by decide +kernel
theorem dL_seen_53 : decode cL_seen 53 = .ok (.aload_n 0, 1) := by decide +kernel
theorem dL_seen_54 : decode cL_seen 54 = .ok (.iload_n 3, 1) := by decide +kernel
theorem dL_seen_55 : decode cL_seen 55 = .ok (.iload 4, 2) := by decide +kernel
theorem dL_seen_57 : decode cL_seen 57 = .ok (.invokevirtual 20, 3) := by decide +kernel
theorem dL_seen_60 : decode cL_seen 60 = .ok (.i2l, 1) := by decide +kernel
theorem dL_seen_61 : decode cL_seen 61 = .ok (.ladd, 1) := by decide +kernel
theorem dL_seen_62 : decode cL_seen 62 = .ok (.lstore_n 1, 1) := by decide +kernel
theorem dL_seen_63 : decode cL_seen 63 = .ok (.iinc 4 1, 3) := by decide +kernel
theorem dL_seen_66 : decode cL_seen 66 = .ok (.goto (-24), 3) := by decide +kernel
theorem dL_seen_69 : decode cL_seen 69 = .ok (.iinc 3 1, 3) := by decide +kernel
theorem dL_seen_72 : decode cL_seen 72 = .ok (.goto (-39), 3) := by decide +kernel
theorem dL_seen_75 : decode cL_seen 75 = .ok (.lload_n 1, 1) := by decide +kernel
theorem dL_seen_76 : decode cL_seen 76 = .ok (.lreturn, 1) := by decide +kernel
theorem dL_arePersons_0 : decode cL_arePersons 0 = .ok (.aload_n 0, 1) := by decide +kernel
theorem dL_arePersons_1 : decode cL_arePersons 1 = .ok (.iconst 0, 1) := by decide +kernel
theorem dL_arePersons_2 : decode cL_arePersons 2 = .ok (.invokevirtual 14, 3) := by decide +kernel
theorem dL_arePersons_5 : decode cL_arePersons 5 = .ok (.istore_n 1, 1) := by decide +kernel
theorem dL_arePersons_6 : decode cL_arePersons 6 = .ok (.iconst 0, 1) := by decide +kernel
theorem dL_arePersons_7 : decode cL_arePersons 7 = .ok (.istore_n 2, 1) := by decide +kernel
theorem dL_arePersons_8 : decode cL_arePersons 8 = .ok (.iconst 0, 1) := by decide +kernel
theorem dL_arePersons_9 : decode cL_arePersons 9 = .ok (.istore_n 3, 1) := by decide +kernel
theorem dL_arePersons_10 : decode cL_arePersons 10 = .ok (.iconst 0, 1) := by decide +kernel
theorem dL_arePersons_11 : decode cL_arePersons 11 = .ok (.istore 4, 2) := by decide +kernel
theorem dL_arePersons_13 : decode cL_arePersons 13 = .ok (.iconst 0, 1) := by decide +kernel
theorem dL_arePersons_14 : decode cL_arePersons 14 = .ok (.istore 5, 2) := by decide +kernel
theorem dL_arePersons_16 : decode cL_arePersons 16 = .ok (.iload_n 1, 1) := by decide +kernel
theorem dL_arePersons_17 : decode cL_arePersons 17 = .ok (.ifCond .lt 13, 3) := by decide +kernel
theorem dL_arePersons_20 : decode cL_arePersons 20 = .ok (.iload_n 1, 1) := by decide +kernel
theorem dL_arePersons_21 : decode cL_arePersons 21 = .ok (.bipush 20, 2) := by decide +kernel
theorem dL_arePersons_23 : decode cL_arePersons 23 = .ok (.if_icmp .gt 7, 3) := by decide +kernel
theorem dL_arePersons_26 : decode cL_arePersons 26 = .ok (.iconst 1, 1) := by decide +kernel
theorem dL_arePersons_27 : decode cL_arePersons 27 = .ok (.goto 4, 3) := by decide +kernel
theorem dL_arePersons_30 : decode cL_arePersons 30 = .ok (.iconst 0, 1) := by decide +kernel
theorem dL_arePersons_31 : decode cL_arePersons 31 = .ok (.istore 6, 2) := by decide +kernel
theorem dL_arePersons_33 : decode cL_arePersons 33 = .ok (.iconst 0, 1) := by decide +kernel
theorem dL_arePersons_34 : decode cL_arePersons 34 = .ok (.istore 7, 2) := by decide +kernel
theorem dL_arePersons_36 : decode cL_arePersons 36 = .ok (.iload 7, 2) := by decide +kernel
theorem dL_arePersons_38 : decode cL_arePersons 38 = .ok (.iload_n 1, 1) := by decide +kernel
theorem dL_arePersons_39 : decode cL_arePersons 39 = .ok (.if_icmp .ge 446, 3) := by decide +kernel
theorem dL_arePersons_42 : decode cL_arePersons 42 = .ok (.iload 6, 2) := by decide +kernel
theorem dL_arePersons_44 : decode cL_arePersons 44 = .ok (.ifCond .eq 441, 3) := by decide +kernel
theorem dL_arePersons_47 : decode cL_arePersons 47 = .ok (.aload_n 0, 1) := by decide +kernel
theorem dL_arePersons_48 : decode cL_arePersons 48 = .ok (.iload 7, 2) := by decide +kernel
theorem dL_arePersons_50 : decode cL_arePersons 50 = .ok (.iconst 0, 1) := by decide +kernel
theorem dL_arePersons_51 : decode cL_arePersons 51 = .ok (.invokevirtual 20, 3) := by decide +kernel
theorem dL_arePersons_54 : decode cL_arePersons 54 = .ok (.istore 8, 2) := by decide +kernel
theorem dL_arePersons_56 : decode cL_arePersons 56 = .ok (.aload_n 0, 1) := by decide +kernel
theorem dL_arePersons_57 : decode cL_arePersons 57 = .ok (.iload 7, 2) := by decide +kernel
theorem dL_arePersons_59 : decode cL_arePersons 59 = .ok (.iconst 2, 1) := by decide +kernel
theorem dL_arePersons_60 : decode cL_arePersons 60 = .ok (.invokevirtual 20, 3) := by decide +kernel
theorem dL_arePersons_63 : decode cL_arePersons 63 = .ok (.istore 9, 2) := by decide +kernel
theorem dL_arePersons_65 : decode cL_arePersons 65 = .ok (.aload_n 0, 1) := by decide +kernel
theorem dL_arePersons_66 : decode cL_arePersons 66 = .ok (.iload 7, 2) := by decide +kernel
theorem dL_arePersons_68 : decode cL_arePersons 68 = .ok (.iconst 1, 1) := by decide +kernel
theorem dL_arePersons_69 : decode cL_arePersons 69 = .ok (.invokevirtual 20, 3) := by decide +kernel
theorem dL_arePersons_72 : decode cL_arePersons 72 = .ok (.iconst 1, 1) := by decide +kernel
theorem dL_arePersons_73 : decode cL_arePersons 73 = .ok (.if_icmp .ne 7, 3) := by decide +kernel
theorem dL_arePersons_76 : decode cL_arePersons 76 = .ok (.iconst 1, 1) := by decide +kernel
theorem dL_arePersons_77 : decode cL_arePersons 77 = .ok (.goto 4, 3) := by decide +kernel
theorem dL_arePersons_80 : decode cL_arePersons 80 = .ok (.iconst 0, 1) := by decide +kernel
theorem dL_arePersons_81 : decode cL_arePersons 81 = .ok (.istore 10, 2) := by decide +kernel
theorem dL_arePersons_83 : decode cL_arePersons 83 = .ok (.iload_n 2, 1) := by decide +kernel
theorem dL_arePersons_84 : decode cL_arePersons 84 = .ok (.iload 10, 2) := by decide +kernel
theorem dL_arePersons_86 : decode cL_arePersons 86 = .ok (.ifCond .eq 7, 3) := by decide +kernel
theorem dL_arePersons_89 : decode cL_arePersons 89 = .ok (.iconst 1, 1) := by decide +kernel
theorem dL_arePersons_90 : decode cL_arePersons 90 = .ok (.goto 4, 3) := by decide +kernel
theorem dL_arePersons_93 : decode cL_arePersons 93 = .ok (.iconst 0, 1) := by decide +kernel
theorem dL_arePersons_94 : decode cL_arePersons 94 = .ok (.iadd, 1) := by decide +kernel
theorem dL_arePersons_95 : decode cL_arePersons 95 = .ok (.istore_n 2, 1) := by decide +kernel
theorem dL_arePersons_96 : decode cL_arePersons 96 = .ok (.iload_n 3, 1) := by decide +kernel
theorem dL_arePersons_97 : decode cL_arePersons 97 = .ok (.iload 9, 2) := by decide +kernel
theorem dL_arePersons_99 : decode cL_arePersons 99 = .ok (.bipush (-4), 2) := by decide +kernel
theorem dL_arePersons_101 : decode cL_arePersons 101 = .ok (.if_icmp .ne 7, 3) := by decide +kernel
theorem dL_arePersons_104 : decode cL_arePersons 104 = .ok (.iconst 1, 1) := by decide +kernel
theorem dL_arePersons_105 : decode cL_arePersons 105 = .ok (.goto 4, 3) := by decide +kernel
theorem dL_arePersons_108 : decode cL_arePersons 108 = .ok (.iconst 0, 1) := by decide +kernel
theorem dL_arePersons_109 : decode cL_arePersons 109 = .ok (.iadd, 1) := by decide +kernel
theorem dL_arePersons_110 : decode cL_arePersons 110 = .ok (.istore_n 3, 1) := by decide +kernel
theorem dL_arePersons_111 : decode cL_arePersons 111 = .ok (.iload 5, 2) := by decide +kernel
theorem dL_arePersons_113 : decode cL_arePersons 113 = .ok (.aload_n 0, 1) := by decide +kernel
theorem dL_arePersons_114 : decode cL_arePersons 114 = .ok (.iload 7, 2) := by decide +kernel
theorem dL_arePersons_116 : decode cL_arePersons 116 = .ok (.iconst 5, 1) := by decide +kernel
theorem dL_arePersons_117 : decode cL_arePersons 117 = .ok (.invokevirtual 20, 3) := by decide +kernel
theorem dL_arePersons_120 : decode cL_arePersons 120 = .ok (.iadd, 1) := by decide +kernel
theorem dL_arePersons_121 : decode cL_arePersons 121 = .ok (.istore 5, 2) := by decide +kernel
theorem dL_arePersons_123 : decode cL_arePersons 123 = .ok (.iload 4, 2) := by decide +kernel
theorem dL_arePersons_125 : decode cL_arePersons 125 = .ok (.iload 10, 2) := by decide +kernel
theorem dL_arePersons_127 : decode cL_arePersons 127 = .ok (.ifCond .eq 17, 3) := by decide +kernel
theorem dL_arePersons_130 : decode cL_arePersons 130 = .ok (.aload_n 0, 1) := by decide +kernel
theorem dL_arePersons_131 : decode cL_arePersons 131 = .ok (.iload 7, 2) := by decide +kernel
theorem dL_arePersons_133 : decode cL_arePersons 133 = .ok (.iconst 5, 1) := by decide +kernel
theorem dL_arePersons_134 : decode cL_arePersons 134 = .ok (.invokevirtual 20, 3) := by decide +kernel
theorem dL_arePersons_137 : decode cL_arePersons 137 = .ok (.ifCond .ne 7, 3) := by decide +kernel
theorem dL_arePersons_140 : decode cL_arePersons 140 = .ok (.iconst 1, 1) := by decide +kernel
theorem dL_arePersons_141 : decode cL_arePersons 141 = .ok (.goto 4, 3) := by decide +kernel
theorem dL_arePersons_144 : decode cL_arePersons 144 = .ok (.iconst 0, 1) := by decide +kernel
theorem dL_arePersons_145 : decode cL_arePersons 145 = .ok (.iadd, 1) := by decide +kernel
theorem dL_arePersons_146 : decode cL_arePersons 146 = .ok (.istore 4, 2) := by decide +kernel
theorem dL_arePersons_148 : decode cL_arePersons 148 = .ok (.iload 8, 2) := by decide +kernel
theorem dL_arePersons_150 : decode cL_arePersons 150 = .ok (.ifCond .lt 122, 3) := by decide +kernel
theorem dL_arePersons_153 : decode cL_arePersons 153 = .ok (.iload 8, 2) := by decide +kernel
theorem dL_arePersons_155 : decode cL_arePersons 155 = .ok (.sipush 15625, 3) := by decide +kernel
theorem dL_arePersons_158 : decode cL_arePersons 158 = .ok (.if_icmp .ge 114, 3) := by decide +kernel
theorem dL_arePersons_161 : decode cL_arePersons 161 = .ok (.iload 10, 2) := by decide +kernel
theorem dL_arePersons_163 : decode cL_arePersons 163 = .ok (.ifCond .eq 17, 3) := by decide +kernel
theorem dL_arePersons_166 : decode cL_arePersons 166 = .ok (.aload_n 0, 1) := by decide +kernel
theorem dL_arePersons_167 : decode cL_arePersons 167 = .ok (.iload 8, 2) := by decide +kernel
theorem dL_arePersons_169 : decode cL_arePersons 169 = .ok (.invokevirtual 26, 3) := by decide +kernel
theorem dL_arePersons_172 : decode cL_arePersons 172 = .ok (.iload 7, 2) := by decide +kernel
theorem dL_arePersons_174 : decode cL_arePersons 174 = .ok (.if_icmp .ne 98, 3) := by decide +kernel
theorem dL_arePersons_177 : decode cL_arePersons 177 = .ok (.goto 14, 3) := by decide +kernel
theorem dL_arePersons_180 : decode cL_arePersons 180 = .ok (.aload_n 0, 1) := by decide +kernel
theorem dL_arePersons_181 : decode cL_arePersons 181 = .ok (.iload 8, 2) := by decide +kernel
theorem dL_arePersons_183 : decode cL_arePersons 183 = .ok (.invokevirtual 26, 3) := by decide +kernel
theorem dL_arePersons_186 : decode cL_arePersons 186 = .ok (.iload 7, 2) := by decide +kernel
theorem dL_arePersons_188 : decode cL_arePersons 188 = .ok (.if_icmp .eq 84, 3) := by decide +kernel
theorem dL_arePersons_191 : decode cL_arePersons 191 = .ok (.iload 9, 2) := by decide +kernel
theorem dL_arePersons_193 : decode cL_arePersons 193 = .ok (.iload 7, 2) := by decide +kernel
theorem dL_arePersons_195 : decode cL_arePersons 195 = .ok (.if_icmp .ge 77, 3) := by decide +kernel
theorem dL_arePersons_198 : decode cL_arePersons 198 = .ok (.aload_n 0, 1) := by decide +kernel
theorem dL_arePersons_199 : decode cL_arePersons 199 = .ok (.iload 7, 2) := by decide +kernel
theorem dL_arePersons_201 : decode cL_arePersons 201 = .ok (.bipush 6, 2) := by decide +kernel
theorem dL_arePersons_203 : decode cL_arePersons 203 = .ok (.invokevirtual 20, 3) := by decide +kernel
theorem dL_arePersons_206 : decode cL_arePersons 206 = .ok (.aload_n 0, 1) := by decide +kernel
theorem dL_arePersons_207 : decode cL_arePersons 207 = .ok (.iload 7, 2) := by decide +kernel
theorem dL_arePersons_209 : decode cL_arePersons 209 = .ok (.iconst 5, 1) := by decide +kernel
theorem dL_arePersons_210 : decode cL_arePersons 210 = .ok (.invokevirtual 20, 3) := by decide +kernel
theorem dL_arePersons_213 : decode cL_arePersons 213 = .ok (.if_icmp .gt 59, 3) := by decide +kernel
theorem dL_arePersons_216 : decode cL_arePersons 216 = .ok (.aload_n 0, 1) := by decide +kernel
theorem dL_arePersons_217 : decode cL_arePersons 217 = .ok (.iload 7, 2) := by decide +kernel
theorem dL_arePersons_219 : decode cL_arePersons 219 = .ok (.iconst 5, 1) := by decide +kernel
theorem dL_arePersons_220 : decode cL_arePersons 220 = .ok (.invokevirtual 20, 3) := by decide +kernel
theorem dL_arePersons_223 : decode cL_arePersons 223 = .ok (.iconst 4, 1) := by decide +kernel
theorem dL_arePersons_224 : decode cL_arePersons 224 = .ok (.if_icmp .gt 48, 3) := by decide +kernel
theorem dL_arePersons_227 : decode cL_arePersons 227 = .ok (.aload_n 0, 1) := by decide +kernel
theorem dL_arePersons_228 : decode cL_arePersons 228 = .ok (.iload 7, 2) := by decide +kernel
theorem dL_arePersons_230 : decode cL_arePersons 230 = .ok (.iconst 5, 1) := by decide +kernel
theorem dL_arePersons_231 : decode cL_arePersons 231 = .ok (.invokevirtual 20, 3) := by decide +kernel
theorem dL_arePersons_234 : decode cL_arePersons 234 = .ok (.aload_n 0, 1) := by decide +kernel
theorem dL_arePersons_235 : decode cL_arePersons 235 = .ok (.iload 7, 2) := by decide +kernel
theorem dL_arePersons_237 : decode cL_arePersons 237 = .ok (.bipush 9, 2) := by decide +kernel
theorem dL_arePersons_239 : decode cL_arePersons 239 = .ok (.invokevirtual 20, 3) := by decide +kernel
theorem dL_arePersons_242 : decode cL_arePersons 242 = .ok (.if_icmp .gt 30, 3) := by decide +kernel
theorem dL_arePersons_245 : decode cL_arePersons 245 = .ok (.aload_n 0, 1) := by decide +kernel
theorem dL_arePersons_246 : decode cL_arePersons 246 = .ok (.iload 7, 2) := by decide +kernel
theorem dL_arePersons_248 : decode cL_arePersons 248 = .ok (.bipush 7, 2) := by decide +kernel
theorem dL_arePersons_250 : decode cL_arePersons 250 = .ok (.invokevirtual 20, 3) := by decide +kernel
theorem dL_arePersons_253 : decode cL_arePersons 253 = .ok (.iconst 3, 1) := by decide +kernel
theorem dL_arePersons_254 : decode cL_arePersons 254 = .ok (.if_icmp .gt 18, 3) := by decide +kernel
theorem dL_arePersons_257 : decode cL_arePersons 257 = .ok (.aload_n 0, 1) := by decide +kernel
theorem dL_arePersons_258 : decode cL_arePersons 258 = .ok (.iload 7, 2) := by decide +kernel
theorem dL_arePersons_260 : decode cL_arePersons 260 = .ok (.iload 7, 2) := by decide +kernel
theorem dL_arePersons_262 : decode cL_arePersons 262 = .ok (.invokevirtual 29, 3) := by decide +kernel
theorem dL_arePersons_265 : decode cL_arePersons 265 = .ok (.ifCond .ne 7, 3) := by decide +kernel
theorem dL_arePersons_268 : decode cL_arePersons 268 = .ok (.iconst 1, 1) := by decide +kernel
theorem dL_arePersons_269 : decode cL_arePersons 269 = .ok (.goto 4, 3) := by decide +kernel
theorem dL_arePersons_272 : decode cL_arePersons 272 = .ok (.iconst 0, 1) := by decide +kernel
theorem dL_arePersons_273 : decode cL_arePersons 273 = .ok (.istore 6, 2) := by decide +kernel
theorem dL_arePersons_275 : decode cL_arePersons 275 = .ok (.iload 9, 2) := by decide +kernel
theorem dL_arePersons_277 : decode cL_arePersons 277 = .ok (.bipush (-4), 2) := by decide +kernel
theorem dL_arePersons_279 : decode cL_arePersons 279 = .ok (.if_icmp .ne 88, 3) := by decide +kernel
theorem dL_arePersons_282 : decode cL_arePersons 282 = .ok (.iload 6, 2) := by decide +kernel
theorem dL_arePersons_284 : decode cL_arePersons 284 = .ok (.ifCond .eq 77, 3) := by decide +kernel
theorem dL_arePersons_287 : decode cL_arePersons 287 = .ok (.aload_n 0, 1) := by decide +kernel
theorem dL_arePersons_288 : decode cL_arePersons 288 = .ok (.iload 7, 2) := by decide +kernel
theorem dL_arePersons_290 : decode cL_arePersons 290 = .ok (.iconst 3, 1) := by decide +kernel
theorem dL_arePersons_291 : decode cL_arePersons 291 = .ok (.invokevirtual 20, 3) := by decide +kernel
theorem dL_arePersons_294 : decode cL_arePersons 294 = .ok (.bipush (-4), 2) := by decide +kernel
theorem dL_arePersons_296 : decode cL_arePersons 296 = .ok (.if_icmp .ne 65, 3) := by decide +kernel
theorem dL_arePersons_299 : decode cL_arePersons 299 = .ok (.aload_n 0, 1) := by decide +kernel
theorem dL_arePersons_300 : decode cL_arePersons 300 = .ok (.iload 7, 2) := by decide +kernel
theorem dL_arePersons_302 : decode cL_arePersons 302 = .ok (.iconst 4, 1) := by decide +kernel
theorem dL_arePersons_303 : decode cL_arePersons 303 = .ok (.invokevirtual 20, 3) := by decide +kernel
theorem dL_arePersons_306 : decode cL_arePersons 306 = .ok (.bipush (-4), 2) := by decide +kernel
theorem dL_arePersons_308 : decode cL_arePersons 308 = .ok (.if_icmp .ne 53, 3) := by decide +kernel
theorem dL_arePersons_311 : decode cL_arePersons 311 = .ok (.aload_n 0, 1) := by decide +kernel
theorem dL_arePersons_312 : decode cL_arePersons 312 = .ok (.iload 7, 2) := by decide +kernel
theorem dL_arePersons_314 : decode cL_arePersons 314 = .ok (.bipush 7, 2) := by decide +kernel
theorem dL_arePersons_316 : decode cL_arePersons 316 = .ok (.invokevirtual 20, 3) := by decide +kernel
theorem dL_arePersons_319 : decode cL_arePersons 319 = .ok (.ifCond .ne 42, 3) := by decide +kernel
theorem dL_arePersons_322 : decode cL_arePersons 322 = .ok (.aload_n 0, 1) := by decide +kernel
theorem dL_arePersons_323 : decode cL_arePersons 323 = .ok (.iload 7, 2) := by decide +kernel
theorem dL_arePersons_325 : decode cL_arePersons 325 = .ok (.bipush 8, 2) := by decide +kernel
theorem dL_arePersons_327 : decode cL_arePersons 327 = .ok (.invokevirtual 20, 3) := by decide +kernel
theorem dL_arePersons_330 : decode cL_arePersons 330 = .ok (.ifCond .ne 31, 3) := by decide +kernel
theorem dL_arePersons_333 : decode cL_arePersons 333 = .ok (.aload_n 0, 1) := by decide +kernel
theorem dL_arePersons_334 : decode cL_arePersons 334 = .ok (.iload 7, 2) := by decide +kernel
theorem dL_arePersons_336 : decode cL_arePersons 336 = .ok (.bipush 10, 2) := by decide +kernel
theorem dL_arePersons_338 : decode cL_arePersons 338 = .ok (.invokevirtual 20, 3) := by decide +kernel
theorem dL_arePersons_341 : decode cL_arePersons 341 = .ok (.ifCond .ne 20, 3) := by decide +kernel
theorem dL_arePersons_344 : decode cL_arePersons 344 = .ok (.aload_n 0, 1) := by decide +kernel
theorem dL_arePersons_345 : decode cL_arePersons 345 = .ok (.iload 7, 2) := by decide +kernel
theorem dL_arePersons_347 : decode cL_arePersons 347 = .ok (.bipush 11, 2) := by decide +kernel
theorem dL_arePersons_349 : decode cL_arePersons 349 = .ok (.invokevirtual 20, 3) := by decide +kernel
theorem dL_arePersons_352 : decode cL_arePersons 352 = .ok (.bipush (-4), 2) := by decide +kernel
theorem dL_arePersons_354 : decode cL_arePersons 354 = .ok (.if_icmp .ne 7, 3) := by decide +kernel
theorem dL_arePersons_357 : decode cL_arePersons 357 = .ok (.iconst 1, 1) := by decide +kernel
theorem dL_arePersons_358 : decode cL_arePersons 358 = .ok (.goto 4, 3) := by decide +kernel
theorem dL_arePersons_361 : decode cL_arePersons 361 = .ok (.iconst 0, 1) := by decide +kernel
theorem dL_arePersons_362 : decode cL_arePersons 362 = .ok (.istore 6, 2) := by decide +kernel
theorem dL_arePersons_364 : decode cL_arePersons 364 = .ok (.goto 115, 3) := by decide +kernel
theorem dL_arePersons_367 : decode cL_arePersons 367 = .ok (.iload 6, 2) := by decide +kernel
theorem dL_arePersons_369 : decode cL_arePersons 369 = .ok (.ifCond .eq 107, 3) := by decide +kernel
theorem dL_arePersons_372 : decode cL_arePersons 372 = .ok (.iload 9, 2) := by decide +kernel
theorem dL_arePersons_374 : decode cL_arePersons 374 = .ok (.ifCond .lt 102, 3) := by decide +kernel
theorem dL_arePersons_377 : decode cL_arePersons 377 = .ok (.aload_n 0, 1) := by decide +kernel
theorem dL_arePersons_378 : decode cL_arePersons 378 = .ok (.iload 7, 2) := by decide +kernel
theorem dL_arePersons_380 : decode cL_arePersons 380 = .ok (.iconst 3, 1) := by decide +kernel
theorem dL_arePersons_381 : decode cL_arePersons 381 = .ok (.invokevirtual 20, 3) := by decide +kernel
theorem dL_arePersons_384 : decode cL_arePersons 384 = .ok (.ifCond .lt 92, 3) := by decide +kernel
theorem dL_arePersons_387 : decode cL_arePersons 387 = .ok (.aload_n 0, 1) := by decide +kernel
theorem dL_arePersons_388 : decode cL_arePersons 388 = .ok (.iload 7, 2) := by decide +kernel
theorem dL_arePersons_390 : decode cL_arePersons 390 = .ok (.iconst 3, 1) := by decide +kernel
theorem dL_arePersons_391 : decode cL_arePersons 391 = .ok (.invokevirtual 20, 3) := by decide +kernel
theorem dL_arePersons_394 : decode cL_arePersons 394 = .ok (.bipush 6, 2) := by decide +kernel
theorem dL_arePersons_396 : decode cL_arePersons 396 = .ok (.if_icmp .ge 80, 3) := by decide +kernel
theorem dL_arePersons_399 : decode cL_arePersons 399 = .ok (.aload_n 0, 1) := by decide +kernel
theorem dL_arePersons_400 : decode cL_arePersons 400 = .ok (.iload 7, 2) := by decide +kernel
theorem dL_arePersons_402 : decode cL_arePersons 402 = .ok (.iconst 4, 1) := by decide +kernel
theorem dL_arePersons_403 : decode cL_arePersons 403 = .ok (.invokevirtual 20, 3) := by decide +kernel
theorem dL_arePersons_406 : decode cL_arePersons 406 = .ok (.ifCond .lt 70, 3) := by decide +kernel
theorem dL_arePersons_409 : decode cL_arePersons 409 = .ok (.aload_n 0, 1) := by decide +kernel
theorem dL_arePersons_410 : decode cL_arePersons 410 = .ok (.iload 7, 2) := by decide +kernel
theorem dL_arePersons_412 : decode cL_arePersons 412 = .ok (.iconst 4, 1) := by decide +kernel
theorem dL_arePersons_413 : decode cL_arePersons 413 = .ok (.invokevirtual 20, 3) := by decide +kernel
theorem dL_arePersons_416 : decode cL_arePersons 416 = .ok (.iconst 5, 1) := by decide +kernel
theorem dL_arePersons_417 : decode cL_arePersons 417 = .ok (.if_icmp .ge 59, 3) := by decide +kernel
theorem dL_arePersons_420 : decode cL_arePersons 420 = .ok (.aload_n 0, 1) := by decide +kernel
theorem dL_arePersons_421 : decode cL_arePersons 421 = .ok (.iload 7, 2) := by decide +kernel
theorem dL_arePersons_423 : decode cL_arePersons 423 = .ok (.bipush 10, 2) := by decide +kernel
theorem dL_arePersons_425 : decode cL_arePersons 425 = .ok (.invokevirtual 20, 3) := by decide +kernel
theorem dL_arePersons_428 : decode cL_arePersons 428 = .ok (.aload_n 0, 1) := by decide +kernel
theorem dL_arePersons_429 : decode cL_arePersons 429 = .ok (.iload 9, 2) := by decide +kernel
theorem dL_arePersons_431 : decode cL_arePersons 431 = .ok (.bipush 10, 2) := by decide +kernel
theorem dL_arePersons_433 : decode cL_arePersons 433 = .ok (.invokevirtual 20, 3) := by decide +kernel
theorem dL_arePersons_436 : decode cL_arePersons 436 = .ok (.iconst 1, 1) := by decide +kernel
theorem dL_arePersons_437 : decode cL_arePersons 437 = .ok (.iadd, 1) := by decide +kernel
theorem dL_arePersons_438 : decode cL_arePersons 438 = .ok (.if_icmp .ne 38, 3) := by decide +kernel
theorem dL_arePersons_441 : decode cL_arePersons 441 = .ok (.aload_n 0, 1) := by decide +kernel
theorem dL_arePersons_442 : decode cL_arePersons 442 = .ok (.iload 7, 2) := by decide +kernel
theorem dL_arePersons_444 : decode cL_arePersons 444 = .ok (.bipush 11, 2) := by decide +kernel
theorem dL_arePersons_446 : decode cL_arePersons 446 = .ok (.invokevirtual 20, 3) := by decide +kernel
theorem dL_arePersons_449 : decode cL_arePersons 449 = .ok (.aload_n 0, 1) := by decide +kernel
theorem dL_arePersons_450 : decode cL_arePersons 450 = .ok (.iload 7, 2) := by decide +kernel
theorem dL_arePersons_452 : decode cL_arePersons 452 = .ok (.iload 9, 2) := by decide +kernel
theorem dL_arePersons_454 : decode cL_arePersons 454 = .ok (.invokevirtual 32, 3) := by decide +kernel
theorem dL_arePersons_457 : decode cL_arePersons 457 = .ok (.if_icmp .ne 19, 3) := by decide +kernel
theorem dL_arePersons_460 : decode cL_arePersons 460 = .ok (.aload_n 0, 1) := by decide +kernel
theorem dL_arePersons_461 : decode cL_arePersons 461 = .ok (.iload 7, 2) := by decide +kernel
theorem dL_arePersons_463 : decode cL_arePersons 463 = .ok (.iload 9, 2) := by decide +kernel
theorem dL_arePersons_465 : decode cL_arePersons 465 = .ok (.invokevirtual 29, 3) := by decide +kernel
theorem dL_arePersons_468 : decode cL_arePersons 468 = .ok (.iconst 1, 1) := by decide +kernel
theorem dL_arePersons_469 : decode cL_arePersons 469 = .ok (.if_icmp .ne 7, 3) := by decide +kernel
theorem dL_arePersons_472 : decode cL_arePersons 472 = .ok (.iconst 1, 1) := by decide +kernel
theorem dL_arePersons_473 : decode cL_arePersons 473 = .ok (.goto 4, 3) := by decide +kernel
theorem dL_arePersons_476 : decode cL_arePersons 476 = .ok (.iconst 0, 1) := by decide +kernel
theorem dL_arePersons_477 : decode cL_arePersons 477 = .ok (.istore 6, 2) := by decide +kernel
theorem dL_arePersons_479 : decode cL_arePersons 479 = .ok (.iinc 7 1, 3) := by decide +kernel
theorem dL_arePersons_482 : decode cL_arePersons 482 = .ok (.goto (-446), 3) := by decide +kernel
theorem dL_arePersons_485 : decode cL_arePersons 485 = .ok (.iconst 0, 1) := by decide +kernel
theorem dL_arePersons_486 : decode cL_arePersons 486 = .ok (.istore 7, 2) := by decide +kernel
theorem dL_arePersons_488 : decode cL_arePersons 488 = .ok (.iconst 0, 1) := by decide +kernel
theorem dL_arePersons_489 : decode cL_arePersons 489 = .ok (.istore 8, 2) := by decide +kernel
theorem dL_arePersons_491 : decode cL_arePersons 491 = .ok (.iload 8, 2) := by decide +kernel
theorem dL_arePersons_493 : decode cL_arePersons 493 = .ok (.iconst 5, 1) := by decide +kernel
theorem dL_arePersons_494 : decode cL_arePersons 494 = .ok (.if_icmp .ge 21, 3) := by decide +kernel
theorem dL_arePersons_497 : decode cL_arePersons 497 = .ok (.iload 7, 2) := by decide +kernel
theorem dL_arePersons_499 : decode cL_arePersons 499 = .ok (.aload_n 0, 1) := by decide +kernel
theorem dL_arePersons_500 : decode cL_arePersons 500 = .ok (.iconst 3, 1) := by decide +kernel
theorem dL_arePersons_501 : decode cL_arePersons 501 = .ok (.iload 8, 2) := by decide +kernel
theorem dL_arePersons_503 : decode cL_arePersons 503 = .ok (.invokevirtual 35, 3) := by decide +kernel
theorem dL_arePersons_506 : decode cL_arePersons 506 = .ok (.iadd, 1) := by decide +kernel
theorem dL_arePersons_507 : decode cL_arePersons 507 = .ok (.istore 7, 2) := by decide +kernel
theorem dL_arePersons_509 : decode cL_arePersons 509 = .ok (.iinc 8 1, 3) := by decide +kernel
theorem dL_arePersons_512 : decode cL_arePersons 512 = .ok (.goto (-21), 3) := by decide +kernel
theorem dL_arePersons_515 : decode cL_arePersons 515 = .ok (.iload 6, 2) := by decide +kernel
theorem dL_arePersons_517 : decode cL_arePersons 517 = .ok (.ifCond .eq 162, 3) := by decide +kernel
theorem dL_arePersons_520 : decode cL_arePersons 520 = .ok (.iload_n 2, 1) := by decide +kernel
theorem dL_arePersons_521 : decode cL_arePersons 521 = .ok (.aload_n 0, 1) := by decide +kernel
theorem dL_arePersons_522 : decode cL_arePersons 522 = .ok (.iconst 1, 1) := by decide +kernel
theorem dL_arePersons_523 : decode cL_arePersons 523 = .ok (.invokevirtual 14, 3) := by decide +kernel
theorem dL_arePersons_526 : decode cL_arePersons 526 = .ok (.if_icmp .ne 153, 3) := by decide +kernel
theorem dL_arePersons_529 : decode cL_arePersons 529 = .ok (.iload_n 3, 1) := by decide +kernel
theorem dL_arePersons_530 : decode cL_arePersons 530 = .ok (.aload_n 0, 1) := by decide +kernel
theorem dL_arePersons_531 : decode cL_arePersons 531 = .ok (.iconst 2, 1) := by decide +kernel
theorem dL_arePersons_532 : decode cL_arePersons 532 = .ok (.invokevirtual 14, 3) := by decide +kernel
theorem dL_arePersons_535 : decode cL_arePersons 535 = .ok (.if_icmp .ne 144, 3) := by decide +kernel
theorem dL_arePersons_538 : decode cL_arePersons 538 = .ok (.iload 4, 2) := by decide +kernel
theorem dL_arePersons_540 : decode cL_arePersons 540 = .ok (.aload_n 0, 1) := by decide +kernel
theorem dL_arePersons_541 : decode cL_arePersons 541 = .ok (.bipush 7, 2) := by decide +kernel
theorem dL_arePersons_543 : decode cL_arePersons 543 = .ok (.invokevirtual 14, 3) := by decide +kernel
theorem dL_arePersons_546 : decode cL_arePersons 546 = .ok (.if_icmp .ne 133, 3) := by decide +kernel
theorem dL_arePersons_549 : decode cL_arePersons 549 = .ok (.iload 5, 2) := by decide +kernel
theorem dL_arePersons_551 : decode cL_arePersons 551 = .ok (.iload_n 1, 1) := by decide +kernel
theorem dL_arePersons_552 : decode cL_arePersons 552 = .ok (.iload_n 3, 1) := by decide +kernel
theorem dL_arePersons_553 : decode cL_arePersons 553 = .ok (.isub, 1) := by decide +kernel
theorem dL_arePersons_554 : decode cL_arePersons 554 = .ok (.if_icmp .ne 125, 3) := by decide +kernel
theorem dL_arePersons_557 : decode cL_arePersons 557 = .ok (.iload 7, 2) := by decide +kernel
theorem dL_arePersons_559 : decode cL_arePersons 559 = .ok (.iload_n 2, 1) := by decide +kernel
theorem dL_arePersons_560 : decode cL_arePersons 560 = .ok (.if_icmp .ne 119, 3) := by decide +kernel
theorem dL_arePersons_563 : decode cL_arePersons 563 = .ok (.aload_n 0, 1) := by decide +kernel
theorem dL_arePersons_564 : decode cL_arePersons 564 = .ok (.iconst 3, 1) := by decide +kernel
theorem dL_arePersons_565 : decode cL_arePersons 565 = .ok (.invokevirtual 14, 3) := by decide +kernel
theorem dL_arePersons_568 : decode cL_arePersons 568 = .ok (.ifCond .lt 111, 3) := by decide +kernel
theorem dL_arePersons_571 : decode cL_arePersons 571 = .ok (.aload_n 0, 1) := by decide +kernel
theorem dL_arePersons_572 : decode cL_arePersons 572 = .ok (.iconst 5, 1) := by decide +kernel
theorem dL_arePersons_573 : decode cL_arePersons 573 = .ok (.invokevirtual 14, 3) := by decide +kernel
theorem dL_arePersons_576 : decode cL_arePersons 576 = .ok (.iload_n 1, 1) := by decide +kernel
theorem dL_arePersons_577 : decode cL_arePersons 577 = .ok (.if_icmp .gt 102, 3) := by decide +kernel
theorem dL_arePersons_580 : decode cL_arePersons 580 = .ok (.aload_n 0, 1) := by decide +kernel
theorem dL_arePersons_581 : decode cL_arePersons 581 = .ok (.iconst 5, 1) := by decide +kernel
theorem dL_arePersons_582 : decode cL_arePersons 582 = .ok (.invokevirtual 14, 3) := by decide +kernel
theorem dL_arePersons_585 : decode cL_arePersons 585 = .ok (.iload_n 2, 1) := by decide +kernel
theorem dL_arePersons_586 : decode cL_arePersons 586 = .ok (.if_icmp .lt 93, 3) := by decide +kernel
theorem dL_arePersons_589 : decode cL_arePersons 589 = .ok (.aload_n 0, 1) := by decide +kernel
theorem dL_arePersons_590 : decode cL_arePersons 590 = .ok (.bipush 6, 2) := by decide +kernel
theorem dL_arePersons_592 : decode cL_arePersons 592 = .ok (.invokevirtual 14, 3) := by decide +kernel
theorem dL_arePersons_595 : decode cL_arePersons 595 = .ok (.iload_n 2, 1) := by decide +kernel
theorem dL_arePersons_596 : decode cL_arePersons 596 = .ok (.if_icmp .gt 83, 3) := by decide +kernel
theorem dL_arePersons_599 : decode cL_arePersons 599 = .ok (.aload_n 0, 1) := by decide +kernel
theorem dL_arePersons_600 : decode cL_arePersons 600 = .ok (.bipush 8, 2) := by decide +kernel
theorem dL_arePersons_602 : decode cL_arePersons 602 = .ok (.invokevirtual 14, 3) := by decide +kernel
theorem dL_arePersons_605 : decode cL_arePersons 605 = .ok (.iload_n 1, 1) := by decide +kernel
theorem dL_arePersons_606 : decode cL_arePersons 606 = .ok (.iload_n 3, 1) := by decide +kernel
theorem dL_arePersons_607 : decode cL_arePersons 607 = .ok (.isub, 1) := by decide +kernel
theorem dL_arePersons_608 : decode cL_arePersons 608 = .ok (.if_icmp .gt 71, 3) := by decide +kernel
theorem dL_arePersons_611 : decode cL_arePersons 611 = .ok (.aload_n 0, 1) := by decide +kernel
theorem dL_arePersons_612 : decode cL_arePersons 612 = .ok (.iconst 4, 1) := by decide +kernel
theorem dL_arePersons_613 : decode cL_arePersons 613 = .ok (.invokevirtual 14, 3) := by decide +kernel
theorem dL_arePersons_616 : decode cL_arePersons 616 = .ok (.iload_n 1, 1) := by decide +kernel
theorem dL_arePersons_617 : decode cL_arePersons 617 = .ok (.ifCond .ne 7, 3) := by decide +kernel
theorem dL_arePersons_620 : decode cL_arePersons 620 = .ok (.iconst 1, 1) := by decide +kernel
theorem dL_arePersons_621 : decode cL_arePersons 621 = .ok (.goto 4, 3) := by decide +kernel
theorem dL_arePersons_624 : decode cL_arePersons 624 = .ok (.iload_n 1, 1) := by decide +kernel
theorem dL_arePersons_625 : decode cL_arePersons 625 = .ok (.if_icmp .ge 54, 3) := by decide +kernel
theorem dL_arePersons_628 : decode cL_arePersons 628 = .ok (.aload_n 0, 1) := by decide +kernel
theorem dL_arePersons_629 : decode cL_arePersons 629 = .ok (.invokevirtual 38, 3) := by decide +kernel
theorem dL_arePersons_632 : decode cL_arePersons 632 = .ok (.dconst 0, 1) := by decide +kernel
theorem dL_arePersons_633 : decode cL_arePersons 633 = .ok (.dcmp .l, 1) := by decide +kernel
theorem dL_arePersons_634 : decode cL_arePersons 634 = .ok (.ifCond .lt 45, 3) := by decide +kernel
theorem dL_arePersons_637 : decode cL_arePersons 637 = .ok (.aload_n 0, 1) := by decide +kernel
theorem dL_arePersons_638 : decode cL_arePersons 638 = .ok (.invokevirtual 38, 3) := by decide +kernel
theorem dL_arePersons_641 : decode cL_arePersons 641 = .ok (.ldc2_w 42, 3) := by decide +kernel
theorem dL_arePersons_644 : decode cL_arePersons 644 = .ok (.dcmp .g, 1) := by decide +kernel
theorem dL_arePersons_645 : decode cL_arePersons 645 = .ok (.ifCond .gt 34, 3) := by decide +kernel
theorem dL_arePersons_648 : decode cL_arePersons 648 = .ok (.iload_n 2, 1) := by decide +kernel
theorem dL_arePersons_649 : decode cL_arePersons 649 = .ok (.iconst 1, 1) := by decide +kernel
theorem dL_arePersons_650 : decode cL_arePersons 650 = .ok (.if_icmp .le 7, 3) := by decide +kernel
theorem dL_arePersons_653 : decode cL_arePersons 653 = .ok (.iconst 1, 1) := by decide +kernel
theorem dL_arePersons_654 : decode cL_arePersons 654 = .ok (.goto 4, 3) := by decide +kernel
theorem dL_arePersons_657 : decode cL_arePersons 657 = .ok (.iconst 0, 1) := by decide +kernel
theorem dL_arePersons_658 : decode cL_arePersons 658 = .ok (.aload_n 0, 1) := by decide +kernel
theorem dL_arePersons_659 : decode cL_arePersons 659 = .ok (.invokevirtual 38, 3) := by decide +kernel
theorem dL_arePersons_662 : decode cL_arePersons 662 = .ok (.dconst 0, 1) := by decide +kernel
theorem dL_arePersons_663 : decode cL_arePersons 663 = .ok (.dcmp .l, 1) := by decide +kernel
theorem dL_arePersons_664 : decode cL_arePersons 664 = .ok (.ifCond .le 7, 3) := by decide +kernel
theorem dL_arePersons_667 : decode cL_arePersons 667 = .ok (.iconst 1, 1) := by decide +kernel
theorem dL_arePersons_668 : decode cL_arePersons 668 = .ok (.goto 4, 3) := by decide +kernel
theorem dL_arePersons_671 : decode cL_arePersons 671 = .ok (.iconst 0, 1) := by decide +kernel
theorem dL_arePersons_672 : decode cL_arePersons 672 = .ok (.if_icmp .ne 7, 3) := by decide +kernel
theorem dL_arePersons_675 : decode cL_arePersons 675 = .ok (.iconst 1, 1) := by decide +kernel
theorem dL_arePersons_676 : decode cL_arePersons 676 = .ok (.goto 4, 3) := by decide +kernel
theorem dL_arePersons_679 : decode cL_arePersons 679 = .ok (.iconst 0, 1) := by decide +kernel
theorem dL_arePersons_680 : decode cL_arePersons 680 = .ok (.ireturn, 1) := by decide +kernel
