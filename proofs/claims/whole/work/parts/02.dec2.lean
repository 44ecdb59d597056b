theorem dX9_found_0 : decode cX9_found 0 = .ok (.aload_n 0, 1) := by decide +kernel
theorem dX9_found_1 : decode cX9_found 1 = .ok (.getfield 25, 3) := by decide +kernel
theorem dX9_found_4 : decode cX9_found 4 = .ok (.aload_n 0, 1) := by decide +kernel
theorem dX9_found_5 : decode cX9_found 5 = .ok (.getfield 10, 3) := by decide +kernel
theorem dX9_found_8 : decode cX9_found 8 = .ok (.invokevirtual 57, 3) := by decide +kernel
theorem dX9_found_11 : decode cX9_found 11 = .ok (.aload_n 0, 1) := by decide +kernel
theorem dX9_found_12 : decode cX9_found 12 = .ok (.aload_n 0, 1) := by decide +kernel
theorem dX9_found_13 : decode cX9_found 13 = .ok (.getfield 10, 3) := by decide +kernel
theorem dX9_found_16 : decode cX9_found 16 = .ok (.iload_n 1, 1) := by decide +kernel
theorem dX9_found_17 : decode cX9_found 17 = .ok (.invokevirtual 61, 3) := by decide +kernel
theorem dX9_found_20 : decode cX9_found 20 = .ok (.invokevirtual 65, 3) := by decide +kernel
theorem dX9_found_23 : decode cX9_found 23 = .ok (.ireturn, 1) := by decide +kernel
theorem dX9_bear_0 : decode cX9_bear 0 = .ok (.aload_n 0, 1) := by decide +kernel
theorem dX9_bear_1 : decode cX9_bear 1 = .ok (.getfield 25, 3) := by decide +kernel
theorem dX9_bear_4 : decode cX9_bear 4 = .ok (.aload_n 0, 1) := by decide +kernel
theorem dX9_bear_5 : decode cX9_bear 5 = .ok (.getfield 10, 3) := by decide +kernel
theorem dX9_bear_8 : decode cX9_bear 8 = .ok (.invokevirtual 57, 3) := by decide +kernel
theorem dX9_bear_11 : decode cX9_bear 11 = .ok (.aload_n 0, 1) := by decide +kernel
theorem dX9_bear_12 : decode cX9_bear 12 = .ok (.aload_n 0, 1) := by decide +kernel
theorem dX9_bear_13 : decode cX9_bear 13 = .ok (.getfield 10, 3) := by decide +kernel
theorem dX9_bear_16 : decode cX9_bear 16 = .ok (.iload_n 1, 1) := by decide +kernel
theorem dX9_bear_17 : decode cX9_bear 17 = .ok (.iload_n 2, 1) := by decide +kernel
theorem dX9_bear_18 : decode cX9_bear 18 = .ok (.iload_n 3, 1) := by decide +kernel
theorem dX9_bear_19 : decode cX9_bear 19 = .ok (.invokevirtual 68, 3) := by decide +kernel
theorem dX9_bear_22 : decode cX9_bear 22 = .ok (.invokevirtual 65, 3) := by decide +kernel
theorem dX9_bear_25 : decode cX9_bear 25 = .ok (.ireturn, 1) := by decide +kernel
theorem dX9_die_0 : decode cX9_die 0 = .ok (.aload_n 0, 1) := by decide +kernel
theorem dX9_die_1 : decode cX9_die 1 = .ok (.getfield 25, 3) := by decide +kernel
theorem dX9_die_4 : decode cX9_die 4 = .ok (.aload_n 0, 1) := by decide +kernel
theorem dX9_die_5 : decode cX9_die 5 = .ok (.getfield 10, 3) := by decide +kernel
theorem dX9_die_8 : decode cX9_die 8 = .ok (.invokevirtual 57, 3) := by decide +kernel
theorem dX9_die_11 : decode cX9_die 11 = .ok (.aload_n 0, 1) := by decide +kernel
theorem dX9_die_12 : decode cX9_die 12 = .ok (.aload_n 0, 1) := by decide +kernel
theorem dX9_die_13 : decode cX9_die 13 = .ok (.getfield 10, 3) := by decide +kernel
theorem dX9_die_16 : decode cX9_die 16 = .ok (.iload_n 1, 1) := by decide +kernel
theorem dX9_die_17 : decode cX9_die 17 = .ok (.invokevirtual 72, 3) := by decide +kernel
theorem dX9_die_20 : decode cX9_die 20 = .ok (.invokevirtual 65, 3) := by decide +kernel
theorem dX9_die_23 : decode cX9_die 23 = .ok (.ireturn, 1) := by decide +kernel
theorem dX9_inherit_0 : decode cX9_inherit 0 = .ok (.aload_n 0, 1) := by decide +kernel
theorem dX9_inherit_1 : decode cX9_inherit 1 = .ok (.getfield 25, 3) := by decide +kernel
theorem dX9_inherit_4 : decode cX9_inherit 4 = .ok (.aload_n 0, 1) := by decide +kernel
theorem dX9_inherit_5 : decode cX9_inherit 5 = .ok (.getfield 10, 3) := by decide +kernel
theorem dX9_inherit_8 : decode cX9_inherit 8 = .ok (.invokevirtual 57, 3) := by decide +kernel
theorem dX9_inherit_11 : decode cX9_inherit 11 = .ok (.aload_n 0, 1) := by decide +kernel
theorem dX9_inherit_12 : decode cX9_inherit 12 = .ok (.aload_n 0, 1) := by decide +kernel
theorem dX9_inherit_13 : decode cX9_inherit 13 = .ok (.getfield 10, 3) := by decide +kernel
theorem dX9_inherit_16 : decode cX9_inherit 16 = .ok (.iload_n 1, 1) := by decide +kernel
theorem dX9_inherit_17 : decode cX9_inherit 17 = .ok (.invokevirtual 75, 3) := by decide +kernel
theorem dX9_inherit_20 : decode cX9_inherit 20 = .ok (.invokevirtual 65, 3) := by decide +kernel
theorem dX9_inherit_23 : decode cX9_inherit 23 = .ok (.ireturn, 1) := by decide +kernel
theorem dX9_keepIfChanged_0 : decode cX9_keepIfChanged 0 = .ok (.iload_n 1, 1) := by decide +kernel
theorem dX9_keepIfChanged_1 : decode cX9_keepIfChanged 1 = .ok (.ifCond .lt 10, 3) := by decide +kernel
theorem dX9_keepIfChanged_4 : decode cX9_keepIfChanged 4 = .ok (.aload_n 0, 1) := by decide +kernel
theorem dX9_keepIfChanged_5 : decode cX9_keepIfChanged 5 = .ok (.getfield 25, 3) := by decide +kernel
theorem dX9_keepIfChanged_8 : decode cX9_keepIfChanged 8 = .ok (.invokevirtual 78, 3) := by decide +kernel
theorem dX9_keepIfChanged_11 : decode cX9_keepIfChanged 11 = .ok (.iload_n 1, 1) := by decide +kernel
theorem dX9_keepIfChanged_12 : decode cX9_keepIfChanged 12 = .ok (.ireturn, 1) := by decide +kernel
theorem dX9_append_0 : decode cX9_append 0 = .ok (.iload_n 1, 1) := by decide +kernel
theorem dX9_append_1 : decode cX9_append 1 = .ok (.bipush 33, 2) := by decide +kernel
theorem dX9_append_3 : decode cX9_append 3 = .ok (.if_icmp .lt 9, 3) := by decide +kernel
theorem dX9_append_6 : decode cX9_append 6 = .ok (.iload_n 1, 1) := by decide +kernel
theorem dX9_append_7 : decode cX9_append 7 = .ok (.bipush 126, 2) := by decide +kernel
theorem dX9_append_9 : decode cX9_append 9 = .ok (.if_icmp .le 5, 3) := by decide +kernel
theorem dX9_append_12 : decode cX9_append 12 = .ok (.iconst (-1), 1) := by decide +kernel
theorem dX9_append_13 : decode cX9_append 13 = .ok (.ireturn, 1) := by decide +kernel
theorem dX9_append_14 : decode cX9_append 14 = .ok (.aload_n 0, 1) := by decide +kernel
theorem dX9_append_15 : decode cX9_append 15 = .ok (.getfield 32, 3) := by decide +kernel
theorem dX9_append_18 : decode cX9_append 18 = .ok (.invokevirtual 81, 3) := by decide +kernel
theorem dX9_append_21 : decode cX9_append 21 = .ok (.ifCond .eq 6, 3) := by decide +kernel
theorem dX9_append_24 : decode cX9_append 24 = .ok (.bipush (-3), 2) := by decide +kernel
theorem dX9_append_26 : decode cX9_append 26 = .ok (.ireturn, 1) := by decide +kernel
theorem dX9_append_27 : decode cX9_append 27 = .ok (.aload_n 0, 1) := by decide +kernel
theorem dX9_append_28 : decode cX9_append 28 = .ok (.getfield 32, 3) := by decide +kernel
theorem dX9_append_31 : decode cX9_append 31 = .ok (.iload_n 1, 1) := by decide +kernel
theorem dX9_append_32 : decode cX9_append 32 = .ok (.invokevirtual 85, 3) := by decide +kernel
theorem dX9_append_35 : decode cX9_append 35 = .ok (.aload_n 0, 1) := by decide +kernel
theorem dX9_append_36 : decode cX9_append 36 = .ok (.getfield 32, 3) := by decide +kernel
theorem dX9_append_39 : decode cX9_append 39 = .ok (.invokevirtual 89, 3) := by decide +kernel
theorem dX9_append_42 : decode cX9_append 42 = .ok (.ireturn, 1) := by decide +kernel
theorem dX9_clear_0 : decode cX9_clear 0 = .ok (.aload_n 0, 1) := by decide +kernel
theorem dX9_clear_1 : decode cX9_clear 1 = .ok (.getfield 32, 3) := by decide +kernel
theorem dX9_clear_4 : decode cX9_clear 4 = .ok (.invokevirtual 89, 3) := by decide +kernel
theorem dX9_clear_7 : decode cX9_clear 7 = .ok (.istore_n 1, 1) := by decide +kernel
theorem dX9_clear_8 : decode cX9_clear 8 = .ok (.aload_n 0, 1) := by decide +kernel
theorem dX9_clear_9 : decode cX9_clear 9 = .ok (.getfield 32, 3) := by decide +kernel
theorem dX9_clear_12 : decode cX9_clear 12 = .ok (.invokevirtual 93, 3) := by decide +kernel
theorem dX9_clear_15 : decode cX9_clear 15 = .ok (.iload_n 1, 1) := by decide +kernel
theorem dX9_clear_16 : decode cX9_clear 16 = .ok (.ireturn, 1) := by decide +kernel
theorem dX9_fault_0 : decode cX9_fault 0 = .ok (.aload_n 0, 1) := by decide +kernel
theorem dX9_fault_1 : decode cX9_fault 1 = .ok (.getfield 32, 3) := by decide +kernel
theorem dX9_fault_4 : decode cX9_fault 4 = .ok (.invokevirtual 96, 3) := by decide +kernel
theorem dX9_fault_7 : decode cX9_fault 7 = .ok (.ireturn, 1) := by decide +kernel
theorem dX9_enrol_0 : decode cX9_enrol 0 = .ok (.aload_n 0, 1) := by decide +kernel
theorem dX9_enrol_1 : decode cX9_enrol 1 = .ok (.getfield 32, 3) := by decide +kernel
theorem dX9_enrol_4 : decode cX9_enrol 4 = .ok (.invokevirtual 96, 3) := by decide +kernel
theorem dX9_enrol_7 : decode cX9_enrol 7 = .ok (.bipush (-4), 2) := by decide +kernel
theorem dX9_enrol_9 : decode cX9_enrol 9 = .ok (.if_icmp .eq 6, 3) := by decide +kernel
theorem dX9_enrol_12 : decode cX9_enrol 12 = .ok (.bipush (-2), 2) := by decide +kernel
theorem dX9_enrol_14 : decode cX9_enrol 14 = .ok (.ireturn, 1) := by decide +kernel
theorem dX9_enrol_15 : decode cX9_enrol 15 = .ok (.aload_n 0, 1) := by decide +kernel
theorem dX9_enrol_16 : decode cX9_enrol 16 = .ok (.getfield 25, 3) := by decide +kernel
theorem dX9_enrol_19 : decode cX9_enrol 19 = .ok (.aload_n 0, 1) := by decide +kernel
theorem dX9_enrol_20 : decode cX9_enrol 20 = .ok (.getfield 10, 3) := by decide +kernel
theorem dX9_enrol_23 : decode cX9_enrol 23 = .ok (.invokevirtual 57, 3) := by decide +kernel
theorem dX9_enrol_26 : decode cX9_enrol 26 = .ok (.iconst 0, 1) := by decide +kernel
theorem dX9_enrol_27 : decode cX9_enrol 27 = .ok (.istore_n 1, 1) := by decide +kernel
theorem dX9_enrol_28 : decode cX9_enrol 28 = .ok (.aload_n 0, 1) := by decide +kernel
theorem dX9_enrol_29 : decode cX9_enrol 29 = .ok (.iconst 0, 1) := by decide +kernel
theorem dX9_enrol_30 : decode cX9_enrol 30 = .ok (.putfield 47, 3) := by decide +kernel
theorem dX9_enrol_33 : decode cX9_enrol 33 = .ok (.iconst 0, 1) := by decide +kernel
theorem dX9_enrol_34 : decode cX9_enrol 34 = .ok (.istore_n 2, 1) := by decide +kernel
theorem dX9_enrol_35 : decode cX9_enrol 35 = .ok (.iload_n 2, 1) := by decide +kernel
theorem dX9_enrol_36 : decode cX9_enrol 36 = .ok (.aload_n 0, 1) := by decide +kernel
theorem dX9_enrol_37 : decode cX9_enrol 37 = .ok (.getfield 32, 3) := by decide +kernel
theorem dX9_enrol_40 : decode cX9_enrol 40 = .ok (.invokevirtual 89, 3) := by decide +kernel
theorem dX9_enrol_43 : decode cX9_enrol 43 = .ok (.if_icmp .ge 63, 3) := by decide +kernel
theorem dX9_enrol_46 : decode cX9_enrol 46 = .ok (.aload_n 0, 1) := by decide +kernel
theorem dX9_enrol_47 : decode cX9_enrol 47 = .ok (.getfield 47, 3) := by decide +kernel
theorem dX9_enrol_50 : decode cX9_enrol 50 = .ok (.ifCond .ne 56, 3) := by decide +kernel
theorem dX9_enrol_53 : decode cX9_enrol 53 = .ok (.aload_n 0, 1) := by decide +kernel
theorem dX9_enrol_54 : decode cX9_enrol 54 = .ok (.getfield 32, 3) := by decide +kernel
theorem dX9_enrol_57 : decode cX9_enrol 57 = .ok (.iload_n 2, 1) := by decide +kernel
theorem dX9_enrol_58 : decode cX9_enrol 58 = .ok (.invokevirtual 99, 3) := by decide +kernel
theorem dX9_enrol_61 : decode cX9_enrol 61 = .ok (.ifCond .ne 6, 3) := by decide +kernel
theorem dX9_enrol_64 : decode cX9_enrol 64 = .ok (.goto 36, 3) := by decide +kernel
theorem dX9_enrol_67 : decode cX9_enrol 67 = .ok (.aload_n 0, 1) := by decide +kernel
theorem dX9_enrol_68 : decode cX9_enrol 68 = .ok (.iload_n 2, 1) := by decide +kernel
theorem dX9_enrol_69 : decode cX9_enrol 69 = .ok (.invokevirtual 103, 3) := by decide +kernel
theorem dX9_enrol_72 : decode cX9_enrol 72 = .ok (.istore_n 3, 1) := by decide +kernel
theorem dX9_enrol_73 : decode cX9_enrol 73 = .ok (.iload_n 3, 1) := by decide +kernel
theorem dX9_enrol_74 : decode cX9_enrol 74 = .ok (.bipush 10, 2) := by decide +kernel
theorem dX9_enrol_76 : decode cX9_enrol 76 = .ok (.if_icmp .lt 9, 3) := by decide +kernel
theorem dX9_enrol_79 : decode cX9_enrol 79 = .ok (.iinc 1 1, 3) := by decide +kernel
theorem dX9_enrol_82 : decode cX9_enrol 82 = .ok (.goto 18, 3) := by decide +kernel
theorem dX9_enrol_85 : decode cX9_enrol 85 = .ok (.aload_n 0, 1) := by decide +kernel
theorem dX9_enrol_86 : decode cX9_enrol 86 = .ok (.iload_n 3, 1) := by decide +kernel
theorem dX9_enrol_87 : decode cX9_enrol 87 = .ok (.putfield 47, 3) := by decide +kernel
theorem dX9_enrol_90 : decode cX9_enrol 90 = .ok (.aload_n 0, 1) := by decide +kernel
theorem dX9_enrol_91 : decode cX9_enrol 91 = .ok (.iload_n 1, 1) := by decide +kernel
theorem dX9_enrol_92 : decode cX9_enrol 92 = .ok (.putfield 51, 3) := by decide +kernel
theorem dX9_enrol_95 : decode cX9_enrol 95 = .ok (.aload_n 0, 1) := by decide +kernel
theorem dX9_enrol_96 : decode cX9_enrol 96 = .ok (.iload_n 2, 1) := by decide +kernel
theorem dX9_enrol_97 : decode cX9_enrol 97 = .ok (.putfield 54, 3) := by decide +kernel
theorem dX9_enrol_100 : decode cX9_enrol 100 = .ok (.iinc 2 1, 3) := by decide +kernel
theorem dX9_enrol_103 : decode cX9_enrol 103 = .ok (.goto (-68), 3) := by decide +kernel
theorem dX9_enrol_106 : decode cX9_enrol 106 = .ok (.aload_n 0, 1) := by decide +kernel
theorem dX9_enrol_107 : decode cX9_enrol 107 = .ok (.getfield 25, 3) := by decide +kernel
theorem dX9_enrol_110 : decode cX9_enrol 110 = .ok (.invokevirtual 78, 3) := by decide +kernel
theorem dX9_enrol_113 : decode cX9_enrol 113 = .ok (.aload_n 0, 1) := by decide +kernel
theorem dX9_enrol_114 : decode cX9_enrol 114 = .ok (.getfield 32, 3) := by decide +kernel
theorem dX9_enrol_117 : decode cX9_enrol 117 = .ok (.invokevirtual 93, 3) := by decide +kernel
theorem dX9_enrol_120 : decode cX9_enrol 120 = .ok (.iload_n 1, 1) := by decide +kernel
theorem dX9_enrol_121 : decode cX9_enrol 121 = .ok (.ireturn, 1) := by decide +kernel
theorem dX9_enrolDeed_0 : decode cX9_enrolDeed 0 = .ok (.aload_n 0, 1) := by decide +kernel
theorem dX9_enrolDeed_1 : decode cX9_enrolDeed 1 = .ok (.getfield 32, 3) := by decide +kernel
theorem dX9_enrolDeed_4 : decode cX9_enrolDeed 4 = .ok (.iload_n 1, 1) := by decide +kernel
theorem dX9_enrolDeed_5 : decode cX9_enrolDeed 5 = .ok (.invokevirtual 106, 3) := by decide +kernel
theorem dX9_enrolDeed_8 : decode cX9_enrolDeed 8 = .ok (.lookupswitch 121 #[(100, 103), (102, 36), (115, 54)], 36) := by decide +kernel
theorem dX9_enrolDeed_44 : decode cX9_enrolDeed 44 = .ok (.aload_n 0, 1) := by decide +kernel
theorem dX9_enrolDeed_45 : decode cX9_enrolDeed 45 = .ok (.getfield 10, 3) := by decide +kernel
theorem dX9_enrolDeed_48 : decode cX9_enrolDeed 48 = .ok (.aload_n 0, 1) := by decide +kernel
theorem dX9_enrolDeed_49 : decode cX9_enrolDeed 49 = .ok (.getfield 32, 3) := by decide +kernel
theorem dX9_enrolDeed_52 : decode cX9_enrolDeed 52 = .ok (.iload_n 1, 1) := by decide +kernel
theorem dX9_enrolDeed_53 : decode cX9_enrolDeed 53 = .ok (.iconst 1, 1) := by decide +kernel
theorem dX9_enrolDeed_54 : decode cX9_enrolDeed 54 = .ok (.iadd, 1) := by decide +kernel
theorem dX9_enrolDeed_55 : decode cX9_enrolDeed 55 = .ok (.invokevirtual 109, 3) := by decide +kernel
theorem dX9_enrolDeed_58 : decode cX9_enrolDeed 58 = .ok (.invokevirtual 61, 3) := by decide +kernel
theorem dX9_enrolDeed_61 : decode cX9_enrolDeed 61 = .ok (.ireturn, 1) := by decide +kernel
theorem dX9_enrolDeed_62 : decode cX9_enrolDeed 62 = .ok (.aload_n 0, 1) := by decide +kernel
theorem dX9_enrolDeed_63 : decode cX9_enrolDeed 63 = .ok (.getfield 32, 3) := by decide +kernel
theorem dX9_enrolDeed_66 : decode cX9_enrolDeed 66 = .ok (.iload_n 1, 1) := by decide +kernel
theorem dX9_enrolDeed_67 : decode cX9_enrolDeed 67 = .ok (.iconst 1, 1) := by decide +kernel
theorem dX9_enrolDeed_68 : decode cX9_enrolDeed 68 = .ok (.iadd, 1) := by decide +kernel
theorem dX9_enrolDeed_69 : decode cX9_enrolDeed 69 = .ok (.invokevirtual 112, 3) := by decide +kernel
theorem dX9_enrolDeed_72 : decode cX9_enrolDeed 72 = .ok (.istore_n 2, 1) := by decide +kernel
theorem dX9_enrolDeed_73 : decode cX9_enrolDeed 73 = .ok (.aload_n 0, 1) := by decide +kernel
theorem dX9_enrolDeed_74 : decode cX9_enrolDeed 74 = .ok (.getfield 10, 3) := by decide +kernel
theorem dX9_enrolDeed_77 : decode cX9_enrolDeed 77 = .ok (.aload_n 0, 1) := by decide +kernel
theorem dX9_enrolDeed_78 : decode cX9_enrolDeed 78 = .ok (.getfield 32, 3) := by decide +kernel
theorem dX9_enrolDeed_81 : decode cX9_enrolDeed 81 = .ok (.iload_n 1, 1) := by decide +kernel
theorem dX9_enrolDeed_82 : decode cX9_enrolDeed 82 = .ok (.iconst 1, 1) := by decide +kernel
theorem dX9_enrolDeed_83 : decode cX9_enrolDeed 83 = .ok (.iadd, 1) := by decide +kernel
theorem dX9_enrolDeed_84 : decode cX9_enrolDeed 84 = .ok (.invokevirtual 115, 3) := by decide +kernel
theorem dX9_enrolDeed_87 : decode cX9_enrolDeed 87 = .ok (.aload_n 0, 1) := by decide +kernel
theorem dX9_enrolDeed_88 : decode cX9_enrolDeed 88 = .ok (.getfield 32, 3) := by decide +kernel
theorem dX9_enrolDeed_91 : decode cX9_enrolDeed 91 = .ok (.iload_n 2, 1) := by decide +kernel
theorem dX9_enrolDeed_92 : decode cX9_enrolDeed 92 = .ok (.iconst 1, 1) := by decide +kernel
theorem dX9_enrolDeed_93 : decode cX9_enrolDeed 93 = .ok (.iadd, 1) := by decide +kernel
theorem dX9_enrolDeed_94 : decode cX9_enrolDeed 94 = .ok (.invokevirtual 118, 3) := by decide +kernel
theorem dX9_enrolDeed_97 : decode cX9_enrolDeed 97 = .ok (.aload_n 0, 1) := by decide +kernel
theorem dX9_enrolDeed_98 : decode cX9_enrolDeed 98 = .ok (.getfield 32, 3) := by decide +kernel
theorem dX9_enrolDeed_101 : decode cX9_enrolDeed 101 = .ok (.iload_n 2, 1) := by decide +kernel
theorem dX9_enrolDeed_102 : decode cX9_enrolDeed 102 = .ok (.iconst 3, 1) := by decide +kernel
theorem dX9_enrolDeed_103 : decode cX9_enrolDeed 103 = .ok (.iadd, 1) := by decide +kernel
theorem dX9_enrolDeed_104 : decode cX9_enrolDeed 104 = .ok (.invokevirtual 118, 3) := by decide +kernel
theorem dX9_enrolDeed_107 : decode cX9_enrolDeed 107 = .ok (.invokevirtual 68, 3) := by decide +kernel
theorem dX9_enrolDeed_110 : decode cX9_enrolDeed 110 = .ok (.ireturn, 1) := by decide +kernel
theorem dX9_enrolDeed_111 : decode cX9_enrolDeed 111 = .ok (.aload_n 0, 1) := by decide +kernel
theorem dX9_enrolDeed_112 : decode cX9_enrolDeed 112 = .ok (.getfield 10, 3) := by decide +kernel
theorem dX9_enrolDeed_115 : decode cX9_enrolDeed 115 = .ok (.aload_n 0, 1) := by decide +kernel
theorem dX9_enrolDeed_116 : decode cX9_enrolDeed 116 = .ok (.getfield 32, 3) := by decide +kernel
theorem dX9_enrolDeed_119 : decode cX9_enrolDeed 119 = .ok (.iload_n 1, 1) := by decide +kernel
theorem dX9_enrolDeed_120 : decode cX9_enrolDeed 120 = .ok (.iconst 1, 1) := by decide +kernel
theorem dX9_enrolDeed_121 : decode cX9_enrolDeed 121 = .ok (.iadd, 1) := by decide +kernel
theorem dX9_enrolDeed_122 : decode cX9_enrolDeed 122 = .ok (.invokevirtual 115, 3) := by decide +kernel
theorem dX9_enrolDeed_125 : decode cX9_enrolDeed 125 = .ok (.invokevirtual 72, 3) := by decide +kernel
theorem dX9_enrolDeed_128 : decode cX9_enrolDeed 128 = .ok (.ireturn, 1) := by decide +kernel
theorem dX9_enrolDeed_129 : decode cX9_enrolDeed 129 = .ok (.aload_n 0, 1) := by decide +kernel
theorem dX9_enrolDeed_130 : decode cX9_enrolDeed 130 = .ok (.getfield 10, 3) := by decide +kernel
theorem dX9_enrolDeed_133 : decode cX9_enrolDeed 133 = .ok (.aload_n 0, 1) := by decide +kernel
theorem dX9_enrolDeed_134 : decode cX9_enrolDeed 134 = .ok (.getfield 32, 3) := by decide +kernel
theorem dX9_enrolDeed_137 : decode cX9_enrolDeed 137 = .ok (.iload_n 1, 1) := by decide +kernel
theorem dX9_enrolDeed_138 : decode cX9_enrolDeed 138 = .ok (.iconst 1, 1) := by decide +kernel
theorem dX9_enrolDeed_139 : decode cX9_enrolDeed 139 = .ok (.iadd, 1) := by decide +kernel
theorem dX9_enrolDeed_140 : decode cX9_enrolDeed 140 = .ok (.invokevirtual 115, 3) := by decide +kernel
theorem dX9_enrolDeed_143 : decode cX9_enrolDeed 143 = .ok (.invokevirtual 75, 3) := by decide +kernel
theorem dX9_enrolDeed_146 : decode cX9_enrolDeed 146 = .ok (.ireturn, 1) := by decide +kernel
theorem dX9_why_0 : decode cX9_why 0 = .ok (.iload_n 1, 1) := by decide +kernel
theorem dX9_why_1 : decode cX9_why 1 = .ok (.ifCond .lt 8, 3) := by decide +kernel
theorem dX9_why_4 : decode cX9_why 4 = .ok (.iload_n 1, 1) := by decide +kernel
theorem dX9_why_5 : decode cX9_why 5 = .ok (.iconst 2, 1) := by decide +kernel
theorem dX9_why_6 : decode cX9_why 6 = .ok (.if_icmp .le 5, 3) := by decide +kernel
theorem dX9_why_9 : decode cX9_why 9 = .ok (.iconst (-1), 1) := by decide +kernel
theorem dX9_why_10 : decode cX9_why 10 = .ok (.ireturn, 1) := by decide +kernel
theorem dX9_why_11 : decode cX9_why 11 = .ok (.aload_n 0, 1) := by decide +kernel
theorem dX9_why_12 : decode cX9_why 12 = .ok (.getfield 47, 3) := by decide +kernel
theorem dX9_why_15 : decode cX9_why 15 = .ok (.ifCond .ne 6, 3) := by decide +kernel
theorem dX9_why_18 : decode cX9_why 18 = .ok (.bipush (-4), 2) := by decide +kernel
theorem dX9_why_20 : decode cX9_why 20 = .ok (.ireturn, 1) := by decide +kernel
theorem dX9_why_21 : decode cX9_why 21 = .ok (.iload_n 1, 1) := by decide +kernel
theorem dX9_why_22 : decode cX9_why 22 = .ok (.ifCond .ne 8, 3) := by decide +kernel
theorem dX9_why_25 : decode cX9_why 25 = .ok (.aload_n 0, 1) := by decide +kernel
theorem dX9_why_26 : decode cX9_why 26 = .ok (.getfield 47, 3) := by decide +kernel
theorem dX9_why_29 : decode cX9_why 29 = .ok (.ireturn, 1) := by decide +kernel
theorem dX9_why_30 : decode cX9_why 30 = .ok (.iload_n 1, 1) := by decide +kernel
theorem dX9_why_31 : decode cX9_why 31 = .ok (.iconst 1, 1) := by decide +kernel
theorem dX9_why_32 : decode cX9_why 32 = .ok (.if_icmp .ne 10, 3) := by decide +kernel
theorem dX9_why_35 : decode cX9_why 35 = .ok (.aload_n 0, 1) := by decide +kernel
theorem dX9_why_36 : decode cX9_why 36 = .ok (.getfield 51, 3) := by decide +kernel
theorem dX9_why_39 : decode cX9_why 39 = .ok (.goto 7, 3) := by decide +kernel
theorem dX9_why_42 : decode cX9_why 42 = .ok (.aload_n 0, 1) := by decide +kernel
theorem dX9_why_43 : decode cX9_why 43 = .ok (.getfield 54, 3) := by decide +kernel
theorem dX9_why_46 : decode cX9_why 46 = .ok (.ireturn, 1) := by decide +kernel
theorem dX9_person_0 : decode cX9_person 0 = .ok (.aload_n 0, 1) := by decide +kernel
theorem dX9_person_1 : decode cX9_person 1 = .ok (.getfield 10, 3) := by decide +kernel
theorem dX9_person_4 : decode cX9_person 4 = .ok (.iload_n 1, 1) := by decide +kernel
theorem dX9_person_5 : decode cX9_person 5 = .ok (.invokevirtual 121, 3) := by decide +kernel
theorem dX9_person_8 : decode cX9_person 8 = .ok (.ifCond .ne 5, 3) := by decide +kernel
theorem dX9_person_11 : decode cX9_person 11 = .ok (.iconst (-1), 1) := by decide +kernel
theorem dX9_person_12 : decode cX9_person 12 = .ok (.ireturn, 1) := by decide +kernel
theorem dX9_person_13 : decode cX9_person 13 = .ok (.iload_n 2, 1) := by decide +kernel
theorem dX9_person_14 : decode cX9_person 14 = .ok (.tableswitch 187 0 11 #[62, 71, 88, 100, 112, 124, 133, 142, 151, 160, 169, 178], 62) := by decide +kernel
theorem dX9_person_76 : decode cX9_person 76 = .ok (.aload_n 0, 1) := by decide +kernel
theorem dX9_person_77 : decode cX9_person 77 = .ok (.getfield 10, 3) := by decide +kernel
theorem dX9_person_80 : decode cX9_person 80 = .ok (.iload_n 1, 1) := by decide +kernel
theorem dX9_person_81 : decode cX9_person 81 = .ok (.invokevirtual 124, 3) := by decide +kernel
theorem dX9_person_84 : decode cX9_person 84 = .ok (.ireturn, 1) := by decide +kernel
theorem dX9_person_85 : decode cX9_person 85 = .ok (.aload_n 0, 1) := by decide +kernel
theorem dX9_person_86 : decode cX9_person 86 = .ok (.getfield 10, 3) := by decide +kernel
theorem dX9_person_89 : decode cX9_person 89 = .ok (.iload_n 1, 1) := by decide +kernel
theorem dX9_person_90 : decode cX9_person 90 = .ok (.invokevirtual 127, 3) := by decide +kernel
theorem dX9_person_93 : decode cX9_person 93 = .ok (.ifCond .eq 7, 3) := by decide +kernel
theorem dX9_person_96 : decode cX9_person 96 = .ok (.iconst 1, 1) := by decide +kernel
theorem dX9_person_97 : decode cX9_person 97 = .ok (.goto 4, 3) := by decide +kernel
theorem dX9_person_100 : decode cX9_person 100 = .ok (.iconst 0, 1) := by decide +kernel
theorem dX9_person_101 : decode cX9_person 101 = .ok (.ireturn, 1) := by decide +kernel
theorem dX9_person_102 : decode cX9_person 102 = .ok (.aload_n 0, 1) := by decide +kernel
theorem dX9_person_103 : decode cX9_person 103 = .ok (.getfield 10, 3) := by decide +kernel
theorem dX9_person_106 : decode cX9_person 106 = .ok (.iload_n 1, 1) := by decide +kernel
theorem dX9_person_107 : decode cX9_person 107 = .ok (.invokevirtual 130, 3) := by decide +kernel
theorem dX9_person_110 : decode cX9_person 110 = .ok (.invokestatic 133, 3) := by decide +kernel
theorem dX9_person_113 : decode cX9_person 113 = .ok (.ireturn, 1) := by decide +kernel
theorem dX9_person_114 : decode cX9_person 114 = .ok (.aload_n 0, 1) := by decide +kernel
theorem dX9_person_115 : decode cX9_person 115 = .ok (.getfield 10, 3) := by decide +kernel
theorem dX9_person_118 : decode cX9_person 118 = .ok (.iload_n 1, 1) := by decide +kernel
theorem dX9_person_119 : decode cX9_person 119 = .ok (.invokevirtual 136, 3) := by decide +kernel
theorem dX9_person_122 : decode cX9_person 122 = .ok (.invokestatic 133, 3) := by decide +kernel
theorem dX9_person_125 : decode cX9_person 125 = .ok (.ireturn, 1) := by decide +kernel
theorem dX9_person_126 : decode cX9_person 126 = .ok (.aload_n 0, 1) := by decide +kernel
theorem dX9_person_127 : decode cX9_person 127 = .ok (.getfield 10, 3) := by decide +kernel
theorem dX9_person_130 : decode cX9_person 130 = .ok (.iload_n 1, 1) := by decide +kernel
theorem dX9_person_131 : decode cX9_person 131 = .ok (.invokevirtual 139, 3) := by decide +kernel
theorem dX9_person_134 : decode cX9_person 134 = .ok (.invokestatic 133, 3) := by decide +kernel
theorem dX9_person_137 : decode cX9_person 137 = .ok (.ireturn, 1) := by decide +kernel
theorem dX9_person_138 : decode cX9_person 138 = .ok (.aload_n 0, 1) := by decide +kernel
theorem dX9_person_139 : decode cX9_person 139 = .ok (.getfield 10, 3) := by decide +kernel
theorem dX9_person_142 : decode cX9_person 142 = .ok (.iload_n 1, 1) := by decide +kernel
theorem dX9_person_143 : decode cX9_person 143 = .ok (.invokevirtual 142, 3) := by decide +kernel
theorem dX9_person_146 : decode cX9_person 146 = .ok (.ireturn, 1) := by decide +kernel
theorem dX9_person_147 : decode cX9_person 147 = .ok (.aload_n 0, 1) := by decide +kernel
theorem dX9_person_148 : decode cX9_person 148 = .ok (.getfield 10, 3) := by decide +kernel
theorem dX9_person_151 : decode cX9_person 151 = .ok (.iload_n 1, 1) := by decide +kernel
theorem dX9_person_152 : decode cX9_person 152 = .ok (.invokestatic 145, 3) := by decide +kernel
theorem dX9_person_155 : decode cX9_person 155 = .ok (.ireturn, 1) := by decide +kernel
theorem dX9_person_156 : decode cX9_person 156 = .ok (.aload_n 0, 1) := by decide +kernel
theorem dX9_person_157 : decode cX9_person 157 = .ok (.getfield 10, 3) := by decide +kernel
theorem dX9_person_160 : decode cX9_person 160 = .ok (.iload_n 1, 1) := by decide +kernel
theorem dX9_person_161 : decode cX9_person 161 = .ok (.invokestatic 151, 3) := by decide +kernel
theorem dX9_person_164 : decode cX9_person 164 = .ok (.ireturn, 1) := by decide +kernel
theorem dX9_person_165 : decode cX9_person 165 = .ok (.aload_n 0, 1) := by decide +kernel
theorem dX9_person_166 : decode cX9_person 166 = .ok (.getfield 10, 3) := by decide +kernel
theorem dX9_person_169 : decode cX9_person 169 = .ok (.iload_n 1, 1) := by decide +kernel
theorem dX9_person_170 : decode cX9_person 170 = .ok (.invokestatic 154, 3) := by decide +kernel
theorem dX9_person_173 : decode cX9_person 173 = .ok (.ireturn, 1) := by decide +kernel
theorem dX9_person_174 : decode cX9_person 174 = .ok (.aload_n 0, 1) := by decide +kernel
theorem dX9_person_175 : decode cX9_person 175 = .ok (.getfield 10, 3) := by decide +kernel
theorem dX9_person_178 : decode cX9_person 178 = .ok (.iload_n 1, 1) := by decide +kernel
theorem dX9_person_179 : decode cX9_person 179 = .ok (.invokestatic 157, 3) := by decide +kernel
theorem dX9_person_182 : decode cX9_person 182 = .ok (.ireturn, 1) := by decide +kernel
theorem dX9_person_183 : decode cX9_person 183 = .ok (.aload_n 0, 1) := by decide +kernel
theorem dX9_person_184 : decode cX9_person 184 = .ok (.getfield 10, 3) := by decide +kernel
theorem dX9_person_187 : decode cX9_person 187 = .ok (.iload_n 1, 1) := by decide +kernel
theorem dX9_person_188 : decode cX9_person 188 = .ok (.invokestatic 160, 3) := by decide +kernel
theorem dX9_person_191 : decode cX9_person 191 = .ok (.ireturn, 1) := by decide +kernel
theorem dX9_person_192 : decode cX9_person 192 = .ok (.aload_n 0, 1) := by decide +kernel
theorem dX9_person_193 : decode cX9_person 193 = .ok (.getfield 10, 3) := by decide +kernel
theorem dX9_person_196 : decode cX9_person 196 = .ok (.iload_n 1, 1) := by decide +kernel
theorem dX9_person_197 : decode cX9_person 197 = .ok (.invokestatic 163, 3) := by decide +kernel
theorem dX9_person_200 : decode cX9_person 200 = .ok (.ireturn, 1) := by decide +kernel
theorem dX9_person_201 : decode cX9_person 201 = .ok (.iconst (-1), 1) := by decide +kernel
theorem dX9_person_202 : decode cX9_person 202 = .ok (.ireturn, 1) := by decide +kernel
theorem dX9_orNotFound_0 : decode cX9_orNotFound 0 = .ok (.iload_n 0, 1) := by decide +kernel
theorem dX9_orNotFound_1 : decode cX9_orNotFound 1 = .ok (.ifCond .ge 8, 3) := by decide +kernel
theorem dX9_orNotFound_4 : decode cX9_orNotFound 4 = .ok (.bipush (-4), 2) := by decide +kernel
theorem dX9_orNotFound_6 : decode cX9_orNotFound 6 = .ok (.goto 4, 3) := by decide +kernel
theorem dX9_orNotFound_9 : decode cX9_orNotFound 9 = .ok (.iload_n 0, 1) := by decide +kernel
theorem dX9_orNotFound_10 : decode cX9_orNotFound 10 = .ok (.ireturn, 1) := by decide +kernel
theorem dX9_mark_0 : decode cX9_mark 0 = .ok (.aload_n 0, 1) := by decide +kernel
theorem dX9_mark_1 : decode cX9_mark 1 = .ok (.getfield 10, 3) := by decide +kernel
theorem dX9_mark_4 : decode cX9_mark 4 = .ok (.iload_n 1, 1) := by decide +kernel
theorem dX9_mark_5 : decode cX9_mark 5 = .ok (.invokevirtual 121, 3) := by decide +kernel
theorem dX9_mark_8 : decode cX9_mark 8 = .ok (.ifCond .eq 10, 3) := by decide +kernel
theorem dX9_mark_11 : decode cX9_mark 11 = .ok (.iload_n 2, 1) := by decide +kernel
theorem dX9_mark_12 : decode cX9_mark 12 = .ok (.invokestatic 166, 3) := by decide +kernel
theorem dX9_mark_15 : decode cX9_mark 15 = .ok (.ifCond .ne 5, 3) := by decide +kernel
theorem dX9_mark_18 : decode cX9_mark 18 = .ok (.iconst (-1), 1) := by decide +kernel
theorem dX9_mark_19 : decode cX9_mark 19 = .ok (.ireturn, 1) := by decide +kernel
theorem dX9_mark_20 : decode cX9_mark 20 = .ok (.aload_n 0, 1) := by decide +kernel
theorem dX9_mark_21 : decode cX9_mark 21 = .ok (.getfield 10, 3) := by decide +kernel
theorem dX9_mark_24 : decode cX9_mark 24 = .ok (.iload_n 1, 1) := by decide +kernel
theorem dX9_mark_25 : decode cX9_mark 25 = .ok (.invokevirtual 124, 3) := by decide +kernel
theorem dX9_mark_28 : decode cX9_mark 28 = .ok (.iload_n 2, 1) := by decide +kernel
theorem dX9_mark_29 : decode cX9_mark 29 = .ok (.invokestatic 171, 3) := by decide +kernel
theorem dX9_mark_32 : decode cX9_mark 32 = .ok (.ireturn, 1) := by decide +kernel
theorem dX9_whyNot_0 : decode cX9_whyNot 0 = .ok (.aload_n 0, 1) := by decide +kernel
theorem dX9_whyNot_1 : decode cX9_whyNot 1 = .ok (.getfield 10, 3) := by decide +kernel
theorem dX9_whyNot_4 : decode cX9_whyNot 4 = .ok (.iload_n 1, 1) := by decide +kernel
theorem dX9_whyNot_5 : decode cX9_whyNot 5 = .ok (.invokevirtual 121, 3) := by decide +kernel
theorem dX9_whyNot_8 : decode cX9_whyNot 8 = .ok (.ifCond .eq 17, 3) := by decide +kernel
theorem dX9_whyNot_11 : decode cX9_whyNot 11 = .ok (.iload_n 2, 1) := by decide +kernel
theorem dX9_whyNot_12 : decode cX9_whyNot 12 = .ok (.invokestatic 166, 3) := by decide +kernel
theorem dX9_whyNot_15 : decode cX9_whyNot 15 = .ok (.ifCond .eq 10, 3) := by decide +kernel
theorem dX9_whyNot_18 : decode cX9_whyNot 18 = .ok (.iload_n 3, 1) := by decide +kernel
theorem dX9_whyNot_19 : decode cX9_whyNot 19 = .ok (.invokestatic 175, 3) := by decide +kernel
theorem dX9_whyNot_22 : decode cX9_whyNot 22 = .ok (.ifCond .ne 5, 3) := by decide +kernel
theorem dX9_whyNot_25 : decode cX9_whyNot 25 = .ok (.iconst (-1), 1) := by decide +kernel
theorem dX9_whyNot_26 : decode cX9_whyNot 26 = .ok (.ireturn, 1) := by decide +kernel
theorem dX9_whyNot_27 : decode cX9_whyNot 27 = .ok (.aload_n 0, 1) := by decide +kernel
theorem dX9_whyNot_28 : decode cX9_whyNot 28 = .ok (.getfield 10, 3) := by decide +kernel
theorem dX9_whyNot_31 : decode cX9_whyNot 31 = .ok (.iload_n 1, 1) := by decide +kernel
theorem dX9_whyNot_32 : decode cX9_whyNot 32 = .ok (.iload_n 2, 1) := by decide +kernel
theorem dX9_whyNot_33 : decode cX9_whyNot 33 = .ok (.iload_n 3, 1) := by decide +kernel
theorem dX9_whyNot_34 : decode cX9_whyNot 34 = .ok (.invokevirtual 178, 3) := by decide +kernel
theorem dX9_whyNot_37 : decode cX9_whyNot 37 = .ok (.ireturn, 1) := by decide +kernel
theorem dX9_choices_0 : decode cX9_choices 0 = .ok (.aload_n 0, 1) := by decide +kernel
theorem dX9_choices_1 : decode cX9_choices 1 = .ok (.getfield 10, 3) := by decide +kernel
theorem dX9_choices_4 : decode cX9_choices 4 = .ok (.iload_n 1, 1) := by decide +kernel
theorem dX9_choices_5 : decode cX9_choices 5 = .ok (.invokevirtual 121, 3) := by decide +kernel
theorem dX9_choices_8 : decode cX9_choices 8 = .ok (.ifCond .eq 10, 3) := by decide +kernel
theorem dX9_choices_11 : decode cX9_choices 11 = .ok (.iload_n 2, 1) := by decide +kernel
theorem dX9_choices_12 : decode cX9_choices 12 = .ok (.invokestatic 181, 3) := by decide +kernel
theorem dX9_choices_15 : decode cX9_choices 15 = .ok (.ifCond .ne 5, 3) := by decide +kernel
theorem dX9_choices_18 : decode cX9_choices 18 = .ok (.iconst (-1), 1) := by decide +kernel
theorem dX9_choices_19 : decode cX9_choices 19 = .ok (.ireturn, 1) := by decide +kernel
theorem dX9_choices_20 : decode cX9_choices 20 = .ok (.iload_n 2, 1) := by decide +kernel
theorem dX9_choices_21 : decode cX9_choices 21 = .ok (.ifCond .ne 14, 3) := by decide +kernel
theorem dX9_choices_24 : decode cX9_choices 24 = .ok (.aload_n 0, 1) := by decide +kernel
theorem dX9_choices_25 : decode cX9_choices 25 = .ok (.getfield 10, 3) := by decide +kernel
theorem dX9_choices_28 : decode cX9_choices 28 = .ok (.iload_n 1, 1) := by decide +kernel
theorem dX9_choices_29 : decode cX9_choices 29 = .ok (.invokestatic 184, 3) := by decide +kernel
theorem dX9_choices_32 : decode cX9_choices 32 = .ok (.goto 11, 3) := by decide +kernel
theorem dX9_choices_35 : decode cX9_choices 35 = .ok (.aload_n 0, 1) := by decide +kernel
theorem dX9_choices_36 : decode cX9_choices 36 = .ok (.getfield 10, 3) := by decide +kernel
theorem dX9_choices_39 : decode cX9_choices 39 = .ok (.iload_n 1, 1) := by decide +kernel
theorem dX9_choices_40 : decode cX9_choices 40 = .ok (.invokestatic 189, 3) := by decide +kernel
theorem dX9_choices_43 : decode cX9_choices 43 = .ok (.ireturn, 1) := by decide +kernel
theorem dX9_best_0 : decode cX9_best 0 = .ok (.aload_n 0, 1) := by decide +kernel
theorem dX9_best_1 : decode cX9_best 1 = .ok (.getfield 10, 3) := by decide +kernel
theorem dX9_best_4 : decode cX9_best 4 = .ok (.iload_n 1, 1) := by decide +kernel
theorem dX9_best_5 : decode cX9_best 5 = .ok (.invokevirtual 121, 3) := by decide +kernel
theorem dX9_best_8 : decode cX9_best 8 = .ok (.ifCond .ne 5, 3) := by decide +kernel
theorem dX9_best_11 : decode cX9_best 11 = .ok (.iconst (-1), 1) := by decide +kernel
theorem dX9_best_12 : decode cX9_best 12 = .ok (.ireturn, 1) := by decide +kernel
theorem dX9_best_13 : decode cX9_best 13 = .ok (.aload_n 0, 1) := by decide +kernel
theorem dX9_best_14 : decode cX9_best 14 = .ok (.getfield 10, 3) := by decide +kernel
theorem dX9_best_17 : decode cX9_best 17 = .ok (.iload_n 1, 1) := by decide +kernel
theorem dX9_best_18 : decode cX9_best 18 = .ok (.invokestatic 192, 3) := by decide +kernel
theorem dX9_best_21 : decode cX9_best 21 = .ok (.ireturn, 1) := by decide +kernel
theorem dX9_differs_0 : decode cX9_differs 0 = .ok (.aload_n 0, 1) := by decide +kernel
theorem dX9_differs_1 : decode cX9_differs 1 = .ok (.getfield 10, 3) := by decide +kernel
theorem dX9_differs_4 : decode cX9_differs 4 = .ok (.iload_n 1, 1) := by decide +kernel
theorem dX9_differs_5 : decode cX9_differs 5 = .ok (.invokevirtual 121, 3) := by decide +kernel
theorem dX9_differs_8 : decode cX9_differs 8 = .ok (.ifCond .eq 14, 3) := by decide +kernel
theorem dX9_differs_11 : decode cX9_differs 11 = .ok (.aload_n 0, 1) := by decide +kernel
theorem dX9_differs_12 : decode cX9_differs 12 = .ok (.getfield 10, 3) := by decide +kernel
theorem dX9_differs_15 : decode cX9_differs 15 = .ok (.iload_n 2, 1) := by decide +kernel
theorem dX9_differs_16 : decode cX9_differs 16 = .ok (.invokevirtual 121, 3) := by decide +kernel
theorem dX9_differs_19 : decode cX9_differs 19 = .ok (.ifCond .ne 5, 3) := by decide +kernel
theorem dX9_differs_22 : decode cX9_differs 22 = .ok (.iconst (-1), 1) := by decide +kernel
theorem dX9_differs_23 : decode cX9_differs 23 = .ok (.ireturn, 1) := by decide +kernel
theorem dX9_differs_24 : decode cX9_differs 24 = .ok (.aload_n 0, 1) := by decide +kernel
theorem dX9_differs_25 : decode cX9_differs 25 = .ok (.getfield 10, 3) := by decide +kernel
theorem dX9_differs_28 : decode cX9_differs 28 = .ok (.iload_n 1, 1) := by decide +kernel
theorem dX9_differs_29 : decode cX9_differs 29 = .ok (.invokevirtual 124, 3) := by decide +kernel
theorem dX9_differs_32 : decode cX9_differs 32 = .ok (.aload_n 0, 1) := by decide +kernel
theorem dX9_differs_33 : decode cX9_differs 33 = .ok (.getfield 10, 3) := by decide +kernel
theorem dX9_differs_36 : decode cX9_differs 36 = .ok (.iload_n 2, 1) := by decide +kernel
theorem dX9_differs_37 : decode cX9_differs 37 = .ok (.invokevirtual 124, 3) := by decide +kernel
theorem dX9_differs_40 : decode cX9_differs 40 = .ok (.invokestatic 195, 3) := by decide +kernel
theorem dX9_differs_43 : decode cX9_differs 43 = .ok (.ireturn, 1) := by decide +kernel
theorem dX9_kin_0 : decode cX9_kin 0 = .ok (.aload_n 0, 1) := by decide +kernel
theorem dX9_kin_1 : decode cX9_kin 1 = .ok (.getfield 10, 3) := by decide +kernel
theorem dX9_kin_4 : decode cX9_kin 4 = .ok (.iload_n 1, 1) := by decide +kernel
theorem dX9_kin_5 : decode cX9_kin 5 = .ok (.invokevirtual 121, 3) := by decide +kernel
theorem dX9_kin_8 : decode cX9_kin 8 = .ok (.ifCond .eq 14, 3) := by decide +kernel
theorem dX9_kin_11 : decode cX9_kin 11 = .ok (.aload_n 0, 1) := by decide +kernel
theorem dX9_kin_12 : decode cX9_kin 12 = .ok (.getfield 10, 3) := by decide +kernel
theorem dX9_kin_15 : decode cX9_kin 15 = .ok (.iload_n 2, 1) := by decide +kernel
theorem dX9_kin_16 : decode cX9_kin 16 = .ok (.invokevirtual 121, 3) := by decide +kernel
theorem dX9_kin_19 : decode cX9_kin 19 = .ok (.ifCond .ne 5, 3) := by decide +kernel
theorem dX9_kin_22 : decode cX9_kin 22 = .ok (.iconst (-1), 1) := by decide +kernel
theorem dX9_kin_23 : decode cX9_kin 23 = .ok (.ireturn, 1) := by decide +kernel
theorem dX9_kin_24 : decode cX9_kin 24 = .ok (.aload_n 0, 1) := by decide +kernel
theorem dX9_kin_25 : decode cX9_kin 25 = .ok (.getfield 10, 3) := by decide +kernel
theorem dX9_kin_28 : decode cX9_kin 28 = .ok (.iload_n 1, 1) := by decide +kernel
theorem dX9_kin_29 : decode cX9_kin 29 = .ok (.iload_n 2, 1) := by decide +kernel
theorem dX9_kin_30 : decode cX9_kin 30 = .ok (.invokestatic 198, 3) := by decide +kernel
theorem dX9_kin_33 : decode cX9_kin 33 = .ok (.ireturn, 1) := by decide +kernel
theorem dX9_bearer_0 : decode cX9_bearer 0 = .ok (.iload_n 1, 1) := by decide +kernel
theorem dX9_bearer_1 : decode cX9_bearer 1 = .ok (.invokestatic 202, 3) := by decide +kernel
theorem dX9_bearer_4 : decode cX9_bearer 4 = .ok (.ifCond .ne 5, 3) := by decide +kernel
theorem dX9_bearer_7 : decode cX9_bearer 7 = .ok (.iconst (-1), 1) := by decide +kernel
theorem dX9_bearer_8 : decode cX9_bearer 8 = .ok (.ireturn, 1) := by decide +kernel
theorem dX9_bearer_9 : decode cX9_bearer 9 = .ok (.aload_n 0, 1) := by decide +kernel
theorem dX9_bearer_10 : decode cX9_bearer 10 = .ok (.getfield 10, 3) := by decide +kernel
theorem dX9_bearer_13 : decode cX9_bearer 13 = .ok (.iload_n 1, 1) := by decide +kernel
theorem dX9_bearer_14 : decode cX9_bearer 14 = .ok (.invokevirtual 205, 3) := by decide +kernel
theorem dX9_bearer_17 : decode cX9_bearer 17 = .ok (.invokestatic 133, 3) := by decide +kernel
theorem dX9_bearer_20 : decode cX9_bearer 20 = .ok (.ireturn, 1) := by decide +kernel
theorem dX9_line_0 : decode cX9_line 0 = .ok (.aload_n 0, 1) := by decide +kernel
theorem dX9_line_1 : decode cX9_line 1 = .ok (.getfield 10, 3) := by decide +kernel
theorem dX9_line_4 : decode cX9_line 4 = .ok (.iload_n 1, 1) := by decide +kernel
theorem dX9_line_5 : decode cX9_line 5 = .ok (.invokevirtual 121, 3) := by decide +kernel
theorem dX9_line_8 : decode cX9_line 8 = .ok (.ifCond .eq 17, 3) := by decide +kernel
theorem dX9_line_11 : decode cX9_line 11 = .ok (.iload_n 2, 1) := by decide +kernel
theorem dX9_line_12 : decode cX9_line 12 = .ok (.invokestatic 202, 3) := by decide +kernel
theorem dX9_line_15 : decode cX9_line 15 = .ok (.ifCond .eq 10, 3) := by decide +kernel
theorem dX9_line_18 : decode cX9_line 18 = .ok (.iload_n 3, 1) := by decide +kernel
theorem dX9_line_19 : decode cX9_line 19 = .ok (.invokestatic 181, 3) := by decide +kernel
theorem dX9_line_22 : decode cX9_line 22 = .ok (.ifCond .ne 5, 3) := by decide +kernel
theorem dX9_line_25 : decode cX9_line 25 = .ok (.iconst (-1), 1) := by decide +kernel
theorem dX9_line_26 : decode cX9_line 26 = .ok (.ireturn, 1) := by decide +kernel
theorem dX9_line_27 : decode cX9_line 27 = .ok (.aload_n 0, 1) := by decide +kernel
theorem dX9_line_28 : decode cX9_line 28 = .ok (.getfield 10, 3) := by decide +kernel
theorem dX9_line_31 : decode cX9_line 31 = .ok (.iload_n 1, 1) := by decide +kernel
theorem dX9_line_32 : decode cX9_line 32 = .ok (.invokevirtual 127, 3) := by decide +kernel
theorem dX9_line_35 : decode cX9_line 35 = .ok (.ifCond .ne 6, 3) := by decide +kernel
theorem dX9_line_38 : decode cX9_line 38 = .ok (.bipush (-2), 2) := by decide +kernel
theorem dX9_line_40 : decode cX9_line 40 = .ok (.ireturn, 1) := by decide +kernel
theorem dX9_line_41 : decode cX9_line 41 = .ok (.aload_n 0, 1) := by decide +kernel
theorem dX9_line_42 : decode cX9_line 42 = .ok (.getfield 10, 3) := by decide +kernel
theorem dX9_line_45 : decode cX9_line 45 = .ok (.iload_n 1, 1) := by decide +kernel
theorem dX9_line_46 : decode cX9_line 46 = .ok (.invokevirtual 124, 3) := by decide +kernel
theorem dX9_line_49 : decode cX9_line 49 = .ok (.istore 4, 2) := by decide +kernel
theorem dX9_line_51 : decode cX9_line 51 = .ok (.iload 4, 2) := by decide +kernel
theorem dX9_line_53 : decode cX9_line 53 = .ok (.iload_n 2, 1) := by decide +kernel
theorem dX9_line_54 : decode cX9_line 54 = .ok (.if_icmp .ne 5, 3) := by decide +kernel
theorem dX9_line_57 : decode cX9_line 57 = .ok (.iconst 0, 1) := by decide +kernel
theorem dX9_line_58 : decode cX9_line 58 = .ok (.ireturn, 1) := by decide +kernel
theorem dX9_line_59 : decode cX9_line 59 = .ok (.aload_n 0, 1) := by decide +kernel
theorem dX9_line_60 : decode cX9_line 60 = .ok (.getfield 10, 3) := by decide +kernel
theorem dX9_line_63 : decode cX9_line 63 = .ok (.iload_n 2, 1) := by decide +kernel
theorem dX9_line_64 : decode cX9_line 64 = .ok (.invokevirtual 205, 3) := by decide +kernel
theorem dX9_line_67 : decode cX9_line 67 = .ok (.iconst (-1), 1) := by decide +kernel
theorem dX9_line_68 : decode cX9_line 68 = .ok (.if_icmp .eq 6, 3) := by decide +kernel
theorem dX9_line_71 : decode cX9_line 71 = .ok (.bipush (-4), 2) := by decide +kernel
theorem dX9_line_73 : decode cX9_line 73 = .ok (.ireturn, 1) := by decide +kernel
theorem dX9_line_74 : decode cX9_line 74 = .ok (.iload_n 3, 1) := by decide +kernel
theorem dX9_line_75 : decode cX9_line 75 = .ok (.ifCond .ne 20, 3) := by decide +kernel
theorem dX9_line_78 : decode cX9_line 78 = .ok (.aload_n 0, 1) := by decide +kernel
theorem dX9_line_79 : decode cX9_line 79 = .ok (.getfield 39, 3) := by decide +kernel
theorem dX9_line_82 : decode cX9_line 82 = .ok (.aload_n 0, 1) := by decide +kernel
theorem dX9_line_83 : decode cX9_line 83 = .ok (.getfield 10, 3) := by decide +kernel
theorem dX9_line_86 : decode cX9_line 86 = .ok (.iload 4, 2) := by decide +kernel
theorem dX9_line_88 : decode cX9_line 88 = .ok (.iload_n 2, 1) := by decide +kernel
theorem dX9_line_89 : decode cX9_line 89 = .ok (.invokevirtual 208, 3) := by decide +kernel
theorem dX9_line_92 : decode cX9_line 92 = .ok (.goto 17, 3) := by decide +kernel
theorem dX9_line_95 : decode cX9_line 95 = .ok (.aload_n 0, 1) := by decide +kernel
theorem dX9_line_96 : decode cX9_line 96 = .ok (.getfield 39, 3) := by decide +kernel
theorem dX9_line_99 : decode cX9_line 99 = .ok (.aload_n 0, 1) := by decide +kernel
theorem dX9_line_100 : decode cX9_line 100 = .ok (.getfield 10, 3) := by decide +kernel
theorem dX9_line_103 : decode cX9_line 103 = .ok (.iload_n 2, 1) := by decide +kernel
theorem dX9_line_104 : decode cX9_line 104 = .ok (.iload 4, 2) := by decide +kernel
theorem dX9_line_106 : decode cX9_line 106 = .ok (.invokevirtual 208, 3) := by decide +kernel
theorem dX9_line_109 : decode cX9_line 109 = .ok (.ireturn, 1) := by decide +kernel
theorem dX9_isWay_0 : decode cX9_isWay 0 = .ok (.iload_n 0, 1) := by decide +kernel
theorem dX9_isWay_1 : decode cX9_isWay 1 = .ok (.ifCond .eq 8, 3) := by decide +kernel
theorem dX9_isWay_4 : decode cX9_isWay 4 = .ok (.iload_n 0, 1) := by decide +kernel
theorem dX9_isWay_5 : decode cX9_isWay 5 = .ok (.iconst 1, 1) := by decide +kernel
theorem dX9_isWay_6 : decode cX9_isWay 6 = .ok (.if_icmp .ne 7, 3) := by decide +kernel
theorem dX9_isWay_9 : decode cX9_isWay 9 = .ok (.iconst 1, 1) := by decide +kernel
theorem dX9_isWay_10 : decode cX9_isWay 10 = .ok (.goto 4, 3) := by decide +kernel
theorem dX9_isWay_13 : decode cX9_isWay 13 = .ok (.iconst 0, 1) := by decide +kernel
theorem dX9_isWay_14 : decode cX9_isWay 14 = .ok (.ireturn, 1) := by decide +kernel
theorem dX9_count_0 : decode cX9_count 0 = .ok (.iload_n 1, 1) := by decide +kernel
theorem dX9_count_1 : decode cX9_count 1 = .ok (.tableswitch 159 0 11 #[63, 71, 79, 87, 95, 103, 111, 119, 127, 135, 143, 151], 63) := by decide +kernel
theorem dX9_count_64 : decode cX9_count 64 = .ok (.aload_n 0, 1) := by decide +kernel
theorem dX9_count_65 : decode cX9_count 65 = .ok (.getfield 10, 3) := by decide +kernel
theorem dX9_count_68 : decode cX9_count 68 = .ok (.invokevirtual 211, 3) := by decide +kernel
theorem dX9_count_71 : decode cX9_count 71 = .ok (.ireturn, 1) := by decide +kernel
theorem dX9_count_72 : decode cX9_count 72 = .ok (.aload_n 0, 1) := by decide +kernel
theorem dX9_count_73 : decode cX9_count 73 = .ok (.getfield 10, 3) := by decide +kernel
theorem dX9_count_76 : decode cX9_count 76 = .ok (.invokevirtual 214, 3) := by decide +kernel
theorem dX9_count_79 : decode cX9_count 79 = .ok (.ireturn, 1) := by decide +kernel
theorem dX9_count_80 : decode cX9_count 80 = .ok (.aload_n 0, 1) := by decide +kernel
theorem dX9_count_81 : decode cX9_count 81 = .ok (.getfield 10, 3) := by decide +kernel
theorem dX9_count_84 : decode cX9_count 84 = .ok (.invokestatic 217, 3) := by decide +kernel
theorem dX9_count_87 : decode cX9_count 87 = .ok (.ireturn, 1) := by decide +kernel
theorem dX9_count_88 : decode cX9_count 88 = .ok (.aload_n 0, 1) := by decide +kernel
theorem dX9_count_89 : decode cX9_count 89 = .ok (.getfield 10, 3) := by decide +kernel
theorem dX9_count_92 : decode cX9_count 92 = .ok (.invokestatic 223, 3) := by decide +kernel
theorem dX9_count_95 : decode cX9_count 95 = .ok (.ireturn, 1) := by decide +kernel
theorem dX9_count_96 : decode cX9_count 96 = .ok (.aload_n 0, 1) := by decide +kernel
theorem dX9_count_97 : decode cX9_count 97 = .ok (.getfield 10, 3) := by decide +kernel
theorem dX9_count_100 : decode cX9_count 100 = .ok (.invokestatic 226, 3) := by decide +kernel
theorem dX9_count_103 : decode cX9_count 103 = .ok (.ireturn, 1) := by decide +kernel
theorem dX9_count_104 : decode cX9_count 104 = .ok (.aload_n 0, 1) := by decide +kernel
theorem dX9_count_105 : decode cX9_count 105 = .ok (.getfield 10, 3) := by decide +kernel
theorem dX9_count_108 : decode cX9_count 108 = .ok (.invokestatic 229, 3) := by decide +kernel
theorem dX9_count_111 : decode cX9_count 111 = .ok (.ireturn, 1) := by decide +kernel
theorem dX9_count_112 : decode cX9_count 112 = .ok (.aload_n 0, 1) := by decide +kernel
theorem dX9_count_113 : decode cX9_count 113 = .ok (.getfield 10, 3) := by decide +kernel
theorem dX9_count_116 : decode cX9_count 116 = .ok (.invokestatic 232, 3) := by decide +kernel
theorem dX9_count_119 : decode cX9_count 119 = .ok (.ireturn, 1) := by decide +kernel
theorem dX9_count_120 : decode cX9_count 120 = .ok (.aload_n 0, 1) := by decide +kernel
theorem dX9_count_121 : decode cX9_count 121 = .ok (.getfield 10, 3) := by decide +kernel
theorem dX9_count_124 : decode cX9_count 124 = .ok (.invokestatic 235, 3) := by decide +kernel
theorem dX9_count_127 : decode cX9_count 127 = .ok (.ireturn, 1) := by decide +kernel
theorem dX9_count_128 : decode cX9_count 128 = .ok (.aload_n 0, 1) := by decide +kernel
theorem dX9_count_129 : decode cX9_count 129 = .ok (.getfield 10, 3) := by decide +kernel
theorem dX9_count_132 : decode cX9_count 132 = .ok (.invokevirtual 238, 3) := by decide +kernel
theorem dX9_count_135 : decode cX9_count 135 = .ok (.ireturn, 1) := by decide +kernel
theorem dX9_count_136 : decode cX9_count 136 = .ok (.aload_n 0, 1) := by decide +kernel
theorem dX9_count_137 : decode cX9_count 137 = .ok (.getfield 10, 3) := by decide +kernel
theorem dX9_count_140 : decode cX9_count 140 = .ok (.invokevirtual 241, 3) := by decide +kernel
theorem dX9_count_143 : decode cX9_count 143 = .ok (.ireturn, 1) := by decide +kernel
theorem dX9_count_144 : decode cX9_count 144 = .ok (.aload_n 0, 1) := by decide +kernel
theorem dX9_count_145 : decode cX9_count 145 = .ok (.getfield 32, 3) := by decide +kernel
theorem dX9_count_148 : decode cX9_count 148 = .ok (.invokevirtual 89, 3) := by decide +kernel
theorem dX9_count_151 : decode cX9_count 151 = .ok (.ireturn, 1) := by decide +kernel
theorem dX9_count_152 : decode cX9_count 152 = .ok (.aload_n 0, 1) := by decide +kernel
theorem dX9_count_153 : decode cX9_count 153 = .ok (.getfield 25, 3) := by decide +kernel
theorem dX9_count_156 : decode cX9_count 156 = .ok (.invokevirtual 244, 3) := by decide +kernel
theorem dX9_count_159 : decode cX9_count 159 = .ok (.ireturn, 1) := by decide +kernel
theorem dX9_count_160 : decode cX9_count 160 = .ok (.iconst (-1), 1) := by decide +kernel
theorem dX9_count_161 : decode cX9_count 161 = .ok (.ireturn, 1) := by decide +kernel
theorem dX9_borne_0 : decode cX9_borne 0 = .ok (.iload_n 1, 1) := by decide +kernel
theorem dX9_borne_1 : decode cX9_borne 1 = .ok (.invokestatic 166, 3) := by decide +kernel
theorem dX9_borne_4 : decode cX9_borne 4 = .ok (.ifCond .eq 10, 3) := by decide +kernel
theorem dX9_borne_7 : decode cX9_borne 7 = .ok (.iload_n 2, 1) := by decide +kernel
theorem dX9_borne_8 : decode cX9_borne 8 = .ok (.invokestatic 175, 3) := by decide +kernel
theorem dX9_borne_11 : decode cX9_borne 11 = .ok (.ifCond .ne 5, 3) := by decide +kernel
theorem dX9_borne_14 : decode cX9_borne 14 = .ok (.iconst (-1), 1) := by decide +kernel
theorem dX9_borne_15 : decode cX9_borne 15 = .ok (.ireturn, 1) := by decide +kernel
theorem dX9_borne_16 : decode cX9_borne 16 = .ok (.aload_n 0, 1) := by decide +kernel
theorem dX9_borne_17 : decode cX9_borne 17 = .ok (.getfield 10, 3) := by decide +kernel
theorem dX9_borne_20 : decode cX9_borne 20 = .ok (.iload_n 1, 1) := by decide +kernel
theorem dX9_borne_21 : decode cX9_borne 21 = .ok (.iload_n 2, 1) := by decide +kernel
theorem dX9_borne_22 : decode cX9_borne 22 = .ok (.invokestatic 245, 3) := by decide +kernel
theorem dX9_borne_25 : decode cX9_borne 25 = .ok (.ireturn, 1) := by decide +kernel
theorem dX9_unlike_0 : decode cX9_unlike 0 = .ok (.aload_n 0, 1) := by decide +kernel
theorem dX9_unlike_1 : decode cX9_unlike 1 = .ok (.getfield 10, 3) := by decide +kernel
theorem dX9_unlike_4 : decode cX9_unlike 4 = .ok (.invokestatic 248, 3) := by decide +kernel
theorem dX9_unlike_7 : decode cX9_unlike 7 = .ok (.dreturn, 1) := by decide +kernel
theorem dX9_ifDead_0 : decode cX9_ifDead 0 = .ok (.aload_n 0, 1) := by decide +kernel
theorem dX9_ifDead_1 : decode cX9_ifDead 1 = .ok (.getfield 10, 3) := by decide +kernel
theorem dX9_ifDead_4 : decode cX9_ifDead 4 = .ok (.iload_n 1, 1) := by decide +kernel
theorem dX9_ifDead_5 : decode cX9_ifDead 5 = .ok (.invokevirtual 121, 3) := by decide +kernel
theorem dX9_ifDead_8 : decode cX9_ifDead 8 = .ok (.ifCond .eq 12, 3) := by decide +kernel
theorem dX9_ifDead_11 : decode cX9_ifDead 11 = .ok (.iload_n 2, 1) := by decide +kernel
theorem dX9_ifDead_12 : decode cX9_ifDead 12 = .ok (.ifCond .lt 8, 3) := by decide +kernel
theorem dX9_ifDead_15 : decode cX9_ifDead 15 = .ok (.iload_n 2, 1) := by decide +kernel
theorem dX9_ifDead_16 : decode cX9_ifDead 16 = .ok (.iconst 2, 1) := by decide +kernel
theorem dX9_ifDead_17 : decode cX9_ifDead 17 = .ok (.if_icmp .le 5, 3) := by decide +kernel
theorem dX9_ifDead_20 : decode cX9_ifDead 20 = .ok (.iconst (-1), 1) := by decide +kernel
theorem dX9_ifDead_21 : decode cX9_ifDead 21 = .ok (.ireturn, 1) := by decide +kernel
theorem dX9_ifDead_22 : decode cX9_ifDead 22 = .ok (.aload_n 0, 1) := by decide +kernel
theorem dX9_ifDead_23 : decode cX9_ifDead 23 = .ok (.getfield 10, 3) := by decide +kernel
theorem dX9_ifDead_26 : decode cX9_ifDead 26 = .ok (.iload_n 1, 1) := by decide +kernel
theorem dX9_ifDead_27 : decode cX9_ifDead 27 = .ok (.invokevirtual 127, 3) := by decide +kernel
theorem dX9_ifDead_30 : decode cX9_ifDead 30 = .ok (.ifCond .ne 6, 3) := by decide +kernel
theorem dX9_ifDead_33 : decode cX9_ifDead 33 = .ok (.bipush (-2), 2) := by decide +kernel
theorem dX9_ifDead_35 : decode cX9_ifDead 35 = .ok (.ireturn, 1) := by decide +kernel
theorem dX9_ifDead_36 : decode cX9_ifDead 36 = .ok (.aload_n 0, 1) := by decide +kernel
theorem dX9_ifDead_37 : decode cX9_ifDead 37 = .ok (.getfield 19, 3) := by decide +kernel
theorem dX9_ifDead_40 : decode cX9_ifDead 40 = .ok (.aload_n 0, 1) := by decide +kernel
theorem dX9_ifDead_41 : decode cX9_ifDead 41 = .ok (.getfield 10, 3) := by decide +kernel
theorem dX9_ifDead_44 : decode cX9_ifDead 44 = .ok (.invokevirtual 252, 3) := by decide +kernel
theorem dX9_ifDead_47 : decode cX9_ifDead 47 = .ok (.aload_n 0, 1) := by decide +kernel
theorem dX9_ifDead_48 : decode cX9_ifDead 48 = .ok (.getfield 19, 3) := by decide +kernel
theorem dX9_ifDead_51 : decode cX9_ifDead 51 = .ok (.iload_n 1, 1) := by decide +kernel
theorem dX9_ifDead_52 : decode cX9_ifDead 52 = .ok (.invokevirtual 72, 3) := by decide +kernel
theorem dX9_ifDead_55 : decode cX9_ifDead 55 = .ok (.pop, 1) := by decide +kernel
theorem dX9_ifDead_56 : decode cX9_ifDead 56 = .ok (.iload_n 2, 1) := by decide +kernel
theorem dX9_ifDead_57 : decode cX9_ifDead 57 = .ok (.ifCond .ne 15, 3) := by decide +kernel
theorem dX9_ifDead_60 : decode cX9_ifDead 60 = .ok (.aload_n 0, 1) := by decide +kernel
theorem dX9_ifDead_61 : decode cX9_ifDead 61 = .ok (.getfield 19, 3) := by decide +kernel
theorem dX9_ifDead_64 : decode cX9_ifDead 64 = .ok (.iload_n 1, 1) := by decide +kernel
theorem dX9_ifDead_65 : decode cX9_ifDead 65 = .ok (.invokestatic 255, 3) := by decide +kernel
theorem dX9_ifDead_68 : decode cX9_ifDead 68 = .ok (.invokestatic 133, 3) := by decide +kernel
theorem dX9_ifDead_71 : decode cX9_ifDead 71 = .ok (.ireturn, 1) := by decide +kernel
theorem dX9_ifDead_72 : decode cX9_ifDead 72 = .ok (.iload_n 2, 1) := by decide +kernel
theorem dX9_ifDead_73 : decode cX9_ifDead 73 = .ok (.iconst 1, 1) := by decide +kernel
theorem dX9_ifDead_74 : decode cX9_ifDead 74 = .ok (.if_icmp .ne 13, 3) := by decide +kernel
theorem dX9_ifDead_77 : decode cX9_ifDead 77 = .ok (.aload_n 0, 1) := by decide +kernel
theorem dX9_ifDead_78 : decode cX9_ifDead 78 = .ok (.getfield 19, 3) := by decide +kernel
theorem dX9_ifDead_81 : decode cX9_ifDead 81 = .ok (.invokestatic 223, 3) := by decide +kernel
theorem dX9_ifDead_84 : decode cX9_ifDead 84 = .ok (.goto 10, 3) := by decide +kernel
theorem dX9_ifDead_87 : decode cX9_ifDead 87 = .ok (.aload_n 0, 1) := by decide +kernel
theorem dX9_ifDead_88 : decode cX9_ifDead 88 = .ok (.getfield 19, 3) := by decide +kernel
theorem dX9_ifDead_91 : decode cX9_ifDead 91 = .ok (.invokestatic 258, 3) := by decide +kernel
theorem dX9_ifDead_94 : decode cX9_ifDead 94 = .ok (.ireturn, 1) := by decide +kernel
theorem dX9_undo_0 : decode cX9_undo 0 = .ok (.aload_n 0, 1) := by decide +kernel
theorem dX9_undo_1 : decode cX9_undo 1 = .ok (.getfield 25, 3) := by decide +kernel
theorem dX9_undo_4 : decode cX9_undo 4 = .ok (.invokevirtual 244, 3) := by decide +kernel
theorem dX9_undo_7 : decode cX9_undo 7 = .ok (.ifCond .ne 6, 3) := by decide +kernel
theorem dX9_undo_10 : decode cX9_undo 10 = .ok (.bipush (-2), 2) := by decide +kernel
theorem dX9_undo_12 : decode cX9_undo 12 = .ok (.ireturn, 1) := by decide +kernel
theorem dX9_undo_13 : decode cX9_undo 13 = .ok (.aload_n 0, 1) := by decide +kernel
theorem dX9_undo_14 : decode cX9_undo 14 = .ok (.getfield 25, 3) := by decide +kernel
theorem dX9_undo_17 : decode cX9_undo 17 = .ok (.aload_n 0, 1) := by decide +kernel
theorem dX9_undo_18 : decode cX9_undo 18 = .ok (.getfield 10, 3) := by decide +kernel
theorem dX9_undo_21 : decode cX9_undo 21 = .ok (.invokevirtual 261, 3) := by decide +kernel
theorem dX9_undo_24 : decode cX9_undo 24 = .ok (.aload_n 0, 1) := by decide +kernel
theorem dX9_undo_25 : decode cX9_undo 25 = .ok (.getfield 25, 3) := by decide +kernel
theorem dX9_undo_28 : decode cX9_undo 28 = .ok (.invokevirtual 244, 3) := by decide +kernel
theorem dX9_undo_31 : decode cX9_undo 31 = .ok (.ireturn, 1) := by decide +kernel
theorem dX9_save_0 : decode cX9_save 0 = .ok (.aload_n 0, 1) := by decide +kernel
theorem dX9_save_1 : decode cX9_save 1 = .ok (.getfield 16, 3) := by decide +kernel
theorem dX9_save_4 : decode cX9_save 4 = .ok (.aload_n 0, 1) := by decide +kernel
theorem dX9_save_5 : decode cX9_save 5 = .ok (.getfield 10, 3) := by decide +kernel
theorem dX9_save_8 : decode cX9_save 8 = .ok (.invokevirtual 252, 3) := by decide +kernel
theorem dX9_save_11 : decode cX9_save 11 = .ok (.aload_n 0, 1) := by decide +kernel
theorem dX9_save_12 : decode cX9_save 12 = .ok (.iconst 1, 1) := by decide +kernel
theorem dX9_save_13 : decode cX9_save 13 = .ok (.putfield 43, 3) := by decide +kernel
theorem dX9_save_16 : decode cX9_save 16 = .ok (.aload_n 0, 1) := by decide +kernel
theorem dX9_save_17 : decode cX9_save 17 = .ok (.getfield 10, 3) := by decide +kernel
theorem dX9_save_20 : decode cX9_save 20 = .ok (.invokevirtual 214, 3) := by decide +kernel
theorem dX9_save_23 : decode cX9_save 23 = .ok (.ireturn, 1) := by decide +kernel
theorem dX9_restore_0 : decode cX9_restore 0 = .ok (.aload_n 0, 1) := by decide +kernel
theorem dX9_restore_1 : decode cX9_restore 1 = .ok (.getfield 43, 3) := by decide +kernel
theorem dX9_restore_4 : decode cX9_restore 4 = .ok (.ifCond .ne 6, 3) := by decide +kernel
theorem dX9_restore_7 : decode cX9_restore 7 = .ok (.bipush (-2), 2) := by decide +kernel
theorem dX9_restore_9 : decode cX9_restore 9 = .ok (.ireturn, 1) := by decide +kernel
theorem dX9_restore_10 : decode cX9_restore 10 = .ok (.aload_n 0, 1) := by decide +kernel
theorem dX9_restore_11 : decode cX9_restore 11 = .ok (.getfield 25, 3) := by decide +kernel
theorem dX9_restore_14 : decode cX9_restore 14 = .ok (.aload_n 0, 1) := by decide +kernel
theorem dX9_restore_15 : decode cX9_restore 15 = .ok (.getfield 10, 3) := by decide +kernel
theorem dX9_restore_18 : decode cX9_restore 18 = .ok (.invokevirtual 57, 3) := by decide +kernel
theorem dX9_restore_21 : decode cX9_restore 21 = .ok (.aload_n 0, 1) := by decide +kernel
theorem dX9_restore_22 : decode cX9_restore 22 = .ok (.getfield 10, 3) := by decide +kernel
theorem dX9_restore_25 : decode cX9_restore 25 = .ok (.aload_n 0, 1) := by decide +kernel
theorem dX9_restore_26 : decode cX9_restore 26 = .ok (.getfield 16, 3) := by decide +kernel
theorem dX9_restore_29 : decode cX9_restore 29 = .ok (.invokevirtual 252, 3) := by decide +kernel
theorem dX9_restore_32 : decode cX9_restore 32 = .ok (.aload_n 0, 1) := by decide +kernel
theorem dX9_restore_33 : decode cX9_restore 33 = .ok (.getfield 25, 3) := by decide +kernel
theorem dX9_restore_36 : decode cX9_restore 36 = .ok (.invokevirtual 78, 3) := by decide +kernel
theorem dX9_restore_39 : decode cX9_restore 39 = .ok (.aload_n 0, 1) := by decide +kernel
theorem dX9_restore_40 : decode cX9_restore 40 = .ok (.getfield 10, 3) := by decide +kernel
theorem dX9_restore_43 : decode cX9_restore 43 = .ok (.invokevirtual 214, 3) := by decide +kernel
theorem dX9_restore_46 : decode cX9_restore 46 = .ok (.ireturn, 1) := by decide +kernel
theorem dX10_init_0 : decode cX10_init 0 = .ok (.aload_n 0, 1) := by decide +kernel
theorem dX10_init_1 : decode cX10_init 1 = .ok (.invokespecial 1, 3) := by decide +kernel
theorem dX10_init_4 : decode cX10_init 4 = .ok (.aload_n 0, 1) := by decide +kernel
theorem dX10_init_5 : decode cX10_init 5 = .ok (.bipush 103, 2) := by decide +kernel
theorem dX10_init_7 : decode cX10_init 7 = .ok (.newarray .int, 2) := by decide +kernel
theorem dX10_init_9 : decode cX10_init 9 = .ok (.putfield 7, 3) := by decide +kernel
theorem dX10_init_12 : decode cX10_init 12 = .ok (.aload_n 0, 1) := by decide +kernel
theorem dX10_init_13 : decode cX10_init 13 = .ok (.sipush 412, 3) := by decide +kernel
theorem dX10_init_16 : decode cX10_init 16 = .ok (.newarray .int, 2) := by decide +kernel
theorem dX10_init_18 : decode cX10_init 18 = .ok (.putfield 13, 3) := by decide +kernel
theorem dX10_init_21 : decode cX10_init 21 = .ok (.aload_n 0, 1) := by decide +kernel
theorem dX10_init_22 : decode cX10_init 22 = .ok (.bipush 103, 2) := by decide +kernel
theorem dX10_init_24 : decode cX10_init 24 = .ok (.newarray .int, 2) := by decide +kernel
theorem dX10_init_26 : decode cX10_init 26 = .ok (.putfield 16, 3) := by decide +kernel
theorem dX10_init_29 : decode cX10_init 29 = .ok (.aload_n 0, 1) := by decide +kernel
theorem dX10_init_30 : decode cX10_init 30 = .ok (.bipush 60, 2) := by decide +kernel
theorem dX10_init_32 : decode cX10_init 32 = .ok (.newarray .int, 2) := by decide +kernel
theorem dX10_init_34 : decode cX10_init 34 = .ok (.putfield 19, 3) := by decide +kernel
theorem dX10_init_37 : decode cX10_init 37 = .ok (.aload_n 0, 1) := by decide +kernel
theorem dX10_init_38 : decode cX10_init 38 = .ok (.bipush (-4), 2) := by decide +kernel
theorem dX10_init_40 : decode cX10_init 40 = .ok (.putfield 22, 3) := by decide +kernel
theorem dX10_init_43 : decode cX10_init 43 = .ok (.aload_n 0, 1) := by decide +kernel
theorem dX10_init_44 : decode cX10_init 44 = .ok (.bipush (-4), 2) := by decide +kernel
theorem dX10_init_46 : decode cX10_init 46 = .ok (.putfield 26, 3) := by decide +kernel
theorem dX10_init_49 : decode cX10_init 49 = .ok (.aload_n 0, 1) := by decide +kernel
theorem dX10_init_50 : decode cX10_init 50 = .ok (.bipush (-4), 2) := by decide +kernel
theorem dX10_init_52 : decode cX10_init 52 = .ok (.putfield 29, 3) := by decide +kernel
theorem dX10_init_55 : decode cX10_init 55 = .ok (.aload_n 0, 1) := by decide +kernel
theorem dX10_init_56 : decode cX10_init 56 = .ok (.bipush 84, 2) := by decide +kernel
theorem dX10_init_58 : decode cX10_init 58 = .ok (.newarray .int, 2) := by decide +kernel
theorem dX10_init_60 : decode cX10_init 60 = .ok (.putfield 32, 3) := by decide +kernel
theorem dX10_init_63 : decode cX10_init 63 = .ok (.aload_n 0, 1) := by decide +kernel
theorem dX10_init_64 : decode cX10_init 64 = .ok (.sipush 15625, 3) := by decide +kernel
theorem dX10_init_67 : decode cX10_init 67 = .ok (.newarray .int, 2) := by decide +kernel
theorem dX10_init_69 : decode cX10_init 69 = .ok (.putfield 35, 3) := by decide +kernel
theorem dX10_init_72 : decode cX10_init 72 = .ok (.aload_n 0, 1) := by decide +kernel
theorem dX10_init_73 : decode cX10_init 73 = .ok (.sipush 15625, 3) := by decide +kernel
theorem dX10_init_76 : decode cX10_init 76 = .ok (.newarray .int, 2) := by decide +kernel
theorem dX10_init_78 : decode cX10_init 78 = .ok (.putfield 38, 3) := by decide +kernel
theorem dX10_init_81 : decode cX10_init 81 = .ok (.return_, 1) := by decide +kernel
theorem dX10_in_0 : decode cX10_in 0 = .ok (.iload_n 0, 1) := by decide +kernel
theorem dX10_in_1 : decode cX10_in 1 = .ok (.iload_n 1, 1) := by decide +kernel
theorem dX10_in_2 : decode cX10_in 2 = .ok (.if_icmp .lt 12, 3) := by decide +kernel
theorem dX10_in_5 : decode cX10_in 5 = .ok (.iload_n 0, 1) := by decide +kernel
theorem dX10_in_6 : decode cX10_in 6 = .ok (.iload_n 2, 1) := by decide +kernel
theorem dX10_in_7 : decode cX10_in 7 = .ok (.if_icmp .gt 7, 3) := by decide +kernel
theorem dX10_in_10 : decode cX10_in 10 = .ok (.iconst 1, 1) := by decide +kernel
theorem dX10_in_11 : decode cX10_in 11 = .ok (.goto 4, 3) := by decide +kernel
theorem dX10_in_14 : decode cX10_in 14 = .ok (.iconst 0, 1) := by decide +kernel
theorem dX10_in_15 : decode cX10_in 15 = .ok (.ireturn, 1) := by decide +kernel
theorem dX10_of_0 : decode cX10_of 0 = .ok (.aload_n 0, 1) := by decide +kernel
theorem dX10_of_1 : decode cX10_of 1 = .ok (.getfield 7, 3) := by decide +kernel
theorem dX10_of_4 : decode cX10_of 4 = .ok (.iconst 3, 1) := by decide +kernel
theorem dX10_of_5 : decode cX10_of 5 = .ok (.iconst 5, 1) := by decide +kernel
theorem dX10_of_6 : decode cX10_of 6 = .ok (.iload_n 1, 1) := by decide +kernel
theorem dX10_of_7 : decode cX10_of 7 = .ok (.imul, 1) := by decide +kernel
theorem dX10_of_8 : decode cX10_of 8 = .ok (.iadd, 1) := by decide +kernel
theorem dX10_of_9 : decode cX10_of 9 = .ok (.iload_n 2, 1) := by decide +kernel
theorem dX10_of_10 : decode cX10_of 10 = .ok (.iadd, 1) := by decide +kernel
theorem dX10_of_11 : decode cX10_of 11 = .ok (.iaload, 1) := by decide +kernel
theorem dX10_of_12 : decode cX10_of 12 = .ok (.ireturn, 1) := by decide +kernel
theorem dX10_lay_0 : decode cX10_lay 0 = .ok (.aload_n 0, 1) := by decide +kernel
theorem dX10_lay_1 : decode cX10_lay 1 = .ok (.getfield 7, 3) := by decide +kernel
theorem dX10_lay_4 : decode cX10_lay 4 = .ok (.iconst 3, 1) := by decide +kernel
theorem dX10_lay_5 : decode cX10_lay 5 = .ok (.iconst 5, 1) := by decide +kernel
theorem dX10_lay_6 : decode cX10_lay 6 = .ok (.iload_n 1, 1) := by decide +kernel
theorem dX10_lay_7 : decode cX10_lay 7 = .ok (.imul, 1) := by decide +kernel
theorem dX10_lay_8 : decode cX10_lay 8 = .ok (.iadd, 1) := by decide +kernel
theorem dX10_lay_9 : decode cX10_lay 9 = .ok (.iload_n 2, 1) := by decide +kernel
theorem dX10_lay_10 : decode cX10_lay 10 = .ok (.iadd, 1) := by decide +kernel
theorem dX10_lay_11 : decode cX10_lay 11 = .ok (.iload_n 3, 1) := by decide +kernel
theorem dX10_lay_12 : decode cX10_lay 12 = .ok (.iastore, 1) := by decide +kernel
theorem dX10_lay_13 : decode cX10_lay 13 = .ok (.return_, 1) := by decide +kernel
theorem dX10_isPerson_0 : decode cX10_isPerson 0 = .ok (.iload_n 1, 1) := by decide +kernel
theorem dX10_isPerson_1 : decode cX10_isPerson 1 = .ok (.iconst 0, 1) := by decide +kernel
theorem dX10_isPerson_2 : decode cX10_isPerson 2 = .ok (.aload_n 0, 1) := by decide +kernel
theorem dX10_isPerson_3 : decode cX10_isPerson 3 = .ok (.getfield 7, 3) := by decide +kernel
theorem dX10_isPerson_6 : decode cX10_isPerson 6 = .ok (.iconst 0, 1) := by decide +kernel
theorem dX10_isPerson_7 : decode cX10_isPerson 7 = .ok (.iaload, 1) := by decide +kernel
theorem dX10_isPerson_8 : decode cX10_isPerson 8 = .ok (.iconst 1, 1) := by decide +kernel
theorem dX10_isPerson_9 : decode cX10_isPerson 9 = .ok (.isub, 1) := by decide +kernel
theorem dX10_isPerson_10 : decode cX10_isPerson 10 = .ok (.invokestatic 41, 3) := by decide +kernel
theorem dX10_isPerson_13 : decode cX10_isPerson 13 = .ok (.ireturn, 1) := by decide +kernel
theorem dX10_lives_0 : decode cX10_lives 0 = .ok (.aload_n 0, 1) := by decide +kernel
theorem dX10_lives_1 : decode cX10_lives 1 = .ok (.iload_n 1, 1) := by decide +kernel
theorem dX10_lives_2 : decode cX10_lives 2 = .ok (.iconst 1, 1) := by decide +kernel
theorem dX10_lives_3 : decode cX10_lives 3 = .ok (.invokevirtual 45, 3) := by decide +kernel
theorem dX10_lives_6 : decode cX10_lives 6 = .ok (.iconst 1, 1) := by decide +kernel
theorem dX10_lives_7 : decode cX10_lives 7 = .ok (.if_icmp .ne 7, 3) := by decide +kernel
theorem dX10_lives_10 : decode cX10_lives 10 = .ok (.iconst 1, 1) := by decide +kernel
theorem dX10_lives_11 : decode cX10_lives 11 = .ok (.goto 4, 3) := by decide +kernel
theorem dX10_lives_14 : decode cX10_lives 14 = .ok (.iconst 0, 1) := by decide +kernel
theorem dX10_lives_15 : decode cX10_lives 15 = .ok (.ireturn, 1) := by decide +kernel
theorem dX10_isShield_0 : decode cX10_isShield 0 = .ok (.iload_n 0, 1) := by decide +kernel
theorem dX10_isShield_1 : decode cX10_isShield 1 = .ok (.iconst 0, 1) := by decide +kernel
theorem dX10_isShield_2 : decode cX10_isShield 2 = .ok (.sipush 15624, 3) := by decide +kernel
theorem dX10_isShield_5 : decode cX10_isShield 5 = .ok (.invokestatic 41, 3) := by decide +kernel
theorem dX10_isShield_8 : decode cX10_isShield 8 = .ok (.ireturn, 1) := by decide +kernel
theorem dX10_power_0 : decode cX10_power 0 = .ok (.iconst 1, 1) := by decide +kernel
theorem dX10_power_1 : decode cX10_power 1 = .ok (.istore_n 1, 1) := by decide +kernel
theorem dX10_power_2 : decode cX10_power 2 = .ok (.iconst 0, 1) := by decide +kernel
theorem dX10_power_3 : decode cX10_power 3 = .ok (.istore_n 2, 1) := by decide +kernel
theorem dX10_power_4 : decode cX10_power 4 = .ok (.iload_n 2, 1) := by decide +kernel
theorem dX10_power_5 : decode cX10_power 5 = .ok (.iload_n 0, 1) := by decide +kernel
theorem dX10_power_6 : decode cX10_power 6 = .ok (.if_icmp .ge 13, 3) := by decide +kernel
theorem dX10_power_9 : decode cX10_power 9 = .ok (.iload_n 1, 1) := by decide +kernel
theorem dX10_power_10 : decode cX10_power 10 = .ok (.iconst 5, 1) := by decide +kernel
theorem dX10_power_11 : decode cX10_power 11 = .ok (.imul, 1) := by decide +kernel
theorem dX10_power_12 : decode cX10_power 12 = .ok (.istore_n 1, 1) := by decide +kernel
theorem dX10_power_13 : decode cX10_power 13 = .ok (.iinc 2 1, 3) := by decide +kernel
theorem dX10_power_16 : decode cX10_power 16 = .ok (.goto (-12), 3) := by decide +kernel
theorem dX10_power_19 : decode cX10_power 19 = .ok (.iload_n 1, 1) := by decide +kernel
theorem dX10_power_20 : decode cX10_power 20 = .ok (.ireturn, 1) := by decide +kernel
theorem dX10_markOf_0 : decode cX10_markOf 0 = .ok (.iload_n 0, 1) := by decide +kernel
theorem dX10_markOf_1 : decode cX10_markOf 1 = .ok (.iload_n 1, 1) := by decide +kernel
theorem dX10_markOf_2 : decode cX10_markOf 2 = .ok (.invokestatic 49, 3) := by decide +kernel
theorem dX10_markOf_5 : decode cX10_markOf 5 = .ok (.idiv, 1) := by decide +kernel
theorem dX10_markOf_6 : decode cX10_markOf 6 = .ok (.iconst 5, 1) := by decide +kernel
theorem dX10_markOf_7 : decode cX10_markOf 7 = .ok (.irem, 1) := by decide +kernel
theorem dX10_markOf_8 : decode cX10_markOf 8 = .ok (.ireturn, 1) := by decide +kernel
theorem dX10_with_0 : decode cX10_with 0 = .ok (.iload_n 0, 1) := by decide +kernel
theorem dX10_with_1 : decode cX10_with 1 = .ok (.iload_n 2, 1) := by decide +kernel
theorem dX10_with_2 : decode cX10_with 2 = .ok (.iload_n 0, 1) := by decide +kernel
theorem dX10_with_3 : decode cX10_with 3 = .ok (.iload_n 1, 1) := by decide +kernel
theorem dX10_with_4 : decode cX10_with 4 = .ok (.invokestatic 53, 3) := by decide +kernel
theorem dX10_with_7 : decode cX10_with 7 = .ok (.isub, 1) := by decide +kernel
theorem dX10_with_8 : decode cX10_with 8 = .ok (.iload_n 1, 1) := by decide +kernel
theorem dX10_with_9 : decode cX10_with 9 = .ok (.invokestatic 49, 3) := by decide +kernel
theorem dX10_with_12 : decode cX10_with 12 = .ok (.imul, 1) := by decide +kernel
theorem dX10_with_13 : decode cX10_with 13 = .ok (.iadd, 1) := by decide +kernel
theorem dX10_with_14 : decode cX10_with 14 = .ok (.ireturn, 1) := by decide +kernel
theorem dX10_far_0 : decode cX10_far 0 = .ok (.iconst 0, 1) := by decide +kernel
theorem dX10_far_1 : decode cX10_far 1 = .ok (.istore_n 2, 1) := by decide +kernel
theorem dX10_far_2 : decode cX10_far 2 = .ok (.iconst 0, 1) := by decide +kernel
theorem dX10_far_3 : decode cX10_far 3 = .ok (.istore_n 3, 1) := by decide +kernel
theorem dX10_far_4 : decode cX10_far 4 = .ok (.iload_n 3, 1) := by decide +kernel
theorem dX10_far_5 : decode cX10_far 5 = .ok (.bipush 6, 2) := by decide +kernel
theorem dX10_far_7 : decode cX10_far 7 = .ok (.if_icmp .ge 30, 3) := by decide +kernel
theorem dX10_far_10 : decode cX10_far 10 = .ok (.iload_n 2, 1) := by decide +kernel
theorem dX10_far_11 : decode cX10_far 11 = .ok (.iload_n 0, 1) := by decide +kernel
theorem dX10_far_12 : decode cX10_far 12 = .ok (.iload_n 3, 1) := by decide +kernel
theorem dX10_far_13 : decode cX10_far 13 = .ok (.invokestatic 53, 3) := by decide +kernel
theorem dX10_far_16 : decode cX10_far 16 = .ok (.iload_n 1, 1) := by decide +kernel
theorem dX10_far_17 : decode cX10_far 17 = .ok (.iload_n 3, 1) := by decide +kernel
theorem dX10_far_18 : decode cX10_far 18 = .ok (.invokestatic 53, 3) := by decide +kernel
theorem dX10_far_21 : decode cX10_far 21 = .ok (.if_icmp .ne 7, 3) := by decide +kernel
theorem dX10_far_24 : decode cX10_far 24 = .ok (.iconst 0, 1) := by decide +kernel
theorem dX10_far_25 : decode cX10_far 25 = .ok (.goto 4, 3) := by decide +kernel
theorem dX10_far_28 : decode cX10_far 28 = .ok (.iconst 1, 1) := by decide +kernel
theorem dX10_far_29 : decode cX10_far 29 = .ok (.iadd, 1) := by decide +kernel
theorem dX10_far_30 : decode cX10_far 30 = .ok (.istore_n 2, 1) := by decide +kernel
theorem dX10_far_31 : decode cX10_far 31 = .ok (.iinc 3 1, 3) := by decide +kernel
theorem dX10_far_34 : decode cX10_far 34 = .ok (.goto (-30), 3) := by decide +kernel
theorem dX10_far_37 : decode cX10_far 37 = .ok (.iload_n 2, 1) := by decide +kernel
theorem dX10_far_38 : decode cX10_far 38 = .ok (.ireturn, 1) := by decide +kernel
theorem dX10_bears_0 : decode cX10_bears 0 = .ok (.bipush (-4), 2) := by decide +kernel
theorem dX10_bears_2 : decode cX10_bears 2 = .ok (.istore_n 2, 1) := by decide +kernel
theorem dX10_bears_3 : decode cX10_bears 3 = .ok (.iconst 0, 1) := by decide +kernel
theorem dX10_bears_4 : decode cX10_bears 4 = .ok (.istore_n 3, 1) := by decide +kernel
theorem dX10_bears_5 : decode cX10_bears 5 = .ok (.iload_n 3, 1) := by decide +kernel
theorem dX10_bears_6 : decode cX10_bears 6 = .ok (.aload_n 0, 1) := by decide +kernel
theorem dX10_bears_7 : decode cX10_bears 7 = .ok (.getfield 7, 3) := by decide +kernel
theorem dX10_bears_10 : decode cX10_bears 10 = .ok (.iconst 0, 1) := by decide +kernel
theorem dX10_bears_11 : decode cX10_bears 11 = .ok (.iaload, 1) := by decide +kernel
theorem dX10_bears_12 : decode cX10_bears 12 = .ok (.if_icmp .ge 33, 3) := by decide +kernel
theorem dX10_bears_15 : decode cX10_bears 15 = .ok (.aload_n 0, 1) := by decide +kernel
theorem dX10_bears_16 : decode cX10_bears 16 = .ok (.iload_n 3, 1) := by decide +kernel
theorem dX10_bears_17 : decode cX10_bears 17 = .ok (.invokevirtual 56, 3) := by decide +kernel
theorem dX10_bears_20 : decode cX10_bears 20 = .ok (.ifCond .eq 17, 3) := by decide +kernel
theorem dX10_bears_23 : decode cX10_bears 23 = .ok (.aload_n 0, 1) := by decide +kernel
theorem dX10_bears_24 : decode cX10_bears 24 = .ok (.iload_n 3, 1) := by decide +kernel
theorem dX10_bears_25 : decode cX10_bears 25 = .ok (.iconst 0, 1) := by decide +kernel
theorem dX10_bears_26 : decode cX10_bears 26 = .ok (.invokevirtual 45, 3) := by decide +kernel
theorem dX10_bears_29 : decode cX10_bears 29 = .ok (.iload_n 1, 1) := by decide +kernel
theorem dX10_bears_30 : decode cX10_bears 30 = .ok (.if_icmp .ne 7, 3) := by decide +kernel
theorem dX10_bears_33 : decode cX10_bears 33 = .ok (.iload_n 3, 1) := by decide +kernel
theorem dX10_bears_34 : decode cX10_bears 34 = .ok (.goto 4, 3) := by decide +kernel
theorem dX10_bears_37 : decode cX10_bears 37 = .ok (.iload_n 2, 1) := by decide +kernel
theorem dX10_bears_38 : decode cX10_bears 38 = .ok (.istore_n 2, 1) := by decide +kernel
theorem dX10_bears_39 : decode cX10_bears 39 = .ok (.iinc 3 1, 3) := by decide +kernel
theorem dX10_bears_42 : decode cX10_bears 42 = .ok (.goto (-37), 3) := by decide +kernel
theorem dX10_bears_45 : decode cX10_bears 45 = .ok (.iload_n 2, 1) := by decide +kernel
theorem dX10_bears_46 : decode cX10_bears 46 = .ok (.ireturn, 1) := by decide +kernel
theorem dX10_copyState_0 : decode cX10_copyState 0 = .ok (.iconst 0, 1) := by decide +kernel
theorem dX10_copyState_1 : decode cX10_copyState 1 = .ok (.istore 4, 2) := by decide +kernel
theorem dX10_copyState_3 : decode cX10_copyState 3 = .ok (.iload 4, 2) := by decide +kernel
theorem dX10_copyState_5 : decode cX10_copyState 5 = .ok (.bipush 103, 2) := by decide +kernel
theorem dX10_copyState_7 : decode cX10_copyState 7 = .ok (.if_icmp .ge 21, 3) := by decide +kernel
theorem dX10_copyState_10 : decode cX10_copyState 10 = .ok (.aload_n 2, 1) := by decide +kernel
theorem dX10_copyState_11 : decode cX10_copyState 11 = .ok (.iload_n 3, 1) := by decide +kernel
theorem dX10_copyState_12 : decode cX10_copyState 12 = .ok (.iload 4, 2) := by decide +kernel
theorem dX10_copyState_14 : decode cX10_copyState 14 = .ok (.iadd, 1) := by decide +kernel
theorem dX10_copyState_15 : decode cX10_copyState 15 = .ok (.aload_n 0, 1) := by decide +kernel
theorem dX10_copyState_16 : decode cX10_copyState 16 = .ok (.iload_n 1, 1) := by decide +kernel
theorem dX10_copyState_17 : decode cX10_copyState 17 = .ok (.iload 4, 2) := by decide +kernel
theorem dX10_copyState_19 : decode cX10_copyState 19 = .ok (.iadd, 1) := by decide +kernel
theorem dX10_copyState_20 : decode cX10_copyState 20 = .ok (.iaload, 1) := by decide +kernel
theorem dX10_copyState_21 : decode cX10_copyState 21 = .ok (.iastore, 1) := by decide +kernel
theorem dX10_copyState_22 : decode cX10_copyState 22 = .ok (.iinc 4 1, 3) := by decide +kernel
theorem dX10_copyState_25 : decode cX10_copyState 25 = .ok (.goto (-22), 3) := by decide +kernel
theorem dX10_copyState_28 : decode cX10_copyState 28 = .ok (.return_, 1) := by decide +kernel
theorem dX10_record_0 : decode cX10_record 0 = .ok (.aload_n 0, 1) := by decide +kernel
theorem dX10_record_1 : decode cX10_record 1 = .ok (.getfield 60, 3) := by decide +kernel
theorem dX10_record_4 : decode cX10_record 4 = .ok (.iconst 4, 1) := by decide +kernel
theorem dX10_record_5 : decode cX10_record 5 = .ok (.if_icmp .ne 43, 3) := by decide +kernel
theorem dX10_record_8 : decode cX10_record 8 = .ok (.iconst 0, 1) := by decide +kernel
theorem dX10_record_9 : decode cX10_record 9 = .ok (.istore_n 1, 1) := by decide +kernel
theorem dX10_record_10 : decode cX10_record 10 = .ok (.iload_n 1, 1) := by decide +kernel
theorem dX10_record_11 : decode cX10_record 11 = .ok (.sipush 309, 3) := by decide +kernel
theorem dX10_record_14 : decode cX10_record 14 = .ok (.if_icmp .ge 24, 3) := by decide +kernel
theorem dX10_record_17 : decode cX10_record 17 = .ok (.aload_n 0, 1) := by decide +kernel
theorem dX10_record_18 : decode cX10_record 18 = .ok (.getfield 13, 3) := by decide +kernel
theorem dX10_record_21 : decode cX10_record 21 = .ok (.iload_n 1, 1) := by decide +kernel
theorem dX10_record_22 : decode cX10_record 22 = .ok (.aload_n 0, 1) := by decide +kernel
theorem dX10_record_23 : decode cX10_record 23 = .ok (.getfield 13, 3) := by decide +kernel
theorem dX10_record_26 : decode cX10_record 26 = .ok (.iload_n 1, 1) := by decide +kernel
theorem dX10_record_27 : decode cX10_record 27 = .ok (.bipush 103, 2) := by decide +kernel
theorem dX10_record_29 : decode cX10_record 29 = .ok (.iadd, 1) := by decide +kernel
theorem dX10_record_30 : decode cX10_record 30 = .ok (.iaload, 1) := by decide +kernel
theorem dX10_record_31 : decode cX10_record 31 = .ok (.iastore, 1) := by decide +kernel
theorem dX10_record_32 : decode cX10_record 32 = .ok (.iinc 1 1, 3) := by decide +kernel
theorem dX10_record_35 : decode cX10_record 35 = .ok (.goto (-25), 3) := by decide +kernel
theorem dX10_record_38 : decode cX10_record 38 = .ok (.aload_n 0, 1) := by decide +kernel
theorem dX10_record_39 : decode cX10_record 39 = .ok (.dup, 1) := by decide +kernel
theorem dX10_record_40 : decode cX10_record 40 = .ok (.getfield 60, 3) := by decide +kernel
theorem dX10_record_43 : decode cX10_record 43 = .ok (.iconst 1, 1) := by decide +kernel
theorem dX10_record_44 : decode cX10_record 44 = .ok (.isub, 1) := by decide +kernel
theorem dX10_record_45 : decode cX10_record 45 = .ok (.putfield 60, 3) := by decide +kernel
theorem dX10_record_48 : decode cX10_record 48 = .ok (.aload_n 0, 1) := by decide +kernel
theorem dX10_record_49 : decode cX10_record 49 = .ok (.getfield 7, 3) := by decide +kernel
theorem dX10_record_52 : decode cX10_record 52 = .ok (.iconst 0, 1) := by decide +kernel
theorem dX10_record_53 : decode cX10_record 53 = .ok (.aload_n 0, 1) := by decide +kernel
theorem dX10_record_54 : decode cX10_record 54 = .ok (.getfield 13, 3) := by decide +kernel
theorem dX10_record_57 : decode cX10_record 57 = .ok (.bipush 103, 2) := by decide +kernel
theorem dX10_record_59 : decode cX10_record 59 = .ok (.aload_n 0, 1) := by decide +kernel
theorem dX10_record_60 : decode cX10_record 60 = .ok (.getfield 60, 3) := by decide +kernel
theorem dX10_record_63 : decode cX10_record 63 = .ok (.imul, 1) := by decide +kernel
theorem dX10_record_64 : decode cX10_record 64 = .ok (.invokestatic 63, 3) := by decide +kernel
theorem dX10_record_67 : decode cX10_record 67 = .ok (.aload_n 0, 1) := by decide +kernel
theorem dX10_record_68 : decode cX10_record 68 = .ok (.dup, 1) := by decide +kernel
theorem dX10_record_69 : decode cX10_record 69 = .ok (.getfield 60, 3) := by decide +kernel
theorem dX10_record_72 : decode cX10_record 72 = .ok (.iconst 1, 1) := by decide +kernel
theorem dX10_record_73 : decode cX10_record 73 = .ok (.iadd, 1) := by decide +kernel
theorem dX10_record_74 : decode cX10_record 74 = .ok (.putfield 60, 3) := by decide +kernel
theorem dX10_record_77 : decode cX10_record 77 = .ok (.return_, 1) := by decide +kernel
theorem dX10_undo_0 : decode cX10_undo 0 = .ok (.aload_n 0, 1) := by decide +kernel
theorem dX10_undo_1 : decode cX10_undo 1 = .ok (.getfield 60, 3) := by decide +kernel
theorem dX10_undo_4 : decode cX10_undo 4 = .ok (.ifCond .ne 6, 3) := by decide +kernel
theorem dX10_undo_7 : decode cX10_undo 7 = .ok (.bipush (-2), 2) := by decide +kernel
theorem dX10_undo_9 : decode cX10_undo 9 = .ok (.ireturn, 1) := by decide +kernel
theorem dX10_undo_10 : decode cX10_undo 10 = .ok (.aload_n 0, 1) := by decide +kernel
theorem dX10_undo_11 : decode cX10_undo 11 = .ok (.dup, 1) := by decide +kernel
theorem dX10_undo_12 : decode cX10_undo 12 = .ok (.getfield 60, 3) := by decide +kernel
theorem dX10_undo_15 : decode cX10_undo 15 = .ok (.iconst 1, 1) := by decide +kernel
theorem dX10_undo_16 : decode cX10_undo 16 = .ok (.isub, 1) := by decide +kernel
theorem dX10_undo_17 : decode cX10_undo 17 = .ok (.putfield 60, 3) := by decide +kernel
theorem dX10_undo_20 : decode cX10_undo 20 = .ok (.aload_n 0, 1) := by decide +kernel
theorem dX10_undo_21 : decode cX10_undo 21 = .ok (.getfield 13, 3) := by decide +kernel
theorem dX10_undo_24 : decode cX10_undo 24 = .ok (.bipush 103, 2) := by decide +kernel
theorem dX10_undo_26 : decode cX10_undo 26 = .ok (.aload_n 0, 1) := by decide +kernel
theorem dX10_undo_27 : decode cX10_undo 27 = .ok (.getfield 60, 3) := by decide +kernel
theorem dX10_undo_30 : decode cX10_undo 30 = .ok (.imul, 1) := by decide +kernel
theorem dX10_undo_31 : decode cX10_undo 31 = .ok (.aload_n 0, 1) := by decide +kernel
theorem dX10_undo_32 : decode cX10_undo 32 = .ok (.getfield 7, 3) := by decide +kernel
theorem dX10_undo_35 : decode cX10_undo 35 = .ok (.iconst 0, 1) := by decide +kernel
theorem dX10_undo_36 : decode cX10_undo 36 = .ok (.invokestatic 63, 3) := by decide +kernel
theorem dX10_undo_39 : decode cX10_undo 39 = .ok (.aload_n 0, 1) := by decide +kernel
theorem dX10_undo_40 : decode cX10_undo 40 = .ok (.getfield 60, 3) := by decide +kernel
theorem dX10_undo_43 : decode cX10_undo 43 = .ok (.ireturn, 1) := by decide +kernel
theorem dX10_living_0 : decode cX10_living 0 = .ok (.iconst 0, 1) := by decide +kernel
theorem dX10_living_1 : decode cX10_living 1 = .ok (.istore_n 1, 1) := by decide +kernel
theorem dX10_living_2 : decode cX10_living 2 = .ok (.iconst 0, 1) := by decide +kernel
theorem dX10_living_3 : decode cX10_living 3 = .ok (.istore_n 2, 1) := by decide +kernel
theorem dX10_living_4 : decode cX10_living 4 = .ok (.iload_n 2, 1) := by decide +kernel
theorem dX10_living_5 : decode cX10_living 5 = .ok (.aload_n 0, 1) := by decide +kernel
theorem dX10_living_6 : decode cX10_living 6 = .ok (.getfield 7, 3) := by decide +kernel
theorem dX10_living_9 : decode cX10_living 9 = .ok (.iconst 0, 1) := by decide +kernel
theorem dX10_living_10 : decode cX10_living 10 = .ok (.iaload, 1) := by decide +kernel
theorem dX10_living_11 : decode cX10_living 11 = .ok (.if_icmp .ge 18, 3) := by decide +kernel
theorem dX10_living_14 : decode cX10_living 14 = .ok (.iload_n 1, 1) := by decide +kernel
theorem dX10_living_15 : decode cX10_living 15 = .ok (.aload_n 0, 1) := by decide +kernel
theorem dX10_living_16 : decode cX10_living 16 = .ok (.iload_n 2, 1) := by decide +kernel
theorem dX10_living_17 : decode cX10_living 17 = .ok (.iconst 1, 1) := by decide +kernel
theorem dX10_living_18 : decode cX10_living 18 = .ok (.invokevirtual 45, 3) := by decide +kernel
theorem dX10_living_21 : decode cX10_living 21 = .ok (.iadd, 1) := by decide +kernel
theorem dX10_living_22 : decode cX10_living 22 = .ok (.istore_n 1, 1) := by decide +kernel
theorem dX10_living_23 : decode cX10_living 23 = .ok (.iinc 2 1, 3) := by decide +kernel
theorem dX10_living_26 : decode cX10_living 26 = .ok (.goto (-22), 3) := by decide +kernel
theorem dX10_living_29 : decode cX10_living 29 = .ok (.iload_n 1, 1) := by decide +kernel
theorem dX10_living_30 : decode cX10_living 30 = .ok (.ireturn, 1) := by decide +kernel
theorem dX10_save_0 : decode cX10_save 0 = .ok (.aload_n 0, 1) := by decide +kernel
theorem dX10_save_1 : decode cX10_save 1 = .ok (.getfield 7, 3) := by decide +kernel
theorem dX10_save_4 : decode cX10_save 4 = .ok (.iconst 0, 1) := by decide +kernel
theorem dX10_save_5 : decode cX10_save 5 = .ok (.aload_n 0, 1) := by decide +kernel
theorem dX10_save_6 : decode cX10_save 6 = .ok (.getfield 16, 3) := by decide +kernel
theorem dX10_save_9 : decode cX10_save 9 = .ok (.iconst 0, 1) := by decide +kernel
theorem dX10_save_10 : decode cX10_save 10 = .ok (.invokestatic 63, 3) := by decide +kernel
theorem dX10_save_13 : decode cX10_save 13 = .ok (.aload_n 0, 1) := by decide +kernel
theorem dX10_save_14 : decode cX10_save 14 = .ok (.iconst 1, 1) := by decide +kernel
theorem dX10_save_15 : decode cX10_save 15 = .ok (.putfield 67, 3) := by decide +kernel
theorem dX10_save_18 : decode cX10_save 18 = .ok (.aload_n 0, 1) := by decide +kernel
theorem dX10_save_19 : decode cX10_save 19 = .ok (.invokevirtual 71, 3) := by decide +kernel
theorem dX10_save_22 : decode cX10_save 22 = .ok (.ireturn, 1) := by decide +kernel
theorem dX10_restore_0 : decode cX10_restore 0 = .ok (.aload_n 0, 1) := by decide +kernel
theorem dX10_restore_1 : decode cX10_restore 1 = .ok (.getfield 67, 3) := by decide +kernel
theorem dX10_restore_4 : decode cX10_restore 4 = .ok (.ifCond .ne 6, 3) := by decide +kernel
theorem dX10_restore_7 : decode cX10_restore 7 = .ok (.bipush (-2), 2) := by decide +kernel
theorem dX10_restore_9 : decode cX10_restore 9 = .ok (.ireturn, 1) := by decide +kernel
theorem dX10_restore_10 : decode cX10_restore 10 = .ok (.aload_n 0, 1) := by decide +kernel
theorem dX10_restore_11 : decode cX10_restore 11 = .ok (.invokevirtual 75, 3) := by decide +kernel
theorem dX10_restore_14 : decode cX10_restore 14 = .ok (.aload_n 0, 1) := by decide +kernel
theorem dX10_restore_15 : decode cX10_restore 15 = .ok (.getfield 16, 3) := by decide +kernel
theorem dX10_restore_18 : decode cX10_restore 18 = .ok (.iconst 0, 1) := by decide +kernel
theorem dX10_restore_19 : decode cX10_restore 19 = .ok (.aload_n 0, 1) := by decide +kernel
theorem dX10_restore_20 : decode cX10_restore 20 = .ok (.getfield 7, 3) := by decide +kernel
theorem dX10_restore_23 : decode cX10_restore 23 = .ok (.iconst 0, 1) := by decide +kernel
theorem dX10_restore_24 : decode cX10_restore 24 = .ok (.invokestatic 63, 3) := by decide +kernel
theorem dX10_restore_27 : decode cX10_restore 27 = .ok (.aload_n 0, 1) := by decide +kernel
theorem dX10_restore_28 : decode cX10_restore 28 = .ok (.invokevirtual 71, 3) := by decide +kernel
theorem dX10_restore_31 : decode cX10_restore 31 = .ok (.ireturn, 1) := by decide +kernel
