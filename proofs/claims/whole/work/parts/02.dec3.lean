theorem dX10_areBrothers_0 : decode cX10_areBrothers 0 = .ok (.iload_n 1, 1) := by decide +kernel
theorem dX10_areBrothers_1 : decode cX10_areBrothers 1 = .ok (.iload_n 2, 1) := by decide +kernel
theorem dX10_areBrothers_2 : decode cX10_areBrothers 2 = .ok (.if_icmp .eq 33, 3) := by decide +kernel
theorem dX10_areBrothers_5 : decode cX10_areBrothers 5 = .ok (.aload_n 0, 1) := by decide +kernel
theorem dX10_areBrothers_6 : decode cX10_areBrothers 6 = .ok (.iload_n 1, 1) := by decide +kernel
theorem dX10_areBrothers_7 : decode cX10_areBrothers 7 = .ok (.iconst 2, 1) := by decide +kernel
theorem dX10_areBrothers_8 : decode cX10_areBrothers 8 = .ok (.invokevirtual 45, 3) := by decide +kernel
theorem dX10_areBrothers_11 : decode cX10_areBrothers 11 = .ok (.bipush (-4), 2) := by decide +kernel
theorem dX10_areBrothers_13 : decode cX10_areBrothers 13 = .ok (.if_icmp .eq 22, 3) := by decide +kernel
theorem dX10_areBrothers_16 : decode cX10_areBrothers 16 = .ok (.aload_n 0, 1) := by decide +kernel
theorem dX10_areBrothers_17 : decode cX10_areBrothers 17 = .ok (.iload_n 1, 1) := by decide +kernel
theorem dX10_areBrothers_18 : decode cX10_areBrothers 18 = .ok (.iconst 2, 1) := by decide +kernel
theorem dX10_areBrothers_19 : decode cX10_areBrothers 19 = .ok (.invokevirtual 45, 3) := by decide +kernel
theorem dX10_areBrothers_22 : decode cX10_areBrothers 22 = .ok (.aload_n 0, 1) := by decide +kernel
theorem dX10_areBrothers_23 : decode cX10_areBrothers 23 = .ok (.iload_n 2, 1) := by decide +kernel
theorem dX10_areBrothers_24 : decode cX10_areBrothers 24 = .ok (.iconst 2, 1) := by decide +kernel
theorem dX10_areBrothers_25 : decode cX10_areBrothers 25 = .ok (.invokevirtual 45, 3) := by decide +kernel
theorem dX10_areBrothers_28 : decode cX10_areBrothers 28 = .ok (.if_icmp .ne 7, 3) := by decide +kernel
theorem dX10_areBrothers_31 : decode cX10_areBrothers 31 = .ok (.iconst 1, 1) := by decide +kernel
theorem dX10_areBrothers_32 : decode cX10_areBrothers 32 = .ok (.goto 4, 3) := by decide +kernel
theorem dX10_areBrothers_35 : decode cX10_areBrothers 35 = .ok (.iconst 0, 1) := by decide +kernel
theorem dX10_areBrothers_36 : decode cX10_areBrothers 36 = .ok (.ireturn, 1) := by decide +kernel
theorem dX10_areCousins_0 : decode cX10_areCousins 0 = .ok (.aload_n 0, 1) := by decide +kernel
theorem dX10_areCousins_1 : decode cX10_areCousins 1 = .ok (.iload_n 1, 1) := by decide +kernel
theorem dX10_areCousins_2 : decode cX10_areCousins 2 = .ok (.iconst 2, 1) := by decide +kernel
theorem dX10_areCousins_3 : decode cX10_areCousins 3 = .ok (.invokevirtual 45, 3) := by decide +kernel
theorem dX10_areCousins_6 : decode cX10_areCousins 6 = .ok (.bipush (-4), 2) := by decide +kernel
theorem dX10_areCousins_8 : decode cX10_areCousins 8 = .ok (.if_icmp .eq 37, 3) := by decide +kernel
theorem dX10_areCousins_11 : decode cX10_areCousins 11 = .ok (.aload_n 0, 1) := by decide +kernel
theorem dX10_areCousins_12 : decode cX10_areCousins 12 = .ok (.iload_n 2, 1) := by decide +kernel
theorem dX10_areCousins_13 : decode cX10_areCousins 13 = .ok (.iconst 2, 1) := by decide +kernel
theorem dX10_areCousins_14 : decode cX10_areCousins 14 = .ok (.invokevirtual 45, 3) := by decide +kernel
theorem dX10_areCousins_17 : decode cX10_areCousins 17 = .ok (.bipush (-4), 2) := by decide +kernel
theorem dX10_areCousins_19 : decode cX10_areCousins 19 = .ok (.if_icmp .eq 26, 3) := by decide +kernel
theorem dX10_areCousins_22 : decode cX10_areCousins 22 = .ok (.aload_n 0, 1) := by decide +kernel
theorem dX10_areCousins_23 : decode cX10_areCousins 23 = .ok (.aload_n 0, 1) := by decide +kernel
theorem dX10_areCousins_24 : decode cX10_areCousins 24 = .ok (.iload_n 1, 1) := by decide +kernel
theorem dX10_areCousins_25 : decode cX10_areCousins 25 = .ok (.iconst 2, 1) := by decide +kernel
theorem dX10_areCousins_26 : decode cX10_areCousins 26 = .ok (.invokevirtual 45, 3) := by decide +kernel
theorem dX10_areCousins_29 : decode cX10_areCousins 29 = .ok (.aload_n 0, 1) := by decide +kernel
theorem dX10_areCousins_30 : decode cX10_areCousins 30 = .ok (.iload_n 2, 1) := by decide +kernel
theorem dX10_areCousins_31 : decode cX10_areCousins 31 = .ok (.iconst 2, 1) := by decide +kernel
theorem dX10_areCousins_32 : decode cX10_areCousins 32 = .ok (.invokevirtual 45, 3) := by decide +kernel
theorem dX10_areCousins_35 : decode cX10_areCousins 35 = .ok (.invokevirtual 78, 3) := by decide +kernel
theorem dX10_areCousins_38 : decode cX10_areCousins 38 = .ok (.ifCond .eq 7, 3) := by decide +kernel
theorem dX10_areCousins_41 : decode cX10_areCousins 41 = .ok (.iconst 1, 1) := by decide +kernel
theorem dX10_areCousins_42 : decode cX10_areCousins 42 = .ok (.goto 4, 3) := by decide +kernel
theorem dX10_areCousins_45 : decode cX10_areCousins 45 = .ok (.iconst 0, 1) := by decide +kernel
theorem dX10_areCousins_46 : decode cX10_areCousins 46 = .ok (.ireturn, 1) := by decide +kernel
theorem dX10_sonsOf_0 : decode cX10_sonsOf 0 = .ok (.iconst 0, 1) := by decide +kernel
theorem dX10_sonsOf_1 : decode cX10_sonsOf 1 = .ok (.istore_n 3, 1) := by decide +kernel
theorem dX10_sonsOf_2 : decode cX10_sonsOf 2 = .ok (.iconst 0, 1) := by decide +kernel
theorem dX10_sonsOf_3 : decode cX10_sonsOf 3 = .ok (.istore 4, 2) := by decide +kernel
theorem dX10_sonsOf_5 : decode cX10_sonsOf 5 = .ok (.iload 4, 2) := by decide +kernel
theorem dX10_sonsOf_7 : decode cX10_sonsOf 7 = .ok (.aload_n 0, 1) := by decide +kernel
theorem dX10_sonsOf_8 : decode cX10_sonsOf 8 = .ok (.getfield 7, 3) := by decide +kernel
theorem dX10_sonsOf_11 : decode cX10_sonsOf 11 = .ok (.iconst 0, 1) := by decide +kernel
theorem dX10_sonsOf_12 : decode cX10_sonsOf 12 = .ok (.iaload, 1) := by decide +kernel
theorem dX10_sonsOf_13 : decode cX10_sonsOf 13 = .ok (.if_icmp .ge 41, 3) := by decide +kernel
theorem dX10_sonsOf_16 : decode cX10_sonsOf 16 = .ok (.iload_n 3, 1) := by decide +kernel
theorem dX10_sonsOf_17 : decode cX10_sonsOf 17 = .ok (.aload_n 0, 1) := by decide +kernel
theorem dX10_sonsOf_18 : decode cX10_sonsOf 18 = .ok (.iload 4, 2) := by decide +kernel
theorem dX10_sonsOf_20 : decode cX10_sonsOf 20 = .ok (.iconst 2, 1) := by decide +kernel
theorem dX10_sonsOf_21 : decode cX10_sonsOf 21 = .ok (.invokevirtual 45, 3) := by decide +kernel
theorem dX10_sonsOf_24 : decode cX10_sonsOf 24 = .ok (.iload_n 1, 1) := by decide +kernel
theorem dX10_sonsOf_25 : decode cX10_sonsOf 25 = .ok (.if_icmp .ne 20, 3) := by decide +kernel
theorem dX10_sonsOf_28 : decode cX10_sonsOf 28 = .ok (.iload_n 2, 1) := by decide +kernel
theorem dX10_sonsOf_29 : decode cX10_sonsOf 29 = .ok (.ifCond .eq 12, 3) := by decide +kernel
theorem dX10_sonsOf_32 : decode cX10_sonsOf 32 = .ok (.aload_n 0, 1) := by decide +kernel
theorem dX10_sonsOf_33 : decode cX10_sonsOf 33 = .ok (.iload 4, 2) := by decide +kernel
theorem dX10_sonsOf_35 : decode cX10_sonsOf 35 = .ok (.invokevirtual 56, 3) := by decide +kernel
theorem dX10_sonsOf_38 : decode cX10_sonsOf 38 = .ok (.ifCond .eq 7, 3) := by decide +kernel
theorem dX10_sonsOf_41 : decode cX10_sonsOf 41 = .ok (.iconst 1, 1) := by decide +kernel
theorem dX10_sonsOf_42 : decode cX10_sonsOf 42 = .ok (.goto 4, 3) := by decide +kernel
theorem dX10_sonsOf_45 : decode cX10_sonsOf 45 = .ok (.iconst 0, 1) := by decide +kernel
theorem dX10_sonsOf_46 : decode cX10_sonsOf 46 = .ok (.iadd, 1) := by decide +kernel
theorem dX10_sonsOf_47 : decode cX10_sonsOf 47 = .ok (.istore_n 3, 1) := by decide +kernel
theorem dX10_sonsOf_48 : decode cX10_sonsOf 48 = .ok (.iinc 4 1, 3) := by decide +kernel
theorem dX10_sonsOf_51 : decode cX10_sonsOf 51 = .ok (.goto (-46), 3) := by decide +kernel
theorem dX10_sonsOf_54 : decode cX10_sonsOf 54 = .ok (.iload_n 3, 1) := by decide +kernel
theorem dX10_sonsOf_55 : decode cX10_sonsOf 55 = .ok (.ireturn, 1) := by decide +kernel
theorem dX10_depth_0 : decode cX10_depth 0 = .ok (.iconst 0, 1) := by decide +kernel
theorem dX10_depth_1 : decode cX10_depth 1 = .ok (.istore_n 2, 1) := by decide +kernel
theorem dX10_depth_2 : decode cX10_depth 2 = .ok (.iload_n 1, 1) := by decide +kernel
theorem dX10_depth_3 : decode cX10_depth 3 = .ok (.istore_n 3, 1) := by decide +kernel
theorem dX10_depth_4 : decode cX10_depth 4 = .ok (.aload_n 0, 1) := by decide +kernel
theorem dX10_depth_5 : decode cX10_depth 5 = .ok (.iload_n 3, 1) := by decide +kernel
theorem dX10_depth_6 : decode cX10_depth 6 = .ok (.iconst 2, 1) := by decide +kernel
theorem dX10_depth_7 : decode cX10_depth 7 = .ok (.invokevirtual 45, 3) := by decide +kernel
theorem dX10_depth_10 : decode cX10_depth 10 = .ok (.bipush (-4), 2) := by decide +kernel
theorem dX10_depth_12 : decode cX10_depth 12 = .ok (.if_icmp .eq 16, 3) := by decide +kernel
theorem dX10_depth_15 : decode cX10_depth 15 = .ok (.iinc 2 1, 3) := by decide +kernel
theorem dX10_depth_18 : decode cX10_depth 18 = .ok (.aload_n 0, 1) := by decide +kernel
theorem dX10_depth_19 : decode cX10_depth 19 = .ok (.iload_n 3, 1) := by decide +kernel
theorem dX10_depth_20 : decode cX10_depth 20 = .ok (.iconst 2, 1) := by decide +kernel
theorem dX10_depth_21 : decode cX10_depth 21 = .ok (.invokevirtual 45, 3) := by decide +kernel
theorem dX10_depth_24 : decode cX10_depth 24 = .ok (.istore_n 3, 1) := by decide +kernel
theorem dX10_depth_25 : decode cX10_depth 25 = .ok (.goto (-21), 3) := by decide +kernel
theorem dX10_depth_28 : decode cX10_depth 28 = .ok (.iload_n 2, 1) := by decide +kernel
theorem dX10_depth_29 : decode cX10_depth 29 = .ok (.ireturn, 1) := by decide +kernel
theorem dX10_eldest_0 : decode cX10_eldest 0 = .ok (.bipush (-4), 2) := by decide +kernel
theorem dX10_eldest_2 : decode cX10_eldest 2 = .ok (.istore_n 2, 1) := by decide +kernel
theorem dX10_eldest_3 : decode cX10_eldest 3 = .ok (.aload_n 0, 1) := by decide +kernel
theorem dX10_eldest_4 : decode cX10_eldest 4 = .ok (.getfield 7, 3) := by decide +kernel
theorem dX10_eldest_7 : decode cX10_eldest 7 = .ok (.iconst 0, 1) := by decide +kernel
theorem dX10_eldest_8 : decode cX10_eldest 8 = .ok (.iaload, 1) := by decide +kernel
theorem dX10_eldest_9 : decode cX10_eldest 9 = .ok (.iconst 1, 1) := by decide +kernel
theorem dX10_eldest_10 : decode cX10_eldest 10 = .ok (.isub, 1) := by decide +kernel
theorem dX10_eldest_11 : decode cX10_eldest 11 = .ok (.istore_n 3, 1) := by decide +kernel
theorem dX10_eldest_12 : decode cX10_eldest 12 = .ok (.iload_n 3, 1) := by decide +kernel
theorem dX10_eldest_13 : decode cX10_eldest 13 = .ok (.ifCond .lt 33, 3) := by decide +kernel
theorem dX10_eldest_16 : decode cX10_eldest 16 = .ok (.aload_n 0, 1) := by decide +kernel
theorem dX10_eldest_17 : decode cX10_eldest 17 = .ok (.iload_n 3, 1) := by decide +kernel
theorem dX10_eldest_18 : decode cX10_eldest 18 = .ok (.iconst 2, 1) := by decide +kernel
theorem dX10_eldest_19 : decode cX10_eldest 19 = .ok (.invokevirtual 45, 3) := by decide +kernel
theorem dX10_eldest_22 : decode cX10_eldest 22 = .ok (.iload_n 1, 1) := by decide +kernel
theorem dX10_eldest_23 : decode cX10_eldest 23 = .ok (.if_icmp .ne 15, 3) := by decide +kernel
theorem dX10_eldest_26 : decode cX10_eldest 26 = .ok (.aload_n 0, 1) := by decide +kernel
theorem dX10_eldest_27 : decode cX10_eldest 27 = .ok (.iload_n 3, 1) := by decide +kernel
theorem dX10_eldest_28 : decode cX10_eldest 28 = .ok (.invokevirtual 56, 3) := by decide +kernel
theorem dX10_eldest_31 : decode cX10_eldest 31 = .ok (.ifCond .eq 7, 3) := by decide +kernel
theorem dX10_eldest_34 : decode cX10_eldest 34 = .ok (.iload_n 3, 1) := by decide +kernel
theorem dX10_eldest_35 : decode cX10_eldest 35 = .ok (.goto 4, 3) := by decide +kernel
theorem dX10_eldest_38 : decode cX10_eldest 38 = .ok (.iload_n 2, 1) := by decide +kernel
theorem dX10_eldest_39 : decode cX10_eldest 39 = .ok (.istore_n 2, 1) := by decide +kernel
theorem dX10_eldest_40 : decode cX10_eldest 40 = .ok (.iinc 3 (-1), 3) := by decide +kernel
theorem dX10_eldest_43 : decode cX10_eldest 43 = .ok (.goto (-31), 3) := by decide +kernel
theorem dX10_eldest_46 : decode cX10_eldest 46 = .ok (.iload_n 2, 1) := by decide +kernel
theorem dX10_eldest_47 : decode cX10_eldest 47 = .ok (.ireturn, 1) := by decide +kernel
theorem dX10_refuse_0 : decode cX10_refuse 0 = .ok (.aload_n 0, 1) := by decide +kernel
theorem dX10_refuse_1 : decode cX10_refuse 1 = .ok (.getfield 7, 3) := by decide +kernel
theorem dX10_refuse_4 : decode cX10_refuse 4 = .ok (.iconst 1, 1) := by decide +kernel
theorem dX10_refuse_5 : decode cX10_refuse 5 = .ok (.dup2, 1) := by decide +kernel
theorem dX10_refuse_6 : decode cX10_refuse 6 = .ok (.iaload, 1) := by decide +kernel
theorem dX10_refuse_7 : decode cX10_refuse 7 = .ok (.iconst 1, 1) := by decide +kernel
theorem dX10_refuse_8 : decode cX10_refuse 8 = .ok (.iadd, 1) := by decide +kernel
theorem dX10_refuse_9 : decode cX10_refuse 9 = .ok (.iastore, 1) := by decide +kernel
theorem dX10_refuse_10 : decode cX10_refuse 10 = .ok (.iload_n 1, 1) := by decide +kernel
theorem dX10_refuse_11 : decode cX10_refuse 11 = .ok (.ireturn, 1) := by decide +kernel
theorem dX10_come_0 : decode cX10_come 0 = .ok (.aload_n 0, 1) := by decide +kernel
theorem dX10_come_1 : decode cX10_come 1 = .ok (.getfield 7, 3) := by decide +kernel
theorem dX10_come_4 : decode cX10_come 4 = .ok (.iconst 0, 1) := by decide +kernel
theorem dX10_come_5 : decode cX10_come 5 = .ok (.iaload, 1) := by decide +kernel
theorem dX10_come_6 : decode cX10_come 6 = .ok (.istore 5, 2) := by decide +kernel
theorem dX10_come_8 : decode cX10_come 8 = .ok (.aload_n 0, 1) := by decide +kernel
theorem dX10_come_9 : decode cX10_come 9 = .ok (.iload 5, 2) := by decide +kernel
theorem dX10_come_11 : decode cX10_come 11 = .ok (.iconst 0, 1) := by decide +kernel
theorem dX10_come_12 : decode cX10_come 12 = .ok (.iload_n 1, 1) := by decide +kernel
theorem dX10_come_13 : decode cX10_come 13 = .ok (.invokevirtual 82, 3) := by decide +kernel
theorem dX10_come_16 : decode cX10_come 16 = .ok (.aload_n 0, 1) := by decide +kernel
theorem dX10_come_17 : decode cX10_come 17 = .ok (.iload 5, 2) := by decide +kernel
theorem dX10_come_19 : decode cX10_come 19 = .ok (.iconst 1, 1) := by decide +kernel
theorem dX10_come_20 : decode cX10_come 20 = .ok (.iconst 1, 1) := by decide +kernel
theorem dX10_come_21 : decode cX10_come 21 = .ok (.invokevirtual 82, 3) := by decide +kernel
theorem dX10_come_24 : decode cX10_come 24 = .ok (.aload_n 0, 1) := by decide +kernel
theorem dX10_come_25 : decode cX10_come 25 = .ok (.iload 5, 2) := by decide +kernel
theorem dX10_come_27 : decode cX10_come 27 = .ok (.iconst 2, 1) := by decide +kernel
theorem dX10_come_28 : decode cX10_come 28 = .ok (.iload_n 2, 1) := by decide +kernel
theorem dX10_come_29 : decode cX10_come 29 = .ok (.invokevirtual 82, 3) := by decide +kernel
theorem dX10_come_32 : decode cX10_come 32 = .ok (.aload_n 0, 1) := by decide +kernel
theorem dX10_come_33 : decode cX10_come 33 = .ok (.iload 5, 2) := by decide +kernel
theorem dX10_come_35 : decode cX10_come 35 = .ok (.iconst 3, 1) := by decide +kernel
theorem dX10_come_36 : decode cX10_come 36 = .ok (.iload_n 3, 1) := by decide +kernel
theorem dX10_come_37 : decode cX10_come 37 = .ok (.invokevirtual 82, 3) := by decide +kernel
theorem dX10_come_40 : decode cX10_come 40 = .ok (.aload_n 0, 1) := by decide +kernel
theorem dX10_come_41 : decode cX10_come 41 = .ok (.iload 5, 2) := by decide +kernel
theorem dX10_come_43 : decode cX10_come 43 = .ok (.iconst 4, 1) := by decide +kernel
theorem dX10_come_44 : decode cX10_come 44 = .ok (.iload 4, 2) := by decide +kernel
theorem dX10_come_46 : decode cX10_come 46 = .ok (.invokevirtual 82, 3) := by decide +kernel
theorem dX10_come_49 : decode cX10_come 49 = .ok (.aload_n 0, 1) := by decide +kernel
theorem dX10_come_50 : decode cX10_come 50 = .ok (.getfield 7, 3) := by decide +kernel
theorem dX10_come_53 : decode cX10_come 53 = .ok (.iconst 0, 1) := by decide +kernel
theorem dX10_come_54 : decode cX10_come 54 = .ok (.dup2, 1) := by decide +kernel
theorem dX10_come_55 : decode cX10_come 55 = .ok (.iaload, 1) := by decide +kernel
theorem dX10_come_56 : decode cX10_come 56 = .ok (.iconst 1, 1) := by decide +kernel
theorem dX10_come_57 : decode cX10_come 57 = .ok (.iadd, 1) := by decide +kernel
theorem dX10_come_58 : decode cX10_come 58 = .ok (.iastore, 1) := by decide +kernel
theorem dX10_come_59 : decode cX10_come 59 = .ok (.bipush 10, 2) := by decide +kernel
theorem dX10_come_61 : decode cX10_come 61 = .ok (.iload 5, 2) := by decide +kernel
theorem dX10_come_63 : decode cX10_come 63 = .ok (.iadd, 1) := by decide +kernel
theorem dX10_come_64 : decode cX10_come 64 = .ok (.ireturn, 1) := by decide +kernel
theorem dX10_whyNotFound_0 : decode cX10_whyNotFound 0 = .ok (.iload_n 1, 1) := by decide +kernel
theorem dX10_whyNotFound_1 : decode cX10_whyNotFound 1 = .ok (.invokestatic 86, 3) := by decide +kernel
theorem dX10_whyNotFound_4 : decode cX10_whyNotFound 4 = .ok (.ifCond .ne 7, 3) := by decide +kernel
theorem dX10_whyNotFound_7 : decode cX10_whyNotFound 7 = .ok (.iconst (-1), 1) := by decide +kernel
theorem dX10_whyNotFound_8 : decode cX10_whyNotFound 8 = .ok (.goto 20, 3) := by decide +kernel
theorem dX10_whyNotFound_11 : decode cX10_whyNotFound 11 = .ok (.aload_n 0, 1) := by decide +kernel
theorem dX10_whyNotFound_12 : decode cX10_whyNotFound 12 = .ok (.getfield 7, 3) := by decide +kernel
theorem dX10_whyNotFound_15 : decode cX10_whyNotFound 15 = .ok (.iconst 0, 1) := by decide +kernel
theorem dX10_whyNotFound_16 : decode cX10_whyNotFound 16 = .ok (.iaload, 1) := by decide +kernel
theorem dX10_whyNotFound_17 : decode cX10_whyNotFound 17 = .ok (.bipush 20, 2) := by decide +kernel
theorem dX10_whyNotFound_19 : decode cX10_whyNotFound 19 = .ok (.if_icmp .ne 8, 3) := by decide +kernel
theorem dX10_whyNotFound_22 : decode cX10_whyNotFound 22 = .ok (.bipush (-3), 2) := by decide +kernel
theorem dX10_whyNotFound_24 : decode cX10_whyNotFound 24 = .ok (.goto 4, 3) := by decide +kernel
theorem dX10_whyNotFound_27 : decode cX10_whyNotFound 27 = .ok (.iconst 0, 1) := by decide +kernel
theorem dX10_whyNotFound_28 : decode cX10_whyNotFound 28 = .ok (.ireturn, 1) := by decide +kernel
theorem dX10_foundNow_0 : decode cX10_foundNow 0 = .ok (.aload_n 0, 1) := by decide +kernel
theorem dX10_foundNow_1 : decode cX10_foundNow 1 = .ok (.iload_n 1, 1) := by decide +kernel
theorem dX10_foundNow_2 : decode cX10_foundNow 2 = .ok (.invokevirtual 89, 3) := by decide +kernel
theorem dX10_foundNow_5 : decode cX10_foundNow 5 = .ok (.bipush (-4), 2) := by decide +kernel
theorem dX10_foundNow_7 : decode cX10_foundNow 7 = .ok (.if_icmp .eq 11, 3) := by decide +kernel
theorem dX10_foundNow_10 : decode cX10_foundNow 10 = .ok (.aload_n 0, 1) := by decide +kernel
theorem dX10_foundNow_11 : decode cX10_foundNow 11 = .ok (.iconst 3, 1) := by decide +kernel
theorem dX10_foundNow_12 : decode cX10_foundNow 12 = .ok (.invokevirtual 92, 3) := by decide +kernel
theorem dX10_foundNow_15 : decode cX10_foundNow 15 = .ok (.goto 14, 3) := by decide +kernel
theorem dX10_foundNow_18 : decode cX10_foundNow 18 = .ok (.aload_n 0, 1) := by decide +kernel
theorem dX10_foundNow_19 : decode cX10_foundNow 19 = .ok (.iload_n 1, 1) := by decide +kernel
theorem dX10_foundNow_20 : decode cX10_foundNow 20 = .ok (.bipush (-4), 2) := by decide +kernel
theorem dX10_foundNow_22 : decode cX10_foundNow 22 = .ok (.bipush (-4), 2) := by decide +kernel
theorem dX10_foundNow_24 : decode cX10_foundNow 24 = .ok (.bipush (-4), 2) := by decide +kernel
theorem dX10_foundNow_26 : decode cX10_foundNow 26 = .ok (.invokevirtual 95, 3) := by decide +kernel
theorem dX10_foundNow_29 : decode cX10_foundNow 29 = .ok (.ireturn, 1) := by decide +kernel
theorem dX10_found_0 : decode cX10_found 0 = .ok (.aload_n 0, 1) := by decide +kernel
theorem dX10_found_1 : decode cX10_found 1 = .ok (.iload_n 1, 1) := by decide +kernel
theorem dX10_found_2 : decode cX10_found 2 = .ok (.invokevirtual 99, 3) := by decide +kernel
theorem dX10_found_5 : decode cX10_found 5 = .ok (.istore_n 2, 1) := by decide +kernel
theorem dX10_found_6 : decode cX10_found 6 = .ok (.iload_n 2, 1) := by decide +kernel
theorem dX10_found_7 : decode cX10_found 7 = .ok (.ifCond .ge 5, 3) := by decide +kernel
theorem dX10_found_10 : decode cX10_found 10 = .ok (.iload_n 2, 1) := by decide +kernel
theorem dX10_found_11 : decode cX10_found 11 = .ok (.ireturn, 1) := by decide +kernel
theorem dX10_found_12 : decode cX10_found 12 = .ok (.aload_n 0, 1) := by decide +kernel
theorem dX10_found_13 : decode cX10_found 13 = .ok (.invokevirtual 75, 3) := by decide +kernel
theorem dX10_found_16 : decode cX10_found 16 = .ok (.aload_n 0, 1) := by decide +kernel
theorem dX10_found_17 : decode cX10_found 17 = .ok (.iload_n 1, 1) := by decide +kernel
theorem dX10_found_18 : decode cX10_found 18 = .ok (.invokevirtual 102, 3) := by decide +kernel
theorem dX10_found_21 : decode cX10_found 21 = .ok (.ireturn, 1) := by decide +kernel
theorem dX10_isChange_0 : decode cX10_isChange 0 = .ok (.iload_n 0, 1) := by decide +kernel
theorem dX10_isChange_1 : decode cX10_isChange 1 = .ok (.iconst 0, 1) := by decide +kernel
theorem dX10_isChange_2 : decode cX10_isChange 2 = .ok (.iconst 5, 1) := by decide +kernel
theorem dX10_isChange_3 : decode cX10_isChange 3 = .ok (.invokestatic 41, 3) := by decide +kernel
theorem dX10_isChange_6 : decode cX10_isChange 6 = .ok (.ifCond .eq 16, 3) := by decide +kernel
theorem dX10_isChange_9 : decode cX10_isChange 9 = .ok (.iload_n 1, 1) := by decide +kernel
theorem dX10_isChange_10 : decode cX10_isChange 10 = .ok (.iconst 0, 1) := by decide +kernel
theorem dX10_isChange_11 : decode cX10_isChange 11 = .ok (.iconst 4, 1) := by decide +kernel
theorem dX10_isChange_12 : decode cX10_isChange 12 = .ok (.invokestatic 41, 3) := by decide +kernel
theorem dX10_isChange_15 : decode cX10_isChange 15 = .ok (.ifCond .eq 7, 3) := by decide +kernel
theorem dX10_isChange_18 : decode cX10_isChange 18 = .ok (.iconst 1, 1) := by decide +kernel
theorem dX10_isChange_19 : decode cX10_isChange 19 = .ok (.goto 4, 3) := by decide +kernel
theorem dX10_isChange_22 : decode cX10_isChange 22 = .ok (.iconst 0, 1) := by decide +kernel
theorem dX10_isChange_23 : decode cX10_isChange 23 = .ok (.ireturn, 1) := by decide +kernel
theorem dX10_isCousins_0 : decode cX10_isCousins 0 = .ok (.iconst 0, 1) := by decide +kernel
theorem dX10_isCousins_1 : decode cX10_isCousins 1 = .ok (.istore_n 3, 1) := by decide +kernel
theorem dX10_isCousins_2 : decode cX10_isCousins 2 = .ok (.iconst 0, 1) := by decide +kernel
theorem dX10_isCousins_3 : decode cX10_isCousins 3 = .ok (.istore 4, 2) := by decide +kernel
theorem dX10_isCousins_5 : decode cX10_isCousins 5 = .ok (.iload 4, 2) := by decide +kernel
theorem dX10_isCousins_7 : decode cX10_isCousins 7 = .ok (.aload_n 0, 1) := by decide +kernel
theorem dX10_isCousins_8 : decode cX10_isCousins 8 = .ok (.getfield 7, 3) := by decide +kernel
theorem dX10_isCousins_11 : decode cX10_isCousins 11 = .ok (.iconst 0, 1) := by decide +kernel
theorem dX10_isCousins_12 : decode cX10_isCousins 12 = .ok (.iaload, 1) := by decide +kernel
theorem dX10_isCousins_13 : decode cX10_isCousins 13 = .ok (.if_icmp .ge 78, 3) := by decide +kernel
theorem dX10_isCousins_16 : decode cX10_isCousins 16 = .ok (.aload_n 0, 1) := by decide +kernel
theorem dX10_isCousins_17 : decode cX10_isCousins 17 = .ok (.iload 4, 2) := by decide +kernel
theorem dX10_isCousins_19 : decode cX10_isCousins 19 = .ok (.iconst 2, 1) := by decide +kernel
theorem dX10_isCousins_20 : decode cX10_isCousins 20 = .ok (.invokevirtual 45, 3) := by decide +kernel
theorem dX10_isCousins_23 : decode cX10_isCousins 23 = .ok (.bipush (-4), 2) := by decide +kernel
theorem dX10_isCousins_25 : decode cX10_isCousins 25 = .ok (.if_icmp .eq 22, 3) := by decide +kernel
theorem dX10_isCousins_28 : decode cX10_isCousins 28 = .ok (.aload_n 0, 1) := by decide +kernel
theorem dX10_isCousins_29 : decode cX10_isCousins 29 = .ok (.aload_n 0, 1) := by decide +kernel
theorem dX10_isCousins_30 : decode cX10_isCousins 30 = .ok (.iload 4, 2) := by decide +kernel
theorem dX10_isCousins_32 : decode cX10_isCousins 32 = .ok (.iconst 2, 1) := by decide +kernel
theorem dX10_isCousins_33 : decode cX10_isCousins 33 = .ok (.invokevirtual 45, 3) := by decide +kernel
theorem dX10_isCousins_36 : decode cX10_isCousins 36 = .ok (.iload_n 1, 1) := by decide +kernel
theorem dX10_isCousins_37 : decode cX10_isCousins 37 = .ok (.invokevirtual 78, 3) := by decide +kernel
theorem dX10_isCousins_40 : decode cX10_isCousins 40 = .ok (.ifCond .eq 7, 3) := by decide +kernel
theorem dX10_isCousins_43 : decode cX10_isCousins 43 = .ok (.iconst 1, 1) := by decide +kernel
theorem dX10_isCousins_44 : decode cX10_isCousins 44 = .ok (.goto 4, 3) := by decide +kernel
theorem dX10_isCousins_47 : decode cX10_isCousins 47 = .ok (.iconst 0, 1) := by decide +kernel
theorem dX10_isCousins_48 : decode cX10_isCousins 48 = .ok (.istore 5, 2) := by decide +kernel
theorem dX10_isCousins_50 : decode cX10_isCousins 50 = .ok (.iload_n 3, 1) := by decide +kernel
theorem dX10_isCousins_51 : decode cX10_isCousins 51 = .ok (.ifCond .ne 28, 3) := by decide +kernel
theorem dX10_isCousins_54 : decode cX10_isCousins 54 = .ok (.aload_n 0, 1) := by decide +kernel
theorem dX10_isCousins_55 : decode cX10_isCousins 55 = .ok (.iload 4, 2) := by decide +kernel
theorem dX10_isCousins_57 : decode cX10_isCousins 57 = .ok (.invokevirtual 56, 3) := by decide +kernel
theorem dX10_isCousins_60 : decode cX10_isCousins 60 = .ok (.ifCond .eq 23, 3) := by decide +kernel
theorem dX10_isCousins_63 : decode cX10_isCousins 63 = .ok (.iload 5, 2) := by decide +kernel
theorem dX10_isCousins_65 : decode cX10_isCousins 65 = .ok (.ifCond .eq 18, 3) := by decide +kernel
theorem dX10_isCousins_68 : decode cX10_isCousins 68 = .ok (.aload_n 0, 1) := by decide +kernel
theorem dX10_isCousins_69 : decode cX10_isCousins 69 = .ok (.iload 4, 2) := by decide +kernel
theorem dX10_isCousins_71 : decode cX10_isCousins 71 = .ok (.iconst 3, 1) := by decide +kernel
theorem dX10_isCousins_72 : decode cX10_isCousins 72 = .ok (.invokevirtual 45, 3) := by decide +kernel
theorem dX10_isCousins_75 : decode cX10_isCousins 75 = .ok (.iload_n 2, 1) := by decide +kernel
theorem dX10_isCousins_76 : decode cX10_isCousins 76 = .ok (.if_icmp .ne 7, 3) := by decide +kernel
theorem dX10_isCousins_79 : decode cX10_isCousins 79 = .ok (.iconst 1, 1) := by decide +kernel
theorem dX10_isCousins_80 : decode cX10_isCousins 80 = .ok (.goto 4, 3) := by decide +kernel
theorem dX10_isCousins_83 : decode cX10_isCousins 83 = .ok (.iconst 0, 1) := by decide +kernel
theorem dX10_isCousins_84 : decode cX10_isCousins 84 = .ok (.istore_n 3, 1) := by decide +kernel
theorem dX10_isCousins_85 : decode cX10_isCousins 85 = .ok (.iinc 4 1, 3) := by decide +kernel
theorem dX10_isCousins_88 : decode cX10_isCousins 88 = .ok (.goto (-83), 3) := by decide +kernel
theorem dX10_isCousins_91 : decode cX10_isCousins 91 = .ok (.iload_n 3, 1) := by decide +kernel
theorem dX10_isCousins_92 : decode cX10_isCousins 92 = .ok (.ireturn, 1) := by decide +kernel
theorem dX10_reason_0 : decode cX10_reason 0 = .ok (.aload_n 0, 1) := by decide +kernel
theorem dX10_reason_1 : decode cX10_reason 1 = .ok (.iload_n 1, 1) := by decide +kernel
theorem dX10_reason_2 : decode cX10_reason 2 = .ok (.iconst 0, 1) := by decide +kernel
theorem dX10_reason_3 : decode cX10_reason 3 = .ok (.invokevirtual 45, 3) := by decide +kernel
theorem dX10_reason_6 : decode cX10_reason 6 = .ok (.istore 4, 2) := by decide +kernel
theorem dX10_reason_8 : decode cX10_reason 8 = .ok (.aload_n 0, 1) := by decide +kernel
theorem dX10_reason_9 : decode cX10_reason 9 = .ok (.iload_n 1, 1) := by decide +kernel
theorem dX10_reason_10 : decode cX10_reason 10 = .ok (.invokevirtual 56, 3) := by decide +kernel
theorem dX10_reason_13 : decode cX10_reason 13 = .ok (.ifCond .ne 5, 3) := by decide +kernel
theorem dX10_reason_16 : decode cX10_reason 16 = .ok (.iconst 1, 1) := by decide +kernel
theorem dX10_reason_17 : decode cX10_reason 17 = .ok (.ireturn, 1) := by decide +kernel
theorem dX10_reason_18 : decode cX10_reason 18 = .ok (.iload 4, 2) := by decide +kernel
theorem dX10_reason_20 : decode cX10_reason 20 = .ok (.iload_n 2, 1) := by decide +kernel
theorem dX10_reason_21 : decode cX10_reason 21 = .ok (.invokestatic 53, 3) := by decide +kernel
theorem dX10_reason_24 : decode cX10_reason 24 = .ok (.iload_n 3, 1) := by decide +kernel
theorem dX10_reason_25 : decode cX10_reason 25 = .ok (.if_icmp .ne 5, 3) := by decide +kernel
theorem dX10_reason_28 : decode cX10_reason 28 = .ok (.iconst 2, 1) := by decide +kernel
theorem dX10_reason_29 : decode cX10_reason 29 = .ok (.ireturn, 1) := by decide +kernel
theorem dX10_reason_30 : decode cX10_reason 30 = .ok (.aload_n 0, 1) := by decide +kernel
theorem dX10_reason_31 : decode cX10_reason 31 = .ok (.iload 4, 2) := by decide +kernel
theorem dX10_reason_33 : decode cX10_reason 33 = .ok (.iload_n 2, 1) := by decide +kernel
theorem dX10_reason_34 : decode cX10_reason 34 = .ok (.iload_n 3, 1) := by decide +kernel
theorem dX10_reason_35 : decode cX10_reason 35 = .ok (.invokestatic 105, 3) := by decide +kernel
theorem dX10_reason_38 : decode cX10_reason 38 = .ok (.invokevirtual 89, 3) := by decide +kernel
theorem dX10_reason_41 : decode cX10_reason 41 = .ok (.bipush (-4), 2) := by decide +kernel
theorem dX10_reason_43 : decode cX10_reason 43 = .ok (.if_icmp .eq 5, 3) := by decide +kernel
theorem dX10_reason_46 : decode cX10_reason 46 = .ok (.iconst 3, 1) := by decide +kernel
theorem dX10_reason_47 : decode cX10_reason 47 = .ok (.ireturn, 1) := by decide +kernel
theorem dX10_reason_48 : decode cX10_reason 48 = .ok (.aload_n 0, 1) := by decide +kernel
theorem dX10_reason_49 : decode cX10_reason 49 = .ok (.iload_n 1, 1) := by decide +kernel
theorem dX10_reason_50 : decode cX10_reason 50 = .ok (.iload_n 2, 1) := by decide +kernel
theorem dX10_reason_51 : decode cX10_reason 51 = .ok (.invokevirtual 109, 3) := by decide +kernel
theorem dX10_reason_54 : decode cX10_reason 54 = .ok (.ifCond .eq 7, 3) := by decide +kernel
theorem dX10_reason_57 : decode cX10_reason 57 = .ok (.iconst 4, 1) := by decide +kernel
theorem dX10_reason_58 : decode cX10_reason 58 = .ok (.goto 18, 3) := by decide +kernel
theorem dX10_reason_61 : decode cX10_reason 61 = .ok (.aload_n 0, 1) := by decide +kernel
theorem dX10_reason_62 : decode cX10_reason 62 = .ok (.iload_n 1, 1) := by decide +kernel
theorem dX10_reason_63 : decode cX10_reason 63 = .ok (.iconst 0, 1) := by decide +kernel
theorem dX10_reason_64 : decode cX10_reason 64 = .ok (.invokevirtual 112, 3) := by decide +kernel
theorem dX10_reason_67 : decode cX10_reason 67 = .ok (.iconst 4, 1) := by decide +kernel
theorem dX10_reason_68 : decode cX10_reason 68 = .ok (.if_icmp .ne 7, 3) := by decide +kernel
theorem dX10_reason_71 : decode cX10_reason 71 = .ok (.iconst 5, 1) := by decide +kernel
theorem dX10_reason_72 : decode cX10_reason 72 = .ok (.goto 4, 3) := by decide +kernel
theorem dX10_reason_75 : decode cX10_reason 75 = .ok (.iconst 0, 1) := by decide +kernel
theorem dX10_reason_76 : decode cX10_reason 76 = .ok (.ireturn, 1) := by decide +kernel
theorem dX10_whyNotBear_0 : decode cX10_whyNotBear 0 = .ok (.aload_n 0, 1) := by decide +kernel
theorem dX10_whyNotBear_1 : decode cX10_whyNotBear 1 = .ok (.iload_n 1, 1) := by decide +kernel
theorem dX10_whyNotBear_2 : decode cX10_whyNotBear 2 = .ok (.invokevirtual 116, 3) := by decide +kernel
theorem dX10_whyNotBear_5 : decode cX10_whyNotBear 5 = .ok (.ifCond .eq 11, 3) := by decide +kernel
theorem dX10_whyNotBear_8 : decode cX10_whyNotBear 8 = .ok (.iload_n 2, 1) := by decide +kernel
theorem dX10_whyNotBear_9 : decode cX10_whyNotBear 9 = .ok (.iload_n 3, 1) := by decide +kernel
theorem dX10_whyNotBear_10 : decode cX10_whyNotBear 10 = .ok (.invokestatic 119, 3) := by decide +kernel
theorem dX10_whyNotBear_13 : decode cX10_whyNotBear 13 = .ok (.ifCond .ne 7, 3) := by decide +kernel
theorem dX10_whyNotBear_16 : decode cX10_whyNotBear 16 = .ok (.iconst (-1), 1) := by decide +kernel
theorem dX10_whyNotBear_17 : decode cX10_whyNotBear 17 = .ok (.goto 20, 3) := by decide +kernel
theorem dX10_whyNotBear_20 : decode cX10_whyNotBear 20 = .ok (.aload_n 0, 1) := by decide +kernel
theorem dX10_whyNotBear_21 : decode cX10_whyNotBear 21 = .ok (.getfield 7, 3) := by decide +kernel
theorem dX10_whyNotBear_24 : decode cX10_whyNotBear 24 = .ok (.iconst 0, 1) := by decide +kernel
theorem dX10_whyNotBear_25 : decode cX10_whyNotBear 25 = .ok (.iaload, 1) := by decide +kernel
theorem dX10_whyNotBear_26 : decode cX10_whyNotBear 26 = .ok (.bipush 20, 2) := by decide +kernel
theorem dX10_whyNotBear_28 : decode cX10_whyNotBear 28 = .ok (.if_icmp .ne 8, 3) := by decide +kernel
theorem dX10_whyNotBear_31 : decode cX10_whyNotBear 31 = .ok (.bipush (-3), 2) := by decide +kernel
theorem dX10_whyNotBear_33 : decode cX10_whyNotBear 33 = .ok (.goto 4, 3) := by decide +kernel
theorem dX10_whyNotBear_36 : decode cX10_whyNotBear 36 = .ok (.iconst 0, 1) := by decide +kernel
theorem dX10_whyNotBear_37 : decode cX10_whyNotBear 37 = .ok (.ireturn, 1) := by decide +kernel
theorem dX10_bearNow_0 : decode cX10_bearNow 0 = .ok (.aload_n 0, 1) := by decide +kernel
theorem dX10_bearNow_1 : decode cX10_bearNow 1 = .ok (.iload_n 1, 1) := by decide +kernel
theorem dX10_bearNow_2 : decode cX10_bearNow 2 = .ok (.iload_n 2, 1) := by decide +kernel
theorem dX10_bearNow_3 : decode cX10_bearNow 3 = .ok (.iload_n 3, 1) := by decide +kernel
theorem dX10_bearNow_4 : decode cX10_bearNow 4 = .ok (.invokevirtual 122, 3) := by decide +kernel
theorem dX10_bearNow_7 : decode cX10_bearNow 7 = .ok (.istore 4, 2) := by decide +kernel
theorem dX10_bearNow_9 : decode cX10_bearNow 9 = .ok (.iload 4, 2) := by decide +kernel
theorem dX10_bearNow_11 : decode cX10_bearNow 11 = .ok (.ifCond .le 12, 3) := by decide +kernel
theorem dX10_bearNow_14 : decode cX10_bearNow 14 = .ok (.aload_n 0, 1) := by decide +kernel
theorem dX10_bearNow_15 : decode cX10_bearNow 15 = .ok (.iload 4, 2) := by decide +kernel
theorem dX10_bearNow_17 : decode cX10_bearNow 17 = .ok (.invokevirtual 92, 3) := by decide +kernel
theorem dX10_bearNow_20 : decode cX10_bearNow 20 = .ok (.goto 21, 3) := by decide +kernel
theorem dX10_bearNow_23 : decode cX10_bearNow 23 = .ok (.aload_n 0, 1) := by decide +kernel
theorem dX10_bearNow_24 : decode cX10_bearNow 24 = .ok (.aload_n 0, 1) := by decide +kernel
theorem dX10_bearNow_25 : decode cX10_bearNow 25 = .ok (.iload_n 1, 1) := by decide +kernel
theorem dX10_bearNow_26 : decode cX10_bearNow 26 = .ok (.iconst 0, 1) := by decide +kernel
theorem dX10_bearNow_27 : decode cX10_bearNow 27 = .ok (.invokevirtual 45, 3) := by decide +kernel
theorem dX10_bearNow_30 : decode cX10_bearNow 30 = .ok (.iload_n 2, 1) := by decide +kernel
theorem dX10_bearNow_31 : decode cX10_bearNow 31 = .ok (.iload_n 3, 1) := by decide +kernel
theorem dX10_bearNow_32 : decode cX10_bearNow 32 = .ok (.invokestatic 105, 3) := by decide +kernel
theorem dX10_bearNow_35 : decode cX10_bearNow 35 = .ok (.iload_n 1, 1) := by decide +kernel
theorem dX10_bearNow_36 : decode cX10_bearNow 36 = .ok (.iload_n 2, 1) := by decide +kernel
theorem dX10_bearNow_37 : decode cX10_bearNow 37 = .ok (.iload_n 3, 1) := by decide +kernel
theorem dX10_bearNow_38 : decode cX10_bearNow 38 = .ok (.invokevirtual 95, 3) := by decide +kernel
theorem dX10_bearNow_41 : decode cX10_bearNow 41 = .ok (.ireturn, 1) := by decide +kernel
theorem dX10_bear_0 : decode cX10_bear 0 = .ok (.aload_n 0, 1) := by decide +kernel
theorem dX10_bear_1 : decode cX10_bear 1 = .ok (.iload_n 1, 1) := by decide +kernel
theorem dX10_bear_2 : decode cX10_bear 2 = .ok (.iload_n 2, 1) := by decide +kernel
theorem dX10_bear_3 : decode cX10_bear 3 = .ok (.iload_n 3, 1) := by decide +kernel
theorem dX10_bear_4 : decode cX10_bear 4 = .ok (.invokevirtual 125, 3) := by decide +kernel
theorem dX10_bear_7 : decode cX10_bear 7 = .ok (.istore 4, 2) := by decide +kernel
theorem dX10_bear_9 : decode cX10_bear 9 = .ok (.iload 4, 2) := by decide +kernel
theorem dX10_bear_11 : decode cX10_bear 11 = .ok (.ifCond .ge 6, 3) := by decide +kernel
theorem dX10_bear_14 : decode cX10_bear 14 = .ok (.iload 4, 2) := by decide +kernel
theorem dX10_bear_16 : decode cX10_bear 16 = .ok (.ireturn, 1) := by decide +kernel
theorem dX10_bear_17 : decode cX10_bear 17 = .ok (.aload_n 0, 1) := by decide +kernel
theorem dX10_bear_18 : decode cX10_bear 18 = .ok (.invokevirtual 75, 3) := by decide +kernel
theorem dX10_bear_21 : decode cX10_bear 21 = .ok (.aload_n 0, 1) := by decide +kernel
theorem dX10_bear_22 : decode cX10_bear 22 = .ok (.iload_n 1, 1) := by decide +kernel
theorem dX10_bear_23 : decode cX10_bear 23 = .ok (.iload_n 2, 1) := by decide +kernel
theorem dX10_bear_24 : decode cX10_bear 24 = .ok (.iload_n 3, 1) := by decide +kernel
theorem dX10_bear_25 : decode cX10_bear 25 = .ok (.invokevirtual 128, 3) := by decide +kernel
theorem dX10_bear_28 : decode cX10_bear 28 = .ok (.ireturn, 1) := by decide +kernel
theorem dX10_dieNow_0 : decode cX10_dieNow 0 = .ok (.aload_n 0, 1) := by decide +kernel
theorem dX10_dieNow_1 : decode cX10_dieNow 1 = .ok (.iload_n 1, 1) := by decide +kernel
theorem dX10_dieNow_2 : decode cX10_dieNow 2 = .ok (.invokevirtual 56, 3) := by decide +kernel
theorem dX10_dieNow_5 : decode cX10_dieNow 5 = .ok (.ifCond .ne 10, 3) := by decide +kernel
theorem dX10_dieNow_8 : decode cX10_dieNow 8 = .ok (.aload_n 0, 1) := by decide +kernel
theorem dX10_dieNow_9 : decode cX10_dieNow 9 = .ok (.bipush 6, 2) := by decide +kernel
theorem dX10_dieNow_11 : decode cX10_dieNow 11 = .ok (.invokevirtual 92, 3) := by decide +kernel
theorem dX10_dieNow_14 : decode cX10_dieNow 14 = .ok (.ireturn, 1) := by decide +kernel
theorem dX10_dieNow_15 : decode cX10_dieNow 15 = .ok (.aload_n 0, 1) := by decide +kernel
theorem dX10_dieNow_16 : decode cX10_dieNow 16 = .ok (.iload_n 1, 1) := by decide +kernel
theorem dX10_dieNow_17 : decode cX10_dieNow 17 = .ok (.iconst 1, 1) := by decide +kernel
theorem dX10_dieNow_18 : decode cX10_dieNow 18 = .ok (.iconst 0, 1) := by decide +kernel
theorem dX10_dieNow_19 : decode cX10_dieNow 19 = .ok (.invokevirtual 82, 3) := by decide +kernel
theorem dX10_dieNow_22 : decode cX10_dieNow 22 = .ok (.bipush 10, 2) := by decide +kernel
theorem dX10_dieNow_24 : decode cX10_dieNow 24 = .ok (.aload_n 0, 1) := by decide +kernel
theorem dX10_dieNow_25 : decode cX10_dieNow 25 = .ok (.invokevirtual 71, 3) := by decide +kernel
theorem dX10_dieNow_28 : decode cX10_dieNow 28 = .ok (.iadd, 1) := by decide +kernel
theorem dX10_dieNow_29 : decode cX10_dieNow 29 = .ok (.ireturn, 1) := by decide +kernel
theorem dX10_die_0 : decode cX10_die 0 = .ok (.aload_n 0, 1) := by decide +kernel
theorem dX10_die_1 : decode cX10_die 1 = .ok (.iload_n 1, 1) := by decide +kernel
theorem dX10_die_2 : decode cX10_die 2 = .ok (.invokevirtual 116, 3) := by decide +kernel
theorem dX10_die_5 : decode cX10_die 5 = .ok (.ifCond .ne 5, 3) := by decide +kernel
theorem dX10_die_8 : decode cX10_die 8 = .ok (.iconst (-1), 1) := by decide +kernel
theorem dX10_die_9 : decode cX10_die 9 = .ok (.ireturn, 1) := by decide +kernel
theorem dX10_die_10 : decode cX10_die 10 = .ok (.aload_n 0, 1) := by decide +kernel
theorem dX10_die_11 : decode cX10_die 11 = .ok (.invokevirtual 75, 3) := by decide +kernel
theorem dX10_die_14 : decode cX10_die 14 = .ok (.aload_n 0, 1) := by decide +kernel
theorem dX10_die_15 : decode cX10_die 15 = .ok (.iload_n 1, 1) := by decide +kernel
theorem dX10_die_16 : decode cX10_die 16 = .ok (.invokevirtual 131, 3) := by decide +kernel
theorem dX10_die_19 : decode cX10_die 19 = .ok (.ireturn, 1) := by decide +kernel
theorem dX10_whyNotInherit_0 : decode cX10_whyNotInherit 0 = .ok (.aload_n 0, 1) := by decide +kernel
theorem dX10_whyNotInherit_1 : decode cX10_whyNotInherit 1 = .ok (.iload_n 1, 1) := by decide +kernel
theorem dX10_whyNotInherit_2 : decode cX10_whyNotInherit 2 = .ok (.invokevirtual 116, 3) := by decide +kernel
theorem dX10_whyNotInherit_5 : decode cX10_whyNotInherit 5 = .ok (.ifCond .ne 7, 3) := by decide +kernel
theorem dX10_whyNotInherit_8 : decode cX10_whyNotInherit 8 = .ok (.iconst (-1), 1) := by decide +kernel
theorem dX10_whyNotInherit_9 : decode cX10_whyNotInherit 9 = .ok (.goto 17, 3) := by decide +kernel
theorem dX10_whyNotInherit_12 : decode cX10_whyNotInherit 12 = .ok (.aload_n 0, 1) := by decide +kernel
theorem dX10_whyNotInherit_13 : decode cX10_whyNotInherit 13 = .ok (.iload_n 1, 1) := by decide +kernel
theorem dX10_whyNotInherit_14 : decode cX10_whyNotInherit 14 = .ok (.invokevirtual 56, 3) := by decide +kernel
theorem dX10_whyNotInherit_17 : decode cX10_whyNotInherit 17 = .ok (.ifCond .eq 7, 3) := by decide +kernel
theorem dX10_whyNotInherit_20 : decode cX10_whyNotInherit 20 = .ok (.iconst 0, 1) := by decide +kernel
theorem dX10_whyNotInherit_21 : decode cX10_whyNotInherit 21 = .ok (.goto 5, 3) := by decide +kernel
theorem dX10_whyNotInherit_24 : decode cX10_whyNotInherit 24 = .ok (.bipush (-2), 2) := by decide +kernel
theorem dX10_whyNotInherit_26 : decode cX10_whyNotInherit 26 = .ok (.ireturn, 1) := by decide +kernel
theorem dX10_inheritNow_0 : decode cX10_inheritNow 0 = .ok (.aload_n 0, 1) := by decide +kernel
theorem dX10_inheritNow_1 : decode cX10_inheritNow 1 = .ok (.iload_n 1, 1) := by decide +kernel
theorem dX10_inheritNow_2 : decode cX10_inheritNow 2 = .ok (.iconst 2, 1) := by decide +kernel
theorem dX10_inheritNow_3 : decode cX10_inheritNow 3 = .ok (.invokevirtual 45, 3) := by decide +kernel
theorem dX10_inheritNow_6 : decode cX10_inheritNow 6 = .ok (.istore_n 2, 1) := by decide +kernel
theorem dX10_inheritNow_7 : decode cX10_inheritNow 7 = .ok (.iload_n 2, 1) := by decide +kernel
theorem dX10_inheritNow_8 : decode cX10_inheritNow 8 = .ok (.bipush (-4), 2) := by decide +kernel
theorem dX10_inheritNow_10 : decode cX10_inheritNow 10 = .ok (.if_icmp .eq 11, 3) := by decide +kernel
theorem dX10_inheritNow_13 : decode cX10_inheritNow 13 = .ok (.aload_n 0, 1) := by decide +kernel
theorem dX10_inheritNow_14 : decode cX10_inheritNow 14 = .ok (.iload_n 2, 1) := by decide +kernel
theorem dX10_inheritNow_15 : decode cX10_inheritNow 15 = .ok (.invokevirtual 56, 3) := by decide +kernel
theorem dX10_inheritNow_18 : decode cX10_inheritNow 18 = .ok (.ifCond .eq 10, 3) := by decide +kernel
theorem dX10_inheritNow_21 : decode cX10_inheritNow 21 = .ok (.aload_n 0, 1) := by decide +kernel
theorem dX10_inheritNow_22 : decode cX10_inheritNow 22 = .ok (.bipush 7, 2) := by decide +kernel
theorem dX10_inheritNow_24 : decode cX10_inheritNow 24 = .ok (.invokevirtual 92, 3) := by decide +kernel
theorem dX10_inheritNow_27 : decode cX10_inheritNow 27 = .ok (.ireturn, 1) := by decide +kernel
theorem dX10_inheritNow_28 : decode cX10_inheritNow 28 = .ok (.aload_n 0, 1) := by decide +kernel
theorem dX10_inheritNow_29 : decode cX10_inheritNow 29 = .ok (.iload_n 2, 1) := by decide +kernel
theorem dX10_inheritNow_30 : decode cX10_inheritNow 30 = .ok (.invokevirtual 134, 3) := by decide +kernel
theorem dX10_inheritNow_33 : decode cX10_inheritNow 33 = .ok (.iload_n 1, 1) := by decide +kernel
theorem dX10_inheritNow_34 : decode cX10_inheritNow 34 = .ok (.if_icmp .eq 10, 3) := by decide +kernel
theorem dX10_inheritNow_37 : decode cX10_inheritNow 37 = .ok (.aload_n 0, 1) := by decide +kernel
theorem dX10_inheritNow_38 : decode cX10_inheritNow 38 = .ok (.bipush 8, 2) := by decide +kernel
theorem dX10_inheritNow_40 : decode cX10_inheritNow 40 = .ok (.invokevirtual 92, 3) := by decide +kernel
theorem dX10_inheritNow_43 : decode cX10_inheritNow 43 = .ok (.ireturn, 1) := by decide +kernel
theorem dX10_inheritNow_44 : decode cX10_inheritNow 44 = .ok (.aload_n 0, 1) := by decide +kernel
theorem dX10_inheritNow_45 : decode cX10_inheritNow 45 = .ok (.iload_n 2, 1) := by decide +kernel
theorem dX10_inheritNow_46 : decode cX10_inheritNow 46 = .ok (.iconst 0, 1) := by decide +kernel
theorem dX10_inheritNow_47 : decode cX10_inheritNow 47 = .ok (.invokevirtual 45, 3) := by decide +kernel
theorem dX10_inheritNow_50 : decode cX10_inheritNow 50 = .ok (.istore_n 3, 1) := by decide +kernel
theorem dX10_inheritNow_51 : decode cX10_inheritNow 51 = .ok (.aload_n 0, 1) := by decide +kernel
theorem dX10_inheritNow_52 : decode cX10_inheritNow 52 = .ok (.iload_n 3, 1) := by decide +kernel
theorem dX10_inheritNow_53 : decode cX10_inheritNow 53 = .ok (.invokevirtual 89, 3) := by decide +kernel
theorem dX10_inheritNow_56 : decode cX10_inheritNow 56 = .ok (.bipush (-4), 2) := by decide +kernel
theorem dX10_inheritNow_58 : decode cX10_inheritNow 58 = .ok (.if_icmp .eq 9, 3) := by decide +kernel
theorem dX10_inheritNow_61 : decode cX10_inheritNow 61 = .ok (.aload_n 0, 1) := by decide +kernel
theorem dX10_inheritNow_62 : decode cX10_inheritNow 62 = .ok (.iconst 3, 1) := by decide +kernel
theorem dX10_inheritNow_63 : decode cX10_inheritNow 63 = .ok (.invokevirtual 92, 3) := by decide +kernel
theorem dX10_inheritNow_66 : decode cX10_inheritNow 66 = .ok (.ireturn, 1) := by decide +kernel
theorem dX10_inheritNow_67 : decode cX10_inheritNow 67 = .ok (.aload_n 0, 1) := by decide +kernel
theorem dX10_inheritNow_68 : decode cX10_inheritNow 68 = .ok (.iload_n 1, 1) := by decide +kernel
theorem dX10_inheritNow_69 : decode cX10_inheritNow 69 = .ok (.iconst 0, 1) := by decide +kernel
theorem dX10_inheritNow_70 : decode cX10_inheritNow 70 = .ok (.invokevirtual 45, 3) := by decide +kernel
theorem dX10_inheritNow_73 : decode cX10_inheritNow 73 = .ok (.iload_n 3, 1) := by decide +kernel
theorem dX10_inheritNow_74 : decode cX10_inheritNow 74 = .ok (.invokestatic 137, 3) := by decide +kernel
theorem dX10_inheritNow_77 : decode cX10_inheritNow 77 = .ok (.istore 4, 2) := by decide +kernel
theorem dX10_inheritNow_79 : decode cX10_inheritNow 79 = .ok (.aload_n 0, 1) := by decide +kernel
theorem dX10_inheritNow_80 : decode cX10_inheritNow 80 = .ok (.iload_n 1, 1) := by decide +kernel
theorem dX10_inheritNow_81 : decode cX10_inheritNow 81 = .ok (.iconst 0, 1) := by decide +kernel
theorem dX10_inheritNow_82 : decode cX10_inheritNow 82 = .ok (.iload_n 3, 1) := by decide +kernel
theorem dX10_inheritNow_83 : decode cX10_inheritNow 83 = .ok (.invokevirtual 82, 3) := by decide +kernel
theorem dX10_inheritNow_86 : decode cX10_inheritNow 86 = .ok (.aload_n 0, 1) := by decide +kernel
theorem dX10_inheritNow_87 : decode cX10_inheritNow 87 = .ok (.getfield 7, 3) := by decide +kernel
theorem dX10_inheritNow_90 : decode cX10_inheritNow 90 = .ok (.iconst 2, 1) := by decide +kernel
theorem dX10_inheritNow_91 : decode cX10_inheritNow 91 = .ok (.dup2, 1) := by decide +kernel
theorem dX10_inheritNow_92 : decode cX10_inheritNow 92 = .ok (.iaload, 1) := by decide +kernel
theorem dX10_inheritNow_93 : decode cX10_inheritNow 93 = .ok (.iconst 1, 1) := by decide +kernel
theorem dX10_inheritNow_94 : decode cX10_inheritNow 94 = .ok (.iadd, 1) := by decide +kernel
theorem dX10_inheritNow_95 : decode cX10_inheritNow 95 = .ok (.iastore, 1) := by decide +kernel
theorem dX10_inheritNow_96 : decode cX10_inheritNow 96 = .ok (.bipush 10, 2) := by decide +kernel
theorem dX10_inheritNow_98 : decode cX10_inheritNow 98 = .ok (.iload 4, 2) := by decide +kernel
theorem dX10_inheritNow_100 : decode cX10_inheritNow 100 = .ok (.iadd, 1) := by decide +kernel
theorem dX10_inheritNow_101 : decode cX10_inheritNow 101 = .ok (.ireturn, 1) := by decide +kernel
theorem dX10_inherit_0 : decode cX10_inherit 0 = .ok (.aload_n 0, 1) := by decide +kernel
theorem dX10_inherit_1 : decode cX10_inherit 1 = .ok (.iload_n 1, 1) := by decide +kernel
theorem dX10_inherit_2 : decode cX10_inherit 2 = .ok (.invokevirtual 140, 3) := by decide +kernel
theorem dX10_inherit_5 : decode cX10_inherit 5 = .ok (.istore_n 2, 1) := by decide +kernel
theorem dX10_inherit_6 : decode cX10_inherit 6 = .ok (.iload_n 2, 1) := by decide +kernel
theorem dX10_inherit_7 : decode cX10_inherit 7 = .ok (.ifCond .ge 5, 3) := by decide +kernel
theorem dX10_inherit_10 : decode cX10_inherit 10 = .ok (.iload_n 2, 1) := by decide +kernel
theorem dX10_inherit_11 : decode cX10_inherit 11 = .ok (.ireturn, 1) := by decide +kernel
theorem dX10_inherit_12 : decode cX10_inherit 12 = .ok (.aload_n 0, 1) := by decide +kernel
theorem dX10_inherit_13 : decode cX10_inherit 13 = .ok (.invokevirtual 75, 3) := by decide +kernel
theorem dX10_inherit_16 : decode cX10_inherit 16 = .ok (.aload_n 0, 1) := by decide +kernel
theorem dX10_inherit_17 : decode cX10_inherit 17 = .ok (.iload_n 1, 1) := by decide +kernel
theorem dX10_inherit_18 : decode cX10_inherit 18 = .ok (.invokevirtual 143, 3) := by decide +kernel
theorem dX10_inherit_21 : decode cX10_inherit 21 = .ok (.ireturn, 1) := by decide +kernel
theorem dX10_append_0 : decode cX10_append 0 = .ok (.iload_n 1, 1) := by decide +kernel
theorem dX10_append_1 : decode cX10_append 1 = .ok (.bipush 33, 2) := by decide +kernel
theorem dX10_append_3 : decode cX10_append 3 = .ok (.bipush 126, 2) := by decide +kernel
theorem dX10_append_5 : decode cX10_append 5 = .ok (.invokestatic 41, 3) := by decide +kernel
theorem dX10_append_8 : decode cX10_append 8 = .ok (.ifCond .ne 5, 3) := by decide +kernel
theorem dX10_append_11 : decode cX10_append 11 = .ok (.iconst (-1), 1) := by decide +kernel
theorem dX10_append_12 : decode cX10_append 12 = .ok (.ireturn, 1) := by decide +kernel
theorem dX10_append_13 : decode cX10_append 13 = .ok (.aload_n 0, 1) := by decide +kernel
theorem dX10_append_14 : decode cX10_append 14 = .ok (.getfield 146, 3) := by decide +kernel
theorem dX10_append_17 : decode cX10_append 17 = .ok (.bipush 60, 2) := by decide +kernel
theorem dX10_append_19 : decode cX10_append 19 = .ok (.if_icmp .ne 6, 3) := by decide +kernel
theorem dX10_append_22 : decode cX10_append 22 = .ok (.bipush (-3), 2) := by decide +kernel
theorem dX10_append_24 : decode cX10_append 24 = .ok (.ireturn, 1) := by decide +kernel
theorem dX10_append_25 : decode cX10_append 25 = .ok (.aload_n 0, 1) := by decide +kernel
theorem dX10_append_26 : decode cX10_append 26 = .ok (.getfield 19, 3) := by decide +kernel
theorem dX10_append_29 : decode cX10_append 29 = .ok (.aload_n 0, 1) := by decide +kernel
theorem dX10_append_30 : decode cX10_append 30 = .ok (.getfield 146, 3) := by decide +kernel
theorem dX10_append_33 : decode cX10_append 33 = .ok (.iload_n 1, 1) := by decide +kernel
theorem dX10_append_34 : decode cX10_append 34 = .ok (.iastore, 1) := by decide +kernel
theorem dX10_append_35 : decode cX10_append 35 = .ok (.aload_n 0, 1) := by decide +kernel
theorem dX10_append_36 : decode cX10_append 36 = .ok (.dup, 1) := by decide +kernel
theorem dX10_append_37 : decode cX10_append 37 = .ok (.getfield 146, 3) := by decide +kernel
theorem dX10_append_40 : decode cX10_append 40 = .ok (.iconst 1, 1) := by decide +kernel
theorem dX10_append_41 : decode cX10_append 41 = .ok (.iadd, 1) := by decide +kernel
theorem dX10_append_42 : decode cX10_append 42 = .ok (.putfield 146, 3) := by decide +kernel
theorem dX10_append_45 : decode cX10_append 45 = .ok (.aload_n 0, 1) := by decide +kernel
theorem dX10_append_46 : decode cX10_append 46 = .ok (.getfield 146, 3) := by decide +kernel
theorem dX10_append_49 : decode cX10_append 49 = .ok (.ireturn, 1) := by decide +kernel
theorem dX10_clear_0 : decode cX10_clear 0 = .ok (.aload_n 0, 1) := by decide +kernel
theorem dX10_clear_1 : decode cX10_clear 1 = .ok (.getfield 146, 3) := by decide +kernel
theorem dX10_clear_4 : decode cX10_clear 4 = .ok (.istore_n 1, 1) := by decide +kernel
theorem dX10_clear_5 : decode cX10_clear 5 = .ok (.aload_n 0, 1) := by decide +kernel
theorem dX10_clear_6 : decode cX10_clear 6 = .ok (.iconst 0, 1) := by decide +kernel
theorem dX10_clear_7 : decode cX10_clear 7 = .ok (.putfield 146, 3) := by decide +kernel
theorem dX10_clear_10 : decode cX10_clear 10 = .ok (.iload_n 1, 1) := by decide +kernel
theorem dX10_clear_11 : decode cX10_clear 11 = .ok (.ireturn, 1) := by decide +kernel
theorem dX10_sees_0 : decode cX10_sees 0 = .ok (.aload_n 0, 1) := by decide +kernel
theorem dX10_sees_1 : decode cX10_sees 1 = .ok (.getfield 149, 3) := by decide +kernel
theorem dX10_sees_4 : decode cX10_sees 4 = .ok (.aload_n 0, 1) := by decide +kernel
theorem dX10_sees_5 : decode cX10_sees 5 = .ok (.getfield 146, 3) := by decide +kernel
theorem dX10_sees_8 : decode cX10_sees 8 = .ok (.if_icmp .ge 24, 3) := by decide +kernel
theorem dX10_sees_11 : decode cX10_sees 11 = .ok (.aload_n 0, 1) := by decide +kernel
theorem dX10_sees_12 : decode cX10_sees 12 = .ok (.getfield 19, 3) := by decide +kernel
theorem dX10_sees_15 : decode cX10_sees 15 = .ok (.aload_n 0, 1) := by decide +kernel
theorem dX10_sees_16 : decode cX10_sees 16 = .ok (.getfield 149, 3) := by decide +kernel
theorem dX10_sees_19 : decode cX10_sees 19 = .ok (.iaload, 1) := by decide +kernel
theorem dX10_sees_20 : decode cX10_sees 20 = .ok (.iload_n 1, 1) := by decide +kernel
theorem dX10_sees_21 : decode cX10_sees 21 = .ok (.iload_n 2, 1) := by decide +kernel
theorem dX10_sees_22 : decode cX10_sees 22 = .ok (.invokestatic 41, 3) := by decide +kernel
theorem dX10_sees_25 : decode cX10_sees 25 = .ok (.ifCond .eq 7, 3) := by decide +kernel
theorem dX10_sees_28 : decode cX10_sees 28 = .ok (.iconst 1, 1) := by decide +kernel
theorem dX10_sees_29 : decode cX10_sees 29 = .ok (.goto 4, 3) := by decide +kernel
theorem dX10_sees_32 : decode cX10_sees 32 = .ok (.iconst 0, 1) := by decide +kernel
theorem dX10_sees_33 : decode cX10_sees 33 = .ok (.ireturn, 1) := by decide +kernel
theorem dX10_takes_0 : decode cX10_takes 0 = .ok (.aload_n 0, 1) := by decide +kernel
theorem dX10_takes_1 : decode cX10_takes 1 = .ok (.iload_n 1, 1) := by decide +kernel
theorem dX10_takes_2 : decode cX10_takes 2 = .ok (.iload_n 1, 1) := by decide +kernel
theorem dX10_takes_3 : decode cX10_takes 3 = .ok (.invokevirtual 152, 3) := by decide +kernel
theorem dX10_takes_6 : decode cX10_takes 6 = .ok (.istore_n 2, 1) := by decide +kernel
theorem dX10_takes_7 : decode cX10_takes 7 = .ok (.aload_n 0, 1) := by decide +kernel
theorem dX10_takes_8 : decode cX10_takes 8 = .ok (.dup, 1) := by decide +kernel
theorem dX10_takes_9 : decode cX10_takes 9 = .ok (.getfield 149, 3) := by decide +kernel
theorem dX10_takes_12 : decode cX10_takes 12 = .ok (.iload_n 2, 1) := by decide +kernel
theorem dX10_takes_13 : decode cX10_takes 13 = .ok (.ifCond .eq 7, 3) := by decide +kernel
theorem dX10_takes_16 : decode cX10_takes 16 = .ok (.iconst 1, 1) := by decide +kernel
theorem dX10_takes_17 : decode cX10_takes 17 = .ok (.goto 4, 3) := by decide +kernel
theorem dX10_takes_20 : decode cX10_takes 20 = .ok (.iconst 0, 1) := by decide +kernel
theorem dX10_takes_21 : decode cX10_takes 21 = .ok (.iadd, 1) := by decide +kernel
theorem dX10_takes_22 : decode cX10_takes 22 = .ok (.putfield 149, 3) := by decide +kernel
theorem dX10_takes_25 : decode cX10_takes 25 = .ok (.iload_n 2, 1) := by decide +kernel
theorem dX10_takes_26 : decode cX10_takes 26 = .ok (.ireturn, 1) := by decide +kernel
theorem dX10_digit_0 : decode cX10_digit 0 = .ok (.aload_n 0, 1) := by decide +kernel
theorem dX10_digit_1 : decode cX10_digit 1 = .ok (.bipush 48, 2) := by decide +kernel
theorem dX10_digit_3 : decode cX10_digit 3 = .ok (.bipush 48, 2) := by decide +kernel
theorem dX10_digit_5 : decode cX10_digit 5 = .ok (.iload_n 1, 1) := by decide +kernel
theorem dX10_digit_6 : decode cX10_digit 6 = .ok (.iadd, 1) := by decide +kernel
theorem dX10_digit_7 : decode cX10_digit 7 = .ok (.invokevirtual 152, 3) := by decide +kernel
theorem dX10_digit_10 : decode cX10_digit 10 = .ok (.ifCond .ne 6, 3) := by decide +kernel
theorem dX10_digit_13 : decode cX10_digit 13 = .ok (.bipush (-4), 2) := by decide +kernel
theorem dX10_digit_15 : decode cX10_digit 15 = .ok (.ireturn, 1) := by decide +kernel
theorem dX10_digit_16 : decode cX10_digit 16 = .ok (.aload_n 0, 1) := by decide +kernel
theorem dX10_digit_17 : decode cX10_digit 17 = .ok (.dup, 1) := by decide +kernel
theorem dX10_digit_18 : decode cX10_digit 18 = .ok (.getfield 149, 3) := by decide +kernel
theorem dX10_digit_21 : decode cX10_digit 21 = .ok (.iconst 1, 1) := by decide +kernel
theorem dX10_digit_22 : decode cX10_digit 22 = .ok (.iadd, 1) := by decide +kernel
theorem dX10_digit_23 : decode cX10_digit 23 = .ok (.putfield 149, 3) := by decide +kernel
theorem dX10_digit_26 : decode cX10_digit 26 = .ok (.aload_n 0, 1) := by decide +kernel
theorem dX10_digit_27 : decode cX10_digit 27 = .ok (.getfield 19, 3) := by decide +kernel
theorem dX10_digit_30 : decode cX10_digit 30 = .ok (.aload_n 0, 1) := by decide +kernel
theorem dX10_digit_31 : decode cX10_digit 31 = .ok (.getfield 149, 3) := by decide +kernel
theorem dX10_digit_34 : decode cX10_digit 34 = .ok (.iconst 1, 1) := by decide +kernel
theorem dX10_digit_35 : decode cX10_digit 35 = .ok (.isub, 1) := by decide +kernel
theorem dX10_digit_36 : decode cX10_digit 36 = .ok (.iaload, 1) := by decide +kernel
theorem dX10_digit_37 : decode cX10_digit 37 = .ok (.bipush 48, 2) := by decide +kernel
theorem dX10_digit_39 : decode cX10_digit 39 = .ok (.isub, 1) := by decide +kernel
theorem dX10_digit_40 : decode cX10_digit 40 = .ok (.ireturn, 1) := by decide +kernel
theorem dX10_number_0 : decode cX10_number 0 = .ok (.aload_n 0, 1) := by decide +kernel
theorem dX10_number_1 : decode cX10_number 1 = .ok (.bipush 9, 2) := by decide +kernel
theorem dX10_number_3 : decode cX10_number 3 = .ok (.invokevirtual 155, 3) := by decide +kernel
theorem dX10_number_6 : decode cX10_number 6 = .ok (.istore_n 1, 1) := by decide +kernel
theorem dX10_number_7 : decode cX10_number 7 = .ok (.iload_n 1, 1) := by decide +kernel
theorem dX10_number_8 : decode cX10_number 8 = .ok (.iconst 1, 1) := by decide +kernel
theorem dX10_number_9 : decode cX10_number 9 = .ok (.if_icmp .ne 24, 3) := by decide +kernel
theorem dX10_number_12 : decode cX10_number 12 = .ok (.aload_n 0, 1) := by decide +kernel
theorem dX10_number_13 : decode cX10_number 13 = .ok (.bipush 48, 2) := by decide +kernel
theorem dX10_number_15 : decode cX10_number 15 = .ok (.bipush 57, 2) := by decide +kernel
theorem dX10_number_17 : decode cX10_number 17 = .ok (.invokevirtual 152, 3) := by decide +kernel
theorem dX10_number_20 : decode cX10_number 20 = .ok (.ifCond .eq 13, 3) := by decide +kernel
theorem dX10_number_23 : decode cX10_number 23 = .ok (.bipush 10, 2) := by decide +kernel
theorem dX10_number_25 : decode cX10_number 25 = .ok (.aload_n 0, 1) := by decide +kernel
theorem dX10_number_26 : decode cX10_number 26 = .ok (.bipush 9, 2) := by decide +kernel
theorem dX10_number_28 : decode cX10_number 28 = .ok (.invokevirtual 155, 3) := by decide +kernel
theorem dX10_number_31 : decode cX10_number 31 = .ok (.iadd, 1) := by decide +kernel
theorem dX10_number_32 : decode cX10_number 32 = .ok (.istore_n 1, 1) := by decide +kernel
theorem dX10_number_33 : decode cX10_number 33 = .ok (.iload_n 1, 1) := by decide +kernel
theorem dX10_number_34 : decode cX10_number 34 = .ok (.ireturn, 1) := by decide +kernel
theorem dX10_readShield_0 : decode cX10_readShield 0 = .ok (.iconst 0, 1) := by decide +kernel
theorem dX10_readShield_1 : decode cX10_readShield 1 = .ok (.istore_n 1, 1) := by decide +kernel
theorem dX10_readShield_2 : decode cX10_readShield 2 = .ok (.iconst 0, 1) := by decide +kernel
theorem dX10_readShield_3 : decode cX10_readShield 3 = .ok (.istore_n 2, 1) := by decide +kernel
theorem dX10_readShield_4 : decode cX10_readShield 4 = .ok (.iload_n 2, 1) := by decide +kernel
theorem dX10_readShield_5 : decode cX10_readShield 5 = .ok (.bipush 6, 2) := by decide +kernel
theorem dX10_readShield_7 : decode cX10_readShield 7 = .ok (.if_icmp .ge 33, 3) := by decide +kernel
theorem dX10_readShield_10 : decode cX10_readShield 10 = .ok (.aload_n 0, 1) := by decide +kernel
theorem dX10_readShield_11 : decode cX10_readShield 11 = .ok (.iconst 4, 1) := by decide +kernel
theorem dX10_readShield_12 : decode cX10_readShield 12 = .ok (.invokevirtual 155, 3) := by decide +kernel
theorem dX10_readShield_15 : decode cX10_readShield 15 = .ok (.istore_n 3, 1) := by decide +kernel
theorem dX10_readShield_16 : decode cX10_readShield 16 = .ok (.iload_n 3, 1) := by decide +kernel
theorem dX10_readShield_17 : decode cX10_readShield 17 = .ok (.bipush (-4), 2) := by decide +kernel
theorem dX10_readShield_19 : decode cX10_readShield 19 = .ok (.if_icmp .ne 6, 3) := by decide +kernel
theorem dX10_readShield_22 : decode cX10_readShield 22 = .ok (.bipush (-4), 2) := by decide +kernel
theorem dX10_readShield_24 : decode cX10_readShield 24 = .ok (.ireturn, 1) := by decide +kernel
theorem dX10_readShield_25 : decode cX10_readShield 25 = .ok (.iload_n 1, 1) := by decide +kernel
theorem dX10_readShield_26 : decode cX10_readShield 26 = .ok (.iload_n 3, 1) := by decide +kernel
theorem dX10_readShield_27 : decode cX10_readShield 27 = .ok (.iload_n 2, 1) := by decide +kernel
theorem dX10_readShield_28 : decode cX10_readShield 28 = .ok (.invokestatic 49, 3) := by decide +kernel
theorem dX10_readShield_31 : decode cX10_readShield 31 = .ok (.imul, 1) := by decide +kernel
theorem dX10_readShield_32 : decode cX10_readShield 32 = .ok (.iadd, 1) := by decide +kernel
theorem dX10_readShield_33 : decode cX10_readShield 33 = .ok (.istore_n 1, 1) := by decide +kernel
theorem dX10_readShield_34 : decode cX10_readShield 34 = .ok (.iinc 2 1, 3) := by decide +kernel
theorem dX10_readShield_37 : decode cX10_readShield 37 = .ok (.goto (-33), 3) := by decide +kernel
theorem dX10_readShield_40 : decode cX10_readShield 40 = .ok (.iload_n 1, 1) := by decide +kernel
theorem dX10_readShield_41 : decode cX10_readShield 41 = .ok (.ireturn, 1) := by decide +kernel
theorem dX10_readDeed_0 : decode cX10_readDeed 0 = .ok (.aload_n 0, 1) := by decide +kernel
theorem dX10_readDeed_1 : decode cX10_readDeed 1 = .ok (.getfield 149, 3) := by decide +kernel
theorem dX10_readDeed_4 : decode cX10_readDeed 4 = .ok (.aload_n 0, 1) := by decide +kernel
theorem dX10_readDeed_5 : decode cX10_readDeed 5 = .ok (.getfield 146, 3) := by decide +kernel
theorem dX10_readDeed_8 : decode cX10_readDeed 8 = .ok (.if_icmp .ge 15, 3) := by decide +kernel
theorem dX10_readDeed_11 : decode cX10_readDeed 11 = .ok (.aload_n 0, 1) := by decide +kernel
theorem dX10_readDeed_12 : decode cX10_readDeed 12 = .ok (.getfield 19, 3) := by decide +kernel
theorem dX10_readDeed_15 : decode cX10_readDeed 15 = .ok (.aload_n 0, 1) := by decide +kernel
theorem dX10_readDeed_16 : decode cX10_readDeed 16 = .ok (.getfield 149, 3) := by decide +kernel
theorem dX10_readDeed_19 : decode cX10_readDeed 19 = .ok (.iaload, 1) := by decide +kernel
theorem dX10_readDeed_20 : decode cX10_readDeed 20 = .ok (.goto 4, 3) := by decide +kernel
theorem dX10_readDeed_23 : decode cX10_readDeed 23 = .ok (.iconst 0, 1) := by decide +kernel
theorem dX10_readDeed_24 : decode cX10_readDeed 24 = .ok (.istore_n 1, 1) := by decide +kernel
theorem dX10_readDeed_25 : decode cX10_readDeed 25 = .ok (.iconst 4, 1) := by decide +kernel
theorem dX10_readDeed_26 : decode cX10_readDeed 26 = .ok (.aload_n 0, 1) := by decide +kernel
theorem dX10_readDeed_27 : decode cX10_readDeed 27 = .ok (.getfield 158, 3) := by decide +kernel
theorem dX10_readDeed_30 : decode cX10_readDeed 30 = .ok (.imul, 1) := by decide +kernel
theorem dX10_readDeed_31 : decode cX10_readDeed 31 = .ok (.istore_n 2, 1) := by decide +kernel
theorem dX10_readDeed_32 : decode cX10_readDeed 32 = .ok (.iload_n 1, 1) := by decide +kernel
theorem dX10_readDeed_33 : decode cX10_readDeed 33 = .ok (.bipush 102, 2) := by decide +kernel
theorem dX10_readDeed_35 : decode cX10_readDeed 35 = .ok (.if_icmp .eq 23, 3) := by decide +kernel
theorem dX10_readDeed_38 : decode cX10_readDeed 38 = .ok (.iload_n 1, 1) := by decide +kernel
theorem dX10_readDeed_39 : decode cX10_readDeed 39 = .ok (.bipush 115, 2) := by decide +kernel
theorem dX10_readDeed_41 : decode cX10_readDeed 41 = .ok (.if_icmp .eq 17, 3) := by decide +kernel
theorem dX10_readDeed_44 : decode cX10_readDeed 44 = .ok (.iload_n 1, 1) := by decide +kernel
theorem dX10_readDeed_45 : decode cX10_readDeed 45 = .ok (.bipush 100, 2) := by decide +kernel
theorem dX10_readDeed_47 : decode cX10_readDeed 47 = .ok (.if_icmp .eq 11, 3) := by decide +kernel
theorem dX10_readDeed_50 : decode cX10_readDeed 50 = .ok (.iload_n 1, 1) := by decide +kernel
theorem dX10_readDeed_51 : decode cX10_readDeed 51 = .ok (.bipush 104, 2) := by decide +kernel
theorem dX10_readDeed_53 : decode cX10_readDeed 53 = .ok (.if_icmp .eq 5, 3) := by decide +kernel
theorem dX10_readDeed_56 : decode cX10_readDeed 56 = .ok (.iconst 0, 1) := by decide +kernel
theorem dX10_readDeed_57 : decode cX10_readDeed 57 = .ok (.ireturn, 1) := by decide +kernel
theorem dX10_readDeed_58 : decode cX10_readDeed 58 = .ok (.aload_n 0, 1) := by decide +kernel
theorem dX10_readDeed_59 : decode cX10_readDeed 59 = .ok (.getfield 32, 3) := by decide +kernel
theorem dX10_readDeed_62 : decode cX10_readDeed 62 = .ok (.iload_n 2, 1) := by decide +kernel
theorem dX10_readDeed_63 : decode cX10_readDeed 63 = .ok (.aload_n 0, 1) := by decide +kernel
theorem dX10_readDeed_64 : decode cX10_readDeed 64 = .ok (.getfield 149, 3) := by decide +kernel
theorem dX10_readDeed_67 : decode cX10_readDeed 67 = .ok (.iastore, 1) := by decide +kernel
theorem dX10_readDeed_68 : decode cX10_readDeed 68 = .ok (.aload_n 0, 1) := by decide +kernel
theorem dX10_readDeed_69 : decode cX10_readDeed 69 = .ok (.dup, 1) := by decide +kernel
theorem dX10_readDeed_70 : decode cX10_readDeed 70 = .ok (.getfield 149, 3) := by decide +kernel
theorem dX10_readDeed_73 : decode cX10_readDeed 73 = .ok (.iconst 1, 1) := by decide +kernel
theorem dX10_readDeed_74 : decode cX10_readDeed 74 = .ok (.iadd, 1) := by decide +kernel
theorem dX10_readDeed_75 : decode cX10_readDeed 75 = .ok (.putfield 149, 3) := by decide +kernel
theorem dX10_readDeed_78 : decode cX10_readDeed 78 = .ok (.iload_n 1, 1) := by decide +kernel
theorem dX10_readDeed_79 : decode cX10_readDeed 79 = .ok (.bipush 102, 2) := by decide +kernel
theorem dX10_readDeed_81 : decode cX10_readDeed 81 = .ok (.if_icmp .ne 10, 3) := by decide +kernel
theorem dX10_readDeed_84 : decode cX10_readDeed 84 = .ok (.aload_n 0, 1) := by decide +kernel
theorem dX10_readDeed_85 : decode cX10_readDeed 85 = .ok (.invokevirtual 161, 3) := by decide +kernel
theorem dX10_readDeed_88 : decode cX10_readDeed 88 = .ok (.goto 7, 3) := by decide +kernel
theorem dX10_readDeed_91 : decode cX10_readDeed 91 = .ok (.aload_n 0, 1) := by decide +kernel
theorem dX10_readDeed_92 : decode cX10_readDeed 92 = .ok (.invokevirtual 164, 3) := by decide +kernel
theorem dX10_readDeed_95 : decode cX10_readDeed 95 = .ok (.istore_n 3, 1) := by decide +kernel
theorem dX10_readDeed_96 : decode cX10_readDeed 96 = .ok (.iconst 0, 1) := by decide +kernel
theorem dX10_readDeed_97 : decode cX10_readDeed 97 = .ok (.istore 4, 2) := by decide +kernel
theorem dX10_readDeed_99 : decode cX10_readDeed 99 = .ok (.iconst 0, 1) := by decide +kernel
theorem dX10_readDeed_100 : decode cX10_readDeed 100 = .ok (.istore 5, 2) := by decide +kernel
theorem dX10_readDeed_102 : decode cX10_readDeed 102 = .ok (.iload_n 1, 1) := by decide +kernel
theorem dX10_readDeed_103 : decode cX10_readDeed 103 = .ok (.bipush 115, 2) := by decide +kernel
theorem dX10_readDeed_105 : decode cX10_readDeed 105 = .ok (.if_icmp .ne 58, 3) := by decide +kernel
theorem dX10_readDeed_108 : decode cX10_readDeed 108 = .ok (.iload_n 3, 1) := by decide +kernel
theorem dX10_readDeed_109 : decode cX10_readDeed 109 = .ok (.bipush (-4), 2) := by decide +kernel
theorem dX10_readDeed_111 : decode cX10_readDeed 111 = .ok (.if_icmp .eq 52, 3) := by decide +kernel
theorem dX10_readDeed_114 : decode cX10_readDeed 114 = .ok (.aload_n 0, 1) := by decide +kernel
theorem dX10_readDeed_115 : decode cX10_readDeed 115 = .ok (.bipush 46, 2) := by decide +kernel
theorem dX10_readDeed_117 : decode cX10_readDeed 117 = .ok (.invokevirtual 167, 3) := by decide +kernel
theorem dX10_readDeed_120 : decode cX10_readDeed 120 = .ok (.ifCond .eq 11, 3) := by decide +kernel
theorem dX10_readDeed_123 : decode cX10_readDeed 123 = .ok (.aload_n 0, 1) := by decide +kernel
theorem dX10_readDeed_124 : decode cX10_readDeed 124 = .ok (.iconst 5, 1) := by decide +kernel
theorem dX10_readDeed_125 : decode cX10_readDeed 125 = .ok (.invokevirtual 155, 3) := by decide +kernel
theorem dX10_readDeed_128 : decode cX10_readDeed 128 = .ok (.goto 5, 3) := by decide +kernel
theorem dX10_readDeed_131 : decode cX10_readDeed 131 = .ok (.bipush (-4), 2) := by decide +kernel
theorem dX10_readDeed_133 : decode cX10_readDeed 133 = .ok (.istore 4, 2) := by decide +kernel
theorem dX10_readDeed_135 : decode cX10_readDeed 135 = .ok (.iload 4, 2) := by decide +kernel
theorem dX10_readDeed_137 : decode cX10_readDeed 137 = .ok (.bipush (-4), 2) := by decide +kernel
theorem dX10_readDeed_139 : decode cX10_readDeed 139 = .ok (.if_icmp .eq 20, 3) := by decide +kernel
theorem dX10_readDeed_142 : decode cX10_readDeed 142 = .ok (.aload_n 0, 1) := by decide +kernel
theorem dX10_readDeed_143 : decode cX10_readDeed 143 = .ok (.bipush 61, 2) := by decide +kernel
theorem dX10_readDeed_145 : decode cX10_readDeed 145 = .ok (.invokevirtual 167, 3) := by decide +kernel
theorem dX10_readDeed_148 : decode cX10_readDeed 148 = .ok (.ifCond .eq 11, 3) := by decide +kernel
theorem dX10_readDeed_151 : decode cX10_readDeed 151 = .ok (.aload_n 0, 1) := by decide +kernel
theorem dX10_readDeed_152 : decode cX10_readDeed 152 = .ok (.iconst 4, 1) := by decide +kernel
theorem dX10_readDeed_153 : decode cX10_readDeed 153 = .ok (.invokevirtual 155, 3) := by decide +kernel
theorem dX10_readDeed_156 : decode cX10_readDeed 156 = .ok (.goto 5, 3) := by decide +kernel
theorem dX10_readDeed_159 : decode cX10_readDeed 159 = .ok (.bipush (-4), 2) := by decide +kernel
theorem dX10_readDeed_161 : decode cX10_readDeed 161 = .ok (.istore 5, 2) := by decide +kernel
theorem dX10_readDeed_163 : decode cX10_readDeed 163 = .ok (.aload_n 0, 1) := by decide +kernel
theorem dX10_readDeed_164 : decode cX10_readDeed 164 = .ok (.getfield 32, 3) := by decide +kernel
theorem dX10_readDeed_167 : decode cX10_readDeed 167 = .ok (.iload_n 2, 1) := by decide +kernel
theorem dX10_readDeed_168 : decode cX10_readDeed 168 = .ok (.iconst 1, 1) := by decide +kernel
theorem dX10_readDeed_169 : decode cX10_readDeed 169 = .ok (.iadd, 1) := by decide +kernel
theorem dX10_readDeed_170 : decode cX10_readDeed 170 = .ok (.iload_n 3, 1) := by decide +kernel
theorem dX10_readDeed_171 : decode cX10_readDeed 171 = .ok (.iastore, 1) := by decide +kernel
theorem dX10_readDeed_172 : decode cX10_readDeed 172 = .ok (.aload_n 0, 1) := by decide +kernel
theorem dX10_readDeed_173 : decode cX10_readDeed 173 = .ok (.getfield 32, 3) := by decide +kernel
theorem dX10_readDeed_176 : decode cX10_readDeed 176 = .ok (.iload_n 2, 1) := by decide +kernel
theorem dX10_readDeed_177 : decode cX10_readDeed 177 = .ok (.iconst 2, 1) := by decide +kernel
theorem dX10_readDeed_178 : decode cX10_readDeed 178 = .ok (.iadd, 1) := by decide +kernel
theorem dX10_readDeed_179 : decode cX10_readDeed 179 = .ok (.iload 4, 2) := by decide +kernel
theorem dX10_readDeed_181 : decode cX10_readDeed 181 = .ok (.iastore, 1) := by decide +kernel
theorem dX10_readDeed_182 : decode cX10_readDeed 182 = .ok (.aload_n 0, 1) := by decide +kernel
theorem dX10_readDeed_183 : decode cX10_readDeed 183 = .ok (.getfield 32, 3) := by decide +kernel
theorem dX10_readDeed_186 : decode cX10_readDeed 186 = .ok (.iload_n 2, 1) := by decide +kernel
theorem dX10_readDeed_187 : decode cX10_readDeed 187 = .ok (.iconst 3, 1) := by decide +kernel
theorem dX10_readDeed_188 : decode cX10_readDeed 188 = .ok (.iadd, 1) := by decide +kernel
theorem dX10_readDeed_189 : decode cX10_readDeed 189 = .ok (.iload 5, 2) := by decide +kernel
theorem dX10_readDeed_191 : decode cX10_readDeed 191 = .ok (.iastore, 1) := by decide +kernel
theorem dX10_readDeed_192 : decode cX10_readDeed 192 = .ok (.aload_n 0, 1) := by decide +kernel
theorem dX10_readDeed_193 : decode cX10_readDeed 193 = .ok (.dup, 1) := by decide +kernel
theorem dX10_readDeed_194 : decode cX10_readDeed 194 = .ok (.getfield 158, 3) := by decide +kernel
theorem dX10_readDeed_197 : decode cX10_readDeed 197 = .ok (.iconst 1, 1) := by decide +kernel
theorem dX10_readDeed_198 : decode cX10_readDeed 198 = .ok (.iadd, 1) := by decide +kernel
theorem dX10_readDeed_199 : decode cX10_readDeed 199 = .ok (.putfield 158, 3) := by decide +kernel
theorem dX10_readDeed_202 : decode cX10_readDeed 202 = .ok (.iload_n 3, 1) := by decide +kernel
theorem dX10_readDeed_203 : decode cX10_readDeed 203 = .ok (.bipush (-4), 2) := by decide +kernel
theorem dX10_readDeed_205 : decode cX10_readDeed 205 = .ok (.if_icmp .eq 21, 3) := by decide +kernel
theorem dX10_readDeed_208 : decode cX10_readDeed 208 = .ok (.iload 4, 2) := by decide +kernel
theorem dX10_readDeed_210 : decode cX10_readDeed 210 = .ok (.bipush (-4), 2) := by decide +kernel
theorem dX10_readDeed_212 : decode cX10_readDeed 212 = .ok (.if_icmp .eq 14, 3) := by decide +kernel
theorem dX10_readDeed_215 : decode cX10_readDeed 215 = .ok (.iload 5, 2) := by decide +kernel
theorem dX10_readDeed_217 : decode cX10_readDeed 217 = .ok (.bipush (-4), 2) := by decide +kernel
theorem dX10_readDeed_219 : decode cX10_readDeed 219 = .ok (.if_icmp .eq 7, 3) := by decide +kernel
theorem dX10_readDeed_222 : decode cX10_readDeed 222 = .ok (.iconst 1, 1) := by decide +kernel
theorem dX10_readDeed_223 : decode cX10_readDeed 223 = .ok (.goto 4, 3) := by decide +kernel
theorem dX10_readDeed_226 : decode cX10_readDeed 226 = .ok (.iconst 0, 1) := by decide +kernel
theorem dX10_readDeed_227 : decode cX10_readDeed 227 = .ok (.ireturn, 1) := by decide +kernel
theorem dX10_readPad_0 : decode cX10_readPad 0 = .ok (.aload_n 0, 1) := by decide +kernel
theorem dX10_readPad_1 : decode cX10_readPad 1 = .ok (.iconst 0, 1) := by decide +kernel
theorem dX10_readPad_2 : decode cX10_readPad 2 = .ok (.putfield 149, 3) := by decide +kernel
theorem dX10_readPad_5 : decode cX10_readPad 5 = .ok (.aload_n 0, 1) := by decide +kernel
theorem dX10_readPad_6 : decode cX10_readPad 6 = .ok (.iconst 0, 1) := by decide +kernel
theorem dX10_readPad_7 : decode cX10_readPad 7 = .ok (.putfield 158, 3) := by decide +kernel
theorem dX10_readPad_10 : decode cX10_readPad 10 = .ok (.aload_n 0, 1) := by decide +kernel
theorem dX10_readPad_11 : decode cX10_readPad 11 = .ok (.invokevirtual 170, 3) := by decide +kernel
theorem dX10_readPad_14 : decode cX10_readPad 14 = .ok (.istore_n 1, 1) := by decide +kernel
theorem dX10_readPad_15 : decode cX10_readPad 15 = .ok (.iload_n 1, 1) := by decide +kernel
theorem dX10_readPad_16 : decode cX10_readPad 16 = .ok (.ifCond .eq 39, 3) := by decide +kernel
theorem dX10_readPad_19 : decode cX10_readPad 19 = .ok (.aload_n 0, 1) := by decide +kernel
theorem dX10_readPad_20 : decode cX10_readPad 20 = .ok (.getfield 149, 3) := by decide +kernel
theorem dX10_readPad_23 : decode cX10_readPad 23 = .ok (.aload_n 0, 1) := by decide +kernel
theorem dX10_readPad_24 : decode cX10_readPad 24 = .ok (.getfield 146, 3) := by decide +kernel
theorem dX10_readPad_27 : decode cX10_readPad 27 = .ok (.if_icmp .ge 28, 3) := by decide +kernel
theorem dX10_readPad_30 : decode cX10_readPad 30 = .ok (.aload_n 0, 1) := by decide +kernel
theorem dX10_readPad_31 : decode cX10_readPad 31 = .ok (.bipush 59, 2) := by decide +kernel
theorem dX10_readPad_33 : decode cX10_readPad 33 = .ok (.invokevirtual 167, 3) := by decide +kernel
theorem dX10_readPad_36 : decode cX10_readPad 36 = .ok (.ifCond .eq 14, 3) := by decide +kernel
theorem dX10_readPad_39 : decode cX10_readPad 39 = .ok (.aload_n 0, 1) := by decide +kernel
theorem dX10_readPad_40 : decode cX10_readPad 40 = .ok (.invokevirtual 170, 3) := by decide +kernel
theorem dX10_readPad_43 : decode cX10_readPad 43 = .ok (.ifCond .eq 7, 3) := by decide +kernel
theorem dX10_readPad_46 : decode cX10_readPad 46 = .ok (.iconst 1, 1) := by decide +kernel
theorem dX10_readPad_47 : decode cX10_readPad 47 = .ok (.goto 4, 3) := by decide +kernel
theorem dX10_readPad_50 : decode cX10_readPad 50 = .ok (.iconst 0, 1) := by decide +kernel
theorem dX10_readPad_51 : decode cX10_readPad 51 = .ok (.istore_n 1, 1) := by decide +kernel
theorem dX10_readPad_52 : decode cX10_readPad 52 = .ok (.goto (-37), 3) := by decide +kernel
theorem dX10_readPad_55 : decode cX10_readPad 55 = .ok (.iload_n 1, 1) := by decide +kernel
theorem dX10_readPad_56 : decode cX10_readPad 56 = .ok (.ireturn, 1) := by decide +kernel
theorem dX10_fault_0 : decode cX10_fault 0 = .ok (.aload_n 0, 1) := by decide +kernel
theorem dX10_fault_1 : decode cX10_fault 1 = .ok (.invokevirtual 174, 3) := by decide +kernel
theorem dX10_fault_4 : decode cX10_fault 4 = .ok (.ifCond .eq 8, 3) := by decide +kernel
theorem dX10_fault_7 : decode cX10_fault 7 = .ok (.bipush (-4), 2) := by decide +kernel
theorem dX10_fault_9 : decode cX10_fault 9 = .ok (.goto 7, 3) := by decide +kernel
theorem dX10_fault_12 : decode cX10_fault 12 = .ok (.aload_n 0, 1) := by decide +kernel
theorem dX10_fault_13 : decode cX10_fault 13 = .ok (.getfield 149, 3) := by decide +kernel
theorem dX10_fault_16 : decode cX10_fault 16 = .ok (.ireturn, 1) := by decide +kernel
theorem dX10_doDeed_0 : decode cX10_doDeed 0 = .ok (.aload_n 0, 1) := by decide +kernel
theorem dX10_doDeed_1 : decode cX10_doDeed 1 = .ok (.getfield 32, 3) := by decide +kernel
theorem dX10_doDeed_4 : decode cX10_doDeed 4 = .ok (.iconst 4, 1) := by decide +kernel
theorem dX10_doDeed_5 : decode cX10_doDeed 5 = .ok (.iload_n 1, 1) := by decide +kernel
theorem dX10_doDeed_6 : decode cX10_doDeed 6 = .ok (.imul, 1) := by decide +kernel
theorem dX10_doDeed_7 : decode cX10_doDeed 7 = .ok (.iconst 1, 1) := by decide +kernel
theorem dX10_doDeed_8 : decode cX10_doDeed 8 = .ok (.iadd, 1) := by decide +kernel
theorem dX10_doDeed_9 : decode cX10_doDeed 9 = .ok (.iaload, 1) := by decide +kernel
theorem dX10_doDeed_10 : decode cX10_doDeed 10 = .ok (.istore_n 2, 1) := by decide +kernel
theorem dX10_doDeed_11 : decode cX10_doDeed 11 = .ok (.aload_n 0, 1) := by decide +kernel
theorem dX10_doDeed_12 : decode cX10_doDeed 12 = .ok (.getfield 32, 3) := by decide +kernel
theorem dX10_doDeed_15 : decode cX10_doDeed 15 = .ok (.iconst 4, 1) := by decide +kernel
theorem dX10_doDeed_16 : decode cX10_doDeed 16 = .ok (.iload_n 1, 1) := by decide +kernel
theorem dX10_doDeed_17 : decode cX10_doDeed 17 = .ok (.imul, 1) := by decide +kernel
theorem dX10_doDeed_18 : decode cX10_doDeed 18 = .ok (.iconst 2, 1) := by decide +kernel
theorem dX10_doDeed_19 : decode cX10_doDeed 19 = .ok (.iadd, 1) := by decide +kernel
theorem dX10_doDeed_20 : decode cX10_doDeed 20 = .ok (.iaload, 1) := by decide +kernel
theorem dX10_doDeed_21 : decode cX10_doDeed 21 = .ok (.istore_n 3, 1) := by decide +kernel
theorem dX10_doDeed_22 : decode cX10_doDeed 22 = .ok (.aload_n 0, 1) := by decide +kernel
theorem dX10_doDeed_23 : decode cX10_doDeed 23 = .ok (.getfield 32, 3) := by decide +kernel
theorem dX10_doDeed_26 : decode cX10_doDeed 26 = .ok (.iconst 4, 1) := by decide +kernel
theorem dX10_doDeed_27 : decode cX10_doDeed 27 = .ok (.iload_n 1, 1) := by decide +kernel
theorem dX10_doDeed_28 : decode cX10_doDeed 28 = .ok (.imul, 1) := by decide +kernel
theorem dX10_doDeed_29 : decode cX10_doDeed 29 = .ok (.iconst 3, 1) := by decide +kernel
theorem dX10_doDeed_30 : decode cX10_doDeed 30 = .ok (.iadd, 1) := by decide +kernel
theorem dX10_doDeed_31 : decode cX10_doDeed 31 = .ok (.iaload, 1) := by decide +kernel
theorem dX10_doDeed_32 : decode cX10_doDeed 32 = .ok (.istore 4, 2) := by decide +kernel
theorem dX10_doDeed_34 : decode cX10_doDeed 34 = .ok (.aload_n 0, 1) := by decide +kernel
theorem dX10_doDeed_35 : decode cX10_doDeed 35 = .ok (.getfield 19, 3) := by decide +kernel
theorem dX10_doDeed_38 : decode cX10_doDeed 38 = .ok (.aload_n 0, 1) := by decide +kernel
theorem dX10_doDeed_39 : decode cX10_doDeed 39 = .ok (.getfield 32, 3) := by decide +kernel
theorem dX10_doDeed_42 : decode cX10_doDeed 42 = .ok (.iconst 4, 1) := by decide +kernel
theorem dX10_doDeed_43 : decode cX10_doDeed 43 = .ok (.iload_n 1, 1) := by decide +kernel
theorem dX10_doDeed_44 : decode cX10_doDeed 44 = .ok (.imul, 1) := by decide +kernel
theorem dX10_doDeed_45 : decode cX10_doDeed 45 = .ok (.iaload, 1) := by decide +kernel
theorem dX10_doDeed_46 : decode cX10_doDeed 46 = .ok (.iaload, 1) := by decide +kernel
theorem dX10_doDeed_47 : decode cX10_doDeed 47 = .ok (.lookupswitch 103 #[(100, 85), (102, 33), (115, 56)], 33) := by decide +kernel
theorem dX10_doDeed_80 : decode cX10_doDeed 80 = .ok (.aload_n 0, 1) := by decide +kernel
theorem dX10_doDeed_81 : decode cX10_doDeed 81 = .ok (.iload_n 2, 1) := by decide +kernel
theorem dX10_doDeed_82 : decode cX10_doDeed 82 = .ok (.invokevirtual 99, 3) := by decide +kernel
theorem dX10_doDeed_85 : decode cX10_doDeed 85 = .ok (.istore 5, 2) := by decide +kernel
theorem dX10_doDeed_87 : decode cX10_doDeed 87 = .ok (.iload 5, 2) := by decide +kernel
theorem dX10_doDeed_89 : decode cX10_doDeed 89 = .ok (.ifCond .ge 8, 3) := by decide +kernel
theorem dX10_doDeed_92 : decode cX10_doDeed 92 = .ok (.iload 5, 2) := by decide +kernel
theorem dX10_doDeed_94 : decode cX10_doDeed 94 = .ok (.goto 8, 3) := by decide +kernel
theorem dX10_doDeed_97 : decode cX10_doDeed 97 = .ok (.aload_n 0, 1) := by decide +kernel
theorem dX10_doDeed_98 : decode cX10_doDeed 98 = .ok (.iload_n 2, 1) := by decide +kernel
theorem dX10_doDeed_99 : decode cX10_doDeed 99 = .ok (.invokevirtual 102, 3) := by decide +kernel
theorem dX10_doDeed_102 : decode cX10_doDeed 102 = .ok (.ireturn, 1) := by decide +kernel
theorem dX10_doDeed_103 : decode cX10_doDeed 103 = .ok (.aload_n 0, 1) := by decide +kernel
theorem dX10_doDeed_104 : decode cX10_doDeed 104 = .ok (.iload_n 2, 1) := by decide +kernel
theorem dX10_doDeed_105 : decode cX10_doDeed 105 = .ok (.iload_n 3, 1) := by decide +kernel
theorem dX10_doDeed_106 : decode cX10_doDeed 106 = .ok (.iload 4, 2) := by decide +kernel
theorem dX10_doDeed_108 : decode cX10_doDeed 108 = .ok (.invokevirtual 125, 3) := by decide +kernel
theorem dX10_doDeed_111 : decode cX10_doDeed 111 = .ok (.istore 5, 2) := by decide +kernel
theorem dX10_doDeed_113 : decode cX10_doDeed 113 = .ok (.iload 5, 2) := by decide +kernel
theorem dX10_doDeed_115 : decode cX10_doDeed 115 = .ok (.ifCond .ge 8, 3) := by decide +kernel
theorem dX10_doDeed_118 : decode cX10_doDeed 118 = .ok (.iload 5, 2) := by decide +kernel
theorem dX10_doDeed_120 : decode cX10_doDeed 120 = .ok (.goto 11, 3) := by decide +kernel
theorem dX10_doDeed_123 : decode cX10_doDeed 123 = .ok (.aload_n 0, 1) := by decide +kernel
theorem dX10_doDeed_124 : decode cX10_doDeed 124 = .ok (.iload_n 2, 1) := by decide +kernel
theorem dX10_doDeed_125 : decode cX10_doDeed 125 = .ok (.iload_n 3, 1) := by decide +kernel
theorem dX10_doDeed_126 : decode cX10_doDeed 126 = .ok (.iload 4, 2) := by decide +kernel
theorem dX10_doDeed_128 : decode cX10_doDeed 128 = .ok (.invokevirtual 128, 3) := by decide +kernel
theorem dX10_doDeed_131 : decode cX10_doDeed 131 = .ok (.ireturn, 1) := by decide +kernel
theorem dX10_doDeed_132 : decode cX10_doDeed 132 = .ok (.aload_n 0, 1) := by decide +kernel
theorem dX10_doDeed_133 : decode cX10_doDeed 133 = .ok (.iload_n 2, 1) := by decide +kernel
theorem dX10_doDeed_134 : decode cX10_doDeed 134 = .ok (.invokevirtual 116, 3) := by decide +kernel
theorem dX10_doDeed_137 : decode cX10_doDeed 137 = .ok (.ifCond .eq 11, 3) := by decide +kernel
theorem dX10_doDeed_140 : decode cX10_doDeed 140 = .ok (.aload_n 0, 1) := by decide +kernel
theorem dX10_doDeed_141 : decode cX10_doDeed 141 = .ok (.iload_n 2, 1) := by decide +kernel
theorem dX10_doDeed_142 : decode cX10_doDeed 142 = .ok (.invokevirtual 131, 3) := by decide +kernel
theorem dX10_doDeed_145 : decode cX10_doDeed 145 = .ok (.goto 4, 3) := by decide +kernel
theorem dX10_doDeed_148 : decode cX10_doDeed 148 = .ok (.iconst (-1), 1) := by decide +kernel
theorem dX10_doDeed_149 : decode cX10_doDeed 149 = .ok (.ireturn, 1) := by decide +kernel
theorem dX10_doDeed_150 : decode cX10_doDeed 150 = .ok (.aload_n 0, 1) := by decide +kernel
theorem dX10_doDeed_151 : decode cX10_doDeed 151 = .ok (.iload_n 2, 1) := by decide +kernel
theorem dX10_doDeed_152 : decode cX10_doDeed 152 = .ok (.invokevirtual 140, 3) := by decide +kernel
theorem dX10_doDeed_155 : decode cX10_doDeed 155 = .ok (.istore 5, 2) := by decide +kernel
theorem dX10_doDeed_157 : decode cX10_doDeed 157 = .ok (.iload 5, 2) := by decide +kernel
theorem dX10_doDeed_159 : decode cX10_doDeed 159 = .ok (.ifCond .ge 8, 3) := by decide +kernel
theorem dX10_doDeed_162 : decode cX10_doDeed 162 = .ok (.iload 5, 2) := by decide +kernel
theorem dX10_doDeed_164 : decode cX10_doDeed 164 = .ok (.goto 8, 3) := by decide +kernel
theorem dX10_doDeed_167 : decode cX10_doDeed 167 = .ok (.aload_n 0, 1) := by decide +kernel
theorem dX10_doDeed_168 : decode cX10_doDeed 168 = .ok (.iload_n 2, 1) := by decide +kernel
theorem dX10_doDeed_169 : decode cX10_doDeed 169 = .ok (.invokevirtual 143, 3) := by decide +kernel
theorem dX10_doDeed_172 : decode cX10_doDeed 172 = .ok (.ireturn, 1) := by decide +kernel
theorem dX10_enrol_0 : decode cX10_enrol 0 = .ok (.aload_n 0, 1) := by decide +kernel
theorem dX10_enrol_1 : decode cX10_enrol 1 = .ok (.invokevirtual 174, 3) := by decide +kernel
theorem dX10_enrol_4 : decode cX10_enrol 4 = .ok (.ifCond .ne 6, 3) := by decide +kernel
theorem dX10_enrol_7 : decode cX10_enrol 7 = .ok (.bipush (-2), 2) := by decide +kernel
theorem dX10_enrol_9 : decode cX10_enrol 9 = .ok (.ireturn, 1) := by decide +kernel
theorem dX10_enrol_10 : decode cX10_enrol 10 = .ok (.aload_n 0, 1) := by decide +kernel
theorem dX10_enrol_11 : decode cX10_enrol 11 = .ok (.invokevirtual 75, 3) := by decide +kernel
theorem dX10_enrol_14 : decode cX10_enrol 14 = .ok (.aload_n 0, 1) := by decide +kernel
theorem dX10_enrol_15 : decode cX10_enrol 15 = .ok (.bipush (-4), 2) := by decide +kernel
theorem dX10_enrol_17 : decode cX10_enrol 17 = .ok (.putfield 22, 3) := by decide +kernel
theorem dX10_enrol_20 : decode cX10_enrol 20 = .ok (.aload_n 0, 1) := by decide +kernel
theorem dX10_enrol_21 : decode cX10_enrol 21 = .ok (.bipush (-4), 2) := by decide +kernel
theorem dX10_enrol_23 : decode cX10_enrol 23 = .ok (.putfield 26, 3) := by decide +kernel
theorem dX10_enrol_26 : decode cX10_enrol 26 = .ok (.aload_n 0, 1) := by decide +kernel
theorem dX10_enrol_27 : decode cX10_enrol 27 = .ok (.bipush (-4), 2) := by decide +kernel
theorem dX10_enrol_29 : decode cX10_enrol 29 = .ok (.putfield 29, 3) := by decide +kernel
theorem dX10_enrol_32 : decode cX10_enrol 32 = .ok (.iconst 0, 1) := by decide +kernel
theorem dX10_enrol_33 : decode cX10_enrol 33 = .ok (.istore_n 1, 1) := by decide +kernel
theorem dX10_enrol_34 : decode cX10_enrol 34 = .ok (.iconst 1, 1) := by decide +kernel
theorem dX10_enrol_35 : decode cX10_enrol 35 = .ok (.istore_n 2, 1) := by decide +kernel
theorem dX10_enrol_36 : decode cX10_enrol 36 = .ok (.iload_n 2, 1) := by decide +kernel
theorem dX10_enrol_37 : decode cX10_enrol 37 = .ok (.ifCond .eq 64, 3) := by decide +kernel
theorem dX10_enrol_40 : decode cX10_enrol 40 = .ok (.iload_n 1, 1) := by decide +kernel
theorem dX10_enrol_41 : decode cX10_enrol 41 = .ok (.aload_n 0, 1) := by decide +kernel
theorem dX10_enrol_42 : decode cX10_enrol 42 = .ok (.getfield 158, 3) := by decide +kernel
theorem dX10_enrol_45 : decode cX10_enrol 45 = .ok (.if_icmp .ge 56, 3) := by decide +kernel
theorem dX10_enrol_48 : decode cX10_enrol 48 = .ok (.aload_n 0, 1) := by decide +kernel
theorem dX10_enrol_49 : decode cX10_enrol 49 = .ok (.iload_n 1, 1) := by decide +kernel
theorem dX10_enrol_50 : decode cX10_enrol 50 = .ok (.invokevirtual 177, 3) := by decide +kernel
theorem dX10_enrol_53 : decode cX10_enrol 53 = .ok (.istore_n 3, 1) := by decide +kernel
theorem dX10_enrol_54 : decode cX10_enrol 54 = .ok (.iload_n 3, 1) := by decide +kernel
theorem dX10_enrol_55 : decode cX10_enrol 55 = .ok (.bipush 10, 2) := by decide +kernel
theorem dX10_enrol_57 : decode cX10_enrol 57 = .ok (.if_icmp .lt 7, 3) := by decide +kernel
theorem dX10_enrol_60 : decode cX10_enrol 60 = .ok (.iconst 1, 1) := by decide +kernel
theorem dX10_enrol_61 : decode cX10_enrol 61 = .ok (.goto 4, 3) := by decide +kernel
theorem dX10_enrol_64 : decode cX10_enrol 64 = .ok (.iconst 0, 1) := by decide +kernel
theorem dX10_enrol_65 : decode cX10_enrol 65 = .ok (.istore_n 2, 1) := by decide +kernel
theorem dX10_enrol_66 : decode cX10_enrol 66 = .ok (.iload_n 2, 1) := by decide +kernel
theorem dX10_enrol_67 : decode cX10_enrol 67 = .ok (.ifCond .eq 9, 3) := by decide +kernel
theorem dX10_enrol_70 : decode cX10_enrol 70 = .ok (.iinc 1 1, 3) := by decide +kernel
theorem dX10_enrol_73 : decode cX10_enrol 73 = .ok (.goto 25, 3) := by decide +kernel
theorem dX10_enrol_76 : decode cX10_enrol 76 = .ok (.aload_n 0, 1) := by decide +kernel
theorem dX10_enrol_77 : decode cX10_enrol 77 = .ok (.iload_n 3, 1) := by decide +kernel
theorem dX10_enrol_78 : decode cX10_enrol 78 = .ok (.putfield 22, 3) := by decide +kernel
theorem dX10_enrol_81 : decode cX10_enrol 81 = .ok (.aload_n 0, 1) := by decide +kernel
theorem dX10_enrol_82 : decode cX10_enrol 82 = .ok (.iload_n 1, 1) := by decide +kernel
theorem dX10_enrol_83 : decode cX10_enrol 83 = .ok (.putfield 26, 3) := by decide +kernel
theorem dX10_enrol_86 : decode cX10_enrol 86 = .ok (.aload_n 0, 1) := by decide +kernel
theorem dX10_enrol_87 : decode cX10_enrol 87 = .ok (.aload_n 0, 1) := by decide +kernel
theorem dX10_enrol_88 : decode cX10_enrol 88 = .ok (.getfield 32, 3) := by decide +kernel
theorem dX10_enrol_91 : decode cX10_enrol 91 = .ok (.iconst 4, 1) := by decide +kernel
theorem dX10_enrol_92 : decode cX10_enrol 92 = .ok (.iload_n 1, 1) := by decide +kernel
theorem dX10_enrol_93 : decode cX10_enrol 93 = .ok (.imul, 1) := by decide +kernel
theorem dX10_enrol_94 : decode cX10_enrol 94 = .ok (.iaload, 1) := by decide +kernel
theorem dX10_enrol_95 : decode cX10_enrol 95 = .ok (.putfield 29, 3) := by decide +kernel
theorem dX10_enrol_98 : decode cX10_enrol 98 = .ok (.goto (-62), 3) := by decide +kernel
theorem dX10_enrol_101 : decode cX10_enrol 101 = .ok (.aload_n 0, 1) := by decide +kernel
theorem dX10_enrol_102 : decode cX10_enrol 102 = .ok (.iconst 0, 1) := by decide +kernel
theorem dX10_enrol_103 : decode cX10_enrol 103 = .ok (.putfield 146, 3) := by decide +kernel
theorem dX10_enrol_106 : decode cX10_enrol 106 = .ok (.iload_n 1, 1) := by decide +kernel
theorem dX10_enrol_107 : decode cX10_enrol 107 = .ok (.ireturn, 1) := by decide +kernel
theorem dX10_why_0 : decode cX10_why 0 = .ok (.iload_n 1, 1) := by decide +kernel
theorem dX10_why_1 : decode cX10_why 1 = .ok (.ifCond .ne 10, 3) := by decide +kernel
theorem dX10_why_4 : decode cX10_why 4 = .ok (.aload_n 0, 1) := by decide +kernel
theorem dX10_why_5 : decode cX10_why 5 = .ok (.getfield 22, 3) := by decide +kernel
theorem dX10_why_8 : decode cX10_why 8 = .ok (.goto 28, 3) := by decide +kernel
theorem dX10_why_11 : decode cX10_why 11 = .ok (.iload_n 1, 1) := by decide +kernel
theorem dX10_why_12 : decode cX10_why 12 = .ok (.iconst 1, 1) := by decide +kernel
theorem dX10_why_13 : decode cX10_why 13 = .ok (.if_icmp .ne 10, 3) := by decide +kernel
theorem dX10_why_16 : decode cX10_why 16 = .ok (.aload_n 0, 1) := by decide +kernel
theorem dX10_why_17 : decode cX10_why 17 = .ok (.getfield 26, 3) := by decide +kernel
theorem dX10_why_20 : decode cX10_why 20 = .ok (.goto 16, 3) := by decide +kernel
theorem dX10_why_23 : decode cX10_why 23 = .ok (.iload_n 1, 1) := by decide +kernel
theorem dX10_why_24 : decode cX10_why 24 = .ok (.iconst 2, 1) := by decide +kernel
theorem dX10_why_25 : decode cX10_why 25 = .ok (.if_icmp .ne 10, 3) := by decide +kernel
theorem dX10_why_28 : decode cX10_why 28 = .ok (.aload_n 0, 1) := by decide +kernel
theorem dX10_why_29 : decode cX10_why 29 = .ok (.getfield 29, 3) := by decide +kernel
theorem dX10_why_32 : decode cX10_why 32 = .ok (.goto 4, 3) := by decide +kernel
theorem dX10_why_35 : decode cX10_why 35 = .ok (.iconst (-1), 1) := by decide +kernel
theorem dX10_why_36 : decode cX10_why 36 = .ok (.ireturn, 1) := by decide +kernel
theorem dX10_livingKin_0 : decode cX10_livingKin 0 = .ok (.iconst 0, 1) := by decide +kernel
theorem dX10_livingKin_1 : decode cX10_livingKin 1 = .ok (.istore_n 3, 1) := by decide +kernel
theorem dX10_livingKin_2 : decode cX10_livingKin 2 = .ok (.iconst 0, 1) := by decide +kernel
theorem dX10_livingKin_3 : decode cX10_livingKin 3 = .ok (.istore 4, 2) := by decide +kernel
theorem dX10_livingKin_5 : decode cX10_livingKin 5 = .ok (.iload 4, 2) := by decide +kernel
theorem dX10_livingKin_7 : decode cX10_livingKin 7 = .ok (.aload_n 0, 1) := by decide +kernel
theorem dX10_livingKin_8 : decode cX10_livingKin 8 = .ok (.getfield 7, 3) := by decide +kernel
theorem dX10_livingKin_11 : decode cX10_livingKin 11 = .ok (.iconst 0, 1) := by decide +kernel
theorem dX10_livingKin_12 : decode cX10_livingKin 12 = .ok (.iaload, 1) := by decide +kernel
theorem dX10_livingKin_13 : decode cX10_livingKin 13 = .ok (.if_icmp .ge 54, 3) := by decide +kernel
theorem dX10_livingKin_16 : decode cX10_livingKin 16 = .ok (.iload_n 2, 1) := by decide +kernel
theorem dX10_livingKin_17 : decode cX10_livingKin 17 = .ok (.ifCond .eq 13, 3) := by decide +kernel
theorem dX10_livingKin_20 : decode cX10_livingKin 20 = .ok (.aload_n 0, 1) := by decide +kernel
theorem dX10_livingKin_21 : decode cX10_livingKin 21 = .ok (.iload_n 1, 1) := by decide +kernel
theorem dX10_livingKin_22 : decode cX10_livingKin 22 = .ok (.iload 4, 2) := by decide +kernel
theorem dX10_livingKin_24 : decode cX10_livingKin 24 = .ok (.invokevirtual 180, 3) := by decide +kernel
theorem dX10_livingKin_27 : decode cX10_livingKin 27 = .ok (.goto 10, 3) := by decide +kernel
theorem dX10_livingKin_30 : decode cX10_livingKin 30 = .ok (.aload_n 0, 1) := by decide +kernel
theorem dX10_livingKin_31 : decode cX10_livingKin 31 = .ok (.iload_n 1, 1) := by decide +kernel
theorem dX10_livingKin_32 : decode cX10_livingKin 32 = .ok (.iload 4, 2) := by decide +kernel
theorem dX10_livingKin_34 : decode cX10_livingKin 34 = .ok (.invokevirtual 78, 3) := by decide +kernel
theorem dX10_livingKin_37 : decode cX10_livingKin 37 = .ok (.istore 5, 2) := by decide +kernel
theorem dX10_livingKin_39 : decode cX10_livingKin 39 = .ok (.iload_n 3, 1) := by decide +kernel
theorem dX10_livingKin_40 : decode cX10_livingKin 40 = .ok (.aload_n 0, 1) := by decide +kernel
theorem dX10_livingKin_41 : decode cX10_livingKin 41 = .ok (.iload 4, 2) := by decide +kernel
theorem dX10_livingKin_43 : decode cX10_livingKin 43 = .ok (.invokevirtual 56, 3) := by decide +kernel
theorem dX10_livingKin_46 : decode cX10_livingKin 46 = .ok (.ifCond .eq 12, 3) := by decide +kernel
theorem dX10_livingKin_49 : decode cX10_livingKin 49 = .ok (.iload 5, 2) := by decide +kernel
theorem dX10_livingKin_51 : decode cX10_livingKin 51 = .ok (.ifCond .eq 7, 3) := by decide +kernel
theorem dX10_livingKin_54 : decode cX10_livingKin 54 = .ok (.iconst 1, 1) := by decide +kernel
theorem dX10_livingKin_55 : decode cX10_livingKin 55 = .ok (.goto 4, 3) := by decide +kernel
theorem dX10_livingKin_58 : decode cX10_livingKin 58 = .ok (.iconst 0, 1) := by decide +kernel
theorem dX10_livingKin_59 : decode cX10_livingKin 59 = .ok (.iadd, 1) := by decide +kernel
theorem dX10_livingKin_60 : decode cX10_livingKin 60 = .ok (.istore_n 3, 1) := by decide +kernel
theorem dX10_livingKin_61 : decode cX10_livingKin 61 = .ok (.iinc 4 1, 3) := by decide +kernel
theorem dX10_livingKin_64 : decode cX10_livingKin 64 = .ok (.goto (-59), 3) := by decide +kernel
theorem dX10_livingKin_67 : decode cX10_livingKin 67 = .ok (.iload_n 3, 1) := by decide +kernel
theorem dX10_livingKin_68 : decode cX10_livingKin 68 = .ok (.ireturn, 1) := by decide +kernel
