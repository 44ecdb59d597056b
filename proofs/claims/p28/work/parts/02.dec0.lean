theorem dX0_founders_0 : decode cX0_founders 0 = .ok (.iconst 0, 1) := by decide +kernel
theorem dX0_founders_1 : decode cX0_founders 1 = .ok (.istore_n 1, 1) := by decide +kernel
theorem dX0_founders_2 : decode cX0_founders 2 = .ok (.iconst 0, 1) := by decide +kernel
theorem dX0_founders_3 : decode cX0_founders 3 = .ok (.istore_n 2, 1) := by decide +kernel
theorem dX0_founders_4 : decode cX0_founders 4 = .ok (.iload_n 2, 1) := by decide +kernel
theorem dX0_founders_5 : decode cX0_founders 5 = .ok (.aload_n 0, 1) := by decide +kernel
theorem dX0_founders_6 : decode cX0_founders 6 = .ok (.invokevirtual 9, 3) := by decide +kernel
theorem dX0_founders_9 : decode cX0_founders 9 = .ok (.if_icmp .ge 21, 3) := by decide +kernel
theorem dX0_founders_12 : decode cX0_founders 12 = .ok (.aload_n 0, 1) := by decide +kernel
theorem dX0_founders_13 : decode cX0_founders 13 = .ok (.iload_n 2, 1) := by decide +kernel
theorem dX0_founders_14 : decode cX0_founders 14 = .ok (.invokevirtual 15, 3) := by decide +kernel
theorem dX0_founders_17 : decode cX0_founders 17 = .ok (.iconst (-1), 1) := by decide +kernel
theorem dX0_founders_18 : decode cX0_founders 18 = .ok (.if_icmp .ne 6, 3) := by decide +kernel
theorem dX0_founders_21 : decode cX0_founders 21 = .ok (.iinc 1 1, 3) := by decide +kernel
theorem dX0_founders_24 : decode cX0_founders 24 = .ok (.iinc 2 1, 3) := by decide +kernel
theorem dX0_founders_27 : decode cX0_founders 27 = .ok (.goto (-23), 3) := by decide +kernel
theorem dX0_founders_30 : decode cX0_founders 30 = .ok (.iload_n 1, 1) := by decide +kernel
theorem dX0_founders_31 : decode cX0_founders 31 = .ok (.ireturn, 1) := by decide +kernel
theorem dX0_confusedPairs_0 : decode cX0_confusedPairs 0 = .ok (.iconst 0, 1) := by decide +kernel
theorem dX0_confusedPairs_1 : decode cX0_confusedPairs 1 = .ok (.istore_n 1, 1) := by decide +kernel
theorem dX0_confusedPairs_2 : decode cX0_confusedPairs 2 = .ok (.iconst 0, 1) := by decide +kernel
theorem dX0_confusedPairs_3 : decode cX0_confusedPairs 3 = .ok (.istore_n 2, 1) := by decide +kernel
theorem dX0_confusedPairs_4 : decode cX0_confusedPairs 4 = .ok (.iload_n 2, 1) := by decide +kernel
theorem dX0_confusedPairs_5 : decode cX0_confusedPairs 5 = .ok (.aload_n 0, 1) := by decide +kernel
theorem dX0_confusedPairs_6 : decode cX0_confusedPairs 6 = .ok (.invokevirtual 9, 3) := by decide +kernel
theorem dX0_confusedPairs_9 : decode cX0_confusedPairs 9 = .ok (.if_icmp .ge 39, 3) := by decide +kernel
theorem dX0_confusedPairs_12 : decode cX0_confusedPairs 12 = .ok (.iload_n 2, 1) := by decide +kernel
theorem dX0_confusedPairs_13 : decode cX0_confusedPairs 13 = .ok (.iconst 1, 1) := by decide +kernel
theorem dX0_confusedPairs_14 : decode cX0_confusedPairs 14 = .ok (.iadd, 1) := by decide +kernel
theorem dX0_confusedPairs_15 : decode cX0_confusedPairs 15 = .ok (.istore_n 3, 1) := by decide +kernel
theorem dX0_confusedPairs_16 : decode cX0_confusedPairs 16 = .ok (.iload_n 3, 1) := by decide +kernel
theorem dX0_confusedPairs_17 : decode cX0_confusedPairs 17 = .ok (.aload_n 0, 1) := by decide +kernel
theorem dX0_confusedPairs_18 : decode cX0_confusedPairs 18 = .ok (.invokevirtual 9, 3) := by decide +kernel
theorem dX0_confusedPairs_21 : decode cX0_confusedPairs 21 = .ok (.if_icmp .ge 21, 3) := by decide +kernel
theorem dX0_confusedPairs_24 : decode cX0_confusedPairs 24 = .ok (.aload_n 0, 1) := by decide +kernel
theorem dX0_confusedPairs_25 : decode cX0_confusedPairs 25 = .ok (.iload_n 2, 1) := by decide +kernel
theorem dX0_confusedPairs_26 : decode cX0_confusedPairs 26 = .ok (.iload_n 3, 1) := by decide +kernel
theorem dX0_confusedPairs_27 : decode cX0_confusedPairs 27 = .ok (.invokestatic 19, 3) := by decide +kernel
theorem dX0_confusedPairs_30 : decode cX0_confusedPairs 30 = .ok (.ifCond .eq 6, 3) := by decide +kernel
theorem dX0_confusedPairs_33 : decode cX0_confusedPairs 33 = .ok (.iinc 1 1, 3) := by decide +kernel
theorem dX0_confusedPairs_36 : decode cX0_confusedPairs 36 = .ok (.iinc 3 1, 3) := by decide +kernel
theorem dX0_confusedPairs_39 : decode cX0_confusedPairs 39 = .ok (.goto (-23), 3) := by decide +kernel
theorem dX0_confusedPairs_42 : decode cX0_confusedPairs 42 = .ok (.iinc 2 1, 3) := by decide +kernel
theorem dX0_confusedPairs_45 : decode cX0_confusedPairs 45 = .ok (.goto (-41), 3) := by decide +kernel
theorem dX0_confusedPairs_48 : decode cX0_confusedPairs 48 = .ok (.iload_n 1, 1) := by decide +kernel
theorem dX0_confusedPairs_49 : decode cX0_confusedPairs 49 = .ok (.ireturn, 1) := by decide +kernel
theorem dX0_areConfused_0 : decode cX0_areConfused 0 = .ok (.aload_n 0, 1) := by decide +kernel
theorem dX0_areConfused_1 : decode cX0_areConfused 1 = .ok (.iload_n 1, 1) := by decide +kernel
theorem dX0_areConfused_2 : decode cX0_areConfused 2 = .ok (.invokevirtual 25, 3) := by decide +kernel
theorem dX0_areConfused_5 : decode cX0_areConfused 5 = .ok (.ifCond .eq 50, 3) := by decide +kernel
theorem dX0_areConfused_8 : decode cX0_areConfused 8 = .ok (.aload_n 0, 1) := by decide +kernel
theorem dX0_areConfused_9 : decode cX0_areConfused 9 = .ok (.iload_n 2, 1) := by decide +kernel
theorem dX0_areConfused_10 : decode cX0_areConfused 10 = .ok (.invokevirtual 25, 3) := by decide +kernel
theorem dX0_areConfused_13 : decode cX0_areConfused 13 = .ok (.ifCond .eq 42, 3) := by decide +kernel
theorem dX0_areConfused_16 : decode cX0_areConfused 16 = .ok (.aload_n 0, 1) := by decide +kernel
theorem dX0_areConfused_17 : decode cX0_areConfused 17 = .ok (.iload_n 1, 1) := by decide +kernel
theorem dX0_areConfused_18 : decode cX0_areConfused 18 = .ok (.invokevirtual 15, 3) := by decide +kernel
theorem dX0_areConfused_21 : decode cX0_areConfused 21 = .ok (.iload_n 2, 1) := by decide +kernel
theorem dX0_areConfused_22 : decode cX0_areConfused 22 = .ok (.if_icmp .eq 33, 3) := by decide +kernel
theorem dX0_areConfused_25 : decode cX0_areConfused 25 = .ok (.aload_n 0, 1) := by decide +kernel
theorem dX0_areConfused_26 : decode cX0_areConfused 26 = .ok (.iload_n 2, 1) := by decide +kernel
theorem dX0_areConfused_27 : decode cX0_areConfused 27 = .ok (.invokevirtual 15, 3) := by decide +kernel
theorem dX0_areConfused_30 : decode cX0_areConfused 30 = .ok (.iload_n 1, 1) := by decide +kernel
theorem dX0_areConfused_31 : decode cX0_areConfused 31 = .ok (.if_icmp .eq 24, 3) := by decide +kernel
theorem dX0_areConfused_34 : decode cX0_areConfused 34 = .ok (.aload_n 0, 1) := by decide +kernel
theorem dX0_areConfused_35 : decode cX0_areConfused 35 = .ok (.iload_n 1, 1) := by decide +kernel
theorem dX0_areConfused_36 : decode cX0_areConfused 36 = .ok (.invokevirtual 29, 3) := by decide +kernel
theorem dX0_areConfused_39 : decode cX0_areConfused 39 = .ok (.aload_n 0, 1) := by decide +kernel
theorem dX0_areConfused_40 : decode cX0_areConfused 40 = .ok (.iload_n 2, 1) := by decide +kernel
theorem dX0_areConfused_41 : decode cX0_areConfused 41 = .ok (.invokevirtual 29, 3) := by decide +kernel
theorem dX0_areConfused_44 : decode cX0_areConfused 44 = .ok (.invokestatic 32, 3) := by decide +kernel
theorem dX0_areConfused_47 : decode cX0_areConfused 47 = .ok (.iconst 1, 1) := by decide +kernel
theorem dX0_areConfused_48 : decode cX0_areConfused 48 = .ok (.if_icmp .ne 7, 3) := by decide +kernel
theorem dX0_areConfused_51 : decode cX0_areConfused 51 = .ok (.iconst 1, 1) := by decide +kernel
theorem dX0_areConfused_52 : decode cX0_areConfused 52 = .ok (.goto 4, 3) := by decide +kernel
theorem dX0_areConfused_55 : decode cX0_areConfused 55 = .ok (.iconst 0, 1) := by decide +kernel
theorem dX0_areConfused_56 : decode cX0_areConfused 56 = .ok (.ireturn, 1) := by decide +kernel
theorem dX0_mostStepsFromFounder_0 : decode cX0_mostStepsFromFounder 0 = .ok (.iconst 0, 1) := by decide +kernel
theorem dX0_mostStepsFromFounder_1 : decode cX0_mostStepsFromFounder 1 = .ok (.istore_n 1, 1) := by decide +kernel
theorem dX0_mostStepsFromFounder_2 : decode cX0_mostStepsFromFounder 2 = .ok (.iconst 0, 1) := by decide +kernel
theorem dX0_mostStepsFromFounder_3 : decode cX0_mostStepsFromFounder 3 = .ok (.istore_n 2, 1) := by decide +kernel
theorem dX0_mostStepsFromFounder_4 : decode cX0_mostStepsFromFounder 4 = .ok (.iload_n 2, 1) := by decide +kernel
theorem dX0_mostStepsFromFounder_5 : decode cX0_mostStepsFromFounder 5 = .ok (.aload_n 0, 1) := by decide +kernel
theorem dX0_mostStepsFromFounder_6 : decode cX0_mostStepsFromFounder 6 = .ok (.invokevirtual 9, 3) := by decide +kernel
theorem dX0_mostStepsFromFounder_9 : decode cX0_mostStepsFromFounder 9 = .ok (.if_icmp .ge 19, 3) := by decide +kernel
theorem dX0_mostStepsFromFounder_12 : decode cX0_mostStepsFromFounder 12 = .ok (.iload_n 1, 1) := by decide +kernel
theorem dX0_mostStepsFromFounder_13 : decode cX0_mostStepsFromFounder 13 = .ok (.aload_n 0, 1) := by decide +kernel
theorem dX0_mostStepsFromFounder_14 : decode cX0_mostStepsFromFounder 14 = .ok (.iload_n 2, 1) := by decide +kernel
theorem dX0_mostStepsFromFounder_15 : decode cX0_mostStepsFromFounder 15 = .ok (.invokestatic 38, 3) := by decide +kernel
theorem dX0_mostStepsFromFounder_18 : decode cX0_mostStepsFromFounder 18 = .ok (.invokestatic 44, 3) := by decide +kernel
theorem dX0_mostStepsFromFounder_21 : decode cX0_mostStepsFromFounder 21 = .ok (.istore_n 1, 1) := by decide +kernel
theorem dX0_mostStepsFromFounder_22 : decode cX0_mostStepsFromFounder 22 = .ok (.iinc 2 1, 3) := by decide +kernel
theorem dX0_mostStepsFromFounder_25 : decode cX0_mostStepsFromFounder 25 = .ok (.goto (-21), 3) := by decide +kernel
theorem dX0_mostStepsFromFounder_28 : decode cX0_mostStepsFromFounder 28 = .ok (.iload_n 1, 1) := by decide +kernel
theorem dX0_mostStepsFromFounder_29 : decode cX0_mostStepsFromFounder 29 = .ok (.ireturn, 1) := by decide +kernel
theorem dX0_differentShields_0 : decode cX0_differentShields 0 = .ok (.iconst 0, 1) := by decide +kernel
theorem dX0_differentShields_1 : decode cX0_differentShields 1 = .ok (.istore_n 1, 1) := by decide +kernel
theorem dX0_differentShields_2 : decode cX0_differentShields 2 = .ok (.iconst 0, 1) := by decide +kernel
theorem dX0_differentShields_3 : decode cX0_differentShields 3 = .ok (.istore_n 2, 1) := by decide +kernel
theorem dX0_differentShields_4 : decode cX0_differentShields 4 = .ok (.iload_n 2, 1) := by decide +kernel
theorem dX0_differentShields_5 : decode cX0_differentShields 5 = .ok (.aload_n 0, 1) := by decide +kernel
theorem dX0_differentShields_6 : decode cX0_differentShields 6 = .ok (.invokevirtual 9, 3) := by decide +kernel
theorem dX0_differentShields_9 : decode cX0_differentShields 9 = .ok (.if_icmp .ge 20, 3) := by decide +kernel
theorem dX0_differentShields_12 : decode cX0_differentShields 12 = .ok (.aload_n 0, 1) := by decide +kernel
theorem dX0_differentShields_13 : decode cX0_differentShields 13 = .ok (.iload_n 2, 1) := by decide +kernel
theorem dX0_differentShields_14 : decode cX0_differentShields 14 = .ok (.invokestatic 49, 3) := by decide +kernel
theorem dX0_differentShields_17 : decode cX0_differentShields 17 = .ok (.ifCond .eq 6, 3) := by decide +kernel
theorem dX0_differentShields_20 : decode cX0_differentShields 20 = .ok (.iinc 1 1, 3) := by decide +kernel
theorem dX0_differentShields_23 : decode cX0_differentShields 23 = .ok (.iinc 2 1, 3) := by decide +kernel
theorem dX0_differentShields_26 : decode cX0_differentShields 26 = .ok (.goto (-22), 3) := by decide +kernel
theorem dX0_differentShields_29 : decode cX0_differentShields 29 = .ok (.iload_n 1, 1) := by decide +kernel
theorem dX0_differentShields_30 : decode cX0_differentShields 30 = .ok (.ireturn, 1) := by decide +kernel
theorem dX0_isFirstWithItsShield_0 : decode cX0_isFirstWithItsShield 0 = .ok (.iconst 0, 1) := by decide +kernel
theorem dX0_isFirstWithItsShield_1 : decode cX0_isFirstWithItsShield 1 = .ok (.istore_n 2, 1) := by decide +kernel
theorem dX0_isFirstWithItsShield_2 : decode cX0_isFirstWithItsShield 2 = .ok (.iload_n 2, 1) := by decide +kernel
theorem dX0_isFirstWithItsShield_3 : decode cX0_isFirstWithItsShield 3 = .ok (.iload_n 1, 1) := by decide +kernel
theorem dX0_isFirstWithItsShield_4 : decode cX0_isFirstWithItsShield 4 = .ok (.if_icmp .ge 24, 3) := by decide +kernel
theorem dX0_isFirstWithItsShield_7 : decode cX0_isFirstWithItsShield 7 = .ok (.aload_n 0, 1) := by decide +kernel
theorem dX0_isFirstWithItsShield_8 : decode cX0_isFirstWithItsShield 8 = .ok (.iload_n 2, 1) := by decide +kernel
theorem dX0_isFirstWithItsShield_9 : decode cX0_isFirstWithItsShield 9 = .ok (.invokevirtual 29, 3) := by decide +kernel
theorem dX0_isFirstWithItsShield_12 : decode cX0_isFirstWithItsShield 12 = .ok (.aload_n 0, 1) := by decide +kernel
theorem dX0_isFirstWithItsShield_13 : decode cX0_isFirstWithItsShield 13 = .ok (.iload_n 1, 1) := by decide +kernel
theorem dX0_isFirstWithItsShield_14 : decode cX0_isFirstWithItsShield 14 = .ok (.invokevirtual 29, 3) := by decide +kernel
theorem dX0_isFirstWithItsShield_17 : decode cX0_isFirstWithItsShield 17 = .ok (.if_icmp .ne 5, 3) := by decide +kernel
theorem dX0_isFirstWithItsShield_20 : decode cX0_isFirstWithItsShield 20 = .ok (.iconst 0, 1) := by decide +kernel
theorem dX0_isFirstWithItsShield_21 : decode cX0_isFirstWithItsShield 21 = .ok (.ireturn, 1) := by decide +kernel
theorem dX0_isFirstWithItsShield_22 : decode cX0_isFirstWithItsShield 22 = .ok (.iinc 2 1, 3) := by decide +kernel
theorem dX0_isFirstWithItsShield_25 : decode cX0_isFirstWithItsShield 25 = .ok (.goto (-23), 3) := by decide +kernel
theorem dX0_isFirstWithItsShield_28 : decode cX0_isFirstWithItsShield 28 = .ok (.iconst 1, 1) := by decide +kernel
theorem dX0_isFirstWithItsShield_29 : decode cX0_isFirstWithItsShield 29 = .ok (.ireturn, 1) := by decide +kernel
theorem dX0_farFromFather_0 : decode cX0_farFromFather 0 = .ok (.iconst 0, 1) := by decide +kernel
theorem dX0_farFromFather_1 : decode cX0_farFromFather 1 = .ok (.istore_n 1, 1) := by decide +kernel
theorem dX0_farFromFather_2 : decode cX0_farFromFather 2 = .ok (.iconst 0, 1) := by decide +kernel
theorem dX0_farFromFather_3 : decode cX0_farFromFather 3 = .ok (.istore_n 2, 1) := by decide +kernel
theorem dX0_farFromFather_4 : decode cX0_farFromFather 4 = .ok (.iload_n 2, 1) := by decide +kernel
theorem dX0_farFromFather_5 : decode cX0_farFromFather 5 = .ok (.aload_n 0, 1) := by decide +kernel
theorem dX0_farFromFather_6 : decode cX0_farFromFather 6 = .ok (.invokevirtual 9, 3) := by decide +kernel
theorem dX0_farFromFather_9 : decode cX0_farFromFather 9 = .ok (.if_icmp .ge 29, 3) := by decide +kernel
theorem dX0_farFromFather_12 : decode cX0_farFromFather 12 = .ok (.aload_n 0, 1) := by decide +kernel
theorem dX0_farFromFather_13 : decode cX0_farFromFather 13 = .ok (.iload_n 2, 1) := by decide +kernel
theorem dX0_farFromFather_14 : decode cX0_farFromFather 14 = .ok (.invokevirtual 25, 3) := by decide +kernel
theorem dX0_farFromFather_17 : decode cX0_farFromFather 17 = .ok (.ifCond .eq 15, 3) := by decide +kernel
theorem dX0_farFromFather_20 : decode cX0_farFromFather 20 = .ok (.aload_n 0, 1) := by decide +kernel
theorem dX0_farFromFather_21 : decode cX0_farFromFather 21 = .ok (.iload_n 2, 1) := by decide +kernel
theorem dX0_farFromFather_22 : decode cX0_farFromFather 22 = .ok (.invokestatic 53, 3) := by decide +kernel
theorem dX0_farFromFather_25 : decode cX0_farFromFather 25 = .ok (.iconst 1, 1) := by decide +kernel
theorem dX0_farFromFather_26 : decode cX0_farFromFather 26 = .ok (.if_icmp .le 6, 3) := by decide +kernel
theorem dX0_farFromFather_29 : decode cX0_farFromFather 29 = .ok (.iinc 1 1, 3) := by decide +kernel
theorem dX0_farFromFather_32 : decode cX0_farFromFather 32 = .ok (.iinc 2 1, 3) := by decide +kernel
theorem dX0_farFromFather_35 : decode cX0_farFromFather 35 = .ok (.goto (-31), 3) := by decide +kernel
theorem dX0_farFromFather_38 : decode cX0_farFromFather 38 = .ok (.iload_n 1, 1) := by decide +kernel
theorem dX0_farFromFather_39 : decode cX0_farFromFather 39 = .ok (.ireturn, 1) := by decide +kernel
theorem dX0_livingSonless_0 : decode cX0_livingSonless 0 = .ok (.iconst 0, 1) := by decide +kernel
theorem dX0_livingSonless_1 : decode cX0_livingSonless 1 = .ok (.istore_n 1, 1) := by decide +kernel
theorem dX0_livingSonless_2 : decode cX0_livingSonless 2 = .ok (.iconst 0, 1) := by decide +kernel
theorem dX0_livingSonless_3 : decode cX0_livingSonless 3 = .ok (.istore_n 2, 1) := by decide +kernel
theorem dX0_livingSonless_4 : decode cX0_livingSonless 4 = .ok (.iload_n 2, 1) := by decide +kernel
theorem dX0_livingSonless_5 : decode cX0_livingSonless 5 = .ok (.aload_n 0, 1) := by decide +kernel
theorem dX0_livingSonless_6 : decode cX0_livingSonless 6 = .ok (.invokevirtual 9, 3) := by decide +kernel
theorem dX0_livingSonless_9 : decode cX0_livingSonless 9 = .ok (.if_icmp .ge 28, 3) := by decide +kernel
theorem dX0_livingSonless_12 : decode cX0_livingSonless 12 = .ok (.aload_n 0, 1) := by decide +kernel
theorem dX0_livingSonless_13 : decode cX0_livingSonless 13 = .ok (.iload_n 2, 1) := by decide +kernel
theorem dX0_livingSonless_14 : decode cX0_livingSonless 14 = .ok (.invokevirtual 25, 3) := by decide +kernel
theorem dX0_livingSonless_17 : decode cX0_livingSonless 17 = .ok (.ifCond .eq 14, 3) := by decide +kernel
theorem dX0_livingSonless_20 : decode cX0_livingSonless 20 = .ok (.aload_n 0, 1) := by decide +kernel
theorem dX0_livingSonless_21 : decode cX0_livingSonless 21 = .ok (.iload_n 2, 1) := by decide +kernel
theorem dX0_livingSonless_22 : decode cX0_livingSonless 22 = .ok (.invokevirtual 56, 3) := by decide +kernel
theorem dX0_livingSonless_25 : decode cX0_livingSonless 25 = .ok (.ifCond .ne 6, 3) := by decide +kernel
theorem dX0_livingSonless_28 : decode cX0_livingSonless 28 = .ok (.iinc 1 1, 3) := by decide +kernel
theorem dX0_livingSonless_31 : decode cX0_livingSonless 31 = .ok (.iinc 2 1, 3) := by decide +kernel
theorem dX0_livingSonless_34 : decode cX0_livingSonless 34 = .ok (.goto (-30), 3) := by decide +kernel
theorem dX0_livingSonless_37 : decode cX0_livingSonless 37 = .ok (.iload_n 1, 1) := by decide +kernel
theorem dX0_livingSonless_38 : decode cX0_livingSonless 38 = .ok (.ireturn, 1) := by decide +kernel
theorem dX0_livingWithMark_0 : decode cX0_livingWithMark 0 = .ok (.iconst 0, 1) := by decide +kernel
theorem dX0_livingWithMark_1 : decode cX0_livingWithMark 1 = .ok (.istore_n 3, 1) := by decide +kernel
theorem dX0_livingWithMark_2 : decode cX0_livingWithMark 2 = .ok (.iconst 0, 1) := by decide +kernel
theorem dX0_livingWithMark_3 : decode cX0_livingWithMark 3 = .ok (.istore 4, 2) := by decide +kernel
theorem dX0_livingWithMark_5 : decode cX0_livingWithMark 5 = .ok (.iload 4, 2) := by decide +kernel
theorem dX0_livingWithMark_7 : decode cX0_livingWithMark 7 = .ok (.aload_n 0, 1) := by decide +kernel
theorem dX0_livingWithMark_8 : decode cX0_livingWithMark 8 = .ok (.invokevirtual 9, 3) := by decide +kernel
theorem dX0_livingWithMark_11 : decode cX0_livingWithMark 11 = .ok (.if_icmp .ge 35, 3) := by decide +kernel
theorem dX0_livingWithMark_14 : decode cX0_livingWithMark 14 = .ok (.aload_n 0, 1) := by decide +kernel
theorem dX0_livingWithMark_15 : decode cX0_livingWithMark 15 = .ok (.iload 4, 2) := by decide +kernel
theorem dX0_livingWithMark_17 : decode cX0_livingWithMark 17 = .ok (.invokevirtual 25, 3) := by decide +kernel
theorem dX0_livingWithMark_20 : decode cX0_livingWithMark 20 = .ok (.ifCond .eq 20, 3) := by decide +kernel
theorem dX0_livingWithMark_23 : decode cX0_livingWithMark 23 = .ok (.aload_n 0, 1) := by decide +kernel
theorem dX0_livingWithMark_24 : decode cX0_livingWithMark 24 = .ok (.iload 4, 2) := by decide +kernel
theorem dX0_livingWithMark_26 : decode cX0_livingWithMark 26 = .ok (.invokevirtual 29, 3) := by decide +kernel
theorem dX0_livingWithMark_29 : decode cX0_livingWithMark 29 = .ok (.iload_n 1, 1) := by decide +kernel
theorem dX0_livingWithMark_30 : decode cX0_livingWithMark 30 = .ok (.invokestatic 59, 3) := by decide +kernel
theorem dX0_livingWithMark_33 : decode cX0_livingWithMark 33 = .ok (.iload_n 2, 1) := by decide +kernel
theorem dX0_livingWithMark_34 : decode cX0_livingWithMark 34 = .ok (.if_icmp .ne 6, 3) := by decide +kernel
theorem dX0_livingWithMark_37 : decode cX0_livingWithMark 37 = .ok (.iinc 3 1, 3) := by decide +kernel
theorem dX0_livingWithMark_40 : decode cX0_livingWithMark 40 = .ok (.iinc 4 1, 3) := by decide +kernel
theorem dX0_livingWithMark_43 : decode cX0_livingWithMark 43 = .ok (.goto (-38), 3) := by decide +kernel
theorem dX0_livingWithMark_46 : decode cX0_livingWithMark 46 = .ok (.iload_n 3, 1) := by decide +kernel
theorem dX0_livingWithMark_47 : decode cX0_livingWithMark 47 = .ok (.ireturn, 1) := by decide +kernel
theorem dX0_meanApart_0 : decode cX0_meanApart 0 = .ok (.iconst 0, 1) := by decide +kernel
theorem dX0_meanApart_1 : decode cX0_meanApart 1 = .ok (.istore_n 1, 1) := by decide +kernel
theorem dX0_meanApart_2 : decode cX0_meanApart 2 = .ok (.iconst 0, 1) := by decide +kernel
theorem dX0_meanApart_3 : decode cX0_meanApart 3 = .ok (.istore_n 2, 1) := by decide +kernel
theorem dX0_meanApart_4 : decode cX0_meanApart 4 = .ok (.iconst 0, 1) := by decide +kernel
theorem dX0_meanApart_5 : decode cX0_meanApart 5 = .ok (.istore_n 3, 1) := by decide +kernel
theorem dX0_meanApart_6 : decode cX0_meanApart 6 = .ok (.iload_n 3, 1) := by decide +kernel
theorem dX0_meanApart_7 : decode cX0_meanApart 7 = .ok (.aload_n 0, 1) := by decide +kernel
theorem dX0_meanApart_8 : decode cX0_meanApart 8 = .ok (.invokevirtual 9, 3) := by decide +kernel
theorem dX0_meanApart_11 : decode cX0_meanApart 11 = .ok (.if_icmp .ge 66, 3) := by decide +kernel
theorem dX0_meanApart_14 : decode cX0_meanApart 14 = .ok (.iload_n 3, 1) := by decide +kernel
theorem dX0_meanApart_15 : decode cX0_meanApart 15 = .ok (.iconst 1, 1) := by decide +kernel
theorem dX0_meanApart_16 : decode cX0_meanApart 16 = .ok (.iadd, 1) := by decide +kernel
theorem dX0_meanApart_17 : decode cX0_meanApart 17 = .ok (.istore 4, 2) := by decide +kernel
theorem dX0_meanApart_19 : decode cX0_meanApart 19 = .ok (.iload 4, 2) := by decide +kernel
theorem dX0_meanApart_21 : decode cX0_meanApart 21 = .ok (.aload_n 0, 1) := by decide +kernel
theorem dX0_meanApart_22 : decode cX0_meanApart 22 = .ok (.invokevirtual 9, 3) := by decide +kernel
theorem dX0_meanApart_25 : decode cX0_meanApart 25 = .ok (.if_icmp .ge 46, 3) := by decide +kernel
theorem dX0_meanApart_28 : decode cX0_meanApart 28 = .ok (.aload_n 0, 1) := by decide +kernel
theorem dX0_meanApart_29 : decode cX0_meanApart 29 = .ok (.iload_n 3, 1) := by decide +kernel
theorem dX0_meanApart_30 : decode cX0_meanApart 30 = .ok (.invokevirtual 25, 3) := by decide +kernel
theorem dX0_meanApart_33 : decode cX0_meanApart 33 = .ok (.ifCond .eq 32, 3) := by decide +kernel
theorem dX0_meanApart_36 : decode cX0_meanApart 36 = .ok (.aload_n 0, 1) := by decide +kernel
theorem dX0_meanApart_37 : decode cX0_meanApart 37 = .ok (.iload 4, 2) := by decide +kernel
theorem dX0_meanApart_39 : decode cX0_meanApart 39 = .ok (.invokevirtual 25, 3) := by decide +kernel
theorem dX0_meanApart_42 : decode cX0_meanApart 42 = .ok (.ifCond .eq 23, 3) := by decide +kernel
theorem dX0_meanApart_45 : decode cX0_meanApart 45 = .ok (.iload_n 1, 1) := by decide +kernel
theorem dX0_meanApart_46 : decode cX0_meanApart 46 = .ok (.aload_n 0, 1) := by decide +kernel
theorem dX0_meanApart_47 : decode cX0_meanApart 47 = .ok (.iload_n 3, 1) := by decide +kernel
theorem dX0_meanApart_48 : decode cX0_meanApart 48 = .ok (.invokevirtual 29, 3) := by decide +kernel
theorem dX0_meanApart_51 : decode cX0_meanApart 51 = .ok (.aload_n 0, 1) := by decide +kernel
theorem dX0_meanApart_52 : decode cX0_meanApart 52 = .ok (.iload 4, 2) := by decide +kernel
theorem dX0_meanApart_54 : decode cX0_meanApart 54 = .ok (.invokevirtual 29, 3) := by decide +kernel
theorem dX0_meanApart_57 : decode cX0_meanApart 57 = .ok (.invokestatic 32, 3) := by decide +kernel
theorem dX0_meanApart_60 : decode cX0_meanApart 60 = .ok (.iadd, 1) := by decide +kernel
theorem dX0_meanApart_61 : decode cX0_meanApart 61 = .ok (.istore_n 1, 1) := by decide +kernel
theorem dX0_meanApart_62 : decode cX0_meanApart 62 = .ok (.iinc 2 1, 3) := by decide +kernel
theorem dX0_meanApart_65 : decode cX0_meanApart 65 = .ok (.iinc 4 1, 3) := by decide +kernel
theorem dX0_meanApart_68 : decode cX0_meanApart 68 = .ok (.goto (-49), 3) := by decide +kernel
theorem dX0_meanApart_71 : decode cX0_meanApart 71 = .ok (.iinc 3 1, 3) := by decide +kernel
theorem dX0_meanApart_74 : decode cX0_meanApart 74 = .ok (.goto (-68), 3) := by decide +kernel
theorem dX0_meanApart_77 : decode cX0_meanApart 77 = .ok (.iload_n 2, 1) := by decide +kernel
theorem dX0_meanApart_78 : decode cX0_meanApart 78 = .ok (.ifCond .ne 7, 3) := by decide +kernel
theorem dX0_meanApart_81 : decode cX0_meanApart 81 = .ok (.dconst 0, 1) := by decide +kernel
theorem dX0_meanApart_82 : decode cX0_meanApart 82 = .ok (.goto 8, 3) := by decide +kernel
theorem dX0_meanApart_85 : decode cX0_meanApart 85 = .ok (.iload_n 1, 1) := by decide +kernel
theorem dX0_meanApart_86 : decode cX0_meanApart 86 = .ok (.i2d, 1) := by decide +kernel
theorem dX0_meanApart_87 : decode cX0_meanApart 87 = .ok (.iload_n 2, 1) := by decide +kernel
theorem dX0_meanApart_88 : decode cX0_meanApart 88 = .ok (.i2d, 1) := by decide +kernel
theorem dX0_meanApart_89 : decode cX0_meanApart 89 = .ok (.ddiv, 1) := by decide +kernel
theorem dX0_meanApart_90 : decode cX0_meanApart 90 = .ok (.dreturn, 1) := by decide +kernel
theorem dX1_leftByTrying_0 : decode cX1_leftByTrying 0 = .ok (.iconst 0, 1) := by decide +kernel
theorem dX1_leftByTrying_1 : decode cX1_leftByTrying 1 = .ok (.istore_n 2, 1) := by decide +kernel
theorem dX1_leftByTrying_2 : decode cX1_leftByTrying 2 = .ok (.iconst 0, 1) := by decide +kernel
theorem dX1_leftByTrying_3 : decode cX1_leftByTrying 3 = .ok (.istore_n 3, 1) := by decide +kernel
theorem dX1_leftByTrying_4 : decode cX1_leftByTrying 4 = .ok (.iload_n 3, 1) := by decide +kernel
theorem dX1_leftByTrying_5 : decode cX1_leftByTrying 5 = .ok (.bipush 6, 2) := by decide +kernel
theorem dX1_leftByTrying_7 : decode cX1_leftByTrying 7 = .ok (.if_icmp .ge 38, 3) := by decide +kernel
theorem dX1_leftByTrying_10 : decode cX1_leftByTrying 10 = .ok (.iconst 0, 1) := by decide +kernel
theorem dX1_leftByTrying_11 : decode cX1_leftByTrying 11 = .ok (.istore 4, 2) := by decide +kernel
theorem dX1_leftByTrying_13 : decode cX1_leftByTrying 13 = .ok (.iload 4, 2) := by decide +kernel
theorem dX1_leftByTrying_15 : decode cX1_leftByTrying 15 = .ok (.iconst 5, 1) := by decide +kernel
theorem dX1_leftByTrying_16 : decode cX1_leftByTrying 16 = .ok (.if_icmp .ge 23, 3) := by decide +kernel
theorem dX1_leftByTrying_19 : decode cX1_leftByTrying 19 = .ok (.aload_n 0, 1) := by decide +kernel
theorem dX1_leftByTrying_20 : decode cX1_leftByTrying 20 = .ok (.iload_n 1, 1) := by decide +kernel
theorem dX1_leftByTrying_21 : decode cX1_leftByTrying 21 = .ok (.iload_n 3, 1) := by decide +kernel
theorem dX1_leftByTrying_22 : decode cX1_leftByTrying 22 = .ok (.iload 4, 2) := by decide +kernel
theorem dX1_leftByTrying_24 : decode cX1_leftByTrying 24 = .ok (.invokevirtual 9, 3) := by decide +kernel
theorem dX1_leftByTrying_27 : decode cX1_leftByTrying 27 = .ok (.ifCond .ne 6, 3) := by decide +kernel
theorem dX1_leftByTrying_30 : decode cX1_leftByTrying 30 = .ok (.iinc 2 1, 3) := by decide +kernel
theorem dX1_leftByTrying_33 : decode cX1_leftByTrying 33 = .ok (.iinc 4 1, 3) := by decide +kernel
theorem dX1_leftByTrying_36 : decode cX1_leftByTrying 36 = .ok (.goto (-23), 3) := by decide +kernel
theorem dX1_leftByTrying_39 : decode cX1_leftByTrying 39 = .ok (.iinc 3 1, 3) := by decide +kernel
theorem dX1_leftByTrying_42 : decode cX1_leftByTrying 42 = .ok (.goto (-38), 3) := by decide +kernel
theorem dX1_leftByTrying_45 : decode cX1_leftByTrying 45 = .ok (.iload_n 2, 1) := by decide +kernel
theorem dX1_leftByTrying_46 : decode cX1_leftByTrying 46 = .ok (.ireturn, 1) := by decide +kernel
theorem dX1_leftByPlaces_0 : decode cX1_leftByPlaces 0 = .ok (.aload_n 0, 1) := by decide +kernel
theorem dX1_leftByPlaces_1 : decode cX1_leftByPlaces 1 = .ok (.iload_n 1, 1) := by decide +kernel
theorem dX1_leftByPlaces_2 : decode cX1_leftByPlaces 2 = .ok (.invokevirtual 15, 3) := by decide +kernel
theorem dX1_leftByPlaces_5 : decode cX1_leftByPlaces 5 = .ok (.ifCond .eq 12, 3) := by decide +kernel
theorem dX1_leftByPlaces_8 : decode cX1_leftByPlaces 8 = .ok (.aload_n 0, 1) := by decide +kernel
theorem dX1_leftByPlaces_9 : decode cX1_leftByPlaces 9 = .ok (.iload_n 1, 1) := by decide +kernel
theorem dX1_leftByPlaces_10 : decode cX1_leftByPlaces 10 = .ok (.invokevirtual 19, 3) := by decide +kernel
theorem dX1_leftByPlaces_13 : decode cX1_leftByPlaces 13 = .ok (.iconst 4, 1) := by decide +kernel
theorem dX1_leftByPlaces_14 : decode cX1_leftByPlaces 14 = .ok (.if_icmp .lt 5, 3) := by decide +kernel
theorem dX1_leftByPlaces_17 : decode cX1_leftByPlaces 17 = .ok (.iconst 0, 1) := by decide +kernel
theorem dX1_leftByPlaces_18 : decode cX1_leftByPlaces 18 = .ok (.ireturn, 1) := by decide +kernel
theorem dX1_leftByPlaces_19 : decode cX1_leftByPlaces 19 = .ok (.iconst 0, 1) := by decide +kernel
theorem dX1_leftByPlaces_20 : decode cX1_leftByPlaces 20 = .ok (.istore_n 2, 1) := by decide +kernel
theorem dX1_leftByPlaces_21 : decode cX1_leftByPlaces 21 = .ok (.iconst 0, 1) := by decide +kernel
theorem dX1_leftByPlaces_22 : decode cX1_leftByPlaces 22 = .ok (.istore_n 3, 1) := by decide +kernel
theorem dX1_leftByPlaces_23 : decode cX1_leftByPlaces 23 = .ok (.iload_n 3, 1) := by decide +kernel
theorem dX1_leftByPlaces_24 : decode cX1_leftByPlaces 24 = .ok (.bipush 6, 2) := by decide +kernel
theorem dX1_leftByPlaces_26 : decode cX1_leftByPlaces 26 = .ok (.if_icmp .ge 29, 3) := by decide +kernel
theorem dX1_leftByPlaces_29 : decode cX1_leftByPlaces 29 = .ok (.aload_n 0, 1) := by decide +kernel
theorem dX1_leftByPlaces_30 : decode cX1_leftByPlaces 30 = .ok (.iload_n 1, 1) := by decide +kernel
theorem dX1_leftByPlaces_31 : decode cX1_leftByPlaces 31 = .ok (.iload_n 3, 1) := by decide +kernel
theorem dX1_leftByPlaces_32 : decode cX1_leftByPlaces 32 = .ok (.invokevirtual 23, 3) := by decide +kernel
theorem dX1_leftByPlaces_35 : decode cX1_leftByPlaces 35 = .ok (.ifCond .ne 14, 3) := by decide +kernel
theorem dX1_leftByPlaces_38 : decode cX1_leftByPlaces 38 = .ok (.iload_n 2, 1) := by decide +kernel
theorem dX1_leftByPlaces_39 : decode cX1_leftByPlaces 39 = .ok (.iconst 4, 1) := by decide +kernel
theorem dX1_leftByPlaces_40 : decode cX1_leftByPlaces 40 = .ok (.aload_n 0, 1) := by decide +kernel
theorem dX1_leftByPlaces_41 : decode cX1_leftByPlaces 41 = .ok (.iload_n 1, 1) := by decide +kernel
theorem dX1_leftByPlaces_42 : decode cX1_leftByPlaces 42 = .ok (.iload_n 3, 1) := by decide +kernel
theorem dX1_leftByPlaces_43 : decode cX1_leftByPlaces 43 = .ok (.invokestatic 27, 3) := by decide +kernel
theorem dX1_leftByPlaces_46 : decode cX1_leftByPlaces 46 = .ok (.isub, 1) := by decide +kernel
theorem dX1_leftByPlaces_47 : decode cX1_leftByPlaces 47 = .ok (.iadd, 1) := by decide +kernel
theorem dX1_leftByPlaces_48 : decode cX1_leftByPlaces 48 = .ok (.istore_n 2, 1) := by decide +kernel
theorem dX1_leftByPlaces_49 : decode cX1_leftByPlaces 49 = .ok (.iinc 3 1, 3) := by decide +kernel
theorem dX1_leftByPlaces_52 : decode cX1_leftByPlaces 52 = .ok (.goto (-29), 3) := by decide +kernel
theorem dX1_leftByPlaces_55 : decode cX1_leftByPlaces 55 = .ok (.iload_n 2, 1) := by decide +kernel
theorem dX1_leftByPlaces_56 : decode cX1_leftByPlaces 56 = .ok (.ireturn, 1) := by decide +kernel
theorem dX1_livingApartAt_0 : decode cX1_livingApartAt 0 = .ok (.aload_n 0, 1) := by decide +kernel
theorem dX1_livingApartAt_1 : decode cX1_livingApartAt 1 = .ok (.iload_n 1, 1) := by decide +kernel
theorem dX1_livingApartAt_2 : decode cX1_livingApartAt 2 = .ok (.invokevirtual 33, 3) := by decide +kernel
theorem dX1_livingApartAt_5 : decode cX1_livingApartAt 5 = .ok (.istore_n 3, 1) := by decide +kernel
theorem dX1_livingApartAt_6 : decode cX1_livingApartAt 6 = .ok (.iload_n 3, 1) := by decide +kernel
theorem dX1_livingApartAt_7 : decode cX1_livingApartAt 7 = .ok (.iload_n 2, 1) := by decide +kernel
theorem dX1_livingApartAt_8 : decode cX1_livingApartAt 8 = .ok (.invokestatic 36, 3) := by decide +kernel
theorem dX1_livingApartAt_11 : decode cX1_livingApartAt 11 = .ok (.istore 4, 2) := by decide +kernel
theorem dX1_livingApartAt_13 : decode cX1_livingApartAt 13 = .ok (.iconst 0, 1) := by decide +kernel
theorem dX1_livingApartAt_14 : decode cX1_livingApartAt 14 = .ok (.istore 5, 2) := by decide +kernel
theorem dX1_livingApartAt_16 : decode cX1_livingApartAt 16 = .ok (.iconst 0, 1) := by decide +kernel
theorem dX1_livingApartAt_17 : decode cX1_livingApartAt 17 = .ok (.istore 6, 2) := by decide +kernel
theorem dX1_livingApartAt_19 : decode cX1_livingApartAt 19 = .ok (.iload 6, 2) := by decide +kernel
theorem dX1_livingApartAt_21 : decode cX1_livingApartAt 21 = .ok (.aload_n 0, 1) := by decide +kernel
theorem dX1_livingApartAt_22 : decode cX1_livingApartAt 22 = .ok (.invokevirtual 42, 3) := by decide +kernel
theorem dX1_livingApartAt_25 : decode cX1_livingApartAt 25 = .ok (.if_icmp .ge 50, 3) := by decide +kernel
theorem dX1_livingApartAt_28 : decode cX1_livingApartAt 28 = .ok (.aload_n 0, 1) := by decide +kernel
theorem dX1_livingApartAt_29 : decode cX1_livingApartAt 29 = .ok (.iload 6, 2) := by decide +kernel
theorem dX1_livingApartAt_31 : decode cX1_livingApartAt 31 = .ok (.invokevirtual 33, 3) := by decide +kernel
theorem dX1_livingApartAt_34 : decode cX1_livingApartAt 34 = .ok (.istore 7, 2) := by decide +kernel
theorem dX1_livingApartAt_36 : decode cX1_livingApartAt 36 = .ok (.aload_n 0, 1) := by decide +kernel
theorem dX1_livingApartAt_37 : decode cX1_livingApartAt 37 = .ok (.iload 6, 2) := by decide +kernel
theorem dX1_livingApartAt_39 : decode cX1_livingApartAt 39 = .ok (.invokevirtual 15, 3) := by decide +kernel
theorem dX1_livingApartAt_42 : decode cX1_livingApartAt 42 = .ok (.ifCond .eq 27, 3) := by decide +kernel
theorem dX1_livingApartAt_45 : decode cX1_livingApartAt 45 = .ok (.iload_n 3, 1) := by decide +kernel
theorem dX1_livingApartAt_46 : decode cX1_livingApartAt 46 = .ok (.iload 7, 2) := by decide +kernel
theorem dX1_livingApartAt_48 : decode cX1_livingApartAt 48 = .ok (.invokestatic 46, 3) := by decide +kernel
theorem dX1_livingApartAt_51 : decode cX1_livingApartAt 51 = .ok (.iconst 1, 1) := by decide +kernel
theorem dX1_livingApartAt_52 : decode cX1_livingApartAt 52 = .ok (.if_icmp .ne 17, 3) := by decide +kernel
theorem dX1_livingApartAt_55 : decode cX1_livingApartAt 55 = .ok (.iload 7, 2) := by decide +kernel
theorem dX1_livingApartAt_57 : decode cX1_livingApartAt 57 = .ok (.iload_n 2, 1) := by decide +kernel
theorem dX1_livingApartAt_58 : decode cX1_livingApartAt 58 = .ok (.invokestatic 36, 3) := by decide +kernel
theorem dX1_livingApartAt_61 : decode cX1_livingApartAt 61 = .ok (.iload 4, 2) := by decide +kernel
theorem dX1_livingApartAt_63 : decode cX1_livingApartAt 63 = .ok (.if_icmp .eq 6, 3) := by decide +kernel
theorem dX1_livingApartAt_66 : decode cX1_livingApartAt 66 = .ok (.iinc 5 1, 3) := by decide +kernel
theorem dX1_livingApartAt_69 : decode cX1_livingApartAt 69 = .ok (.iinc 6 1, 3) := by decide +kernel
theorem dX1_livingApartAt_72 : decode cX1_livingApartAt 72 = .ok (.goto (-53), 3) := by decide +kernel
theorem dX1_livingApartAt_75 : decode cX1_livingApartAt 75 = .ok (.iload 5, 2) := by decide +kernel
theorem dX1_livingApartAt_77 : decode cX1_livingApartAt 77 = .ok (.ireturn, 1) := by decide +kernel
theorem dX1_leftToAll_0 : decode cX1_leftToAll 0 = .ok (.iconst 0, 1) := by decide +kernel
theorem dX1_leftToAll_1 : decode cX1_leftToAll 1 = .ok (.istore_n 1, 1) := by decide +kernel
theorem dX1_leftToAll_2 : decode cX1_leftToAll 2 = .ok (.iconst 0, 1) := by decide +kernel
theorem dX1_leftToAll_3 : decode cX1_leftToAll 3 = .ok (.istore_n 2, 1) := by decide +kernel
theorem dX1_leftToAll_4 : decode cX1_leftToAll 4 = .ok (.iload_n 2, 1) := by decide +kernel
theorem dX1_leftToAll_5 : decode cX1_leftToAll 5 = .ok (.aload_n 0, 1) := by decide +kernel
theorem dX1_leftToAll_6 : decode cX1_leftToAll 6 = .ok (.invokevirtual 42, 3) := by decide +kernel
theorem dX1_leftToAll_9 : decode cX1_leftToAll 9 = .ok (.if_icmp .ge 17, 3) := by decide +kernel
theorem dX1_leftToAll_12 : decode cX1_leftToAll 12 = .ok (.iload_n 1, 1) := by decide +kernel
theorem dX1_leftToAll_13 : decode cX1_leftToAll 13 = .ok (.aload_n 0, 1) := by decide +kernel
theorem dX1_leftToAll_14 : decode cX1_leftToAll 14 = .ok (.iload_n 2, 1) := by decide +kernel
theorem dX1_leftToAll_15 : decode cX1_leftToAll 15 = .ok (.invokestatic 49, 3) := by decide +kernel
theorem dX1_leftToAll_18 : decode cX1_leftToAll 18 = .ok (.iadd, 1) := by decide +kernel
theorem dX1_leftToAll_19 : decode cX1_leftToAll 19 = .ok (.istore_n 1, 1) := by decide +kernel
theorem dX1_leftToAll_20 : decode cX1_leftToAll 20 = .ok (.iinc 2 1, 3) := by decide +kernel
theorem dX1_leftToAll_23 : decode cX1_leftToAll 23 = .ok (.goto (-19), 3) := by decide +kernel
theorem dX1_leftToAll_26 : decode cX1_leftToAll 26 = .ok (.iload_n 1, 1) := by decide +kernel
theorem dX1_leftToAll_27 : decode cX1_leftToAll 27 = .ok (.ireturn, 1) := by decide +kernel
theorem dX1_farthest_0 : decode cX1_farthest 0 = .ok (.bipush (-4), 2) := by decide +kernel
theorem dX1_farthest_2 : decode cX1_farthest 2 = .ok (.istore_n 2, 1) := by decide +kernel
theorem dX1_farthest_3 : decode cX1_farthest 3 = .ok (.iconst (-1), 1) := by decide +kernel
theorem dX1_farthest_4 : decode cX1_farthest 4 = .ok (.istore_n 3, 1) := by decide +kernel
theorem dX1_farthest_5 : decode cX1_farthest 5 = .ok (.iconst 0, 1) := by decide +kernel
theorem dX1_farthest_6 : decode cX1_farthest 6 = .ok (.istore 4, 2) := by decide +kernel
theorem dX1_farthest_8 : decode cX1_farthest 8 = .ok (.iload 4, 2) := by decide +kernel
theorem dX1_farthest_10 : decode cX1_farthest 10 = .ok (.bipush 30, 2) := by decide +kernel
theorem dX1_farthest_12 : decode cX1_farthest 12 = .ok (.if_icmp .ge 67, 3) := by decide +kernel
theorem dX1_farthest_15 : decode cX1_farthest 15 = .ok (.iload 4, 2) := by decide +kernel
theorem dX1_farthest_17 : decode cX1_farthest 17 = .ok (.iconst 5, 1) := by decide +kernel
theorem dX1_farthest_18 : decode cX1_farthest 18 = .ok (.idiv, 1) := by decide +kernel
theorem dX1_farthest_19 : decode cX1_farthest 19 = .ok (.istore 5, 2) := by decide +kernel
theorem dX1_farthest_21 : decode cX1_farthest 21 = .ok (.iload 4, 2) := by decide +kernel
theorem dX1_farthest_23 : decode cX1_farthest 23 = .ok (.iconst 5, 1) := by decide +kernel
theorem dX1_farthest_24 : decode cX1_farthest 24 = .ok (.irem, 1) := by decide +kernel
theorem dX1_farthest_25 : decode cX1_farthest 25 = .ok (.istore 6, 2) := by decide +kernel
theorem dX1_farthest_27 : decode cX1_farthest 27 = .ok (.aload_n 0, 1) := by decide +kernel
theorem dX1_farthest_28 : decode cX1_farthest 28 = .ok (.iload_n 1, 1) := by decide +kernel
theorem dX1_farthest_29 : decode cX1_farthest 29 = .ok (.iload 5, 2) := by decide +kernel
theorem dX1_farthest_31 : decode cX1_farthest 31 = .ok (.iload 6, 2) := by decide +kernel
theorem dX1_farthest_33 : decode cX1_farthest 33 = .ok (.invokevirtual 9, 3) := by decide +kernel
theorem dX1_farthest_36 : decode cX1_farthest 36 = .ok (.ifCond .eq 6, 3) := by decide +kernel
theorem dX1_farthest_39 : decode cX1_farthest 39 = .ok (.goto 34, 3) := by decide +kernel
theorem dX1_farthest_42 : decode cX1_farthest 42 = .ok (.aload_n 0, 1) := by decide +kernel
theorem dX1_farthest_43 : decode cX1_farthest 43 = .ok (.aload_n 0, 1) := by decide +kernel
theorem dX1_farthest_44 : decode cX1_farthest 44 = .ok (.iload_n 1, 1) := by decide +kernel
theorem dX1_farthest_45 : decode cX1_farthest 45 = .ok (.invokevirtual 33, 3) := by decide +kernel
theorem dX1_farthest_48 : decode cX1_farthest 48 = .ok (.iload 5, 2) := by decide +kernel
theorem dX1_farthest_50 : decode cX1_farthest 50 = .ok (.iload 6, 2) := by decide +kernel
theorem dX1_farthest_52 : decode cX1_farthest 52 = .ok (.invokestatic 53, 3) := by decide +kernel
theorem dX1_farthest_55 : decode cX1_farthest 55 = .ok (.iload_n 1, 1) := by decide +kernel
theorem dX1_farthest_56 : decode cX1_farthest 56 = .ok (.invokestatic 56, 3) := by decide +kernel
theorem dX1_farthest_59 : decode cX1_farthest 59 = .ok (.istore 7, 2) := by decide +kernel
theorem dX1_farthest_61 : decode cX1_farthest 61 = .ok (.iload 7, 2) := by decide +kernel
theorem dX1_farthest_63 : decode cX1_farthest 63 = .ok (.iload_n 3, 1) := by decide +kernel
theorem dX1_farthest_64 : decode cX1_farthest 64 = .ok (.if_icmp .le 9, 3) := by decide +kernel
theorem dX1_farthest_67 : decode cX1_farthest 67 = .ok (.iload 4, 2) := by decide +kernel
theorem dX1_farthest_69 : decode cX1_farthest 69 = .ok (.istore_n 2, 1) := by decide +kernel
theorem dX1_farthest_70 : decode cX1_farthest 70 = .ok (.iload 7, 2) := by decide +kernel
theorem dX1_farthest_72 : decode cX1_farthest 72 = .ok (.istore_n 3, 1) := by decide +kernel
theorem dX1_farthest_73 : decode cX1_farthest 73 = .ok (.iinc 4 1, 3) := by decide +kernel
theorem dX1_farthest_76 : decode cX1_farthest 76 = .ok (.goto (-68), 3) := by decide +kernel
theorem dX1_farthest_79 : decode cX1_farthest 79 = .ok (.iload_n 2, 1) := by decide +kernel
theorem dX1_farthest_80 : decode cX1_farthest 80 = .ok (.ireturn, 1) := by decide +kernel
theorem dX1_leastApart_0 : decode cX1_leastApart 0 = .ok (.bipush 6, 2) := by decide +kernel
theorem dX1_leastApart_2 : decode cX1_leastApart 2 = .ok (.istore_n 3, 1) := by decide +kernel
theorem dX1_leastApart_3 : decode cX1_leastApart 3 = .ok (.iconst 0, 1) := by decide +kernel
theorem dX1_leastApart_4 : decode cX1_leastApart 4 = .ok (.istore 4, 2) := by decide +kernel
theorem dX1_leastApart_6 : decode cX1_leastApart 6 = .ok (.iload 4, 2) := by decide +kernel
theorem dX1_leastApart_8 : decode cX1_leastApart 8 = .ok (.aload_n 0, 1) := by decide +kernel
theorem dX1_leastApart_9 : decode cX1_leastApart 9 = .ok (.invokevirtual 42, 3) := by decide +kernel
theorem dX1_leastApart_12 : decode cX1_leastApart 12 = .ok (.if_icmp .ge 39, 3) := by decide +kernel
theorem dX1_leastApart_15 : decode cX1_leastApart 15 = .ok (.aload_n 0, 1) := by decide +kernel
theorem dX1_leastApart_16 : decode cX1_leastApart 16 = .ok (.iload 4, 2) := by decide +kernel
theorem dX1_leastApart_18 : decode cX1_leastApart 18 = .ok (.invokevirtual 15, 3) := by decide +kernel
theorem dX1_leastApart_21 : decode cX1_leastApart 21 = .ok (.ifCond .eq 24, 3) := by decide +kernel
theorem dX1_leastApart_24 : decode cX1_leastApart 24 = .ok (.iload 4, 2) := by decide +kernel
theorem dX1_leastApart_26 : decode cX1_leastApart 26 = .ok (.iload_n 2, 1) := by decide +kernel
theorem dX1_leastApart_27 : decode cX1_leastApart 27 = .ok (.if_icmp .eq 18, 3) := by decide +kernel
theorem dX1_leastApart_30 : decode cX1_leastApart 30 = .ok (.iload_n 3, 1) := by decide +kernel
theorem dX1_leastApart_31 : decode cX1_leastApart 31 = .ok (.iload_n 1, 1) := by decide +kernel
theorem dX1_leastApart_32 : decode cX1_leastApart 32 = .ok (.aload_n 0, 1) := by decide +kernel
theorem dX1_leastApart_33 : decode cX1_leastApart 33 = .ok (.iload 4, 2) := by decide +kernel
theorem dX1_leastApart_35 : decode cX1_leastApart 35 = .ok (.invokevirtual 33, 3) := by decide +kernel
theorem dX1_leastApart_38 : decode cX1_leastApart 38 = .ok (.invokestatic 46, 3) := by decide +kernel
theorem dX1_leastApart_41 : decode cX1_leastApart 41 = .ok (.invokestatic 59, 3) := by decide +kernel
theorem dX1_leastApart_44 : decode cX1_leastApart 44 = .ok (.istore_n 3, 1) := by decide +kernel
theorem dX1_leastApart_45 : decode cX1_leastApart 45 = .ok (.iinc 4 1, 3) := by decide +kernel
theorem dX1_leastApart_48 : decode cX1_leastApart 48 = .ok (.goto (-42), 3) := by decide +kernel
theorem dX1_leastApart_51 : decode cX1_leastApart 51 = .ok (.iload_n 3, 1) := by decide +kernel
theorem dX1_leastApart_52 : decode cX1_leastApart 52 = .ok (.ireturn, 1) := by decide +kernel
theorem dX2_init_0 : decode cX2_init 0 = .ok (.aload_n 0, 1) := by decide +kernel
theorem dX2_init_1 : decode cX2_init 1 = .ok (.invokespecial 3, 3) := by decide +kernel
theorem dX2_init_4 : decode cX2_init 4 = .ok (.aload_n 0, 1) := by decide +kernel
theorem dX2_init_5 : decode cX2_init 5 = .ok (.iconst 5, 1) := by decide +kernel
theorem dX2_init_6 : decode cX2_init 6 = .ok (.anewarray 9, 3) := by decide +kernel
theorem dX2_init_9 : decode cX2_init 9 = .ok (.putfield 11, 3) := by decide +kernel
theorem dX2_init_12 : decode cX2_init 12 = .ok (.aload_n 0, 1) := by decide +kernel
theorem dX2_init_13 : decode cX2_init 13 = .ok (.iconst 0, 1) := by decide +kernel
theorem dX2_init_14 : decode cX2_init 14 = .ok (.putfield 17, 3) := by decide +kernel
theorem dX2_init_17 : decode cX2_init 17 = .ok (.iconst 0, 1) := by decide +kernel
theorem dX2_init_18 : decode cX2_init 18 = .ok (.istore_n 1, 1) := by decide +kernel
theorem dX2_init_19 : decode cX2_init 19 = .ok (.iload_n 1, 1) := by decide +kernel
theorem dX2_init_20 : decode cX2_init 20 = .ok (.aload_n 0, 1) := by decide +kernel
theorem dX2_init_21 : decode cX2_init 21 = .ok (.getfield 11, 3) := by decide +kernel
theorem dX2_init_24 : decode cX2_init 24 = .ok (.arraylength, 1) := by decide +kernel
theorem dX2_init_25 : decode cX2_init 25 = .ok (.if_icmp .ge 22, 3) := by decide +kernel
theorem dX2_init_28 : decode cX2_init 28 = .ok (.aload_n 0, 1) := by decide +kernel
theorem dX2_init_29 : decode cX2_init 29 = .ok (.getfield 11, 3) := by decide +kernel
theorem dX2_init_32 : decode cX2_init 32 = .ok (.iload_n 1, 1) := by decide +kernel
theorem dX2_init_33 : decode cX2_init 33 = .ok (.new 9, 3) := by decide +kernel
theorem dX2_init_36 : decode cX2_init 36 = .ok (.dup, 1) := by decide +kernel
theorem dX2_init_37 : decode cX2_init 37 = .ok (.invokespecial 21, 3) := by decide +kernel
theorem dX2_init_40 : decode cX2_init 40 = .ok (.aastore, 1) := by decide +kernel
theorem dX2_init_41 : decode cX2_init 41 = .ok (.iinc 1 1, 3) := by decide +kernel
theorem dX2_init_44 : decode cX2_init 44 = .ok (.goto (-25), 3) := by decide +kernel
theorem dX2_init_47 : decode cX2_init 47 = .ok (.return_, 1) := by decide +kernel
theorem dX2_size_0 : decode cX2_size 0 = .ok (.aload_n 0, 1) := by decide +kernel
theorem dX2_size_1 : decode cX2_size 1 = .ok (.getfield 17, 3) := by decide +kernel
theorem dX2_size_4 : decode cX2_size 4 = .ok (.ireturn, 1) := by decide +kernel
theorem dX2_stateAt_0 : decode cX2_stateAt 0 = .ok (.iload_n 1, 1) := by decide +kernel
theorem dX2_stateAt_1 : decode cX2_stateAt 1 = .ok (.ifCond .lt 21, 3) := by decide +kernel
theorem dX2_stateAt_4 : decode cX2_stateAt 4 = .ok (.iload_n 1, 1) := by decide +kernel
theorem dX2_stateAt_5 : decode cX2_stateAt 5 = .ok (.aload_n 0, 1) := by decide +kernel
theorem dX2_stateAt_6 : decode cX2_stateAt 6 = .ok (.getfield 11, 3) := by decide +kernel
theorem dX2_stateAt_9 : decode cX2_stateAt 9 = .ok (.arraylength, 1) := by decide +kernel
theorem dX2_stateAt_10 : decode cX2_stateAt 10 = .ok (.if_icmp .ge 12, 3) := by decide +kernel
theorem dX2_stateAt_13 : decode cX2_stateAt 13 = .ok (.aload_n 0, 1) := by decide +kernel
theorem dX2_stateAt_14 : decode cX2_stateAt 14 = .ok (.getfield 11, 3) := by decide +kernel
theorem dX2_stateAt_17 : decode cX2_stateAt 17 = .ok (.iload_n 1, 1) := by decide +kernel
theorem dX2_stateAt_18 : decode cX2_stateAt 18 = .ok (.aaload, 1) := by decide +kernel
theorem dX2_stateAt_19 : decode cX2_stateAt 19 = .ok (.goto 4, 3) := by decide +kernel
theorem dX2_stateAt_22 : decode cX2_stateAt 22 = .ok (.aconst_null, 1) := by decide +kernel
theorem dX2_stateAt_23 : decode cX2_stateAt 23 = .ok (.areturn, 1) := by decide +kernel
theorem dX2_note_0 : decode cX2_note 0 = .ok (.aload_n 0, 1) := by decide +kernel
theorem dX2_note_1 : decode cX2_note 1 = .ok (.aload_n 0, 1) := by decide +kernel
theorem dX2_note_2 : decode cX2_note 2 = .ok (.getfield 17, 3) := by decide +kernel
theorem dX2_note_5 : decode cX2_note 5 = .ok (.invokevirtual 22, 3) := by decide +kernel
theorem dX2_note_8 : decode cX2_note 8 = .ok (.astore_n 2, 1) := by decide +kernel
theorem dX2_note_9 : decode cX2_note 9 = .ok (.aload_n 2, 1) := by decide +kernel
theorem dX2_note_10 : decode cX2_note 10 = .ok (.ifnull 8, 3) := by decide +kernel
theorem dX2_note_13 : decode cX2_note 13 = .ok (.aload_n 2, 1) := by decide +kernel
theorem dX2_note_14 : decode cX2_note 14 = .ok (.aload_n 1, 1) := by decide +kernel
theorem dX2_note_15 : decode cX2_note 15 = .ok (.invokevirtual 26, 3) := by decide +kernel
theorem dX2_note_18 : decode cX2_note 18 = .ok (.return_, 1) := by decide +kernel
theorem dX2_keepNoted_0 : decode cX2_keepNoted 0 = .ok (.aload_n 0, 1) := by decide +kernel
theorem dX2_keepNoted_1 : decode cX2_keepNoted 1 = .ok (.getfield 17, 3) := by decide +kernel
theorem dX2_keepNoted_4 : decode cX2_keepNoted 4 = .ok (.iconst 4, 1) := by decide +kernel
theorem dX2_keepNoted_5 : decode cX2_keepNoted 5 = .ok (.if_icmp .ge 14, 3) := by decide +kernel
theorem dX2_keepNoted_8 : decode cX2_keepNoted 8 = .ok (.aload_n 0, 1) := by decide +kernel
theorem dX2_keepNoted_9 : decode cX2_keepNoted 9 = .ok (.dup, 1) := by decide +kernel
theorem dX2_keepNoted_10 : decode cX2_keepNoted 10 = .ok (.getfield 17, 3) := by decide +kernel
theorem dX2_keepNoted_13 : decode cX2_keepNoted 13 = .ok (.iconst 1, 1) := by decide +kernel
theorem dX2_keepNoted_14 : decode cX2_keepNoted 14 = .ok (.iadd, 1) := by decide +kernel
theorem dX2_keepNoted_15 : decode cX2_keepNoted 15 = .ok (.putfield 17, 3) := by decide +kernel
theorem dX2_keepNoted_18 : decode cX2_keepNoted 18 = .ok (.return_, 1) := by decide +kernel
theorem dX2_keepNoted_19 : decode cX2_keepNoted 19 = .ok (.aload_n 0, 1) := by decide +kernel
theorem dX2_keepNoted_20 : decode cX2_keepNoted 20 = .ok (.getfield 11, 3) := by decide +kernel
theorem dX2_keepNoted_23 : decode cX2_keepNoted 23 = .ok (.iconst 0, 1) := by decide +kernel
theorem dX2_keepNoted_24 : decode cX2_keepNoted 24 = .ok (.aaload, 1) := by decide +kernel
theorem dX2_keepNoted_25 : decode cX2_keepNoted 25 = .ok (.astore_n 1, 1) := by decide +kernel
theorem dX2_keepNoted_26 : decode cX2_keepNoted 26 = .ok (.iconst 0, 1) := by decide +kernel
theorem dX2_keepNoted_27 : decode cX2_keepNoted 27 = .ok (.istore_n 2, 1) := by decide +kernel
theorem dX2_keepNoted_28 : decode cX2_keepNoted 28 = .ok (.iload_n 2, 1) := by decide +kernel
theorem dX2_keepNoted_29 : decode cX2_keepNoted 29 = .ok (.iconst 4, 1) := by decide +kernel
theorem dX2_keepNoted_30 : decode cX2_keepNoted 30 = .ok (.if_icmp .ge 23, 3) := by decide +kernel
theorem dX2_keepNoted_33 : decode cX2_keepNoted 33 = .ok (.aload_n 0, 1) := by decide +kernel
theorem dX2_keepNoted_34 : decode cX2_keepNoted 34 = .ok (.getfield 11, 3) := by decide +kernel
theorem dX2_keepNoted_37 : decode cX2_keepNoted 37 = .ok (.iload_n 2, 1) := by decide +kernel
theorem dX2_keepNoted_38 : decode cX2_keepNoted 38 = .ok (.aload_n 0, 1) := by decide +kernel
theorem dX2_keepNoted_39 : decode cX2_keepNoted 39 = .ok (.getfield 11, 3) := by decide +kernel
theorem dX2_keepNoted_42 : decode cX2_keepNoted 42 = .ok (.iload_n 2, 1) := by decide +kernel
theorem dX2_keepNoted_43 : decode cX2_keepNoted 43 = .ok (.iconst 1, 1) := by decide +kernel
theorem dX2_keepNoted_44 : decode cX2_keepNoted 44 = .ok (.iadd, 1) := by decide +kernel
theorem dX2_keepNoted_45 : decode cX2_keepNoted 45 = .ok (.aaload, 1) := by decide +kernel
theorem dX2_keepNoted_46 : decode cX2_keepNoted 46 = .ok (.aastore, 1) := by decide +kernel
theorem dX2_keepNoted_47 : decode cX2_keepNoted 47 = .ok (.iinc 2 1, 3) := by decide +kernel
theorem dX2_keepNoted_50 : decode cX2_keepNoted 50 = .ok (.goto (-22), 3) := by decide +kernel
theorem dX2_keepNoted_53 : decode cX2_keepNoted 53 = .ok (.aload_n 0, 1) := by decide +kernel
theorem dX2_keepNoted_54 : decode cX2_keepNoted 54 = .ok (.getfield 11, 3) := by decide +kernel
theorem dX2_keepNoted_57 : decode cX2_keepNoted 57 = .ok (.iconst 4, 1) := by decide +kernel
theorem dX2_keepNoted_58 : decode cX2_keepNoted 58 = .ok (.aload_n 1, 1) := by decide +kernel
theorem dX2_keepNoted_59 : decode cX2_keepNoted 59 = .ok (.aastore, 1) := by decide +kernel
theorem dX2_keepNoted_60 : decode cX2_keepNoted 60 = .ok (.return_, 1) := by decide +kernel
theorem dX2_takeBack_0 : decode cX2_takeBack 0 = .ok (.aload_n 0, 1) := by decide +kernel
theorem dX2_takeBack_1 : decode cX2_takeBack 1 = .ok (.aload_n 0, 1) := by decide +kernel
theorem dX2_takeBack_2 : decode cX2_takeBack 2 = .ok (.getfield 17, 3) := by decide +kernel
theorem dX2_takeBack_5 : decode cX2_takeBack 5 = .ok (.iconst 1, 1) := by decide +kernel
theorem dX2_takeBack_6 : decode cX2_takeBack 6 = .ok (.isub, 1) := by decide +kernel
theorem dX2_takeBack_7 : decode cX2_takeBack 7 = .ok (.invokevirtual 22, 3) := by decide +kernel
theorem dX2_takeBack_10 : decode cX2_takeBack 10 = .ok (.astore_n 2, 1) := by decide +kernel
theorem dX2_takeBack_11 : decode cX2_takeBack 11 = .ok (.aload_n 2, 1) := by decide +kernel
theorem dX2_takeBack_12 : decode cX2_takeBack 12 = .ok (.ifnull 18, 3) := by decide +kernel
theorem dX2_takeBack_15 : decode cX2_takeBack 15 = .ok (.aload_n 1, 1) := by decide +kernel
theorem dX2_takeBack_16 : decode cX2_takeBack 16 = .ok (.aload_n 2, 1) := by decide +kernel
theorem dX2_takeBack_17 : decode cX2_takeBack 17 = .ok (.invokevirtual 26, 3) := by decide +kernel
theorem dX2_takeBack_20 : decode cX2_takeBack 20 = .ok (.aload_n 0, 1) := by decide +kernel
theorem dX2_takeBack_21 : decode cX2_takeBack 21 = .ok (.dup, 1) := by decide +kernel
theorem dX2_takeBack_22 : decode cX2_takeBack 22 = .ok (.getfield 17, 3) := by decide +kernel
theorem dX2_takeBack_25 : decode cX2_takeBack 25 = .ok (.iconst 1, 1) := by decide +kernel
theorem dX2_takeBack_26 : decode cX2_takeBack 26 = .ok (.isub, 1) := by decide +kernel
theorem dX2_takeBack_27 : decode cX2_takeBack 27 = .ok (.putfield 17, 3) := by decide +kernel
theorem dX2_takeBack_30 : decode cX2_takeBack 30 = .ok (.return_, 1) := by decide +kernel
theorem dX3_livingSons_0 : decode cX3_livingSons 0 = .ok (.iconst 0, 1) := by decide +kernel
theorem dX3_livingSons_1 : decode cX3_livingSons 1 = .ok (.istore_n 2, 1) := by decide +kernel
theorem dX3_livingSons_2 : decode cX3_livingSons 2 = .ok (.iconst 0, 1) := by decide +kernel
theorem dX3_livingSons_3 : decode cX3_livingSons 3 = .ok (.istore_n 3, 1) := by decide +kernel
theorem dX3_livingSons_4 : decode cX3_livingSons 4 = .ok (.iload_n 3, 1) := by decide +kernel
theorem dX3_livingSons_5 : decode cX3_livingSons 5 = .ok (.aload_n 0, 1) := by decide +kernel
theorem dX3_livingSons_6 : decode cX3_livingSons 6 = .ok (.invokevirtual 9, 3) := by decide +kernel
theorem dX3_livingSons_9 : decode cX3_livingSons 9 = .ok (.if_icmp .ge 29, 3) := by decide +kernel
theorem dX3_livingSons_12 : decode cX3_livingSons 12 = .ok (.aload_n 0, 1) := by decide +kernel
theorem dX3_livingSons_13 : decode cX3_livingSons 13 = .ok (.iload_n 3, 1) := by decide +kernel
theorem dX3_livingSons_14 : decode cX3_livingSons 14 = .ok (.invokevirtual 15, 3) := by decide +kernel
theorem dX3_livingSons_17 : decode cX3_livingSons 17 = .ok (.ifCond .eq 15, 3) := by decide +kernel
theorem dX3_livingSons_20 : decode cX3_livingSons 20 = .ok (.aload_n 0, 1) := by decide +kernel
theorem dX3_livingSons_21 : decode cX3_livingSons 21 = .ok (.iload_n 3, 1) := by decide +kernel
theorem dX3_livingSons_22 : decode cX3_livingSons 22 = .ok (.invokevirtual 19, 3) := by decide +kernel
theorem dX3_livingSons_25 : decode cX3_livingSons 25 = .ok (.iload_n 1, 1) := by decide +kernel
theorem dX3_livingSons_26 : decode cX3_livingSons 26 = .ok (.if_icmp .ne 6, 3) := by decide +kernel
theorem dX3_livingSons_29 : decode cX3_livingSons 29 = .ok (.iinc 2 1, 3) := by decide +kernel
theorem dX3_livingSons_32 : decode cX3_livingSons 32 = .ok (.iinc 3 1, 3) := by decide +kernel
theorem dX3_livingSons_35 : decode cX3_livingSons 35 = .ok (.goto (-31), 3) := by decide +kernel
theorem dX3_livingSons_38 : decode cX3_livingSons 38 = .ok (.iload_n 2, 1) := by decide +kernel
theorem dX3_livingSons_39 : decode cX3_livingSons 39 = .ok (.ireturn, 1) := by decide +kernel
theorem dX3_livingBrothers_0 : decode cX3_livingBrothers 0 = .ok (.iconst 0, 1) := by decide +kernel
theorem dX3_livingBrothers_1 : decode cX3_livingBrothers 1 = .ok (.istore_n 2, 1) := by decide +kernel
theorem dX3_livingBrothers_2 : decode cX3_livingBrothers 2 = .ok (.iconst 0, 1) := by decide +kernel
theorem dX3_livingBrothers_3 : decode cX3_livingBrothers 3 = .ok (.istore_n 3, 1) := by decide +kernel
theorem dX3_livingBrothers_4 : decode cX3_livingBrothers 4 = .ok (.iload_n 3, 1) := by decide +kernel
theorem dX3_livingBrothers_5 : decode cX3_livingBrothers 5 = .ok (.aload_n 0, 1) := by decide +kernel
theorem dX3_livingBrothers_6 : decode cX3_livingBrothers 6 = .ok (.invokevirtual 9, 3) := by decide +kernel
theorem dX3_livingBrothers_9 : decode cX3_livingBrothers 9 = .ok (.if_icmp .ge 29, 3) := by decide +kernel
theorem dX3_livingBrothers_12 : decode cX3_livingBrothers 12 = .ok (.aload_n 0, 1) := by decide +kernel
theorem dX3_livingBrothers_13 : decode cX3_livingBrothers 13 = .ok (.iload_n 3, 1) := by decide +kernel
theorem dX3_livingBrothers_14 : decode cX3_livingBrothers 14 = .ok (.invokevirtual 15, 3) := by decide +kernel
theorem dX3_livingBrothers_17 : decode cX3_livingBrothers 17 = .ok (.ifCond .eq 15, 3) := by decide +kernel
theorem dX3_livingBrothers_20 : decode cX3_livingBrothers 20 = .ok (.aload_n 0, 1) := by decide +kernel
theorem dX3_livingBrothers_21 : decode cX3_livingBrothers 21 = .ok (.iload_n 3, 1) := by decide +kernel
theorem dX3_livingBrothers_22 : decode cX3_livingBrothers 22 = .ok (.iload_n 1, 1) := by decide +kernel
theorem dX3_livingBrothers_23 : decode cX3_livingBrothers 23 = .ok (.invokevirtual 23, 3) := by decide +kernel
theorem dX3_livingBrothers_26 : decode cX3_livingBrothers 26 = .ok (.ifCond .eq 6, 3) := by decide +kernel
theorem dX3_livingBrothers_29 : decode cX3_livingBrothers 29 = .ok (.iinc 2 1, 3) := by decide +kernel
theorem dX3_livingBrothers_32 : decode cX3_livingBrothers 32 = .ok (.iinc 3 1, 3) := by decide +kernel
theorem dX3_livingBrothers_35 : decode cX3_livingBrothers 35 = .ok (.goto (-31), 3) := by decide +kernel
theorem dX3_livingBrothers_38 : decode cX3_livingBrothers 38 = .ok (.iload_n 2, 1) := by decide +kernel
theorem dX3_livingBrothers_39 : decode cX3_livingBrothers 39 = .ok (.ireturn, 1) := by decide +kernel
theorem dX3_livingCousins_0 : decode cX3_livingCousins 0 = .ok (.iconst 0, 1) := by decide +kernel
theorem dX3_livingCousins_1 : decode cX3_livingCousins 1 = .ok (.istore_n 2, 1) := by decide +kernel
theorem dX3_livingCousins_2 : decode cX3_livingCousins 2 = .ok (.iconst 0, 1) := by decide +kernel
theorem dX3_livingCousins_3 : decode cX3_livingCousins 3 = .ok (.istore_n 3, 1) := by decide +kernel
theorem dX3_livingCousins_4 : decode cX3_livingCousins 4 = .ok (.iload_n 3, 1) := by decide +kernel
theorem dX3_livingCousins_5 : decode cX3_livingCousins 5 = .ok (.aload_n 0, 1) := by decide +kernel
theorem dX3_livingCousins_6 : decode cX3_livingCousins 6 = .ok (.invokevirtual 9, 3) := by decide +kernel
theorem dX3_livingCousins_9 : decode cX3_livingCousins 9 = .ok (.if_icmp .ge 37, 3) := by decide +kernel
theorem dX3_livingCousins_12 : decode cX3_livingCousins 12 = .ok (.aload_n 0, 1) := by decide +kernel
theorem dX3_livingCousins_13 : decode cX3_livingCousins 13 = .ok (.iload_n 3, 1) := by decide +kernel
theorem dX3_livingCousins_14 : decode cX3_livingCousins 14 = .ok (.invokevirtual 15, 3) := by decide +kernel
theorem dX3_livingCousins_17 : decode cX3_livingCousins 17 = .ok (.ifCond .eq 23, 3) := by decide +kernel
theorem dX3_livingCousins_20 : decode cX3_livingCousins 20 = .ok (.aload_n 0, 1) := by decide +kernel
theorem dX3_livingCousins_21 : decode cX3_livingCousins 21 = .ok (.aload_n 0, 1) := by decide +kernel
theorem dX3_livingCousins_22 : decode cX3_livingCousins 22 = .ok (.iload_n 3, 1) := by decide +kernel
theorem dX3_livingCousins_23 : decode cX3_livingCousins 23 = .ok (.invokevirtual 19, 3) := by decide +kernel
theorem dX3_livingCousins_26 : decode cX3_livingCousins 26 = .ok (.aload_n 0, 1) := by decide +kernel
theorem dX3_livingCousins_27 : decode cX3_livingCousins 27 = .ok (.iload_n 1, 1) := by decide +kernel
theorem dX3_livingCousins_28 : decode cX3_livingCousins 28 = .ok (.invokevirtual 19, 3) := by decide +kernel
theorem dX3_livingCousins_31 : decode cX3_livingCousins 31 = .ok (.invokevirtual 23, 3) := by decide +kernel
theorem dX3_livingCousins_34 : decode cX3_livingCousins 34 = .ok (.ifCond .eq 6, 3) := by decide +kernel
theorem dX3_livingCousins_37 : decode cX3_livingCousins 37 = .ok (.iinc 2 1, 3) := by decide +kernel
theorem dX3_livingCousins_40 : decode cX3_livingCousins 40 = .ok (.iinc 3 1, 3) := by decide +kernel
theorem dX3_livingCousins_43 : decode cX3_livingCousins 43 = .ok (.goto (-39), 3) := by decide +kernel
theorem dX3_livingCousins_46 : decode cX3_livingCousins 46 = .ok (.iload_n 2, 1) := by decide +kernel
theorem dX3_livingCousins_47 : decode cX3_livingCousins 47 = .ok (.ireturn, 1) := by decide +kernel
theorem dX3_descendants_0 : decode cX3_descendants 0 = .ok (.iconst 0, 1) := by decide +kernel
theorem dX3_descendants_1 : decode cX3_descendants 1 = .ok (.istore_n 2, 1) := by decide +kernel
theorem dX3_descendants_2 : decode cX3_descendants 2 = .ok (.iload_n 1, 1) := by decide +kernel
theorem dX3_descendants_3 : decode cX3_descendants 3 = .ok (.iconst 1, 1) := by decide +kernel
theorem dX3_descendants_4 : decode cX3_descendants 4 = .ok (.iadd, 1) := by decide +kernel
theorem dX3_descendants_5 : decode cX3_descendants 5 = .ok (.istore_n 3, 1) := by decide +kernel
theorem dX3_descendants_6 : decode cX3_descendants 6 = .ok (.iload_n 3, 1) := by decide +kernel
theorem dX3_descendants_7 : decode cX3_descendants 7 = .ok (.aload_n 0, 1) := by decide +kernel
theorem dX3_descendants_8 : decode cX3_descendants 8 = .ok (.invokevirtual 9, 3) := by decide +kernel
theorem dX3_descendants_11 : decode cX3_descendants 11 = .ok (.if_icmp .ge 21, 3) := by decide +kernel
theorem dX3_descendants_14 : decode cX3_descendants 14 = .ok (.aload_n 0, 1) := by decide +kernel
theorem dX3_descendants_15 : decode cX3_descendants 15 = .ok (.iload_n 3, 1) := by decide +kernel
theorem dX3_descendants_16 : decode cX3_descendants 16 = .ok (.iload_n 1, 1) := by decide +kernel
theorem dX3_descendants_17 : decode cX3_descendants 17 = .ok (.invokestatic 27, 3) := by decide +kernel
theorem dX3_descendants_20 : decode cX3_descendants 20 = .ok (.ifCond .eq 6, 3) := by decide +kernel
theorem dX3_descendants_23 : decode cX3_descendants 23 = .ok (.iinc 2 1, 3) := by decide +kernel
theorem dX3_descendants_26 : decode cX3_descendants 26 = .ok (.iinc 3 1, 3) := by decide +kernel
theorem dX3_descendants_29 : decode cX3_descendants 29 = .ok (.goto (-23), 3) := by decide +kernel
theorem dX3_descendants_32 : decode cX3_descendants 32 = .ok (.iload_n 2, 1) := by decide +kernel
theorem dX3_descendants_33 : decode cX3_descendants 33 = .ok (.ireturn, 1) := by decide +kernel
theorem dX3_comesFrom_0 : decode cX3_comesFrom 0 = .ok (.iload_n 1, 1) := by decide +kernel
theorem dX3_comesFrom_1 : decode cX3_comesFrom 1 = .ok (.istore_n 3, 1) := by decide +kernel
theorem dX3_comesFrom_2 : decode cX3_comesFrom 2 = .ok (.iconst 0, 1) := by decide +kernel
theorem dX3_comesFrom_3 : decode cX3_comesFrom 3 = .ok (.istore 4, 2) := by decide +kernel
theorem dX3_comesFrom_5 : decode cX3_comesFrom 5 = .ok (.iload 4, 2) := by decide +kernel
theorem dX3_comesFrom_7 : decode cX3_comesFrom 7 = .ok (.bipush 20, 2) := by decide +kernel
theorem dX3_comesFrom_9 : decode cX3_comesFrom 9 = .ok (.if_icmp .ge 20, 3) := by decide +kernel
theorem dX3_comesFrom_12 : decode cX3_comesFrom 12 = .ok (.iload_n 3, 1) := by decide +kernel
theorem dX3_comesFrom_13 : decode cX3_comesFrom 13 = .ok (.iload_n 2, 1) := by decide +kernel
theorem dX3_comesFrom_14 : decode cX3_comesFrom 14 = .ok (.if_icmp .le 15, 3) := by decide +kernel
theorem dX3_comesFrom_17 : decode cX3_comesFrom 17 = .ok (.aload_n 0, 1) := by decide +kernel
theorem dX3_comesFrom_18 : decode cX3_comesFrom 18 = .ok (.iload_n 3, 1) := by decide +kernel
theorem dX3_comesFrom_19 : decode cX3_comesFrom 19 = .ok (.invokevirtual 19, 3) := by decide +kernel
theorem dX3_comesFrom_22 : decode cX3_comesFrom 22 = .ok (.istore_n 3, 1) := by decide +kernel
theorem dX3_comesFrom_23 : decode cX3_comesFrom 23 = .ok (.iinc 4 1, 3) := by decide +kernel
theorem dX3_comesFrom_26 : decode cX3_comesFrom 26 = .ok (.goto (-21), 3) := by decide +kernel
theorem dX3_comesFrom_29 : decode cX3_comesFrom 29 = .ok (.iload_n 3, 1) := by decide +kernel
theorem dX3_comesFrom_30 : decode cX3_comesFrom 30 = .ok (.iload_n 2, 1) := by decide +kernel
theorem dX3_comesFrom_31 : decode cX3_comesFrom 31 = .ok (.if_icmp .ne 7, 3) := by decide +kernel
theorem dX3_comesFrom_34 : decode cX3_comesFrom 34 = .ok (.iconst 1, 1) := by decide +kernel
theorem dX3_comesFrom_35 : decode cX3_comesFrom 35 = .ok (.goto 4, 3) := by decide +kernel
theorem dX3_comesFrom_38 : decode cX3_comesFrom 38 = .ok (.iconst 0, 1) := by decide +kernel
theorem dX3_comesFrom_39 : decode cX3_comesFrom 39 = .ok (.ireturn, 1) := by decide +kernel
theorem dX3_stepsFromFounder_0 : decode cX3_stepsFromFounder 0 = .ok (.iload_n 1, 1) := by decide +kernel
theorem dX3_stepsFromFounder_1 : decode cX3_stepsFromFounder 1 = .ok (.istore_n 2, 1) := by decide +kernel
theorem dX3_stepsFromFounder_2 : decode cX3_stepsFromFounder 2 = .ok (.iconst 0, 1) := by decide +kernel
theorem dX3_stepsFromFounder_3 : decode cX3_stepsFromFounder 3 = .ok (.istore_n 3, 1) := by decide +kernel
theorem dX3_stepsFromFounder_4 : decode cX3_stepsFromFounder 4 = .ok (.iload_n 3, 1) := by decide +kernel
theorem dX3_stepsFromFounder_5 : decode cX3_stepsFromFounder 5 = .ok (.bipush 20, 2) := by decide +kernel
theorem dX3_stepsFromFounder_7 : decode cX3_stepsFromFounder 7 = .ok (.if_icmp .ge 24, 3) := by decide +kernel
theorem dX3_stepsFromFounder_10 : decode cX3_stepsFromFounder 10 = .ok (.aload_n 0, 1) := by decide +kernel
theorem dX3_stepsFromFounder_11 : decode cX3_stepsFromFounder 11 = .ok (.iload_n 2, 1) := by decide +kernel
theorem dX3_stepsFromFounder_12 : decode cX3_stepsFromFounder 12 = .ok (.invokevirtual 19, 3) := by decide +kernel
theorem dX3_stepsFromFounder_15 : decode cX3_stepsFromFounder 15 = .ok (.iconst (-1), 1) := by decide +kernel
theorem dX3_stepsFromFounder_16 : decode cX3_stepsFromFounder 16 = .ok (.if_icmp .eq 15, 3) := by decide +kernel
theorem dX3_stepsFromFounder_19 : decode cX3_stepsFromFounder 19 = .ok (.aload_n 0, 1) := by decide +kernel
theorem dX3_stepsFromFounder_20 : decode cX3_stepsFromFounder 20 = .ok (.iload_n 2, 1) := by decide +kernel
theorem dX3_stepsFromFounder_21 : decode cX3_stepsFromFounder 21 = .ok (.invokevirtual 19, 3) := by decide +kernel
theorem dX3_stepsFromFounder_24 : decode cX3_stepsFromFounder 24 = .ok (.istore_n 2, 1) := by decide +kernel
theorem dX3_stepsFromFounder_25 : decode cX3_stepsFromFounder 25 = .ok (.iinc 3 1, 3) := by decide +kernel
theorem dX3_stepsFromFounder_28 : decode cX3_stepsFromFounder 28 = .ok (.goto (-24), 3) := by decide +kernel
theorem dX3_stepsFromFounder_31 : decode cX3_stepsFromFounder 31 = .ok (.iload_n 3, 1) := by decide +kernel
theorem dX3_stepsFromFounder_32 : decode cX3_stepsFromFounder 32 = .ok (.ireturn, 1) := by decide +kernel
theorem dX3_placesFromFather_0 : decode cX3_placesFromFather 0 = .ok (.aload_n 0, 1) := by decide +kernel
theorem dX3_placesFromFather_1 : decode cX3_placesFromFather 1 = .ok (.iload_n 1, 1) := by decide +kernel
theorem dX3_placesFromFather_2 : decode cX3_placesFromFather 2 = .ok (.invokevirtual 19, 3) := by decide +kernel
theorem dX3_placesFromFather_5 : decode cX3_placesFromFather 5 = .ok (.istore_n 2, 1) := by decide +kernel
theorem dX3_placesFromFather_6 : decode cX3_placesFromFather 6 = .ok (.iload_n 2, 1) := by decide +kernel
theorem dX3_placesFromFather_7 : decode cX3_placesFromFather 7 = .ok (.iconst (-1), 1) := by decide +kernel
theorem dX3_placesFromFather_8 : decode cX3_placesFromFather 8 = .ok (.if_icmp .ne 6, 3) := by decide +kernel
theorem dX3_placesFromFather_11 : decode cX3_placesFromFather 11 = .ok (.bipush (-4), 2) := by decide +kernel
theorem dX3_placesFromFather_13 : decode cX3_placesFromFather 13 = .ok (.ireturn, 1) := by decide +kernel
theorem dX3_placesFromFather_14 : decode cX3_placesFromFather 14 = .ok (.aload_n 0, 1) := by decide +kernel
theorem dX3_placesFromFather_15 : decode cX3_placesFromFather 15 = .ok (.iload_n 1, 1) := by decide +kernel
theorem dX3_placesFromFather_16 : decode cX3_placesFromFather 16 = .ok (.invokevirtual 33, 3) := by decide +kernel
theorem dX3_placesFromFather_19 : decode cX3_placesFromFather 19 = .ok (.aload_n 0, 1) := by decide +kernel
theorem dX3_placesFromFather_20 : decode cX3_placesFromFather 20 = .ok (.iload_n 2, 1) := by decide +kernel
theorem dX3_placesFromFather_21 : decode cX3_placesFromFather 21 = .ok (.invokevirtual 33, 3) := by decide +kernel
theorem dX3_placesFromFather_24 : decode cX3_placesFromFather 24 = .ok (.invokestatic 36, 3) := by decide +kernel
theorem dX3_placesFromFather_27 : decode cX3_placesFromFather 27 = .ok (.ireturn, 1) := by decide +kernel
theorem dX3_nearness_0 : decode cX3_nearness 0 = .ok (.iconst 0, 1) := by decide +kernel
theorem dX3_nearness_1 : decode cX3_nearness 1 = .ok (.istore_n 3, 1) := by decide +kernel
theorem dX3_nearness_2 : decode cX3_nearness 2 = .ok (.iload_n 3, 1) := by decide +kernel
theorem dX3_nearness_3 : decode cX3_nearness 3 = .ok (.bipush 40, 2) := by decide +kernel
theorem dX3_nearness_5 : decode cX3_nearness 5 = .ok (.if_icmp .ge 34, 3) := by decide +kernel
theorem dX3_nearness_8 : decode cX3_nearness 8 = .ok (.iload_n 1, 1) := by decide +kernel
theorem dX3_nearness_9 : decode cX3_nearness 9 = .ok (.iload_n 2, 1) := by decide +kernel
theorem dX3_nearness_10 : decode cX3_nearness 10 = .ok (.if_icmp .eq 29, 3) := by decide +kernel
theorem dX3_nearness_13 : decode cX3_nearness 13 = .ok (.iload_n 1, 1) := by decide +kernel
theorem dX3_nearness_14 : decode cX3_nearness 14 = .ok (.iload_n 2, 1) := by decide +kernel
theorem dX3_nearness_15 : decode cX3_nearness 15 = .ok (.if_icmp .le 12, 3) := by decide +kernel
theorem dX3_nearness_18 : decode cX3_nearness 18 = .ok (.aload_n 0, 1) := by decide +kernel
theorem dX3_nearness_19 : decode cX3_nearness 19 = .ok (.iload_n 1, 1) := by decide +kernel
theorem dX3_nearness_20 : decode cX3_nearness 20 = .ok (.invokevirtual 19, 3) := by decide +kernel
theorem dX3_nearness_23 : decode cX3_nearness 23 = .ok (.istore_n 1, 1) := by decide +kernel
theorem dX3_nearness_24 : decode cX3_nearness 24 = .ok (.goto 9, 3) := by decide +kernel
theorem dX3_nearness_27 : decode cX3_nearness 27 = .ok (.aload_n 0, 1) := by decide +kernel
theorem dX3_nearness_28 : decode cX3_nearness 28 = .ok (.iload_n 2, 1) := by decide +kernel
theorem dX3_nearness_29 : decode cX3_nearness 29 = .ok (.invokevirtual 19, 3) := by decide +kernel
theorem dX3_nearness_32 : decode cX3_nearness 32 = .ok (.istore_n 2, 1) := by decide +kernel
theorem dX3_nearness_33 : decode cX3_nearness 33 = .ok (.iinc 3 1, 3) := by decide +kernel
theorem dX3_nearness_36 : decode cX3_nearness 36 = .ok (.goto (-34), 3) := by decide +kernel
theorem dX3_nearness_39 : decode cX3_nearness 39 = .ok (.iload_n 1, 1) := by decide +kernel
theorem dX3_nearness_40 : decode cX3_nearness 40 = .ok (.iload_n 2, 1) := by decide +kernel
theorem dX3_nearness_41 : decode cX3_nearness 41 = .ok (.if_icmp .ne 12, 3) := by decide +kernel
theorem dX3_nearness_44 : decode cX3_nearness 44 = .ok (.iload_n 1, 1) := by decide +kernel
theorem dX3_nearness_45 : decode cX3_nearness 45 = .ok (.iconst (-1), 1) := by decide +kernel
theorem dX3_nearness_46 : decode cX3_nearness 46 = .ok (.if_icmp .eq 7, 3) := by decide +kernel
theorem dX3_nearness_49 : decode cX3_nearness 49 = .ok (.iload_n 3, 1) := by decide +kernel
theorem dX3_nearness_50 : decode cX3_nearness 50 = .ok (.goto 5, 3) := by decide +kernel
theorem dX3_nearness_53 : decode cX3_nearness 53 = .ok (.bipush (-4), 2) := by decide +kernel
theorem dX3_nearness_55 : decode cX3_nearness 55 = .ok (.ireturn, 1) := by decide +kernel
theorem dX3_heirOf_0 : decode cX3_heirOf 0 = .ok (.iconst 0, 1) := by decide +kernel
theorem dX3_heirOf_1 : decode cX3_heirOf 1 = .ok (.istore_n 2, 1) := by decide +kernel
theorem dX3_heirOf_2 : decode cX3_heirOf 2 = .ok (.iload_n 2, 1) := by decide +kernel
theorem dX3_heirOf_3 : decode cX3_heirOf 3 = .ok (.aload_n 0, 1) := by decide +kernel
theorem dX3_heirOf_4 : decode cX3_heirOf 4 = .ok (.invokevirtual 9, 3) := by decide +kernel
theorem dX3_heirOf_7 : decode cX3_heirOf 7 = .ok (.if_icmp .ge 36, 3) := by decide +kernel
theorem dX3_heirOf_10 : decode cX3_heirOf 10 = .ok (.aload_n 0, 1) := by decide +kernel
theorem dX3_heirOf_11 : decode cX3_heirOf 11 = .ok (.iload_n 2, 1) := by decide +kernel
theorem dX3_heirOf_12 : decode cX3_heirOf 12 = .ok (.invokevirtual 15, 3) := by decide +kernel
theorem dX3_heirOf_15 : decode cX3_heirOf 15 = .ok (.ifCond .eq 22, 3) := by decide +kernel
theorem dX3_heirOf_18 : decode cX3_heirOf 18 = .ok (.aload_n 0, 1) := by decide +kernel
theorem dX3_heirOf_19 : decode cX3_heirOf 19 = .ok (.iload_n 2, 1) := by decide +kernel
theorem dX3_heirOf_20 : decode cX3_heirOf 20 = .ok (.invokevirtual 19, 3) := by decide +kernel
theorem dX3_heirOf_23 : decode cX3_heirOf 23 = .ok (.iload_n 1, 1) := by decide +kernel
theorem dX3_heirOf_24 : decode cX3_heirOf 24 = .ok (.if_icmp .ne 13, 3) := by decide +kernel
theorem dX3_heirOf_27 : decode cX3_heirOf 27 = .ok (.aload_n 0, 1) := by decide +kernel
theorem dX3_heirOf_28 : decode cX3_heirOf 28 = .ok (.iload_n 2, 1) := by decide +kernel
theorem dX3_heirOf_29 : decode cX3_heirOf 29 = .ok (.invokevirtual 42, 3) := by decide +kernel
theorem dX3_heirOf_32 : decode cX3_heirOf 32 = .ok (.ifCond .ne 5, 3) := by decide +kernel
theorem dX3_heirOf_35 : decode cX3_heirOf 35 = .ok (.iload_n 2, 1) := by decide +kernel
theorem dX3_heirOf_36 : decode cX3_heirOf 36 = .ok (.ireturn, 1) := by decide +kernel
theorem dX3_heirOf_37 : decode cX3_heirOf 37 = .ok (.iinc 2 1, 3) := by decide +kernel
theorem dX3_heirOf_40 : decode cX3_heirOf 40 = .ok (.goto (-38), 3) := by decide +kernel
theorem dX3_heirOf_43 : decode cX3_heirOf 43 = .ok (.iconst (-1), 1) := by decide +kernel
theorem dX3_heirOf_44 : decode cX3_heirOf 44 = .ok (.ireturn, 1) := by decide +kernel
theorem dX4_init_0 : decode cX4_init 0 = .ok (.aload_n 0, 1) := by decide +kernel
theorem dX4_init_1 : decode cX4_init 1 = .ok (.invokespecial 3, 3) := by decide +kernel
theorem dX4_init_4 : decode cX4_init 4 = .ok (.aload_n 0, 1) := by decide +kernel
theorem dX4_init_5 : decode cX4_init 5 = .ok (.new 9, 3) := by decide +kernel
theorem dX4_init_8 : decode cX4_init 8 = .ok (.dup, 1) := by decide +kernel
theorem dX4_init_9 : decode cX4_init 9 = .ok (.invokespecial 11, 3) := by decide +kernel
theorem dX4_init_12 : decode cX4_init 12 = .ok (.putfield 12, 3) := by decide +kernel
theorem dX4_init_15 : decode cX4_init 15 = .ok (.aload_n 0, 1) := by decide +kernel
theorem dX4_init_16 : decode cX4_init 16 = .ok (.new 9, 3) := by decide +kernel
theorem dX4_init_19 : decode cX4_init 19 = .ok (.dup, 1) := by decide +kernel
theorem dX4_init_20 : decode cX4_init 20 = .ok (.invokespecial 11, 3) := by decide +kernel
theorem dX4_init_23 : decode cX4_init 23 = .ok (.putfield 18, 3) := by decide +kernel
theorem dX4_init_26 : decode cX4_init 26 = .ok (.aload_n 0, 1) := by decide +kernel
theorem dX4_init_27 : decode cX4_init 27 = .ok (.new 9, 3) := by decide +kernel
theorem dX4_init_30 : decode cX4_init 30 = .ok (.dup, 1) := by decide +kernel
theorem dX4_init_31 : decode cX4_init 31 = .ok (.invokespecial 11, 3) := by decide +kernel
theorem dX4_init_34 : decode cX4_init 34 = .ok (.putfield 21, 3) := by decide +kernel
theorem dX4_init_37 : decode cX4_init 37 = .ok (.return_, 1) := by decide +kernel
theorem dX4_fewest_0 : decode cX4_fewest 0 = .ok (.iload_n 2, 1) := by decide +kernel
theorem dX4_fewest_1 : decode cX4_fewest 1 = .ok (.iload_n 3, 1) := by decide +kernel
theorem dX4_fewest_2 : decode cX4_fewest 2 = .ok (.invokestatic 24, 3) := by decide +kernel
theorem dX4_fewest_5 : decode cX4_fewest 5 = .ok (.istore 4, 2) := by decide +kernel
theorem dX4_fewest_7 : decode cX4_fewest 7 = .ok (.iload 4, 2) := by decide +kernel
theorem dX4_fewest_9 : decode cX4_fewest 9 = .ok (.istore 5, 2) := by decide +kernel
theorem dX4_fewest_11 : decode cX4_fewest 11 = .ok (.iload 5, 2) := by decide +kernel
theorem dX4_fewest_13 : decode cX4_fewest 13 = .ok (.iload 4, 2) := by decide +kernel
theorem dX4_fewest_15 : decode cX4_fewest 15 = .ok (.iconst 2, 1) := by decide +kernel
theorem dX4_fewest_16 : decode cX4_fewest 16 = .ok (.iadd, 1) := by decide +kernel
theorem dX4_fewest_17 : decode cX4_fewest 17 = .ok (.if_icmp .gt 24, 3) := by decide +kernel
theorem dX4_fewest_20 : decode cX4_fewest 20 = .ok (.aload_n 0, 1) := by decide +kernel
theorem dX4_fewest_21 : decode cX4_fewest 21 = .ok (.aload_n 1, 1) := by decide +kernel
theorem dX4_fewest_22 : decode cX4_fewest 22 = .ok (.iload_n 2, 1) := by decide +kernel
theorem dX4_fewest_23 : decode cX4_fewest 23 = .ok (.iload_n 3, 1) := by decide +kernel
theorem dX4_fewest_24 : decode cX4_fewest 24 = .ok (.iload 5, 2) := by decide +kernel
theorem dX4_fewest_26 : decode cX4_fewest 26 = .ok (.invokevirtual 30, 3) := by decide +kernel
theorem dX4_fewest_29 : decode cX4_fewest 29 = .ok (.ifCond .eq 6, 3) := by decide +kernel
theorem dX4_fewest_32 : decode cX4_fewest 32 = .ok (.iload 5, 2) := by decide +kernel
theorem dX4_fewest_34 : decode cX4_fewest 34 = .ok (.ireturn, 1) := by decide +kernel
theorem dX4_fewest_35 : decode cX4_fewest 35 = .ok (.iinc 5 1, 3) := by decide +kernel
theorem dX4_fewest_38 : decode cX4_fewest 38 = .ok (.goto (-27), 3) := by decide +kernel
theorem dX4_fewest_41 : decode cX4_fewest 41 = .ok (.bipush (-4), 2) := by decide +kernel
theorem dX4_fewest_43 : decode cX4_fewest 43 = .ok (.ireturn, 1) := by decide +kernel
theorem dX4_reaches_0 : decode cX4_reaches 0 = .ok (.aload_n 0, 1) := by decide +kernel
theorem dX4_reaches_1 : decode cX4_reaches 1 = .ok (.getfield 12, 3) := by decide +kernel
theorem dX4_reaches_4 : decode cX4_reaches 4 = .ok (.invokevirtual 34, 3) := by decide +kernel
theorem dX4_reaches_7 : decode cX4_reaches 7 = .ok (.aload_n 0, 1) := by decide +kernel
theorem dX4_reaches_8 : decode cX4_reaches 8 = .ok (.getfield 18, 3) := by decide +kernel
theorem dX4_reaches_11 : decode cX4_reaches 11 = .ok (.invokevirtual 34, 3) := by decide +kernel
theorem dX4_reaches_14 : decode cX4_reaches 14 = .ok (.aload_n 0, 1) := by decide +kernel
theorem dX4_reaches_15 : decode cX4_reaches 15 = .ok (.getfield 12, 3) := by decide +kernel
theorem dX4_reaches_18 : decode cX4_reaches 18 = .ok (.iload_n 2, 1) := by decide +kernel
theorem dX4_reaches_19 : decode cX4_reaches 19 = .ok (.invokevirtual 37, 3) := by decide +kernel
theorem dX4_reaches_22 : decode cX4_reaches 22 = .ok (.aload_n 0, 1) := by decide +kernel
theorem dX4_reaches_23 : decode cX4_reaches 23 = .ok (.getfield 18, 3) := by decide +kernel
theorem dX4_reaches_26 : decode cX4_reaches 26 = .ok (.iload_n 2, 1) := by decide +kernel
theorem dX4_reaches_27 : decode cX4_reaches 27 = .ok (.invokevirtual 37, 3) := by decide +kernel
theorem dX4_reaches_30 : decode cX4_reaches 30 = .ok (.iconst 1, 1) := by decide +kernel
theorem dX4_reaches_31 : decode cX4_reaches 31 = .ok (.istore 5, 2) := by decide +kernel
theorem dX4_reaches_33 : decode cX4_reaches 33 = .ok (.iload 5, 2) := by decide +kernel
theorem dX4_reaches_35 : decode cX4_reaches 35 = .ok (.iload 4, 2) := by decide +kernel
theorem dX4_reaches_37 : decode cX4_reaches 37 = .ok (.if_icmp .gt 60, 3) := by decide +kernel
theorem dX4_reaches_40 : decode cX4_reaches 40 = .ok (.aload_n 0, 1) := by decide +kernel
theorem dX4_reaches_41 : decode cX4_reaches 41 = .ok (.getfield 21, 3) := by decide +kernel
theorem dX4_reaches_44 : decode cX4_reaches 44 = .ok (.invokevirtual 34, 3) := by decide +kernel
theorem dX4_reaches_47 : decode cX4_reaches 47 = .ok (.aload_n 0, 1) := by decide +kernel
theorem dX4_reaches_48 : decode cX4_reaches 48 = .ok (.aload_n 1, 1) := by decide +kernel
theorem dX4_reaches_49 : decode cX4_reaches 49 = .ok (.iload_n 3, 1) := by decide +kernel
theorem dX4_reaches_50 : decode cX4_reaches 50 = .ok (.iload 4, 2) := by decide +kernel
theorem dX4_reaches_52 : decode cX4_reaches 52 = .ok (.iload 5, 2) := by decide +kernel
theorem dX4_reaches_54 : decode cX4_reaches 54 = .ok (.isub, 1) := by decide +kernel
theorem dX4_reaches_55 : decode cX4_reaches 55 = .ok (.invokevirtual 41, 3) := by decide +kernel
theorem dX4_reaches_58 : decode cX4_reaches 58 = .ok (.aload_n 0, 1) := by decide +kernel
theorem dX4_reaches_59 : decode cX4_reaches 59 = .ok (.getfield 21, 3) := by decide +kernel
theorem dX4_reaches_62 : decode cX4_reaches 62 = .ok (.iload_n 3, 1) := by decide +kernel
theorem dX4_reaches_63 : decode cX4_reaches 63 = .ok (.invokevirtual 45, 3) := by decide +kernel
theorem dX4_reaches_66 : decode cX4_reaches 66 = .ok (.ifCond .eq 5, 3) := by decide +kernel
theorem dX4_reaches_69 : decode cX4_reaches 69 = .ok (.iconst 1, 1) := by decide +kernel
theorem dX4_reaches_70 : decode cX4_reaches 70 = .ok (.ireturn, 1) := by decide +kernel
theorem dX4_reaches_71 : decode cX4_reaches 71 = .ok (.aload_n 0, 1) := by decide +kernel
theorem dX4_reaches_72 : decode cX4_reaches 72 = .ok (.getfield 18, 3) := by decide +kernel
theorem dX4_reaches_75 : decode cX4_reaches 75 = .ok (.astore 6, 2) := by decide +kernel
theorem dX4_reaches_77 : decode cX4_reaches 77 = .ok (.aload_n 0, 1) := by decide +kernel
theorem dX4_reaches_78 : decode cX4_reaches 78 = .ok (.aload_n 0, 1) := by decide +kernel
theorem dX4_reaches_79 : decode cX4_reaches 79 = .ok (.getfield 21, 3) := by decide +kernel
theorem dX4_reaches_82 : decode cX4_reaches 82 = .ok (.putfield 18, 3) := by decide +kernel
theorem dX4_reaches_85 : decode cX4_reaches 85 = .ok (.aload_n 0, 1) := by decide +kernel
theorem dX4_reaches_86 : decode cX4_reaches 86 = .ok (.aload 6, 2) := by decide +kernel
theorem dX4_reaches_88 : decode cX4_reaches 88 = .ok (.putfield 21, 3) := by decide +kernel
theorem dX4_reaches_91 : decode cX4_reaches 91 = .ok (.iinc 5 1, 3) := by decide +kernel
theorem dX4_reaches_94 : decode cX4_reaches 94 = .ok (.goto (-61), 3) := by decide +kernel
theorem dX4_reaches_97 : decode cX4_reaches 97 = .ok (.iconst 0, 1) := by decide +kernel
theorem dX4_reaches_98 : decode cX4_reaches 98 = .ok (.ireturn, 1) := by decide +kernel
theorem dX4_goOn_0 : decode cX4_goOn 0 = .ok (.iconst 0, 1) := by decide +kernel
theorem dX4_goOn_1 : decode cX4_goOn 1 = .ok (.istore 4, 2) := by decide +kernel
theorem dX4_goOn_3 : decode cX4_goOn 3 = .ok (.iload 4, 2) := by decide +kernel
theorem dX4_goOn_5 : decode cX4_goOn 5 = .ok (.sipush 245, 3) := by decide +kernel
theorem dX4_goOn_8 : decode cX4_goOn 8 = .ok (.if_icmp .ge 71, 3) := by decide +kernel
theorem dX4_goOn_11 : decode cX4_goOn 11 = .ok (.aload_n 0, 1) := by decide +kernel
theorem dX4_goOn_12 : decode cX4_goOn 12 = .ok (.getfield 18, 3) := by decide +kernel
theorem dX4_goOn_15 : decode cX4_goOn 15 = .ok (.iload 4, 2) := by decide +kernel
theorem dX4_goOn_17 : decode cX4_goOn 17 = .ok (.invokevirtual 49, 3) := by decide +kernel
theorem dX4_goOn_20 : decode cX4_goOn 20 = .ok (.ifCond .eq 6, 3) := by decide +kernel
theorem dX4_goOn_23 : decode cX4_goOn 23 = .ok (.goto 50, 3) := by decide +kernel
theorem dX4_goOn_26 : decode cX4_goOn 26 = .ok (.iload 4, 2) := by decide +kernel
theorem dX4_goOn_28 : decode cX4_goOn 28 = .ok (.bipush 64, 2) := by decide +kernel
theorem dX4_goOn_30 : decode cX4_goOn 30 = .ok (.imul, 1) := by decide +kernel
theorem dX4_goOn_31 : decode cX4_goOn 31 = .ok (.istore 5, 2) := by decide +kernel
theorem dX4_goOn_33 : decode cX4_goOn 33 = .ok (.iload 5, 2) := by decide +kernel
theorem dX4_goOn_35 : decode cX4_goOn 35 = .ok (.iload 4, 2) := by decide +kernel
theorem dX4_goOn_37 : decode cX4_goOn 37 = .ok (.bipush 64, 2) := by decide +kernel
theorem dX4_goOn_39 : decode cX4_goOn 39 = .ok (.imul, 1) := by decide +kernel
theorem dX4_goOn_40 : decode cX4_goOn 40 = .ok (.bipush 64, 2) := by decide +kernel
theorem dX4_goOn_42 : decode cX4_goOn 42 = .ok (.iadd, 1) := by decide +kernel
theorem dX4_goOn_43 : decode cX4_goOn 43 = .ok (.if_icmp .ge 30, 3) := by decide +kernel
theorem dX4_goOn_46 : decode cX4_goOn 46 = .ok (.aload_n 0, 1) := by decide +kernel
theorem dX4_goOn_47 : decode cX4_goOn 47 = .ok (.getfield 18, 3) := by decide +kernel
theorem dX4_goOn_50 : decode cX4_goOn 50 = .ok (.iload 5, 2) := by decide +kernel
theorem dX4_goOn_52 : decode cX4_goOn 52 = .ok (.invokevirtual 45, 3) := by decide +kernel
theorem dX4_goOn_55 : decode cX4_goOn 55 = .ok (.ifCond .eq 12, 3) := by decide +kernel
theorem dX4_goOn_58 : decode cX4_goOn 58 = .ok (.aload_n 0, 1) := by decide +kernel
theorem dX4_goOn_59 : decode cX4_goOn 59 = .ok (.aload_n 1, 1) := by decide +kernel
theorem dX4_goOn_60 : decode cX4_goOn 60 = .ok (.iload 5, 2) := by decide +kernel
theorem dX4_goOn_62 : decode cX4_goOn 62 = .ok (.iload_n 2, 1) := by decide +kernel
theorem dX4_goOn_63 : decode cX4_goOn 63 = .ok (.iload_n 3, 1) := by decide +kernel
theorem dX4_goOn_64 : decode cX4_goOn 64 = .ok (.invokevirtual 52, 3) := by decide +kernel
theorem dX4_goOn_67 : decode cX4_goOn 67 = .ok (.iinc 5 1, 3) := by decide +kernel
theorem dX4_goOn_70 : decode cX4_goOn 70 = .ok (.goto (-37), 3) := by decide +kernel
theorem dX4_goOn_73 : decode cX4_goOn 73 = .ok (.iinc 4 1, 3) := by decide +kernel
theorem dX4_goOn_76 : decode cX4_goOn 76 = .ok (.goto (-73), 3) := by decide +kernel
theorem dX4_goOn_79 : decode cX4_goOn 79 = .ok (.return_, 1) := by decide +kernel
theorem dX4_goOnFrom_0 : decode cX4_goOnFrom 0 = .ok (.iconst 0, 1) := by decide +kernel
theorem dX4_goOnFrom_1 : decode cX4_goOnFrom 1 = .ok (.istore 5, 2) := by decide +kernel
theorem dX4_goOnFrom_3 : decode cX4_goOnFrom 3 = .ok (.iload 5, 2) := by decide +kernel
theorem dX4_goOnFrom_5 : decode cX4_goOnFrom 5 = .ok (.bipush 30, 2) := by decide +kernel
theorem dX4_goOnFrom_7 : decode cX4_goOnFrom 7 = .ok (.if_icmp .ge 83, 3) := by decide +kernel
theorem dX4_goOnFrom_10 : decode cX4_goOnFrom 10 = .ok (.iload_n 2, 1) := by decide +kernel
theorem dX4_goOnFrom_11 : decode cX4_goOnFrom 11 = .ok (.iload 5, 2) := by decide +kernel
theorem dX4_goOnFrom_13 : decode cX4_goOnFrom 13 = .ok (.iconst 5, 1) := by decide +kernel
theorem dX4_goOnFrom_14 : decode cX4_goOnFrom 14 = .ok (.idiv, 1) := by decide +kernel
theorem dX4_goOnFrom_15 : decode cX4_goOnFrom 15 = .ok (.iload 5, 2) := by decide +kernel
theorem dX4_goOnFrom_17 : decode cX4_goOnFrom 17 = .ok (.iconst 5, 1) := by decide +kernel
theorem dX4_goOnFrom_18 : decode cX4_goOnFrom 18 = .ok (.irem, 1) := by decide +kernel
theorem dX4_goOnFrom_19 : decode cX4_goOnFrom 19 = .ok (.invokestatic 56, 3) := by decide +kernel
theorem dX4_goOnFrom_22 : decode cX4_goOnFrom 22 = .ok (.istore 6, 2) := by decide +kernel
theorem dX4_goOnFrom_24 : decode cX4_goOnFrom 24 = .ok (.iload 6, 2) := by decide +kernel
theorem dX4_goOnFrom_26 : decode cX4_goOnFrom 26 = .ok (.iload_n 3, 1) := by decide +kernel
theorem dX4_goOnFrom_27 : decode cX4_goOnFrom 27 = .ok (.invokestatic 24, 3) := by decide +kernel
theorem dX4_goOnFrom_30 : decode cX4_goOnFrom 30 = .ok (.iload 4, 2) := by decide +kernel
theorem dX4_goOnFrom_32 : decode cX4_goOnFrom 32 = .ok (.if_icmp .gt 52, 3) := by decide +kernel
theorem dX4_goOnFrom_35 : decode cX4_goOnFrom 35 = .ok (.aload_n 0, 1) := by decide +kernel
theorem dX4_goOnFrom_36 : decode cX4_goOnFrom 36 = .ok (.getfield 12, 3) := by decide +kernel
theorem dX4_goOnFrom_39 : decode cX4_goOnFrom 39 = .ok (.iload 6, 2) := by decide +kernel
theorem dX4_goOnFrom_41 : decode cX4_goOnFrom 41 = .ok (.invokevirtual 45, 3) := by decide +kernel
theorem dX4_goOnFrom_44 : decode cX4_goOnFrom 44 = .ok (.ifCond .eq 6, 3) := by decide +kernel
theorem dX4_goOnFrom_47 : decode cX4_goOnFrom 47 = .ok (.goto 37, 3) := by decide +kernel
theorem dX4_goOnFrom_50 : decode cX4_goOnFrom 50 = .ok (.iload 6, 2) := by decide +kernel
theorem dX4_goOnFrom_52 : decode cX4_goOnFrom 52 = .ok (.iload_n 3, 1) := by decide +kernel
theorem dX4_goOnFrom_53 : decode cX4_goOnFrom 53 = .ok (.if_icmp .eq 13, 3) := by decide +kernel
theorem dX4_goOnFrom_56 : decode cX4_goOnFrom 56 = .ok (.aload_n 1, 1) := by decide +kernel
theorem dX4_goOnFrom_57 : decode cX4_goOnFrom 57 = .ok (.iload 6, 2) := by decide +kernel
theorem dX4_goOnFrom_59 : decode cX4_goOnFrom 59 = .ok (.invokevirtual 60, 3) := by decide +kernel
theorem dX4_goOnFrom_62 : decode cX4_goOnFrom 62 = .ok (.iconst (-1), 1) := by decide +kernel
theorem dX4_goOnFrom_63 : decode cX4_goOnFrom 63 = .ok (.if_icmp .ne 21, 3) := by decide +kernel
theorem dX4_goOnFrom_66 : decode cX4_goOnFrom 66 = .ok (.aload_n 0, 1) := by decide +kernel
theorem dX4_goOnFrom_67 : decode cX4_goOnFrom 67 = .ok (.getfield 12, 3) := by decide +kernel
theorem dX4_goOnFrom_70 : decode cX4_goOnFrom 70 = .ok (.iload 6, 2) := by decide +kernel
theorem dX4_goOnFrom_72 : decode cX4_goOnFrom 72 = .ok (.invokevirtual 37, 3) := by decide +kernel
theorem dX4_goOnFrom_75 : decode cX4_goOnFrom 75 = .ok (.aload_n 0, 1) := by decide +kernel
theorem dX4_goOnFrom_76 : decode cX4_goOnFrom 76 = .ok (.getfield 21, 3) := by decide +kernel
theorem dX4_goOnFrom_79 : decode cX4_goOnFrom 79 = .ok (.iload 6, 2) := by decide +kernel
theorem dX4_goOnFrom_81 : decode cX4_goOnFrom 81 = .ok (.invokevirtual 37, 3) := by decide +kernel
theorem dX4_goOnFrom_84 : decode cX4_goOnFrom 84 = .ok (.iinc 5 1, 3) := by decide +kernel
theorem dX4_goOnFrom_87 : decode cX4_goOnFrom 87 = .ok (.goto (-84), 3) := by decide +kernel
theorem dX4_goOnFrom_90 : decode cX4_goOnFrom 90 = .ok (.return_, 1) := by decide +kernel
theorem dX5_init_0 : decode cX5_init 0 = .ok (.aload_n 0, 1) := by decide +kernel
theorem dX5_init_1 : decode cX5_init 1 = .ok (.invokespecial 3, 3) := by decide +kernel
theorem dX5_init_4 : decode cX5_init 4 = .ok (.aload_n 0, 1) := by decide +kernel
theorem dX5_init_5 : decode cX5_init 5 = .ok (.bipush 60, 2) := by decide +kernel
theorem dX5_init_7 : decode cX5_init 7 = .ok (.newarray .int, 2) := by decide +kernel
theorem dX5_init_9 : decode cX5_init 9 = .ok (.putfield 11, 3) := by decide +kernel
theorem dX5_init_12 : decode cX5_init 12 = .ok (.aload_n 0, 1) := by decide +kernel
theorem dX5_init_13 : decode cX5_init 13 = .ok (.iconst 0, 1) := by decide +kernel
theorem dX5_init_14 : decode cX5_init 14 = .ok (.putfield 15, 3) := by decide +kernel
theorem dX5_init_17 : decode cX5_init 17 = .ok (.return_, 1) := by decide +kernel
theorem dX5_length_0 : decode cX5_length 0 = .ok (.aload_n 0, 1) := by decide +kernel
theorem dX5_length_1 : decode cX5_length 1 = .ok (.getfield 15, 3) := by decide +kernel
theorem dX5_length_4 : decode cX5_length 4 = .ok (.ireturn, 1) := by decide +kernel
theorem dX5_isFull_0 : decode cX5_isFull 0 = .ok (.aload_n 0, 1) := by decide +kernel
theorem dX5_isFull_1 : decode cX5_isFull 1 = .ok (.getfield 15, 3) := by decide +kernel
theorem dX5_isFull_4 : decode cX5_isFull 4 = .ok (.bipush 60, 2) := by decide +kernel
theorem dX5_isFull_6 : decode cX5_isFull 6 = .ok (.if_icmp .lt 7, 3) := by decide +kernel
theorem dX5_isFull_9 : decode cX5_isFull 9 = .ok (.iconst 1, 1) := by decide +kernel
theorem dX5_isFull_10 : decode cX5_isFull 10 = .ok (.goto 4, 3) := by decide +kernel
theorem dX5_isFull_13 : decode cX5_isFull 13 = .ok (.iconst 0, 1) := by decide +kernel
theorem dX5_isFull_14 : decode cX5_isFull 14 = .ok (.ireturn, 1) := by decide +kernel
theorem dX5_put_0 : decode cX5_put 0 = .ok (.aload_n 0, 1) := by decide +kernel
theorem dX5_put_1 : decode cX5_put 1 = .ok (.getfield 15, 3) := by decide +kernel
theorem dX5_put_4 : decode cX5_put 4 = .ok (.ifCond .lt 32, 3) := by decide +kernel
theorem dX5_put_7 : decode cX5_put 7 = .ok (.aload_n 0, 1) := by decide +kernel
theorem dX5_put_8 : decode cX5_put 8 = .ok (.getfield 15, 3) := by decide +kernel
theorem dX5_put_11 : decode cX5_put 11 = .ok (.bipush 60, 2) := by decide +kernel
theorem dX5_put_13 : decode cX5_put 13 = .ok (.if_icmp .ge 23, 3) := by decide +kernel
theorem dX5_put_16 : decode cX5_put 16 = .ok (.aload_n 0, 1) := by decide +kernel
theorem dX5_put_17 : decode cX5_put 17 = .ok (.getfield 11, 3) := by decide +kernel
theorem dX5_put_20 : decode cX5_put 20 = .ok (.aload_n 0, 1) := by decide +kernel
theorem dX5_put_21 : decode cX5_put 21 = .ok (.getfield 15, 3) := by decide +kernel
theorem dX5_put_24 : decode cX5_put 24 = .ok (.iload_n 1, 1) := by decide +kernel
theorem dX5_put_25 : decode cX5_put 25 = .ok (.iastore, 1) := by decide +kernel
theorem dX5_put_26 : decode cX5_put 26 = .ok (.aload_n 0, 1) := by decide +kernel
theorem dX5_put_27 : decode cX5_put 27 = .ok (.dup, 1) := by decide +kernel
theorem dX5_put_28 : decode cX5_put 28 = .ok (.getfield 15, 3) := by decide +kernel
theorem dX5_put_31 : decode cX5_put 31 = .ok (.iconst 1, 1) := by decide +kernel
theorem dX5_put_32 : decode cX5_put 32 = .ok (.iadd, 1) := by decide +kernel
theorem dX5_put_33 : decode cX5_put 33 = .ok (.putfield 15, 3) := by decide +kernel
theorem dX5_put_36 : decode cX5_put 36 = .ok (.return_, 1) := by decide +kernel
theorem dX5_empty_0 : decode cX5_empty 0 = .ok (.aload_n 0, 1) := by decide +kernel
theorem dX5_empty_1 : decode cX5_empty 1 = .ok (.iconst 0, 1) := by decide +kernel
theorem dX5_empty_2 : decode cX5_empty 2 = .ok (.putfield 15, 3) := by decide +kernel
theorem dX5_empty_5 : decode cX5_empty 5 = .ok (.return_, 1) := by decide +kernel
theorem dX5_signAt_0 : decode cX5_signAt 0 = .ok (.iload_n 1, 1) := by decide +kernel
theorem dX5_signAt_1 : decode cX5_signAt 1 = .ok (.ifCond .lt 26, 3) := by decide +kernel
theorem dX5_signAt_4 : decode cX5_signAt 4 = .ok (.iload_n 1, 1) := by decide +kernel
theorem dX5_signAt_5 : decode cX5_signAt 5 = .ok (.aload_n 0, 1) := by decide +kernel
theorem dX5_signAt_6 : decode cX5_signAt 6 = .ok (.getfield 15, 3) := by decide +kernel
theorem dX5_signAt_9 : decode cX5_signAt 9 = .ok (.if_icmp .ge 18, 3) := by decide +kernel
theorem dX5_signAt_12 : decode cX5_signAt 12 = .ok (.iload_n 1, 1) := by decide +kernel
theorem dX5_signAt_13 : decode cX5_signAt 13 = .ok (.bipush 60, 2) := by decide +kernel
theorem dX5_signAt_15 : decode cX5_signAt 15 = .ok (.if_icmp .ge 12, 3) := by decide +kernel
theorem dX5_signAt_18 : decode cX5_signAt 18 = .ok (.aload_n 0, 1) := by decide +kernel
theorem dX5_signAt_19 : decode cX5_signAt 19 = .ok (.getfield 11, 3) := by decide +kernel
theorem dX5_signAt_22 : decode cX5_signAt 22 = .ok (.iload_n 1, 1) := by decide +kernel
theorem dX5_signAt_23 : decode cX5_signAt 23 = .ok (.iaload, 1) := by decide +kernel
theorem dX5_signAt_24 : decode cX5_signAt 24 = .ok (.goto 4, 3) := by decide +kernel
theorem dX5_signAt_27 : decode cX5_signAt 27 = .ok (.iconst 0, 1) := by decide +kernel
theorem dX5_signAt_28 : decode cX5_signAt 28 = .ok (.ireturn, 1) := by decide +kernel
theorem dX5_startsDeed_0 : decode cX5_startsDeed 0 = .ok (.iload_n 1, 1) := by decide +kernel
theorem dX5_startsDeed_1 : decode cX5_startsDeed 1 = .ok (.ifCond .eq 15, 3) := by decide +kernel
theorem dX5_startsDeed_4 : decode cX5_startsDeed 4 = .ok (.aload_n 0, 1) := by decide +kernel
theorem dX5_startsDeed_5 : decode cX5_startsDeed 5 = .ok (.iload_n 1, 1) := by decide +kernel
theorem dX5_startsDeed_6 : decode cX5_startsDeed 6 = .ok (.iconst 1, 1) := by decide +kernel
theorem dX5_startsDeed_7 : decode cX5_startsDeed 7 = .ok (.isub, 1) := by decide +kernel
theorem dX5_startsDeed_8 : decode cX5_startsDeed 8 = .ok (.invokevirtual 19, 3) := by decide +kernel
theorem dX5_startsDeed_11 : decode cX5_startsDeed 11 = .ok (.bipush 59, 2) := by decide +kernel
theorem dX5_startsDeed_13 : decode cX5_startsDeed 13 = .ok (.if_icmp .ne 7, 3) := by decide +kernel
theorem dX5_startsDeed_16 : decode cX5_startsDeed 16 = .ok (.iconst 1, 1) := by decide +kernel
theorem dX5_startsDeed_17 : decode cX5_startsDeed 17 = .ok (.goto 4, 3) := by decide +kernel
theorem dX5_startsDeed_20 : decode cX5_startsDeed 20 = .ok (.iconst 0, 1) := by decide +kernel
theorem dX5_startsDeed_21 : decode cX5_startsDeed 21 = .ok (.ireturn, 1) := by decide +kernel
