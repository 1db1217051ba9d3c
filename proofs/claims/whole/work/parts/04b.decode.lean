theorem d_Sea_couplesFor_3 : decode M_Sea_couplesFor.2.1 3 = .ok (.istore_n 3, 1) := by decide +kernel
theorem d_Sea_couplesFor_4 : decode M_Sea_couplesFor.2.1 4 = .ok (.iload_n 3, 1) := by decide +kernel
theorem d_Sea_couplesFor_5 : decode M_Sea_couplesFor.2.1 5 = .ok (.sipush 128, 3) := by decide +kernel
theorem d_Sea_couplesFor_8 : decode M_Sea_couplesFor.2.1 8 = .ok (.if_icmp .ge 33, 3) := by decide +kernel
theorem d_Sea_couplesFor_11 : decode M_Sea_couplesFor.2.1 11 = .ok (.aload_n 0, 1) := by decide +kernel
theorem d_Sea_couplesFor_12 : decode M_Sea_couplesFor.2.1 12 = .ok (.iload_n 3, 1) := by decide +kernel
theorem d_Sea_couplesFor_13 : decode M_Sea_couplesFor.2.1 13 = .ok (.iload_n 1, 1) := by decide +kernel
theorem d_Sea_couplesFor_14 : decode M_Sea_couplesFor.2.1 14 = .ok (.invokevirtual 85, 3) := by decide +kernel
theorem d_Sea_couplesFor_17 : decode M_Sea_couplesFor.2.1 17 = .ok (.ifCond .eq 18, 3) := by decide +kernel
theorem d_Sea_couplesFor_20 : decode M_Sea_couplesFor.2.1 20 = .ok (.iload_n 2, 1) := by decide +kernel
theorem d_Sea_couplesFor_21 : decode M_Sea_couplesFor.2.1 21 = .ok (.aload_n 0, 1) := by decide +kernel
theorem d_Sea_couplesFor_22 : decode M_Sea_couplesFor.2.1 22 = .ok (.iload_n 3, 1) := by decide +kernel
theorem d_Sea_couplesFor_23 : decode M_Sea_couplesFor.2.1 23 = .ok (.invokevirtual 89, 3) := by decide +kernel
theorem d_Sea_couplesFor_26 : decode M_Sea_couplesFor.2.1 26 = .ok (.iload_n 1, 1) := by decide +kernel
theorem d_Sea_couplesFor_27 : decode M_Sea_couplesFor.2.1 27 = .ok (.invokevirtual 108, 3) := by decide +kernel
theorem d_Sea_couplesFor_30 : decode M_Sea_couplesFor.2.1 30 = .ok (.invokestatic 111, 3) := by decide +kernel
theorem d_Sea_couplesFor_33 : decode M_Sea_couplesFor.2.1 33 = .ok (.iadd, 1) := by decide +kernel
theorem d_Sea_couplesFor_34 : decode M_Sea_couplesFor.2.1 34 = .ok (.istore_n 2, 1) := by decide +kernel
theorem d_Sea_couplesFor_35 : decode M_Sea_couplesFor.2.1 35 = .ok (.iinc 3 1, 3) := by decide +kernel
theorem d_Sea_couplesFor_38 : decode M_Sea_couplesFor.2.1 38 = .ok (.goto (-34), 3) := by decide +kernel
theorem d_Sea_couplesFor_41 : decode M_Sea_couplesFor.2.1 41 = .ok (.iload_n 2, 1) := by decide +kernel
theorem d_Sea_couplesFor_42 : decode M_Sea_couplesFor.2.1 42 = .ok (.ireturn, 1) := by decide +kernel
theorem d_SN_without_0 : decode M_SN_without.2.1 0 = .ok (.aload_n 0, 1) := by decide +kernel
theorem d_SN_without_1 : decode M_SN_without.2.1 1 = .ok (.getfield 72, 3) := by decide +kernel
theorem d_SN_without_4 : decode M_SN_without.2.1 4 = .ok (.iload_n 1, 1) := by decide +kernel
theorem d_SN_without_5 : decode M_SN_without.2.1 5 = .ok (.invokestatic 96, 3) := by decide +kernel
theorem d_SN_without_8 : decode M_SN_without.2.1 8 = .ok (.ifCond .eq 24, 3) := by decide +kernel
theorem d_SN_without_11 : decode M_SN_without.2.1 11 = .ok (.aload_n 0, 1) := by decide +kernel
theorem d_SN_without_12 : decode M_SN_without.2.1 12 = .ok (.getfield 12, 3) := by decide +kernel
theorem d_SN_without_15 : decode M_SN_without.2.1 15 = .ok (.aload_n 0, 1) := by decide +kernel
theorem d_SN_without_16 : decode M_SN_without.2.1 16 = .ok (.getfield 72, 3) := by decide +kernel
theorem d_SN_without_19 : decode M_SN_without.2.1 19 = .ok (.iload_n 1, 1) := by decide +kernel
theorem d_SN_without_20 : decode M_SN_without.2.1 20 = .ok (.invokestatic 87, 3) := by decide +kernel
theorem d_SN_without_23 : decode M_SN_without.2.1 23 = .ok (.iconst (-1), 1) := by decide +kernel
theorem d_SN_without_24 : decode M_SN_without.2.1 24 = .ok (.ixor, 1) := by decide +kernel
theorem d_SN_without_25 : decode M_SN_without.2.1 25 = .ok (.iand, 1) := by decide +kernel
theorem d_SN_without_26 : decode M_SN_without.2.1 26 = .ok (.invokevirtual 279, 3) := by decide +kernel
theorem d_SN_without_29 : decode M_SN_without.2.1 29 = .ok (.goto 4, 3) := by decide +kernel
theorem d_SN_without_32 : decode M_SN_without.2.1 32 = .ok (.iconst (-1), 1) := by decide +kernel
theorem d_SN_without_33 : decode M_SN_without.2.1 33 = .ok (.ireturn, 1) := by decide +kernel
theorem d_SN_bestPrime_0 : decode M_SN_bestPrime.2.1 0 = .ok (.iconst (-1), 1) := by decide +kernel
theorem d_SN_bestPrime_1 : decode M_SN_bestPrime.2.1 1 = .ok (.istore_n 1, 1) := by decide +kernel
theorem d_SN_bestPrime_2 : decode M_SN_bestPrime.2.1 2 = .ok (.iconst (-1), 1) := by decide +kernel
theorem d_SN_bestPrime_3 : decode M_SN_bestPrime.2.1 3 = .ok (.istore_n 2, 1) := by decide +kernel
theorem d_SN_bestPrime_4 : decode M_SN_bestPrime.2.1 4 = .ok (.iconst 0, 1) := by decide +kernel
theorem d_SN_bestPrime_5 : decode M_SN_bestPrime.2.1 5 = .ok (.istore_n 3, 1) := by decide +kernel
theorem d_SN_bestPrime_6 : decode M_SN_bestPrime.2.1 6 = .ok (.iload_n 3, 1) := by decide +kernel
theorem d_SN_bestPrime_7 : decode M_SN_bestPrime.2.1 7 = .ok (.bipush 7, 2) := by decide +kernel
theorem d_SN_bestPrime_9 : decode M_SN_bestPrime.2.1 9 = .ok (.if_icmp .ge 59, 3) := by decide +kernel
theorem d_SN_bestPrime_12 : decode M_SN_bestPrime.2.1 12 = .ok (.iload_n 3, 1) := by decide +kernel
theorem d_SN_bestPrime_13 : decode M_SN_bestPrime.2.1 13 = .ok (.invokestatic 282, 3) := by decide +kernel
theorem d_SN_bestPrime_16 : decode M_SN_bestPrime.2.1 16 = .ok (.istore 4, 2) := by decide +kernel
theorem d_SN_bestPrime_18 : decode M_SN_bestPrime.2.1 18 = .ok (.aload_n 0, 1) := by decide +kernel
theorem d_SN_bestPrime_19 : decode M_SN_bestPrime.2.1 19 = .ok (.iload 4, 2) := by decide +kernel
theorem d_SN_bestPrime_21 : decode M_SN_bestPrime.2.1 21 = .ok (.invokevirtual 83, 3) := by decide +kernel
theorem d_SN_bestPrime_24 : decode M_SN_bestPrime.2.1 24 = .ok (.ifCond .eq 23, 3) := by decide +kernel
theorem d_SN_bestPrime_27 : decode M_SN_bestPrime.2.1 27 = .ok (.aload_n 0, 1) := by decide +kernel
theorem d_SN_bestPrime_28 : decode M_SN_bestPrime.2.1 28 = .ok (.getfield 12, 3) := by decide +kernel
theorem d_SN_bestPrime_31 : decode M_SN_bestPrime.2.1 31 = .ok (.aload_n 0, 1) := by decide +kernel
theorem d_SN_bestPrime_32 : decode M_SN_bestPrime.2.1 32 = .ok (.getfield 72, 3) := by decide +kernel
theorem d_SN_bestPrime_35 : decode M_SN_bestPrime.2.1 35 = .ok (.iload 4, 2) := by decide +kernel
theorem d_SN_bestPrime_37 : decode M_SN_bestPrime.2.1 37 = .ok (.invokestatic 87, 3) := by decide +kernel
theorem d_SN_bestPrime_40 : decode M_SN_bestPrime.2.1 40 = .ok (.ior, 1) := by decide +kernel
theorem d_SN_bestPrime_41 : decode M_SN_bestPrime.2.1 41 = .ok (.invokevirtual 279, 3) := by decide +kernel
theorem d_SN_bestPrime_44 : decode M_SN_bestPrime.2.1 44 = .ok (.goto 4, 3) := by decide +kernel
theorem d_SN_bestPrime_47 : decode M_SN_bestPrime.2.1 47 = .ok (.iconst (-1), 1) := by decide +kernel
theorem d_SN_bestPrime_48 : decode M_SN_bestPrime.2.1 48 = .ok (.istore 5, 2) := by decide +kernel
theorem d_SN_bestPrime_50 : decode M_SN_bestPrime.2.1 50 = .ok (.iload 5, 2) := by decide +kernel
theorem d_SN_bestPrime_52 : decode M_SN_bestPrime.2.1 52 = .ok (.iload_n 2, 1) := by decide +kernel
theorem d_SN_bestPrime_53 : decode M_SN_bestPrime.2.1 53 = .ok (.if_icmp .le 9, 3) := by decide +kernel
theorem d_SN_bestPrime_56 : decode M_SN_bestPrime.2.1 56 = .ok (.iload 5, 2) := by decide +kernel
theorem d_SN_bestPrime_58 : decode M_SN_bestPrime.2.1 58 = .ok (.istore_n 2, 1) := by decide +kernel
theorem d_SN_bestPrime_59 : decode M_SN_bestPrime.2.1 59 = .ok (.iload 4, 2) := by decide +kernel
theorem d_SN_bestPrime_61 : decode M_SN_bestPrime.2.1 61 = .ok (.istore_n 1, 1) := by decide +kernel
theorem d_SN_bestPrime_62 : decode M_SN_bestPrime.2.1 62 = .ok (.iinc 3 1, 3) := by decide +kernel
theorem d_SN_bestPrime_65 : decode M_SN_bestPrime.2.1 65 = .ok (.goto (-59), 3) := by decide +kernel
theorem d_SN_bestPrime_68 : decode M_SN_bestPrime.2.1 68 = .ok (.iload_n 1, 1) := by decide +kernel
theorem d_SN_bestPrime_69 : decode M_SN_bestPrime.2.1 69 = .ok (.ireturn, 1) := by decide +kernel
theorem d_SN_growth_0 : decode M_SN_growth.2.1 0 = .ok (.iload_n 1, 1) := by decide +kernel
theorem d_SN_growth_1 : decode M_SN_growth.2.1 1 = .ok (.ifCond .lt 18, 3) := by decide +kernel
theorem d_SN_growth_4 : decode M_SN_growth.2.1 4 = .ok (.iload_n 1, 1) := by decide +kernel
theorem d_SN_growth_5 : decode M_SN_growth.2.1 5 = .ok (.aload_n 0, 1) := by decide +kernel
theorem d_SN_growth_6 : decode M_SN_growth.2.1 6 = .ok (.getfield 72, 3) := by decide +kernel
theorem d_SN_growth_9 : decode M_SN_growth.2.1 9 = .ok (.invokestatic 100, 3) := by decide +kernel
theorem d_SN_growth_12 : decode M_SN_growth.2.1 12 = .ok (.if_icmp .gt 7, 3) := by decide +kernel
theorem d_SN_growth_15 : decode M_SN_growth.2.1 15 = .ok (.iconst 1, 1) := by decide +kernel
theorem d_SN_growth_16 : decode M_SN_growth.2.1 16 = .ok (.goto 4, 3) := by decide +kernel
theorem d_SN_growth_19 : decode M_SN_growth.2.1 19 = .ok (.iconst 0, 1) := by decide +kernel
theorem d_SN_growth_20 : decode M_SN_growth.2.1 20 = .ok (.istore_n 2, 1) := by decide +kernel
theorem d_SN_growth_21 : decode M_SN_growth.2.1 21 = .ok (.iload_n 2, 1) := by decide +kernel
theorem d_SN_growth_22 : decode M_SN_growth.2.1 22 = .ok (.ifCond .eq 21, 3) := by decide +kernel
theorem d_SN_growth_25 : decode M_SN_growth.2.1 25 = .ok (.aload_n 0, 1) := by decide +kernel
theorem d_SN_growth_26 : decode M_SN_growth.2.1 26 = .ok (.getfield 12, 3) := by decide +kernel
theorem d_SN_growth_29 : decode M_SN_growth.2.1 29 = .ok (.aload_n 0, 1) := by decide +kernel
theorem d_SN_growth_30 : decode M_SN_growth.2.1 30 = .ok (.getfield 72, 3) := by decide +kernel
theorem d_SN_growth_33 : decode M_SN_growth.2.1 33 = .ok (.iload_n 1, 1) := by decide +kernel
theorem d_SN_growth_34 : decode M_SN_growth.2.1 34 = .ok (.invokestatic 285, 3) := by decide +kernel
theorem d_SN_growth_37 : decode M_SN_growth.2.1 37 = .ok (.invokevirtual 279, 3) := by decide +kernel
theorem d_SN_growth_40 : decode M_SN_growth.2.1 40 = .ok (.goto 4, 3) := by decide +kernel
theorem d_SN_growth_43 : decode M_SN_growth.2.1 43 = .ok (.iconst (-1), 1) := by decide +kernel
theorem d_SN_growth_44 : decode M_SN_growth.2.1 44 = .ok (.ireturn, 1) := by decide +kernel
theorem d_Pri_lowest_0 : decode M_Pri_lowest.2.1 0 = .ok (.iconst 0, 1) := by decide +kernel
theorem d_Pri_lowest_1 : decode M_Pri_lowest.2.1 1 = .ok (.istore_n 2, 1) := by decide +kernel
theorem d_Pri_lowest_2 : decode M_Pri_lowest.2.1 2 = .ok (.iconst 0, 1) := by decide +kernel
theorem d_Pri_lowest_3 : decode M_Pri_lowest.2.1 3 = .ok (.istore_n 3, 1) := by decide +kernel
theorem d_Pri_lowest_4 : decode M_Pri_lowest.2.1 4 = .ok (.iload_n 3, 1) := by decide +kernel
theorem d_Pri_lowest_5 : decode M_Pri_lowest.2.1 5 = .ok (.bipush 7, 2) := by decide +kernel
theorem d_Pri_lowest_7 : decode M_Pri_lowest.2.1 7 = .ok (.if_icmp .ge 25, 3) := by decide +kernel
theorem d_Pri_lowest_10 : decode M_Pri_lowest.2.1 10 = .ok (.iload_n 2, 1) := by decide +kernel
theorem d_Pri_lowest_11 : decode M_Pri_lowest.2.1 11 = .ok (.invokestatic 34, 3) := by decide +kernel
theorem d_Pri_lowest_14 : decode M_Pri_lowest.2.1 14 = .ok (.iload_n 1, 1) := by decide +kernel
theorem d_Pri_lowest_15 : decode M_Pri_lowest.2.1 15 = .ok (.if_icmp .ge 17, 3) := by decide +kernel
theorem d_Pri_lowest_18 : decode M_Pri_lowest.2.1 18 = .ok (.iload_n 2, 1) := by decide +kernel
theorem d_Pri_lowest_19 : decode M_Pri_lowest.2.1 19 = .ok (.iload_n 0, 1) := by decide +kernel
theorem d_Pri_lowest_20 : decode M_Pri_lowest.2.1 20 = .ok (.iconst 1, 1) := by decide +kernel
theorem d_Pri_lowest_21 : decode M_Pri_lowest.2.1 21 = .ok (.iload_n 3, 1) := by decide +kernel
theorem d_Pri_lowest_22 : decode M_Pri_lowest.2.1 22 = .ok (.ishl, 1) := by decide +kernel
theorem d_Pri_lowest_23 : decode M_Pri_lowest.2.1 23 = .ok (.iand, 1) := by decide +kernel
theorem d_Pri_lowest_24 : decode M_Pri_lowest.2.1 24 = .ok (.ior, 1) := by decide +kernel
theorem d_Pri_lowest_25 : decode M_Pri_lowest.2.1 25 = .ok (.istore_n 2, 1) := by decide +kernel
theorem d_Pri_lowest_26 : decode M_Pri_lowest.2.1 26 = .ok (.iinc 3 1, 3) := by decide +kernel
theorem d_Pri_lowest_29 : decode M_Pri_lowest.2.1 29 = .ok (.goto (-25), 3) := by decide +kernel
theorem d_Pri_lowest_32 : decode M_Pri_lowest.2.1 32 = .ok (.iload_n 2, 1) := by decide +kernel
theorem d_Pri_lowest_33 : decode M_Pri_lowest.2.1 33 = .ok (.ireturn, 1) := by decide +kernel
theorem d_SN_smooth_0 : decode M_SN_smooth.2.1 0 = .ok (.iload_n 1, 1) := by decide +kernel
theorem d_SN_smooth_1 : decode M_SN_smooth.2.1 1 = .ok (.iconst 1, 1) := by decide +kernel
theorem d_SN_smooth_2 : decode M_SN_smooth.2.1 2 = .ok (.if_icmp .ge 5, 3) := by decide +kernel
theorem d_SN_smooth_5 : decode M_SN_smooth.2.1 5 = .ok (.iconst 0, 1) := by decide +kernel
theorem d_SN_smooth_6 : decode M_SN_smooth.2.1 6 = .ok (.ireturn, 1) := by decide +kernel
theorem d_SN_smooth_7 : decode M_SN_smooth.2.1 7 = .ok (.iload_n 1, 1) := by decide +kernel
theorem d_SN_smooth_8 : decode M_SN_smooth.2.1 8 = .ok (.istore_n 2, 1) := by decide +kernel
theorem d_SN_smooth_9 : decode M_SN_smooth.2.1 9 = .ok (.iconst 0, 1) := by decide +kernel
theorem d_SN_smooth_10 : decode M_SN_smooth.2.1 10 = .ok (.istore_n 3, 1) := by decide +kernel
theorem d_SN_smooth_11 : decode M_SN_smooth.2.1 11 = .ok (.iload_n 3, 1) := by decide +kernel
theorem d_SN_smooth_12 : decode M_SN_smooth.2.1 12 = .ok (.bipush 7, 2) := by decide +kernel
theorem d_SN_smooth_14 : decode M_SN_smooth.2.1 14 = .ok (.if_icmp .ge 73, 3) := by decide +kernel
theorem d_SN_smooth_17 : decode M_SN_smooth.2.1 17 = .ok (.iload_n 3, 1) := by decide +kernel
theorem d_SN_smooth_18 : decode M_SN_smooth.2.1 18 = .ok (.invokestatic 282, 3) := by decide +kernel
theorem d_SN_smooth_21 : decode M_SN_smooth.2.1 21 = .ok (.istore 4, 2) := by decide +kernel
theorem d_SN_smooth_23 : decode M_SN_smooth.2.1 23 = .ok (.iload 4, 2) := by decide +kernel
theorem d_SN_smooth_25 : decode M_SN_smooth.2.1 25 = .ok (.iconst 1, 1) := by decide +kernel
theorem d_SN_smooth_26 : decode M_SN_smooth.2.1 26 = .ok (.if_icmp .le 19, 3) := by decide +kernel
theorem d_SN_smooth_29 : decode M_SN_smooth.2.1 29 = .ok (.aload_n 0, 1) := by decide +kernel
theorem d_SN_smooth_30 : decode M_SN_smooth.2.1 30 = .ok (.getfield 72, 3) := by decide +kernel
theorem d_SN_smooth_33 : decode M_SN_smooth.2.1 33 = .ok (.iload 4, 2) := by decide +kernel
theorem d_SN_smooth_35 : decode M_SN_smooth.2.1 35 = .ok (.invokestatic 96, 3) := by decide +kernel
theorem d_SN_smooth_38 : decode M_SN_smooth.2.1 38 = .ok (.ifCond .eq 7, 3) := by decide +kernel
theorem d_SN_smooth_41 : decode M_SN_smooth.2.1 41 = .ok (.iconst 1, 1) := by decide +kernel
theorem d_SN_smooth_42 : decode M_SN_smooth.2.1 42 = .ok (.goto 4, 3) := by decide +kernel
theorem d_SN_smooth_45 : decode M_SN_smooth.2.1 45 = .ok (.iconst 0, 1) := by decide +kernel
theorem d_SN_smooth_46 : decode M_SN_smooth.2.1 46 = .ok (.istore 5, 2) := by decide +kernel
theorem d_SN_smooth_48 : decode M_SN_smooth.2.1 48 = .ok (.iconst 0, 1) := by decide +kernel
theorem d_SN_smooth_49 : decode M_SN_smooth.2.1 49 = .ok (.istore 6, 2) := by decide +kernel
theorem d_SN_smooth_51 : decode M_SN_smooth.2.1 51 = .ok (.iload 5, 2) := by decide +kernel
theorem d_SN_smooth_53 : decode M_SN_smooth.2.1 53 = .ok (.ifCond .eq 28, 3) := by decide +kernel
theorem d_SN_smooth_56 : decode M_SN_smooth.2.1 56 = .ok (.iload 6, 2) := by decide +kernel
theorem d_SN_smooth_58 : decode M_SN_smooth.2.1 58 = .ok (.bipush 31, 2) := by decide +kernel
theorem d_SN_smooth_60 : decode M_SN_smooth.2.1 60 = .ok (.if_icmp .ge 21, 3) := by decide +kernel
theorem d_SN_smooth_63 : decode M_SN_smooth.2.1 63 = .ok (.iload_n 2, 1) := by decide +kernel
theorem d_SN_smooth_64 : decode M_SN_smooth.2.1 64 = .ok (.iload 4, 2) := by decide +kernel
theorem d_SN_smooth_66 : decode M_SN_smooth.2.1 66 = .ok (.irem, 1) := by decide +kernel
theorem d_SN_smooth_67 : decode M_SN_smooth.2.1 67 = .ok (.ifCond .ne 14, 3) := by decide +kernel
theorem d_SN_smooth_70 : decode M_SN_smooth.2.1 70 = .ok (.iload_n 2, 1) := by decide +kernel
theorem d_SN_smooth_71 : decode M_SN_smooth.2.1 71 = .ok (.iload 4, 2) := by decide +kernel
theorem d_SN_smooth_73 : decode M_SN_smooth.2.1 73 = .ok (.idiv, 1) := by decide +kernel
theorem d_SN_smooth_74 : decode M_SN_smooth.2.1 74 = .ok (.istore_n 2, 1) := by decide +kernel
theorem d_SN_smooth_75 : decode M_SN_smooth.2.1 75 = .ok (.iinc 6 1, 3) := by decide +kernel
theorem d_SN_smooth_78 : decode M_SN_smooth.2.1 78 = .ok (.goto (-27), 3) := by decide +kernel
theorem d_SN_smooth_81 : decode M_SN_smooth.2.1 81 = .ok (.iinc 3 1, 3) := by decide +kernel
theorem d_SN_smooth_84 : decode M_SN_smooth.2.1 84 = .ok (.goto (-73), 3) := by decide +kernel
theorem d_SN_smooth_87 : decode M_SN_smooth.2.1 87 = .ok (.iload_n 2, 1) := by decide +kernel
theorem d_SN_smooth_88 : decode M_SN_smooth.2.1 88 = .ok (.iconst 1, 1) := by decide +kernel
theorem d_SN_smooth_89 : decode M_SN_smooth.2.1 89 = .ok (.if_icmp .ne 7, 3) := by decide +kernel
theorem d_SN_smooth_92 : decode M_SN_smooth.2.1 92 = .ok (.iconst 1, 1) := by decide +kernel
theorem d_SN_smooth_93 : decode M_SN_smooth.2.1 93 = .ok (.goto 4, 3) := by decide +kernel
theorem d_SN_smooth_96 : decode M_SN_smooth.2.1 96 = .ok (.iconst 0, 1) := by decide +kernel
theorem d_SN_smooth_97 : decode M_SN_smooth.2.1 97 = .ok (.ireturn, 1) := by decide +kernel
theorem d_SN_smoothUpTo_0 : decode M_SN_smoothUpTo.2.1 0 = .ok (.iload_n 1, 1) := by decide +kernel
theorem d_SN_smoothUpTo_1 : decode M_SN_smoothUpTo.2.1 1 = .ok (.invokestatic 288, 3) := by decide +kernel
theorem d_SN_smoothUpTo_4 : decode M_SN_smoothUpTo.2.1 4 = .ok (.ifCond .eq 21, 3) := by decide +kernel
theorem d_SN_smoothUpTo_7 : decode M_SN_smoothUpTo.2.1 7 = .ok (.aload_n 0, 1) := by decide +kernel
theorem d_SN_smoothUpTo_8 : decode M_SN_smoothUpTo.2.1 8 = .ok (.getfield 24, 3) := by decide +kernel
theorem d_SN_smoothUpTo_11 : decode M_SN_smoothUpTo.2.1 11 = .ok (.aload_n 0, 1) := by decide +kernel
theorem d_SN_smoothUpTo_12 : decode M_SN_smoothUpTo.2.1 12 = .ok (.getfield 72, 3) := by decide +kernel
theorem d_SN_smoothUpTo_15 : decode M_SN_smoothUpTo.2.1 15 = .ok (.invokevirtual 291, 3) := by decide +kernel
theorem d_SN_smoothUpTo_18 : decode M_SN_smoothUpTo.2.1 18 = .ok (.iload_n 1, 1) := by decide +kernel
theorem d_SN_smoothUpTo_19 : decode M_SN_smoothUpTo.2.1 19 = .ok (.invokevirtual 294, 3) := by decide +kernel
theorem d_SN_smoothUpTo_22 : decode M_SN_smoothUpTo.2.1 22 = .ok (.goto 4, 3) := by decide +kernel
theorem d_SN_smoothUpTo_25 : decode M_SN_smoothUpTo.2.1 25 = .ok (.iconst (-1), 1) := by decide +kernel
theorem d_SN_smoothUpTo_26 : decode M_SN_smoothUpTo.2.1 26 = .ok (.ireturn, 1) := by decide +kernel
theorem d_SN_isUpToSieveEnd_0 : decode M_SN_isUpToSieveEnd.2.1 0 = .ok (.iload_n 0, 1) := by decide +kernel
theorem d_SN_isUpToSieveEnd_1 : decode M_SN_isUpToSieveEnd.2.1 1 = .ok (.ifCond .lt 14, 3) := by decide +kernel
theorem d_SN_isUpToSieveEnd_4 : decode M_SN_isUpToSieveEnd.2.1 4 = .ok (.iload_n 0, 1) := by decide +kernel
theorem d_SN_isUpToSieveEnd_5 : decode M_SN_isUpToSieveEnd.2.1 5 = .ok (.ldc_w 317, 3) := by decide +kernel
theorem d_SN_isUpToSieveEnd_8 : decode M_SN_isUpToSieveEnd.2.1 8 = .ok (.if_icmp .gt 7, 3) := by decide +kernel
theorem d_SN_isUpToSieveEnd_11 : decode M_SN_isUpToSieveEnd.2.1 11 = .ok (.iconst 1, 1) := by decide +kernel
theorem d_SN_isUpToSieveEnd_12 : decode M_SN_isUpToSieveEnd.2.1 12 = .ok (.goto 4, 3) := by decide +kernel
theorem d_SN_isUpToSieveEnd_15 : decode M_SN_isUpToSieveEnd.2.1 15 = .ok (.iconst 0, 1) := by decide +kernel
theorem d_SN_isUpToSieveEnd_16 : decode M_SN_isUpToSieveEnd.2.1 16 = .ok (.ireturn, 1) := by decide +kernel
theorem d_Smo_fill_0 : decode M_Smo_fill.2.1 0 = .ok (.aload_n 0, 1) := by decide +kernel
theorem d_Smo_fill_1 : decode M_Smo_fill.2.1 1 = .ok (.getfield 29, 3) := by decide +kernel
theorem d_Smo_fill_4 : decode M_Smo_fill.2.1 4 = .ok (.iload_n 1, 1) := by decide +kernel
theorem d_Smo_fill_5 : decode M_Smo_fill.2.1 5 = .ok (.if_icmp .ne 5, 3) := by decide +kernel
theorem d_Smo_fill_8 : decode M_Smo_fill.2.1 8 = .ok (.aload_n 0, 1) := by decide +kernel
theorem d_Smo_fill_9 : decode M_Smo_fill.2.1 9 = .ok (.areturn, 1) := by decide +kernel
theorem d_Smo_fill_10 : decode M_Smo_fill.2.1 10 = .ok (.aload_n 0, 1) := by decide +kernel
theorem d_Smo_fill_11 : decode M_Smo_fill.2.1 11 = .ok (.iload_n 1, 1) := by decide +kernel
theorem d_Smo_fill_12 : decode M_Smo_fill.2.1 12 = .ok (.putfield 29, 3) := by decide +kernel
theorem d_Smo_fill_15 : decode M_Smo_fill.2.1 15 = .ok (.aload_n 0, 1) := by decide +kernel
theorem d_Smo_fill_16 : decode M_Smo_fill.2.1 16 = .ok (.iconst 0, 1) := by decide +kernel
theorem d_Smo_fill_17 : decode M_Smo_fill.2.1 17 = .ok (.putfield 33, 3) := by decide +kernel
theorem d_Smo_fill_20 : decode M_Smo_fill.2.1 20 = .ok (.aload_n 0, 1) := by decide +kernel
theorem d_Smo_fill_21 : decode M_Smo_fill.2.1 21 = .ok (.getfield 20, 3) := by decide +kernel
theorem d_Smo_fill_24 : decode M_Smo_fill.2.1 24 = .ok (.iconst 0, 1) := by decide +kernel
theorem d_Smo_fill_25 : decode M_Smo_fill.2.1 25 = .ok (.invokestatic 37, 3) := by decide +kernel
theorem d_Smo_fill_28 : decode M_Smo_fill.2.1 28 = .ok (.aload_n 0, 1) := by decide +kernel
theorem d_Smo_fill_29 : decode M_Smo_fill.2.1 29 = .ok (.iconst 0, 1) := by decide +kernel
theorem d_Smo_fill_30 : decode M_Smo_fill.2.1 30 = .ok (.putfield 43, 3) := by decide +kernel
theorem d_Smo_fill_33 : decode M_Smo_fill.2.1 33 = .ok (.iconst 1, 1) := by decide +kernel
theorem d_Smo_fill_34 : decode M_Smo_fill.2.1 34 = .ok (.istore_n 2, 1) := by decide +kernel
theorem d_Smo_fill_35 : decode M_Smo_fill.2.1 35 = .ok (.iconst 0, 1) := by decide +kernel
theorem d_Smo_fill_36 : decode M_Smo_fill.2.1 36 = .ok (.istore_n 3, 1) := by decide +kernel
theorem d_Smo_fill_37 : decode M_Smo_fill.2.1 37 = .ok (.iconst 0, 1) := by decide +kernel
theorem d_Smo_fill_38 : decode M_Smo_fill.2.1 38 = .ok (.istore 4, 2) := by decide +kernel
theorem d_Smo_fill_40 : decode M_Smo_fill.2.1 40 = .ok (.iload 4, 2) := by decide +kernel
theorem d_Smo_fill_42 : decode M_Smo_fill.2.1 42 = .ok (.sipush 1600, 3) := by decide +kernel
theorem d_Smo_fill_45 : decode M_Smo_fill.2.1 45 = .ok (.if_icmp .ge 50, 3) := by decide +kernel
theorem d_Smo_fill_48 : decode M_Smo_fill.2.1 48 = .ok (.iload_n 2, 1) := by decide +kernel
theorem d_Smo_fill_49 : decode M_Smo_fill.2.1 49 = .ok (.ldc 46, 2) := by decide +kernel
theorem d_Smo_fill_51 : decode M_Smo_fill.2.1 51 = .ok (.if_icmp .gt 44, 3) := by decide +kernel
theorem d_Smo_fill_54 : decode M_Smo_fill.2.1 54 = .ok (.aload_n 0, 1) := by decide +kernel
theorem d_Smo_fill_55 : decode M_Smo_fill.2.1 55 = .ok (.getfield 11, 3) := by decide +kernel
theorem d_Smo_fill_58 : decode M_Smo_fill.2.1 58 = .ok (.iload 4, 2) := by decide +kernel
theorem d_Smo_fill_60 : decode M_Smo_fill.2.1 60 = .ok (.iload_n 2, 1) := by decide +kernel
theorem d_Smo_fill_61 : decode M_Smo_fill.2.1 61 = .ok (.iastore, 1) := by decide +kernel
theorem d_Smo_fill_62 : decode M_Smo_fill.2.1 62 = .ok (.aload_n 0, 1) := by decide +kernel
theorem d_Smo_fill_63 : decode M_Smo_fill.2.1 63 = .ok (.getfield 15, 3) := by decide +kernel
theorem d_Smo_fill_66 : decode M_Smo_fill.2.1 66 = .ok (.iload 4, 2) := by decide +kernel
theorem d_Smo_fill_68 : decode M_Smo_fill.2.1 68 = .ok (.iload_n 3, 1) := by decide +kernel
theorem d_Smo_fill_69 : decode M_Smo_fill.2.1 69 = .ok (.iastore, 1) := by decide +kernel
theorem d_Smo_fill_70 : decode M_Smo_fill.2.1 70 = .ok (.aload_n 0, 1) := by decide +kernel
theorem d_Smo_fill_71 : decode M_Smo_fill.2.1 71 = .ok (.iload 4, 2) := by decide +kernel
theorem d_Smo_fill_73 : decode M_Smo_fill.2.1 73 = .ok (.iconst 1, 1) := by decide +kernel
theorem d_Smo_fill_74 : decode M_Smo_fill.2.1 74 = .ok (.iadd, 1) := by decide +kernel
theorem d_Smo_fill_75 : decode M_Smo_fill.2.1 75 = .ok (.putfield 43, 3) := by decide +kernel
theorem d_Smo_fill_78 : decode M_Smo_fill.2.1 78 = .ok (.aload_n 0, 1) := by decide +kernel
theorem d_Smo_fill_79 : decode M_Smo_fill.2.1 79 = .ok (.invokevirtual 47, 3) := by decide +kernel
theorem d_Smo_fill_82 : decode M_Smo_fill.2.1 82 = .ok (.istore_n 2, 1) := by decide +kernel
theorem d_Smo_fill_83 : decode M_Smo_fill.2.1 83 = .ok (.aload_n 0, 1) := by decide +kernel
theorem d_Smo_fill_84 : decode M_Smo_fill.2.1 84 = .ok (.iload_n 2, 1) := by decide +kernel
theorem d_Smo_fill_85 : decode M_Smo_fill.2.1 85 = .ok (.invokevirtual 51, 3) := by decide +kernel
theorem d_Smo_fill_88 : decode M_Smo_fill.2.1 88 = .ok (.istore_n 3, 1) := by decide +kernel
theorem d_Smo_fill_89 : decode M_Smo_fill.2.1 89 = .ok (.iinc 4 1, 3) := by decide +kernel
theorem d_Smo_fill_92 : decode M_Smo_fill.2.1 92 = .ok (.goto (-52), 3) := by decide +kernel
theorem d_Smo_fill_95 : decode M_Smo_fill.2.1 95 = .ok (.aload_n 0, 1) := by decide +kernel
theorem d_Smo_fill_96 : decode M_Smo_fill.2.1 96 = .ok (.areturn, 1) := by decide +kernel
theorem d_Smo_leastProduct_0 : decode M_Smo_leastProduct.2.1 0 = .ok (.ldc 55, 2) := by decide +kernel
theorem d_Smo_leastProduct_2 : decode M_Smo_leastProduct.2.1 2 = .ok (.istore_n 1, 1) := by decide +kernel
theorem d_Smo_leastProduct_3 : decode M_Smo_leastProduct.2.1 3 = .ok (.iconst 0, 1) := by decide +kernel
theorem d_Smo_leastProduct_4 : decode M_Smo_leastProduct.2.1 4 = .ok (.istore_n 2, 1) := by decide +kernel
theorem d_Smo_leastProduct_5 : decode M_Smo_leastProduct.2.1 5 = .ok (.iload_n 2, 1) := by decide +kernel
theorem d_Smo_leastProduct_6 : decode M_Smo_leastProduct.2.1 6 = .ok (.bipush 7, 2) := by decide +kernel
theorem d_Smo_leastProduct_8 : decode M_Smo_leastProduct.2.1 8 = .ok (.if_icmp .ge 19, 3) := by decide +kernel
theorem d_Smo_leastProduct_11 : decode M_Smo_leastProduct.2.1 11 = .ok (.iload_n 1, 1) := by decide +kernel
theorem d_Smo_leastProduct_12 : decode M_Smo_leastProduct.2.1 12 = .ok (.aload_n 0, 1) := by decide +kernel
theorem d_Smo_leastProduct_13 : decode M_Smo_leastProduct.2.1 13 = .ok (.iload_n 2, 1) := by decide +kernel
theorem d_Smo_leastProduct_14 : decode M_Smo_leastProduct.2.1 14 = .ok (.invokevirtual 56, 3) := by decide +kernel
theorem d_Smo_leastProduct_17 : decode M_Smo_leastProduct.2.1 17 = .ok (.invokestatic 59, 3) := by decide +kernel
theorem d_Smo_leastProduct_20 : decode M_Smo_leastProduct.2.1 20 = .ok (.istore_n 1, 1) := by decide +kernel
theorem d_Smo_leastProduct_21 : decode M_Smo_leastProduct.2.1 21 = .ok (.iinc 2 1, 3) := by decide +kernel
theorem d_Smo_leastProduct_24 : decode M_Smo_leastProduct.2.1 24 = .ok (.goto (-19), 3) := by decide +kernel
theorem d_Smo_leastProduct_27 : decode M_Smo_leastProduct.2.1 27 = .ok (.iload_n 1, 1) := by decide +kernel
theorem d_Smo_leastProduct_28 : decode M_Smo_leastProduct.2.1 28 = .ok (.ireturn, 1) := by decide +kernel
theorem d_Smo_productOf_0 : decode M_Smo_productOf.2.1 0 = .ok (.iload_n 1, 1) := by decide +kernel
theorem d_Smo_productOf_1 : decode M_Smo_productOf.2.1 1 = .ok (.ifCond .lt 28, 3) := by decide +kernel
theorem d_Smo_productOf_4 : decode M_Smo_productOf.2.1 4 = .ok (.iload_n 1, 1) := by decide +kernel
theorem d_Smo_productOf_5 : decode M_Smo_productOf.2.1 5 = .ok (.aload_n 0, 1) := by decide +kernel
theorem d_Smo_productOf_6 : decode M_Smo_productOf.2.1 6 = .ok (.getfield 20, 3) := by decide +kernel
theorem d_Smo_productOf_9 : decode M_Smo_productOf.2.1 9 = .ok (.arraylength, 1) := by decide +kernel
theorem d_Smo_productOf_10 : decode M_Smo_productOf.2.1 10 = .ok (.if_icmp .ge 19, 3) := by decide +kernel
theorem d_Smo_productOf_13 : decode M_Smo_productOf.2.1 13 = .ok (.aload_n 0, 1) := by decide +kernel
theorem d_Smo_productOf_14 : decode M_Smo_productOf.2.1 14 = .ok (.getfield 29, 3) := by decide +kernel
theorem d_Smo_productOf_17 : decode M_Smo_productOf.2.1 17 = .ok (.iload_n 1, 1) := by decide +kernel
theorem d_Smo_productOf_18 : decode M_Smo_productOf.2.1 18 = .ok (.ishr, 1) := by decide +kernel
theorem d_Smo_productOf_19 : decode M_Smo_productOf.2.1 19 = .ok (.iconst 1, 1) := by decide +kernel
theorem d_Smo_productOf_20 : decode M_Smo_productOf.2.1 20 = .ok (.iand, 1) := by decide +kernel
theorem d_Smo_productOf_21 : decode M_Smo_productOf.2.1 21 = .ok (.iconst 1, 1) := by decide +kernel
theorem d_Smo_productOf_22 : decode M_Smo_productOf.2.1 22 = .ok (.if_icmp .ne 7, 3) := by decide +kernel
theorem d_Smo_productOf_25 : decode M_Smo_productOf.2.1 25 = .ok (.iconst 1, 1) := by decide +kernel
theorem d_Smo_productOf_26 : decode M_Smo_productOf.2.1 26 = .ok (.goto 4, 3) := by decide +kernel
theorem d_Smo_productOf_29 : decode M_Smo_productOf.2.1 29 = .ok (.iconst 0, 1) := by decide +kernel
theorem d_Smo_productOf_30 : decode M_Smo_productOf.2.1 30 = .ok (.istore_n 2, 1) := by decide +kernel
theorem d_Smo_productOf_31 : decode M_Smo_productOf.2.1 31 = .ok (.iload_n 2, 1) := by decide +kernel
theorem d_Smo_productOf_32 : decode M_Smo_productOf.2.1 32 = .ok (.ifCond .eq 21, 3) := by decide +kernel
theorem d_Smo_productOf_35 : decode M_Smo_productOf.2.1 35 = .ok (.aload_n 0, 1) := by decide +kernel
theorem d_Smo_productOf_36 : decode M_Smo_productOf.2.1 36 = .ok (.aload_n 0, 1) := by decide +kernel
theorem d_Smo_productOf_37 : decode M_Smo_productOf.2.1 37 = .ok (.getfield 20, 3) := by decide +kernel
theorem d_Smo_productOf_40 : decode M_Smo_productOf.2.1 40 = .ok (.iload_n 1, 1) := by decide +kernel
theorem d_Smo_productOf_41 : decode M_Smo_productOf.2.1 41 = .ok (.iaload, 1) := by decide +kernel
theorem d_Smo_productOf_42 : decode M_Smo_productOf.2.1 42 = .ok (.invokevirtual 65, 3) := by decide +kernel
theorem d_Smo_productOf_45 : decode M_Smo_productOf.2.1 45 = .ok (.iload_n 1, 1) := by decide +kernel
theorem d_Smo_productOf_46 : decode M_Smo_productOf.2.1 46 = .ok (.invokestatic 68, 3) := by decide +kernel
theorem d_Smo_productOf_49 : decode M_Smo_productOf.2.1 49 = .ok (.imul, 1) := by decide +kernel
theorem d_Smo_productOf_50 : decode M_Smo_productOf.2.1 50 = .ok (.goto 5, 3) := by decide +kernel
theorem d_Smo_productOf_53 : decode M_Smo_productOf.2.1 53 = .ok (.ldc 55, 2) := by decide +kernel
theorem d_Smo_productOf_55 : decode M_Smo_productOf.2.1 55 = .ok (.ireturn, 1) := by decide +kernel
theorem d_Smo_valueAt_0 : decode M_Smo_valueAt.2.1 0 = .ok (.iload_n 1, 1) := by decide +kernel
theorem d_Smo_valueAt_1 : decode M_Smo_valueAt.2.1 1 = .ok (.ifCond .lt 29, 3) := by decide +kernel
theorem d_Smo_valueAt_4 : decode M_Smo_valueAt.2.1 4 = .ok (.iload_n 1, 1) := by decide +kernel
theorem d_Smo_valueAt_5 : decode M_Smo_valueAt.2.1 5 = .ok (.aload_n 0, 1) := by decide +kernel
theorem d_Smo_valueAt_6 : decode M_Smo_valueAt.2.1 6 = .ok (.getfield 43, 3) := by decide +kernel
theorem d_Smo_valueAt_9 : decode M_Smo_valueAt.2.1 9 = .ok (.if_icmp .ge 21, 3) := by decide +kernel
theorem d_Smo_valueAt_12 : decode M_Smo_valueAt.2.1 12 = .ok (.iload_n 1, 1) := by decide +kernel
theorem d_Smo_valueAt_13 : decode M_Smo_valueAt.2.1 13 = .ok (.aload_n 0, 1) := by decide +kernel
theorem d_Smo_valueAt_14 : decode M_Smo_valueAt.2.1 14 = .ok (.getfield 11, 3) := by decide +kernel
theorem d_Smo_valueAt_17 : decode M_Smo_valueAt.2.1 17 = .ok (.arraylength, 1) := by decide +kernel
theorem d_Smo_valueAt_18 : decode M_Smo_valueAt.2.1 18 = .ok (.if_icmp .ge 12, 3) := by decide +kernel
theorem d_Smo_valueAt_21 : decode M_Smo_valueAt.2.1 21 = .ok (.aload_n 0, 1) := by decide +kernel
theorem d_Smo_valueAt_22 : decode M_Smo_valueAt.2.1 22 = .ok (.getfield 11, 3) := by decide +kernel
theorem d_Smo_valueAt_25 : decode M_Smo_valueAt.2.1 25 = .ok (.iload_n 1, 1) := by decide +kernel
theorem d_Smo_valueAt_26 : decode M_Smo_valueAt.2.1 26 = .ok (.iaload, 1) := by decide +kernel
theorem d_Smo_valueAt_27 : decode M_Smo_valueAt.2.1 27 = .ok (.goto 4, 3) := by decide +kernel
theorem d_Smo_valueAt_30 : decode M_Smo_valueAt.2.1 30 = .ok (.iconst (-1), 1) := by decide +kernel
theorem d_Smo_valueAt_31 : decode M_Smo_valueAt.2.1 31 = .ok (.ireturn, 1) := by decide +kernel
theorem d_Smo_takeTurns_0 : decode M_Smo_takeTurns.2.1 0 = .ok (.iconst 0, 1) := by decide +kernel
theorem d_Smo_takeTurns_1 : decode M_Smo_takeTurns.2.1 1 = .ok (.istore_n 2, 1) := by decide +kernel
theorem d_Smo_takeTurns_2 : decode M_Smo_takeTurns.2.1 2 = .ok (.iconst 0, 1) := by decide +kernel
theorem d_Smo_takeTurns_3 : decode M_Smo_takeTurns.2.1 3 = .ok (.istore_n 3, 1) := by decide +kernel
theorem d_Smo_takeTurns_4 : decode M_Smo_takeTurns.2.1 4 = .ok (.iload_n 3, 1) := by decide +kernel
theorem d_Smo_takeTurns_5 : decode M_Smo_takeTurns.2.1 5 = .ok (.aload_n 0, 1) := by decide +kernel
theorem d_Smo_takeTurns_6 : decode M_Smo_takeTurns.2.1 6 = .ok (.getfield 20, 3) := by decide +kernel
theorem d_Smo_takeTurns_9 : decode M_Smo_takeTurns.2.1 9 = .ok (.arraylength, 1) := by decide +kernel
theorem d_Smo_takeTurns_10 : decode M_Smo_takeTurns.2.1 10 = .ok (.if_icmp .ge 45, 3) := by decide +kernel
theorem d_Smo_takeTurns_13 : decode M_Smo_takeTurns.2.1 13 = .ok (.aload_n 0, 1) := by decide +kernel
theorem d_Smo_takeTurns_14 : decode M_Smo_takeTurns.2.1 14 = .ok (.iload_n 3, 1) := by decide +kernel
theorem d_Smo_takeTurns_15 : decode M_Smo_takeTurns.2.1 15 = .ok (.invokevirtual 56, 3) := by decide +kernel
theorem d_Smo_takeTurns_18 : decode M_Smo_takeTurns.2.1 18 = .ok (.iload_n 1, 1) := by decide +kernel
theorem d_Smo_takeTurns_19 : decode M_Smo_takeTurns.2.1 19 = .ok (.if_icmp .ne 30, 3) := by decide +kernel
theorem d_Smo_takeTurns_22 : decode M_Smo_takeTurns.2.1 22 = .ok (.iload_n 2, 1) := by decide +kernel
theorem d_Smo_takeTurns_23 : decode M_Smo_takeTurns.2.1 23 = .ok (.aload_n 0, 1) := by decide +kernel
theorem d_Smo_takeTurns_24 : decode M_Smo_takeTurns.2.1 24 = .ok (.aload_n 0, 1) := by decide +kernel
theorem d_Smo_takeTurns_25 : decode M_Smo_takeTurns.2.1 25 = .ok (.getfield 20, 3) := by decide +kernel
theorem d_Smo_takeTurns_28 : decode M_Smo_takeTurns.2.1 28 = .ok (.iload_n 3, 1) := by decide +kernel
theorem d_Smo_takeTurns_29 : decode M_Smo_takeTurns.2.1 29 = .ok (.iaload, 1) := by decide +kernel
theorem d_Smo_takeTurns_30 : decode M_Smo_takeTurns.2.1 30 = .ok (.invokevirtual 71, 3) := by decide +kernel
theorem d_Smo_takeTurns_33 : decode M_Smo_takeTurns.2.1 33 = .ok (.iconst 1, 1) := by decide +kernel
theorem d_Smo_takeTurns_34 : decode M_Smo_takeTurns.2.1 34 = .ok (.iload_n 3, 1) := by decide +kernel
theorem d_Smo_takeTurns_35 : decode M_Smo_takeTurns.2.1 35 = .ok (.ishl, 1) := by decide +kernel
theorem d_Smo_takeTurns_36 : decode M_Smo_takeTurns.2.1 36 = .ok (.ior, 1) := by decide +kernel
theorem d_Smo_takeTurns_37 : decode M_Smo_takeTurns.2.1 37 = .ok (.ior, 1) := by decide +kernel
theorem d_Smo_takeTurns_38 : decode M_Smo_takeTurns.2.1 38 = .ok (.istore_n 2, 1) := by decide +kernel
theorem d_Smo_takeTurns_39 : decode M_Smo_takeTurns.2.1 39 = .ok (.aload_n 0, 1) := by decide +kernel
theorem d_Smo_takeTurns_40 : decode M_Smo_takeTurns.2.1 40 = .ok (.getfield 20, 3) := by decide +kernel
theorem d_Smo_takeTurns_43 : decode M_Smo_takeTurns.2.1 43 = .ok (.iload_n 3, 1) := by decide +kernel
theorem d_Smo_takeTurns_44 : decode M_Smo_takeTurns.2.1 44 = .ok (.dup2, 1) := by decide +kernel
theorem d_Smo_takeTurns_45 : decode M_Smo_takeTurns.2.1 45 = .ok (.iaload, 1) := by decide +kernel
theorem d_Smo_takeTurns_46 : decode M_Smo_takeTurns.2.1 46 = .ok (.iconst 1, 1) := by decide +kernel
theorem d_Smo_takeTurns_47 : decode M_Smo_takeTurns.2.1 47 = .ok (.iadd, 1) := by decide +kernel
theorem d_Smo_takeTurns_48 : decode M_Smo_takeTurns.2.1 48 = .ok (.iastore, 1) := by decide +kernel
theorem d_Smo_takeTurns_49 : decode M_Smo_takeTurns.2.1 49 = .ok (.iinc 3 1, 3) := by decide +kernel
theorem d_Smo_takeTurns_52 : decode M_Smo_takeTurns.2.1 52 = .ok (.goto (-48), 3) := by decide +kernel
theorem d_Smo_takeTurns_55 : decode M_Smo_takeTurns.2.1 55 = .ok (.iload_n 2, 1) := by decide +kernel
theorem d_Smo_takeTurns_56 : decode M_Smo_takeTurns.2.1 56 = .ok (.ireturn, 1) := by decide +kernel
theorem d_Smo_setAt_0 : decode M_Smo_setAt.2.1 0 = .ok (.iload_n 1, 1) := by decide +kernel
theorem d_Smo_setAt_1 : decode M_Smo_setAt.2.1 1 = .ok (.ifCond .lt 29, 3) := by decide +kernel
theorem d_Smo_setAt_4 : decode M_Smo_setAt.2.1 4 = .ok (.iload_n 1, 1) := by decide +kernel
theorem d_Smo_setAt_5 : decode M_Smo_setAt.2.1 5 = .ok (.aload_n 0, 1) := by decide +kernel
theorem d_Smo_setAt_6 : decode M_Smo_setAt.2.1 6 = .ok (.getfield 43, 3) := by decide +kernel
theorem d_Smo_setAt_9 : decode M_Smo_setAt.2.1 9 = .ok (.if_icmp .ge 21, 3) := by decide +kernel
theorem d_Smo_setAt_12 : decode M_Smo_setAt.2.1 12 = .ok (.iload_n 1, 1) := by decide +kernel
theorem d_Smo_setAt_13 : decode M_Smo_setAt.2.1 13 = .ok (.aload_n 0, 1) := by decide +kernel
theorem d_Smo_setAt_14 : decode M_Smo_setAt.2.1 14 = .ok (.getfield 15, 3) := by decide +kernel
theorem d_Smo_setAt_17 : decode M_Smo_setAt.2.1 17 = .ok (.arraylength, 1) := by decide +kernel
theorem d_Smo_setAt_18 : decode M_Smo_setAt.2.1 18 = .ok (.if_icmp .ge 12, 3) := by decide +kernel
theorem d_Smo_setAt_21 : decode M_Smo_setAt.2.1 21 = .ok (.aload_n 0, 1) := by decide +kernel
theorem d_Smo_setAt_22 : decode M_Smo_setAt.2.1 22 = .ok (.getfield 15, 3) := by decide +kernel
theorem d_Smo_setAt_25 : decode M_Smo_setAt.2.1 25 = .ok (.iload_n 1, 1) := by decide +kernel
theorem d_Smo_setAt_26 : decode M_Smo_setAt.2.1 26 = .ok (.iaload, 1) := by decide +kernel
theorem d_Smo_setAt_27 : decode M_Smo_setAt.2.1 27 = .ok (.goto 4, 3) := by decide +kernel
theorem d_Smo_setAt_30 : decode M_Smo_setAt.2.1 30 = .ok (.iconst 0, 1) := by decide +kernel
theorem d_Smo_setAt_31 : decode M_Smo_setAt.2.1 31 = .ok (.ireturn, 1) := by decide +kernel
theorem d_Smo_placeAbove_0 : decode M_Smo_placeAbove.2.1 0 = .ok (.iconst 0, 1) := by decide +kernel
theorem d_Smo_placeAbove_1 : decode M_Smo_placeAbove.2.1 1 = .ok (.istore_n 2, 1) := by decide +kernel
theorem d_Smo_placeAbove_2 : decode M_Smo_placeAbove.2.1 2 = .ok (.aload_n 0, 1) := by decide +kernel
theorem d_Smo_placeAbove_3 : decode M_Smo_placeAbove.2.1 3 = .ok (.getfield 43, 3) := by decide +kernel
theorem d_Smo_placeAbove_6 : decode M_Smo_placeAbove.2.1 6 = .ok (.istore_n 3, 1) := by decide +kernel
theorem d_Smo_placeAbove_7 : decode M_Smo_placeAbove.2.1 7 = .ok (.iconst 0, 1) := by decide +kernel
theorem d_Smo_placeAbove_8 : decode M_Smo_placeAbove.2.1 8 = .ok (.istore 4, 2) := by decide +kernel
theorem d_Smo_placeAbove_10 : decode M_Smo_placeAbove.2.1 10 = .ok (.iload 4, 2) := by decide +kernel
theorem d_Smo_placeAbove_12 : decode M_Smo_placeAbove.2.1 12 = .ok (.bipush 32, 2) := by decide +kernel
theorem d_Smo_placeAbove_14 : decode M_Smo_placeAbove.2.1 14 = .ok (.if_icmp .ge 42, 3) := by decide +kernel
theorem d_Smo_placeAbove_17 : decode M_Smo_placeAbove.2.1 17 = .ok (.iload_n 2, 1) := by decide +kernel
theorem d_Smo_placeAbove_18 : decode M_Smo_placeAbove.2.1 18 = .ok (.iload_n 3, 1) := by decide +kernel
theorem d_Smo_placeAbove_19 : decode M_Smo_placeAbove.2.1 19 = .ok (.if_icmp .ge 37, 3) := by decide +kernel
theorem d_Smo_placeAbove_22 : decode M_Smo_placeAbove.2.1 22 = .ok (.iload_n 2, 1) := by decide +kernel
theorem d_Smo_placeAbove_23 : decode M_Smo_placeAbove.2.1 23 = .ok (.iload_n 3, 1) := by decide +kernel
theorem d_Smo_placeAbove_24 : decode M_Smo_placeAbove.2.1 24 = .ok (.iadd, 1) := by decide +kernel
theorem d_Smo_placeAbove_25 : decode M_Smo_placeAbove.2.1 25 = .ok (.iconst 2, 1) := by decide +kernel
theorem d_Smo_placeAbove_26 : decode M_Smo_placeAbove.2.1 26 = .ok (.idiv, 1) := by decide +kernel
theorem d_Smo_placeAbove_27 : decode M_Smo_placeAbove.2.1 27 = .ok (.istore 5, 2) := by decide +kernel
theorem d_Smo_placeAbove_29 : decode M_Smo_placeAbove.2.1 29 = .ok (.aload_n 0, 1) := by decide +kernel
theorem d_Smo_placeAbove_30 : decode M_Smo_placeAbove.2.1 30 = .ok (.iload 5, 2) := by decide +kernel
theorem d_Smo_placeAbove_32 : decode M_Smo_placeAbove.2.1 32 = .ok (.invokevirtual 65, 3) := by decide +kernel
theorem d_Smo_placeAbove_35 : decode M_Smo_placeAbove.2.1 35 = .ok (.iload_n 1, 1) := by decide +kernel
theorem d_Smo_placeAbove_36 : decode M_Smo_placeAbove.2.1 36 = .ok (.if_icmp .gt 11, 3) := by decide +kernel
theorem d_Smo_placeAbove_39 : decode M_Smo_placeAbove.2.1 39 = .ok (.iload 5, 2) := by decide +kernel
theorem d_Smo_placeAbove_41 : decode M_Smo_placeAbove.2.1 41 = .ok (.iconst 1, 1) := by decide +kernel
theorem d_Smo_placeAbove_42 : decode M_Smo_placeAbove.2.1 42 = .ok (.iadd, 1) := by decide +kernel
theorem d_Smo_placeAbove_43 : decode M_Smo_placeAbove.2.1 43 = .ok (.istore_n 2, 1) := by decide +kernel
theorem d_Smo_placeAbove_44 : decode M_Smo_placeAbove.2.1 44 = .ok (.goto 6, 3) := by decide +kernel
theorem d_Smo_placeAbove_47 : decode M_Smo_placeAbove.2.1 47 = .ok (.iload 5, 2) := by decide +kernel
theorem d_Smo_placeAbove_49 : decode M_Smo_placeAbove.2.1 49 = .ok (.istore_n 3, 1) := by decide +kernel
theorem d_Smo_placeAbove_50 : decode M_Smo_placeAbove.2.1 50 = .ok (.iinc 4 1, 3) := by decide +kernel
theorem d_Smo_placeAbove_53 : decode M_Smo_placeAbove.2.1 53 = .ok (.goto (-43), 3) := by decide +kernel
theorem d_Smo_placeAbove_56 : decode M_Smo_placeAbove.2.1 56 = .ok (.iload_n 2, 1) := by decide +kernel
theorem d_Smo_placeAbove_57 : decode M_Smo_placeAbove.2.1 57 = .ok (.ireturn, 1) := by decide +kernel
theorem d_SN_smoothAt_0 : decode M_SN_smoothAt.2.1 0 = .ok (.aload_n 0, 1) := by decide +kernel
theorem d_SN_smoothAt_1 : decode M_SN_smoothAt.2.1 1 = .ok (.getfield 24, 3) := by decide +kernel
theorem d_SN_smoothAt_4 : decode M_SN_smoothAt.2.1 4 = .ok (.aload_n 0, 1) := by decide +kernel
theorem d_SN_smoothAt_5 : decode M_SN_smoothAt.2.1 5 = .ok (.getfield 72, 3) := by decide +kernel
theorem d_SN_smoothAt_8 : decode M_SN_smoothAt.2.1 8 = .ok (.invokevirtual 291, 3) := by decide +kernel
theorem d_SN_smoothAt_11 : decode M_SN_smoothAt.2.1 11 = .ok (.iload_n 1, 1) := by decide +kernel
theorem d_SN_smoothAt_12 : decode M_SN_smoothAt.2.1 12 = .ok (.invokevirtual 297, 3) := by decide +kernel
theorem d_SN_smoothAt_15 : decode M_SN_smoothAt.2.1 15 = .ok (.ireturn, 1) := by decide +kernel
theorem d_SN_next_0 : decode M_SN_next.2.1 0 = .ok (.iload_n 1, 1) := by decide +kernel
theorem d_SN_next_1 : decode M_SN_next.2.1 1 = .ok (.invokestatic 288, 3) := by decide +kernel
theorem d_SN_next_4 : decode M_SN_next.2.1 4 = .ok (.ifCond .eq 21, 3) := by decide +kernel
theorem d_SN_next_7 : decode M_SN_next.2.1 7 = .ok (.aload_n 0, 1) := by decide +kernel
theorem d_SN_next_8 : decode M_SN_next.2.1 8 = .ok (.getfield 24, 3) := by decide +kernel
theorem d_SN_next_11 : decode M_SN_next.2.1 11 = .ok (.aload_n 0, 1) := by decide +kernel
theorem d_SN_next_12 : decode M_SN_next.2.1 12 = .ok (.getfield 72, 3) := by decide +kernel
theorem d_SN_next_15 : decode M_SN_next.2.1 15 = .ok (.invokevirtual 291, 3) := by decide +kernel
theorem d_SN_next_18 : decode M_SN_next.2.1 18 = .ok (.iload_n 1, 1) := by decide +kernel
theorem d_SN_next_19 : decode M_SN_next.2.1 19 = .ok (.invokevirtual 300, 3) := by decide +kernel
theorem d_SN_next_22 : decode M_SN_next.2.1 22 = .ok (.goto 4, 3) := by decide +kernel
theorem d_SN_next_25 : decode M_SN_next.2.1 25 = .ok (.iconst (-1), 1) := by decide +kernel
theorem d_SN_next_26 : decode M_SN_next.2.1 26 = .ok (.ireturn, 1) := by decide +kernel
theorem d_Smo_valueAbove_0 : decode M_Smo_valueAbove.2.1 0 = .ok (.aload_n 0, 1) := by decide +kernel
theorem d_Smo_valueAbove_1 : decode M_Smo_valueAbove.2.1 1 = .ok (.aload_n 0, 1) := by decide +kernel
theorem d_Smo_valueAbove_2 : decode M_Smo_valueAbove.2.1 2 = .ok (.iload_n 1, 1) := by decide +kernel
theorem d_Smo_valueAbove_3 : decode M_Smo_valueAbove.2.1 3 = .ok (.invokevirtual 74, 3) := by decide +kernel
theorem d_Smo_valueAbove_6 : decode M_Smo_valueAbove.2.1 6 = .ok (.invokevirtual 65, 3) := by decide +kernel
theorem d_Smo_valueAbove_9 : decode M_Smo_valueAbove.2.1 9 = .ok (.ireturn, 1) := by decide +kernel
theorem d_SN_sieved_0 : decode M_SN_sieved.2.1 0 = .ok (.iload_n 1, 1) := by decide +kernel
theorem d_SN_sieved_1 : decode M_SN_sieved.2.1 1 = .ok (.invokestatic 288, 3) := by decide +kernel
theorem d_SN_sieved_4 : decode M_SN_sieved.2.1 4 = .ok (.ifCond .eq 22, 3) := by decide +kernel
theorem d_SN_sieved_7 : decode M_SN_sieved.2.1 7 = .ok (.aload_n 0, 1) := by decide +kernel
theorem d_SN_sieved_8 : decode M_SN_sieved.2.1 8 = .ok (.getfield 24, 3) := by decide +kernel
theorem d_SN_sieved_11 : decode M_SN_sieved.2.1 11 = .ok (.aload_n 0, 1) := by decide +kernel
theorem d_SN_sieved_12 : decode M_SN_sieved.2.1 12 = .ok (.getfield 72, 3) := by decide +kernel
theorem d_SN_sieved_15 : decode M_SN_sieved.2.1 15 = .ok (.invokevirtual 291, 3) := by decide +kernel
theorem d_SN_sieved_18 : decode M_SN_sieved.2.1 18 = .ok (.iconst 1, 1) := by decide +kernel
theorem d_SN_sieved_19 : decode M_SN_sieved.2.1 19 = .ok (.iload_n 1, 1) := by decide +kernel
theorem d_SN_sieved_20 : decode M_SN_sieved.2.1 20 = .ok (.invokevirtual 303, 3) := by decide +kernel
theorem d_SN_sieved_23 : decode M_SN_sieved.2.1 23 = .ok (.goto 4, 3) := by decide +kernel
theorem d_SN_sieved_26 : decode M_SN_sieved.2.1 26 = .ok (.iconst (-1), 1) := by decide +kernel
theorem d_SN_sieved_27 : decode M_SN_sieved.2.1 27 = .ok (.ireturn, 1) := by decide +kernel
theorem d_Smo_couplesUpTo_0 : decode M_Smo_couplesUpTo.2.1 0 = .ok (.iconst 0, 1) := by decide +kernel
theorem d_Smo_couplesUpTo_1 : decode M_Smo_couplesUpTo.2.1 1 = .ok (.istore_n 3, 1) := by decide +kernel
theorem d_Smo_couplesUpTo_2 : decode M_Smo_couplesUpTo.2.1 2 = .ok (.iconst 0, 1) := by decide +kernel
theorem d_Smo_couplesUpTo_3 : decode M_Smo_couplesUpTo.2.1 3 = .ok (.istore 4, 2) := by decide +kernel
theorem d_Smo_couplesUpTo_5 : decode M_Smo_couplesUpTo.2.1 5 = .ok (.iconst 0, 1) := by decide +kernel
theorem d_Smo_couplesUpTo_6 : decode M_Smo_couplesUpTo.2.1 6 = .ok (.istore 5, 2) := by decide +kernel
theorem d_Smo_couplesUpTo_8 : decode M_Smo_couplesUpTo.2.1 8 = .ok (.iload 5, 2) := by decide +kernel
theorem d_Smo_couplesUpTo_10 : decode M_Smo_couplesUpTo.2.1 10 = .ok (.aload_n 0, 1) := by decide +kernel
theorem d_Smo_couplesUpTo_11 : decode M_Smo_couplesUpTo.2.1 11 = .ok (.getfield 43, 3) := by decide +kernel
theorem d_Smo_couplesUpTo_14 : decode M_Smo_couplesUpTo.2.1 14 = .ok (.if_icmp .ge 76, 3) := by decide +kernel
theorem d_Smo_couplesUpTo_17 : decode M_Smo_couplesUpTo.2.1 17 = .ok (.aload_n 0, 1) := by decide +kernel
theorem d_Smo_couplesUpTo_18 : decode M_Smo_couplesUpTo.2.1 18 = .ok (.iload 5, 2) := by decide +kernel
theorem d_Smo_couplesUpTo_20 : decode M_Smo_couplesUpTo.2.1 20 = .ok (.invokevirtual 65, 3) := by decide +kernel
theorem d_Smo_couplesUpTo_23 : decode M_Smo_couplesUpTo.2.1 23 = .ok (.iload_n 1, 1) := by decide +kernel
theorem d_Smo_couplesUpTo_24 : decode M_Smo_couplesUpTo.2.1 24 = .ok (.iadd, 1) := by decide +kernel
theorem d_Smo_couplesUpTo_25 : decode M_Smo_couplesUpTo.2.1 25 = .ok (.iload_n 2, 1) := by decide +kernel
theorem d_Smo_couplesUpTo_26 : decode M_Smo_couplesUpTo.2.1 26 = .ok (.if_icmp .gt 64, 3) := by decide +kernel
theorem d_Smo_couplesUpTo_29 : decode M_Smo_couplesUpTo.2.1 29 = .ok (.aload_n 0, 1) := by decide +kernel
theorem d_Smo_couplesUpTo_30 : decode M_Smo_couplesUpTo.2.1 30 = .ok (.iload 5, 2) := by decide +kernel
theorem d_Smo_couplesUpTo_32 : decode M_Smo_couplesUpTo.2.1 32 = .ok (.invokevirtual 65, 3) := by decide +kernel
theorem d_Smo_couplesUpTo_35 : decode M_Smo_couplesUpTo.2.1 35 = .ok (.iload_n 1, 1) := by decide +kernel
theorem d_Smo_couplesUpTo_36 : decode M_Smo_couplesUpTo.2.1 36 = .ok (.iadd, 1) := by decide +kernel
theorem d_Smo_couplesUpTo_37 : decode M_Smo_couplesUpTo.2.1 37 = .ok (.istore 6, 2) := by decide +kernel
theorem d_Smo_couplesUpTo_39 : decode M_Smo_couplesUpTo.2.1 39 = .ok (.iload 4, 2) := by decide +kernel
theorem d_Smo_couplesUpTo_41 : decode M_Smo_couplesUpTo.2.1 41 = .ok (.aload_n 0, 1) := by decide +kernel
theorem d_Smo_couplesUpTo_42 : decode M_Smo_couplesUpTo.2.1 42 = .ok (.getfield 43, 3) := by decide +kernel
theorem d_Smo_couplesUpTo_45 : decode M_Smo_couplesUpTo.2.1 45 = .ok (.if_icmp .ge 20, 3) := by decide +kernel
theorem d_Smo_couplesUpTo_48 : decode M_Smo_couplesUpTo.2.1 48 = .ok (.aload_n 0, 1) := by decide +kernel
theorem d_Smo_couplesUpTo_49 : decode M_Smo_couplesUpTo.2.1 49 = .ok (.iload 4, 2) := by decide +kernel
theorem d_Smo_couplesUpTo_51 : decode M_Smo_couplesUpTo.2.1 51 = .ok (.invokevirtual 65, 3) := by decide +kernel
theorem d_Smo_couplesUpTo_54 : decode M_Smo_couplesUpTo.2.1 54 = .ok (.iload 6, 2) := by decide +kernel
theorem d_Smo_couplesUpTo_56 : decode M_Smo_couplesUpTo.2.1 56 = .ok (.if_icmp .ge 9, 3) := by decide +kernel
theorem d_Smo_couplesUpTo_59 : decode M_Smo_couplesUpTo.2.1 59 = .ok (.iinc 4 1, 3) := by decide +kernel
theorem d_Smo_couplesUpTo_62 : decode M_Smo_couplesUpTo.2.1 62 = .ok (.goto (-23), 3) := by decide +kernel
theorem d_Smo_couplesUpTo_65 : decode M_Smo_couplesUpTo.2.1 65 = .ok (.iload_n 3, 1) := by decide +kernel
theorem d_Smo_couplesUpTo_66 : decode M_Smo_couplesUpTo.2.1 66 = .ok (.aload_n 0, 1) := by decide +kernel
theorem d_Smo_couplesUpTo_67 : decode M_Smo_couplesUpTo.2.1 67 = .ok (.iload 4, 2) := by decide +kernel
theorem d_Smo_couplesUpTo_69 : decode M_Smo_couplesUpTo.2.1 69 = .ok (.invokevirtual 65, 3) := by decide +kernel
theorem d_Smo_couplesUpTo_72 : decode M_Smo_couplesUpTo.2.1 72 = .ok (.iload 6, 2) := by decide +kernel
theorem d_Smo_couplesUpTo_74 : decode M_Smo_couplesUpTo.2.1 74 = .ok (.if_icmp .ne 7, 3) := by decide +kernel
theorem d_Smo_couplesUpTo_77 : decode M_Smo_couplesUpTo.2.1 77 = .ok (.iconst 1, 1) := by decide +kernel
theorem d_Smo_couplesUpTo_78 : decode M_Smo_couplesUpTo.2.1 78 = .ok (.goto 4, 3) := by decide +kernel
theorem d_Smo_couplesUpTo_81 : decode M_Smo_couplesUpTo.2.1 81 = .ok (.iconst 0, 1) := by decide +kernel
theorem d_Smo_couplesUpTo_82 : decode M_Smo_couplesUpTo.2.1 82 = .ok (.iadd, 1) := by decide +kernel
theorem d_Smo_couplesUpTo_83 : decode M_Smo_couplesUpTo.2.1 83 = .ok (.istore_n 3, 1) := by decide +kernel
theorem d_Smo_couplesUpTo_84 : decode M_Smo_couplesUpTo.2.1 84 = .ok (.iinc 5 1, 3) := by decide +kernel
theorem d_Smo_couplesUpTo_87 : decode M_Smo_couplesUpTo.2.1 87 = .ok (.goto (-79), 3) := by decide +kernel
theorem d_Smo_couplesUpTo_90 : decode M_Smo_couplesUpTo.2.1 90 = .ok (.iload_n 3, 1) := by decide +kernel
theorem d_Smo_couplesUpTo_91 : decode M_Smo_couplesUpTo.2.1 91 = .ok (.ireturn, 1) := by decide +kernel
theorem d_SN_agrees_0 : decode M_SN_agrees.2.1 0 = .ok (.iload_n 1, 1) := by decide +kernel
theorem d_SN_agrees_1 : decode M_SN_agrees.2.1 1 = .ok (.invokestatic 288, 3) := by decide +kernel
theorem d_SN_agrees_4 : decode M_SN_agrees.2.1 4 = .ok (.ifCond .eq 29, 3) := by decide +kernel
theorem d_SN_agrees_7 : decode M_SN_agrees.2.1 7 = .ok (.aload_n 0, 1) := by decide +kernel
theorem d_SN_agrees_8 : decode M_SN_agrees.2.1 8 = .ok (.getfield 24, 3) := by decide +kernel
theorem d_SN_agrees_11 : decode M_SN_agrees.2.1 11 = .ok (.aload_n 0, 1) := by decide +kernel
theorem d_SN_agrees_12 : decode M_SN_agrees.2.1 12 = .ok (.getfield 72, 3) := by decide +kernel
theorem d_SN_agrees_15 : decode M_SN_agrees.2.1 15 = .ok (.invokevirtual 291, 3) := by decide +kernel
theorem d_SN_agrees_18 : decode M_SN_agrees.2.1 18 = .ok (.aload_n 0, 1) := by decide +kernel
theorem d_SN_agrees_19 : decode M_SN_agrees.2.1 19 = .ok (.getfield 12, 3) := by decide +kernel
theorem d_SN_agrees_22 : decode M_SN_agrees.2.1 22 = .ok (.iload_n 1, 1) := by decide +kernel
theorem d_SN_agrees_23 : decode M_SN_agrees.2.1 23 = .ok (.invokevirtual 306, 3) := by decide +kernel
theorem d_SN_agrees_26 : decode M_SN_agrees.2.1 26 = .ok (.ifCond .eq 7, 3) := by decide +kernel
theorem d_SN_agrees_29 : decode M_SN_agrees.2.1 29 = .ok (.iconst 1, 1) := by decide +kernel
theorem d_SN_agrees_30 : decode M_SN_agrees.2.1 30 = .ok (.goto 4, 3) := by decide +kernel
theorem d_SN_agrees_33 : decode M_SN_agrees.2.1 33 = .ok (.iconst 0, 1) := by decide +kernel
theorem d_SN_agrees_34 : decode M_SN_agrees.2.1 34 = .ok (.ireturn, 1) := by decide +kernel
theorem d_Smo_saysTheSame_0 : decode M_Smo_saysTheSame.2.1 0 = .ok (.iconst 0, 1) := by decide +kernel
theorem d_Smo_saysTheSame_1 : decode M_Smo_saysTheSame.2.1 1 = .ok (.istore_n 3, 1) := by decide +kernel
theorem d_Smo_saysTheSame_2 : decode M_Smo_saysTheSame.2.1 2 = .ok (.iconst 0, 1) := by decide +kernel
theorem d_Smo_saysTheSame_3 : decode M_Smo_saysTheSame.2.1 3 = .ok (.istore 4, 2) := by decide +kernel
theorem d_Smo_saysTheSame_5 : decode M_Smo_saysTheSame.2.1 5 = .ok (.iconst 0, 1) := by decide +kernel
theorem d_Smo_saysTheSame_6 : decode M_Smo_saysTheSame.2.1 6 = .ok (.istore 5, 2) := by decide +kernel
theorem d_Smo_saysTheSame_8 : decode M_Smo_saysTheSame.2.1 8 = .ok (.iload 5, 2) := by decide +kernel
theorem d_Smo_saysTheSame_10 : decode M_Smo_saysTheSame.2.1 10 = .ok (.aload_n 0, 1) := by decide +kernel
theorem d_Smo_saysTheSame_11 : decode M_Smo_saysTheSame.2.1 11 = .ok (.getfield 43, 3) := by decide +kernel
theorem d_Smo_saysTheSame_14 : decode M_Smo_saysTheSame.2.1 14 = .ok (.if_icmp .ge 93, 3) := by decide +kernel
theorem d_Smo_saysTheSame_17 : decode M_Smo_saysTheSame.2.1 17 = .ok (.aload_n 0, 1) := by decide +kernel
theorem d_Smo_saysTheSame_18 : decode M_Smo_saysTheSame.2.1 18 = .ok (.iload 5, 2) := by decide +kernel
theorem d_Smo_saysTheSame_20 : decode M_Smo_saysTheSame.2.1 20 = .ok (.invokevirtual 65, 3) := by decide +kernel
theorem d_Smo_saysTheSame_23 : decode M_Smo_saysTheSame.2.1 23 = .ok (.aload_n 1, 1) := by decide +kernel
theorem d_Smo_saysTheSame_24 : decode M_Smo_saysTheSame.2.1 24 = .ok (.getfield 77, 3) := by decide +kernel
theorem d_Smo_saysTheSame_27 : decode M_Smo_saysTheSame.2.1 27 = .ok (.iadd, 1) := by decide +kernel
theorem d_Smo_saysTheSame_28 : decode M_Smo_saysTheSame.2.1 28 = .ok (.iload_n 2, 1) := by decide +kernel
theorem d_Smo_saysTheSame_29 : decode M_Smo_saysTheSame.2.1 29 = .ok (.if_icmp .gt 78, 3) := by decide +kernel
theorem d_Smo_saysTheSame_32 : decode M_Smo_saysTheSame.2.1 32 = .ok (.aload_n 0, 1) := by decide +kernel
theorem d_Smo_saysTheSame_33 : decode M_Smo_saysTheSame.2.1 33 = .ok (.iload 5, 2) := by decide +kernel
theorem d_Smo_saysTheSame_35 : decode M_Smo_saysTheSame.2.1 35 = .ok (.invokevirtual 65, 3) := by decide +kernel
theorem d_Smo_saysTheSame_38 : decode M_Smo_saysTheSame.2.1 38 = .ok (.aload_n 1, 1) := by decide +kernel
theorem d_Smo_saysTheSame_39 : decode M_Smo_saysTheSame.2.1 39 = .ok (.getfield 77, 3) := by decide +kernel
theorem d_Smo_saysTheSame_42 : decode M_Smo_saysTheSame.2.1 42 = .ok (.iadd, 1) := by decide +kernel
theorem d_Smo_saysTheSame_43 : decode M_Smo_saysTheSame.2.1 43 = .ok (.istore 6, 2) := by decide +kernel
theorem d_Smo_saysTheSame_45 : decode M_Smo_saysTheSame.2.1 45 = .ok (.iload 4, 2) := by decide +kernel
theorem d_Smo_saysTheSame_47 : decode M_Smo_saysTheSame.2.1 47 = .ok (.aload_n 0, 1) := by decide +kernel
theorem d_Smo_saysTheSame_48 : decode M_Smo_saysTheSame.2.1 48 = .ok (.getfield 43, 3) := by decide +kernel
theorem d_Smo_saysTheSame_51 : decode M_Smo_saysTheSame.2.1 51 = .ok (.if_icmp .ge 20, 3) := by decide +kernel
theorem d_Smo_saysTheSame_54 : decode M_Smo_saysTheSame.2.1 54 = .ok (.aload_n 0, 1) := by decide +kernel
theorem d_Smo_saysTheSame_55 : decode M_Smo_saysTheSame.2.1 55 = .ok (.iload 4, 2) := by decide +kernel
theorem d_Smo_saysTheSame_57 : decode M_Smo_saysTheSame.2.1 57 = .ok (.invokevirtual 65, 3) := by decide +kernel
theorem d_Smo_saysTheSame_60 : decode M_Smo_saysTheSame.2.1 60 = .ok (.iload 6, 2) := by decide +kernel
theorem d_Smo_saysTheSame_62 : decode M_Smo_saysTheSame.2.1 62 = .ok (.if_icmp .ge 9, 3) := by decide +kernel
theorem d_Smo_saysTheSame_65 : decode M_Smo_saysTheSame.2.1 65 = .ok (.iinc 4 1, 3) := by decide +kernel
theorem d_Smo_saysTheSame_68 : decode M_Smo_saysTheSame.2.1 68 = .ok (.goto (-23), 3) := by decide +kernel
theorem d_Smo_saysTheSame_71 : decode M_Smo_saysTheSame.2.1 71 = .ok (.aload_n 0, 1) := by decide +kernel
theorem d_Smo_saysTheSame_72 : decode M_Smo_saysTheSame.2.1 72 = .ok (.iload 4, 2) := by decide +kernel
theorem d_Smo_saysTheSame_74 : decode M_Smo_saysTheSame.2.1 74 = .ok (.invokevirtual 65, 3) := by decide +kernel
theorem d_Smo_saysTheSame_77 : decode M_Smo_saysTheSame.2.1 77 = .ok (.iload 6, 2) := by decide +kernel
theorem d_Smo_saysTheSame_79 : decode M_Smo_saysTheSame.2.1 79 = .ok (.if_icmp .ne 22, 3) := by decide +kernel
theorem d_Smo_saysTheSame_82 : decode M_Smo_saysTheSame.2.1 82 = .ok (.aload_n 1, 1) := by decide +kernel
theorem d_Smo_saysTheSame_83 : decode M_Smo_saysTheSame.2.1 83 = .ok (.iload_n 3, 1) := by decide +kernel
theorem d_Smo_saysTheSame_84 : decode M_Smo_saysTheSame.2.1 84 = .ok (.invokevirtual 82, 3) := by decide +kernel
theorem d_Smo_saysTheSame_87 : decode M_Smo_saysTheSame.2.1 87 = .ok (.aload_n 0, 1) := by decide +kernel
theorem d_Smo_saysTheSame_88 : decode M_Smo_saysTheSame.2.1 88 = .ok (.iload 5, 2) := by decide +kernel
theorem d_Smo_saysTheSame_90 : decode M_Smo_saysTheSame.2.1 90 = .ok (.invokevirtual 65, 3) := by decide +kernel
theorem d_Smo_saysTheSame_93 : decode M_Smo_saysTheSame.2.1 93 = .ok (.if_icmp .eq 5, 3) := by decide +kernel
theorem d_Smo_saysTheSame_96 : decode M_Smo_saysTheSame.2.1 96 = .ok (.iconst 0, 1) := by decide +kernel
theorem d_Smo_saysTheSame_97 : decode M_Smo_saysTheSame.2.1 97 = .ok (.ireturn, 1) := by decide +kernel
theorem d_Smo_saysTheSame_98 : decode M_Smo_saysTheSame.2.1 98 = .ok (.iinc 3 1, 3) := by decide +kernel
theorem d_Smo_saysTheSame_101 : decode M_Smo_saysTheSame.2.1 101 = .ok (.iinc 5 1, 3) := by decide +kernel
theorem d_Smo_saysTheSame_104 : decode M_Smo_saysTheSame.2.1 104 = .ok (.goto (-96), 3) := by decide +kernel
theorem d_Smo_saysTheSame_107 : decode M_Smo_saysTheSame.2.1 107 = .ok (.aload_n 1, 1) := by decide +kernel
theorem d_Smo_saysTheSame_108 : decode M_Smo_saysTheSame.2.1 108 = .ok (.iload_n 3, 1) := by decide +kernel
theorem d_Smo_saysTheSame_109 : decode M_Smo_saysTheSame.2.1 109 = .ok (.invokevirtual 82, 3) := by decide +kernel
theorem d_Smo_saysTheSame_112 : decode M_Smo_saysTheSame.2.1 112 = .ok (.istore 5, 2) := by decide +kernel
theorem d_Smo_saysTheSame_114 : decode M_Smo_saysTheSame.2.1 114 = .ok (.iload 5, 2) := by decide +kernel
theorem d_Smo_saysTheSame_116 : decode M_Smo_saysTheSame.2.1 116 = .ok (.iconst (-1), 1) := by decide +kernel
theorem d_Smo_saysTheSame_117 : decode M_Smo_saysTheSame.2.1 117 = .ok (.if_icmp .eq 14, 3) := by decide +kernel
theorem d_Smo_saysTheSame_120 : decode M_Smo_saysTheSame.2.1 120 = .ok (.iload 5, 2) := by decide +kernel
theorem d_Smo_saysTheSame_122 : decode M_Smo_saysTheSame.2.1 122 = .ok (.aload_n 1, 1) := by decide +kernel
theorem d_Smo_saysTheSame_123 : decode M_Smo_saysTheSame.2.1 123 = .ok (.getfield 77, 3) := by decide +kernel
theorem d_Smo_saysTheSame_126 : decode M_Smo_saysTheSame.2.1 126 = .ok (.iadd, 1) := by decide +kernel
theorem d_Smo_saysTheSame_127 : decode M_Smo_saysTheSame.2.1 127 = .ok (.iload_n 2, 1) := by decide +kernel
theorem d_Smo_saysTheSame_128 : decode M_Smo_saysTheSame.2.1 128 = .ok (.if_icmp .le 7, 3) := by decide +kernel
theorem d_Smo_saysTheSame_131 : decode M_Smo_saysTheSame.2.1 131 = .ok (.iconst 1, 1) := by decide +kernel
theorem d_Smo_saysTheSame_132 : decode M_Smo_saysTheSame.2.1 132 = .ok (.goto 4, 3) := by decide +kernel
theorem d_Smo_saysTheSame_135 : decode M_Smo_saysTheSame.2.1 135 = .ok (.iconst 0, 1) := by decide +kernel
theorem d_Smo_saysTheSame_136 : decode M_Smo_saysTheSame.2.1 136 = .ok (.ireturn, 1) := by decide +kernel
theorem d_SN_gap_0 : decode M_SN_gap.2.1 0 = .ok (.iload_n 1, 1) := by decide +kernel
theorem d_SN_gap_1 : decode M_SN_gap.2.1 1 = .ok (.invokestatic 288, 3) := by decide +kernel
theorem d_SN_gap_4 : decode M_SN_gap.2.1 4 = .ok (.ifCond .eq 14, 3) := by decide +kernel
theorem d_SN_gap_7 : decode M_SN_gap.2.1 7 = .ok (.iload_n 2, 1) := by decide +kernel
theorem d_SN_gap_8 : decode M_SN_gap.2.1 8 = .ok (.invokestatic 183, 3) := by decide +kernel
theorem d_SN_gap_11 : decode M_SN_gap.2.1 11 = .ok (.ifCond .eq 7, 3) := by decide +kernel
theorem d_SN_gap_14 : decode M_SN_gap.2.1 14 = .ok (.iconst 1, 1) := by decide +kernel
theorem d_SN_gap_15 : decode M_SN_gap.2.1 15 = .ok (.goto 4, 3) := by decide +kernel
theorem d_SN_gap_18 : decode M_SN_gap.2.1 18 = .ok (.iconst 0, 1) := by decide +kernel
theorem d_SN_gap_19 : decode M_SN_gap.2.1 19 = .ok (.istore_n 3, 1) := by decide +kernel
theorem d_SN_gap_20 : decode M_SN_gap.2.1 20 = .ok (.iload_n 3, 1) := by decide +kernel
theorem d_SN_gap_21 : decode M_SN_gap.2.1 21 = .ok (.ifCond .eq 30, 3) := by decide +kernel
theorem d_SN_gap_24 : decode M_SN_gap.2.1 24 = .ok (.aload_n 0, 1) := by decide +kernel
theorem d_SN_gap_25 : decode M_SN_gap.2.1 25 = .ok (.getfield 24, 3) := by decide +kernel
theorem d_SN_gap_28 : decode M_SN_gap.2.1 28 = .ok (.aload_n 0, 1) := by decide +kernel
theorem d_SN_gap_29 : decode M_SN_gap.2.1 29 = .ok (.getfield 72, 3) := by decide +kernel
theorem d_SN_gap_32 : decode M_SN_gap.2.1 32 = .ok (.invokevirtual 291, 3) := by decide +kernel
theorem d_SN_gap_35 : decode M_SN_gap.2.1 35 = .ok (.iload_n 1, 1) := by decide +kernel
theorem d_SN_gap_36 : decode M_SN_gap.2.1 36 = .ok (.iload_n 2, 1) := by decide +kernel
theorem d_SN_gap_37 : decode M_SN_gap.2.1 37 = .ok (.ifCond .ne 7, 3) := by decide +kernel
theorem d_SN_gap_40 : decode M_SN_gap.2.1 40 = .ok (.iconst 1, 1) := by decide +kernel
theorem d_SN_gap_41 : decode M_SN_gap.2.1 41 = .ok (.goto 4, 3) := by decide +kernel
theorem d_SN_gap_44 : decode M_SN_gap.2.1 44 = .ok (.iconst 0, 1) := by decide +kernel
theorem d_SN_gap_45 : decode M_SN_gap.2.1 45 = .ok (.invokevirtual 310, 3) := by decide +kernel
theorem d_SN_gap_48 : decode M_SN_gap.2.1 48 = .ok (.goto 4, 3) := by decide +kernel
theorem d_SN_gap_51 : decode M_SN_gap.2.1 51 = .ok (.iconst (-1), 1) := by decide +kernel
theorem d_SN_gap_52 : decode M_SN_gap.2.1 52 = .ok (.ireturn, 1) := by decide +kernel
theorem d_Smo_widest_0 : decode M_Smo_widest.2.1 0 = .ok (.iconst (-1), 1) := by decide +kernel
theorem d_Smo_widest_1 : decode M_Smo_widest.2.1 1 = .ok (.istore_n 3, 1) := by decide +kernel
theorem d_Smo_widest_2 : decode M_Smo_widest.2.1 2 = .ok (.iconst (-1), 1) := by decide +kernel
theorem d_Smo_widest_3 : decode M_Smo_widest.2.1 3 = .ok (.istore 4, 2) := by decide +kernel
theorem d_Smo_widest_5 : decode M_Smo_widest.2.1 5 = .ok (.iconst 1, 1) := by decide +kernel
theorem d_Smo_widest_6 : decode M_Smo_widest.2.1 6 = .ok (.istore 5, 2) := by decide +kernel
theorem d_Smo_widest_8 : decode M_Smo_widest.2.1 8 = .ok (.iload 5, 2) := by decide +kernel
theorem d_Smo_widest_10 : decode M_Smo_widest.2.1 10 = .ok (.aload_n 0, 1) := by decide +kernel
theorem d_Smo_widest_11 : decode M_Smo_widest.2.1 11 = .ok (.getfield 43, 3) := by decide +kernel
theorem d_Smo_widest_14 : decode M_Smo_widest.2.1 14 = .ok (.if_icmp .ge 55, 3) := by decide +kernel
theorem d_Smo_widest_17 : decode M_Smo_widest.2.1 17 = .ok (.aload_n 0, 1) := by decide +kernel
theorem d_Smo_widest_18 : decode M_Smo_widest.2.1 18 = .ok (.iload 5, 2) := by decide +kernel
theorem d_Smo_widest_20 : decode M_Smo_widest.2.1 20 = .ok (.invokevirtual 65, 3) := by decide +kernel
theorem d_Smo_widest_23 : decode M_Smo_widest.2.1 23 = .ok (.iload_n 1, 1) := by decide +kernel
theorem d_Smo_widest_24 : decode M_Smo_widest.2.1 24 = .ok (.if_icmp .gt 45, 3) := by decide +kernel
theorem d_Smo_widest_27 : decode M_Smo_widest.2.1 27 = .ok (.aload_n 0, 1) := by decide +kernel
theorem d_Smo_widest_28 : decode M_Smo_widest.2.1 28 = .ok (.iload 5, 2) := by decide +kernel
theorem d_Smo_widest_30 : decode M_Smo_widest.2.1 30 = .ok (.invokevirtual 65, 3) := by decide +kernel
theorem d_Smo_widest_33 : decode M_Smo_widest.2.1 33 = .ok (.aload_n 0, 1) := by decide +kernel
theorem d_Smo_widest_34 : decode M_Smo_widest.2.1 34 = .ok (.iload 5, 2) := by decide +kernel
theorem d_Smo_widest_36 : decode M_Smo_widest.2.1 36 = .ok (.iconst 1, 1) := by decide +kernel
theorem d_Smo_widest_37 : decode M_Smo_widest.2.1 37 = .ok (.isub, 1) := by decide +kernel
theorem d_Smo_widest_38 : decode M_Smo_widest.2.1 38 = .ok (.invokevirtual 65, 3) := by decide +kernel
theorem d_Smo_widest_41 : decode M_Smo_widest.2.1 41 = .ok (.isub, 1) := by decide +kernel
theorem d_Smo_widest_42 : decode M_Smo_widest.2.1 42 = .ok (.istore 6, 2) := by decide +kernel
theorem d_Smo_widest_44 : decode M_Smo_widest.2.1 44 = .ok (.iload 6, 2) := by decide +kernel
theorem d_Smo_widest_46 : decode M_Smo_widest.2.1 46 = .ok (.iload_n 3, 1) := by decide +kernel
theorem d_Smo_widest_47 : decode M_Smo_widest.2.1 47 = .ok (.if_icmp .le 16, 3) := by decide +kernel
theorem d_Smo_widest_50 : decode M_Smo_widest.2.1 50 = .ok (.iload 6, 2) := by decide +kernel
theorem d_Smo_widest_52 : decode M_Smo_widest.2.1 52 = .ok (.istore_n 3, 1) := by decide +kernel
theorem d_Smo_widest_53 : decode M_Smo_widest.2.1 53 = .ok (.aload_n 0, 1) := by decide +kernel
theorem d_Smo_widest_54 : decode M_Smo_widest.2.1 54 = .ok (.iload 5, 2) := by decide +kernel
theorem d_Smo_widest_56 : decode M_Smo_widest.2.1 56 = .ok (.iconst 1, 1) := by decide +kernel
theorem d_Smo_widest_57 : decode M_Smo_widest.2.1 57 = .ok (.isub, 1) := by decide +kernel
theorem d_Smo_widest_58 : decode M_Smo_widest.2.1 58 = .ok (.invokevirtual 65, 3) := by decide +kernel
theorem d_Smo_widest_61 : decode M_Smo_widest.2.1 61 = .ok (.istore 4, 2) := by decide +kernel
theorem d_Smo_widest_63 : decode M_Smo_widest.2.1 63 = .ok (.iinc 5 1, 3) := by decide +kernel
theorem d_Smo_widest_66 : decode M_Smo_widest.2.1 66 = .ok (.goto (-58), 3) := by decide +kernel
theorem d_Smo_widest_69 : decode M_Smo_widest.2.1 69 = .ok (.iload_n 2, 1) := by decide +kernel
theorem d_Smo_widest_70 : decode M_Smo_widest.2.1 70 = .ok (.ifCond .eq 7, 3) := by decide +kernel
theorem d_Smo_widest_73 : decode M_Smo_widest.2.1 73 = .ok (.iload_n 3, 1) := by decide +kernel
theorem d_Smo_widest_74 : decode M_Smo_widest.2.1 74 = .ok (.goto 5, 3) := by decide +kernel
theorem d_Smo_widest_77 : decode M_Smo_widest.2.1 77 = .ok (.iload 4, 2) := by decide +kernel
theorem d_Smo_widest_79 : decode M_Smo_widest.2.1 79 = .ok (.ireturn, 1) := by decide +kernel
theorem d_SN_apart_0 : decode M_SN_apart.2.1 0 = .ok (.iload_n 1, 1) := by decide +kernel
theorem d_SN_apart_1 : decode M_SN_apart.2.1 1 = .ok (.iconst 1, 1) := by decide +kernel
theorem d_SN_apart_2 : decode M_SN_apart.2.1 2 = .ok (.if_icmp .lt 21, 3) := by decide +kernel
theorem d_SN_apart_5 : decode M_SN_apart.2.1 5 = .ok (.iload_n 1, 1) := by decide +kernel
theorem d_SN_apart_6 : decode M_SN_apart.2.1 6 = .ok (.sipush 1000, 3) := by decide +kernel
theorem d_SN_apart_9 : decode M_SN_apart.2.1 9 = .ok (.if_icmp .gt 14, 3) := by decide +kernel
theorem d_SN_apart_12 : decode M_SN_apart.2.1 12 = .ok (.iload_n 2, 1) := by decide +kernel
theorem d_SN_apart_13 : decode M_SN_apart.2.1 13 = .ok (.invokestatic 288, 3) := by decide +kernel
theorem d_SN_apart_16 : decode M_SN_apart.2.1 16 = .ok (.ifCond .eq 7, 3) := by decide +kernel
theorem d_SN_apart_19 : decode M_SN_apart.2.1 19 = .ok (.iconst 1, 1) := by decide +kernel
theorem d_SN_apart_20 : decode M_SN_apart.2.1 20 = .ok (.goto 4, 3) := by decide +kernel
theorem d_SN_apart_23 : decode M_SN_apart.2.1 23 = .ok (.iconst 0, 1) := by decide +kernel
theorem d_SN_apart_24 : decode M_SN_apart.2.1 24 = .ok (.istore_n 3, 1) := by decide +kernel
theorem d_SN_apart_25 : decode M_SN_apart.2.1 25 = .ok (.iload_n 3, 1) := by decide +kernel
theorem d_SN_apart_26 : decode M_SN_apart.2.1 26 = .ok (.ifCond .eq 22, 3) := by decide +kernel
theorem d_SN_apart_29 : decode M_SN_apart.2.1 29 = .ok (.aload_n 0, 1) := by decide +kernel
theorem d_SN_apart_30 : decode M_SN_apart.2.1 30 = .ok (.getfield 24, 3) := by decide +kernel
theorem d_SN_apart_33 : decode M_SN_apart.2.1 33 = .ok (.aload_n 0, 1) := by decide +kernel
theorem d_SN_apart_34 : decode M_SN_apart.2.1 34 = .ok (.getfield 72, 3) := by decide +kernel
theorem d_SN_apart_37 : decode M_SN_apart.2.1 37 = .ok (.invokevirtual 291, 3) := by decide +kernel
theorem d_SN_apart_40 : decode M_SN_apart.2.1 40 = .ok (.iload_n 1, 1) := by decide +kernel
theorem d_SN_apart_41 : decode M_SN_apart.2.1 41 = .ok (.iload_n 2, 1) := by decide +kernel
theorem d_SN_apart_42 : decode M_SN_apart.2.1 42 = .ok (.invokevirtual 303, 3) := by decide +kernel
theorem d_SN_apart_45 : decode M_SN_apart.2.1 45 = .ok (.goto 4, 3) := by decide +kernel
theorem d_SN_apart_48 : decode M_SN_apart.2.1 48 = .ok (.iconst (-1), 1) := by decide +kernel
theorem d_SN_apart_49 : decode M_SN_apart.2.1 49 = .ok (.ireturn, 1) := by decide +kernel
theorem d_SN_sums_0 : decode M_SN_sums.2.1 0 = .ok (.iload_n 1, 1) := by decide +kernel
theorem d_SN_sums_1 : decode M_SN_sums.2.1 1 = .ok (.ifCond .lt 21, 3) := by decide +kernel
theorem d_SN_sums_4 : decode M_SN_sums.2.1 4 = .ok (.iload_n 1, 1) := by decide +kernel
theorem d_SN_sums_5 : decode M_SN_sums.2.1 5 = .ok (.sipush 3000, 3) := by decide +kernel
theorem d_SN_sums_8 : decode M_SN_sums.2.1 8 = .ok (.if_icmp .gt 14, 3) := by decide +kernel
theorem d_SN_sums_11 : decode M_SN_sums.2.1 11 = .ok (.iload_n 2, 1) := by decide +kernel
theorem d_SN_sums_12 : decode M_SN_sums.2.1 12 = .ok (.invokestatic 183, 3) := by decide +kernel
theorem d_SN_sums_15 : decode M_SN_sums.2.1 15 = .ok (.ifCond .eq 7, 3) := by decide +kernel
theorem d_SN_sums_18 : decode M_SN_sums.2.1 18 = .ok (.iconst 1, 1) := by decide +kernel
theorem d_SN_sums_19 : decode M_SN_sums.2.1 19 = .ok (.goto 4, 3) := by decide +kernel
theorem d_SN_sums_22 : decode M_SN_sums.2.1 22 = .ok (.iconst 0, 1) := by decide +kernel
theorem d_SN_sums_23 : decode M_SN_sums.2.1 23 = .ok (.istore_n 3, 1) := by decide +kernel
theorem d_SN_sums_24 : decode M_SN_sums.2.1 24 = .ok (.iload_n 3, 1) := by decide +kernel
theorem d_SN_sums_25 : decode M_SN_sums.2.1 25 = .ok (.ifCond .eq 31, 3) := by decide +kernel
theorem d_SN_sums_28 : decode M_SN_sums.2.1 28 = .ok (.aload_n 0, 1) := by decide +kernel
theorem d_SN_sums_29 : decode M_SN_sums.2.1 29 = .ok (.getfield 24, 3) := by decide +kernel
theorem d_SN_sums_32 : decode M_SN_sums.2.1 32 = .ok (.aload_n 0, 1) := by decide +kernel
theorem d_SN_sums_33 : decode M_SN_sums.2.1 33 = .ok (.getfield 72, 3) := by decide +kernel
theorem d_SN_sums_36 : decode M_SN_sums.2.1 36 = .ok (.invokevirtual 291, 3) := by decide +kernel
theorem d_SN_sums_39 : decode M_SN_sums.2.1 39 = .ok (.iload_n 1, 1) := by decide +kernel
theorem d_SN_sums_40 : decode M_SN_sums.2.1 40 = .ok (.iload_n 2, 1) := by decide +kernel
theorem d_SN_sums_41 : decode M_SN_sums.2.1 41 = .ok (.iconst 1, 1) := by decide +kernel
theorem d_SN_sums_42 : decode M_SN_sums.2.1 42 = .ok (.if_icmp .ne 7, 3) := by decide +kernel
theorem d_SN_sums_45 : decode M_SN_sums.2.1 45 = .ok (.iconst 1, 1) := by decide +kernel
theorem d_SN_sums_46 : decode M_SN_sums.2.1 46 = .ok (.goto 4, 3) := by decide +kernel
theorem d_SN_sums_49 : decode M_SN_sums.2.1 49 = .ok (.iconst 0, 1) := by decide +kernel
theorem d_SN_sums_50 : decode M_SN_sums.2.1 50 = .ok (.invokevirtual 314, 3) := by decide +kernel
theorem d_SN_sums_53 : decode M_SN_sums.2.1 53 = .ok (.goto 4, 3) := by decide +kernel
theorem d_SN_sums_56 : decode M_SN_sums.2.1 56 = .ok (.iconst (-1), 1) := by decide +kernel
theorem d_SN_sums_57 : decode M_SN_sums.2.1 57 = .ok (.ireturn, 1) := by decide +kernel
theorem d_Smo_sumsUpTo_0 : decode M_Smo_sumsUpTo.2.1 0 = .ok (.aload_n 0, 1) := by decide +kernel
theorem d_Smo_sumsUpTo_1 : decode M_Smo_sumsUpTo.2.1 1 = .ok (.getfield 33, 3) := by decide +kernel
theorem d_Smo_sumsUpTo_4 : decode M_Smo_sumsUpTo.2.1 4 = .ok (.ifCond .ne 7, 3) := by decide +kernel
theorem d_Smo_sumsUpTo_7 : decode M_Smo_sumsUpTo.2.1 7 = .ok (.aload_n 0, 1) := by decide +kernel
theorem d_Smo_sumsUpTo_8 : decode M_Smo_sumsUpTo.2.1 8 = .ok (.invokevirtual 85, 3) := by decide +kernel
theorem d_Smo_sumsUpTo_11 : decode M_Smo_sumsUpTo.2.1 11 = .ok (.iload_n 1, 1) := by decide +kernel
theorem d_Smo_sumsUpTo_12 : decode M_Smo_sumsUpTo.2.1 12 = .ok (.ifCond .lt 10, 3) := by decide +kernel
theorem d_Smo_sumsUpTo_15 : decode M_Smo_sumsUpTo.2.1 15 = .ok (.iload_n 1, 1) := by decide +kernel
theorem d_Smo_sumsUpTo_16 : decode M_Smo_sumsUpTo.2.1 16 = .ok (.sipush 3000, 3) := by decide +kernel
theorem d_Smo_sumsUpTo_19 : decode M_Smo_sumsUpTo.2.1 19 = .ok (.if_icmp .le 5, 3) := by decide +kernel
theorem d_Smo_sumsUpTo_22 : decode M_Smo_sumsUpTo.2.1 22 = .ok (.iconst (-1), 1) := by decide +kernel
theorem d_Smo_sumsUpTo_23 : decode M_Smo_sumsUpTo.2.1 23 = .ok (.ireturn, 1) := by decide +kernel
theorem d_Smo_sumsUpTo_24 : decode M_Smo_sumsUpTo.2.1 24 = .ok (.iload_n 2, 1) := by decide +kernel
theorem d_Smo_sumsUpTo_25 : decode M_Smo_sumsUpTo.2.1 25 = .ok (.ifCond .eq 12, 3) := by decide +kernel
theorem d_Smo_sumsUpTo_28 : decode M_Smo_sumsUpTo.2.1 28 = .ok (.aload_n 0, 1) := by decide +kernel
theorem d_Smo_sumsUpTo_29 : decode M_Smo_sumsUpTo.2.1 29 = .ok (.getfield 26, 3) := by decide +kernel
theorem d_Smo_sumsUpTo_32 : decode M_Smo_sumsUpTo.2.1 32 = .ok (.iload_n 1, 1) := by decide +kernel
theorem d_Smo_sumsUpTo_33 : decode M_Smo_sumsUpTo.2.1 33 = .ok (.iaload, 1) := by decide +kernel
theorem d_Smo_sumsUpTo_34 : decode M_Smo_sumsUpTo.2.1 34 = .ok (.goto 9, 3) := by decide +kernel
theorem d_Smo_sumsUpTo_37 : decode M_Smo_sumsUpTo.2.1 37 = .ok (.aload_n 0, 1) := by decide +kernel
theorem d_Smo_sumsUpTo_38 : decode M_Smo_sumsUpTo.2.1 38 = .ok (.getfield 23, 3) := by decide +kernel
theorem d_Smo_sumsUpTo_41 : decode M_Smo_sumsUpTo.2.1 41 = .ok (.iload_n 1, 1) := by decide +kernel
theorem d_Smo_sumsUpTo_42 : decode M_Smo_sumsUpTo.2.1 42 = .ok (.iaload, 1) := by decide +kernel
theorem d_Smo_sumsUpTo_43 : decode M_Smo_sumsUpTo.2.1 43 = .ok (.ireturn, 1) := by decide +kernel
theorem d_Smo_learnSums_0 : decode M_Smo_learnSums.2.1 0 = .ok (.aload_n 0, 1) := by decide +kernel
theorem d_Smo_learnSums_1 : decode M_Smo_learnSums.2.1 1 = .ok (.getfield 23, 3) := by decide +kernel
theorem d_Smo_learnSums_4 : decode M_Smo_learnSums.2.1 4 = .ok (.iconst 0, 1) := by decide +kernel
theorem d_Smo_learnSums_5 : decode M_Smo_learnSums.2.1 5 = .ok (.invokestatic 37, 3) := by decide +kernel
theorem d_Smo_learnSums_8 : decode M_Smo_learnSums.2.1 8 = .ok (.aload_n 0, 1) := by decide +kernel
theorem d_Smo_learnSums_9 : decode M_Smo_learnSums.2.1 9 = .ok (.getfield 26, 3) := by decide +kernel
theorem d_Smo_learnSums_12 : decode M_Smo_learnSums.2.1 12 = .ok (.iconst 0, 1) := by decide +kernel
theorem d_Smo_learnSums_13 : decode M_Smo_learnSums.2.1 13 = .ok (.invokestatic 37, 3) := by decide +kernel
theorem d_Smo_learnSums_16 : decode M_Smo_learnSums.2.1 16 = .ok (.iconst 0, 1) := by decide +kernel
theorem d_Smo_learnSums_17 : decode M_Smo_learnSums.2.1 17 = .ok (.istore_n 1, 1) := by decide +kernel
theorem d_Smo_learnSums_18 : decode M_Smo_learnSums.2.1 18 = .ok (.iload_n 1, 1) := by decide +kernel
theorem d_Smo_learnSums_19 : decode M_Smo_learnSums.2.1 19 = .ok (.aload_n 0, 1) := by decide +kernel
theorem d_Smo_learnSums_20 : decode M_Smo_learnSums.2.1 20 = .ok (.getfield 43, 3) := by decide +kernel
theorem d_Smo_learnSums_23 : decode M_Smo_learnSums.2.1 23 = .ok (.if_icmp .ge 125, 3) := by decide +kernel
theorem d_Smo_learnSums_26 : decode M_Smo_learnSums.2.1 26 = .ok (.iconst 2, 1) := by decide +kernel
theorem d_Smo_learnSums_27 : decode M_Smo_learnSums.2.1 27 = .ok (.aload_n 0, 1) := by decide +kernel
theorem d_Smo_learnSums_28 : decode M_Smo_learnSums.2.1 28 = .ok (.iload_n 1, 1) := by decide +kernel
theorem d_Smo_learnSums_29 : decode M_Smo_learnSums.2.1 29 = .ok (.invokevirtual 65, 3) := by decide +kernel
theorem d_Smo_learnSums_32 : decode M_Smo_learnSums.2.1 32 = .ok (.imul, 1) := by decide +kernel
theorem d_Smo_learnSums_33 : decode M_Smo_learnSums.2.1 33 = .ok (.sipush 3000, 3) := by decide +kernel
theorem d_Smo_learnSums_36 : decode M_Smo_learnSums.2.1 36 = .ok (.if_icmp .gt 112, 3) := by decide +kernel
theorem d_Smo_learnSums_39 : decode M_Smo_learnSums.2.1 39 = .ok (.iload_n 1, 1) := by decide +kernel
theorem d_Smo_learnSums_40 : decode M_Smo_learnSums.2.1 40 = .ok (.istore_n 2, 1) := by decide +kernel
theorem d_Smo_learnSums_41 : decode M_Smo_learnSums.2.1 41 = .ok (.iload_n 1, 1) := by decide +kernel
theorem d_Smo_learnSums_42 : decode M_Smo_learnSums.2.1 42 = .ok (.istore_n 3, 1) := by decide +kernel
theorem d_Smo_learnSums_43 : decode M_Smo_learnSums.2.1 43 = .ok (.iload_n 3, 1) := by decide +kernel
theorem d_Smo_learnSums_44 : decode M_Smo_learnSums.2.1 44 = .ok (.aload_n 0, 1) := by decide +kernel
theorem d_Smo_learnSums_45 : decode M_Smo_learnSums.2.1 45 = .ok (.getfield 43, 3) := by decide +kernel
theorem d_Smo_learnSums_48 : decode M_Smo_learnSums.2.1 48 = .ok (.if_icmp .ge 94, 3) := by decide +kernel
theorem d_Smo_learnSums_51 : decode M_Smo_learnSums.2.1 51 = .ok (.aload_n 0, 1) := by decide +kernel
theorem d_Smo_learnSums_52 : decode M_Smo_learnSums.2.1 52 = .ok (.iload_n 1, 1) := by decide +kernel
theorem d_Smo_learnSums_53 : decode M_Smo_learnSums.2.1 53 = .ok (.invokevirtual 65, 3) := by decide +kernel
theorem d_Smo_learnSums_56 : decode M_Smo_learnSums.2.1 56 = .ok (.aload_n 0, 1) := by decide +kernel
theorem d_Smo_learnSums_57 : decode M_Smo_learnSums.2.1 57 = .ok (.iload_n 3, 1) := by decide +kernel
theorem d_Smo_learnSums_58 : decode M_Smo_learnSums.2.1 58 = .ok (.invokevirtual 65, 3) := by decide +kernel
theorem d_Smo_learnSums_61 : decode M_Smo_learnSums.2.1 61 = .ok (.iadd, 1) := by decide +kernel
theorem d_Smo_learnSums_62 : decode M_Smo_learnSums.2.1 62 = .ok (.sipush 3000, 3) := by decide +kernel
theorem d_Smo_learnSums_65 : decode M_Smo_learnSums.2.1 65 = .ok (.if_icmp .gt 77, 3) := by decide +kernel
theorem d_Smo_learnSums_68 : decode M_Smo_learnSums.2.1 68 = .ok (.aload_n 0, 1) := by decide +kernel
theorem d_Smo_learnSums_69 : decode M_Smo_learnSums.2.1 69 = .ok (.iload_n 1, 1) := by decide +kernel
theorem d_Smo_learnSums_70 : decode M_Smo_learnSums.2.1 70 = .ok (.invokevirtual 65, 3) := by decide +kernel
theorem d_Smo_learnSums_73 : decode M_Smo_learnSums.2.1 73 = .ok (.aload_n 0, 1) := by decide +kernel
theorem d_Smo_learnSums_74 : decode M_Smo_learnSums.2.1 74 = .ok (.iload_n 3, 1) := by decide +kernel
theorem d_Smo_learnSums_75 : decode M_Smo_learnSums.2.1 75 = .ok (.invokevirtual 65, 3) := by decide +kernel
theorem d_Smo_learnSums_78 : decode M_Smo_learnSums.2.1 78 = .ok (.iadd, 1) := by decide +kernel
theorem d_Smo_learnSums_79 : decode M_Smo_learnSums.2.1 79 = .ok (.istore 4, 2) := by decide +kernel
theorem d_Smo_learnSums_81 : decode M_Smo_learnSums.2.1 81 = .ok (.iload_n 2, 1) := by decide +kernel
theorem d_Smo_learnSums_82 : decode M_Smo_learnSums.2.1 82 = .ok (.aload_n 0, 1) := by decide +kernel
theorem d_Smo_learnSums_83 : decode M_Smo_learnSums.2.1 83 = .ok (.getfield 43, 3) := by decide +kernel
theorem d_Smo_learnSums_86 : decode M_Smo_learnSums.2.1 86 = .ok (.if_icmp .ge 19, 3) := by decide +kernel
theorem d_Smo_learnSums_89 : decode M_Smo_learnSums.2.1 89 = .ok (.aload_n 0, 1) := by decide +kernel
theorem d_Smo_learnSums_90 : decode M_Smo_learnSums.2.1 90 = .ok (.iload_n 2, 1) := by decide +kernel
theorem d_Smo_learnSums_91 : decode M_Smo_learnSums.2.1 91 = .ok (.invokevirtual 65, 3) := by decide +kernel
theorem d_Smo_learnSums_94 : decode M_Smo_learnSums.2.1 94 = .ok (.iload 4, 2) := by decide +kernel
theorem d_Smo_learnSums_96 : decode M_Smo_learnSums.2.1 96 = .ok (.if_icmp .ge 9, 3) := by decide +kernel
theorem d_Smo_learnSums_99 : decode M_Smo_learnSums.2.1 99 = .ok (.iinc 2 1, 3) := by decide +kernel
theorem d_Smo_learnSums_102 : decode M_Smo_learnSums.2.1 102 = .ok (.goto (-21), 3) := by decide +kernel
theorem d_Smo_learnSums_105 : decode M_Smo_learnSums.2.1 105 = .ok (.aload_n 0, 1) := by decide +kernel
theorem d_Smo_learnSums_106 : decode M_Smo_learnSums.2.1 106 = .ok (.iload_n 2, 1) := by decide +kernel
theorem d_Smo_learnSums_107 : decode M_Smo_learnSums.2.1 107 = .ok (.invokevirtual 65, 3) := by decide +kernel
theorem d_Smo_learnSums_110 : decode M_Smo_learnSums.2.1 110 = .ok (.iload 4, 2) := by decide +kernel
theorem d_Smo_learnSums_112 : decode M_Smo_learnSums.2.1 112 = .ok (.if_icmp .ne 24, 3) := by decide +kernel
theorem d_Smo_learnSums_115 : decode M_Smo_learnSums.2.1 115 = .ok (.aload_n 0, 1) := by decide +kernel
theorem d_Smo_learnSums_116 : decode M_Smo_learnSums.2.1 116 = .ok (.iload 4, 2) := by decide +kernel
theorem d_Smo_learnSums_118 : decode M_Smo_learnSums.2.1 118 = .ok (.aload_n 0, 1) := by decide +kernel
theorem d_Smo_learnSums_119 : decode M_Smo_learnSums.2.1 119 = .ok (.iload_n 1, 1) := by decide +kernel
theorem d_Smo_learnSums_120 : decode M_Smo_learnSums.2.1 120 = .ok (.invokevirtual 71, 3) := by decide +kernel
theorem d_Smo_learnSums_123 : decode M_Smo_learnSums.2.1 123 = .ok (.aload_n 0, 1) := by decide +kernel
theorem d_Smo_learnSums_124 : decode M_Smo_learnSums.2.1 124 = .ok (.iload_n 3, 1) := by decide +kernel
theorem d_Smo_learnSums_125 : decode M_Smo_learnSums.2.1 125 = .ok (.invokevirtual 71, 3) := by decide +kernel
theorem d_Smo_learnSums_128 : decode M_Smo_learnSums.2.1 128 = .ok (.aload_n 0, 1) := by decide +kernel
theorem d_Smo_learnSums_129 : decode M_Smo_learnSums.2.1 129 = .ok (.iload_n 2, 1) := by decide +kernel
theorem d_Smo_learnSums_130 : decode M_Smo_learnSums.2.1 130 = .ok (.invokevirtual 71, 3) := by decide +kernel
theorem d_Smo_learnSums_133 : decode M_Smo_learnSums.2.1 133 = .ok (.invokevirtual 88, 3) := by decide +kernel
theorem d_Smo_learnSums_136 : decode M_Smo_learnSums.2.1 136 = .ok (.iinc 3 1, 3) := by decide +kernel
theorem d_Smo_learnSums_139 : decode M_Smo_learnSums.2.1 139 = .ok (.goto (-96), 3) := by decide +kernel
theorem d_Smo_learnSums_142 : decode M_Smo_learnSums.2.1 142 = .ok (.iinc 1 1, 3) := by decide +kernel
theorem d_Smo_learnSums_145 : decode M_Smo_learnSums.2.1 145 = .ok (.goto (-127), 3) := by decide +kernel
theorem d_Smo_learnSums_148 : decode M_Smo_learnSums.2.1 148 = .ok (.iconst 1, 1) := by decide +kernel
theorem d_Smo_learnSums_149 : decode M_Smo_learnSums.2.1 149 = .ok (.istore_n 1, 1) := by decide +kernel
theorem d_Smo_learnSums_150 : decode M_Smo_learnSums.2.1 150 = .ok (.iload_n 1, 1) := by decide +kernel
theorem d_Smo_learnSums_151 : decode M_Smo_learnSums.2.1 151 = .ok (.sipush 3000, 3) := by decide +kernel
theorem d_Smo_learnSums_154 : decode M_Smo_learnSums.2.1 154 = .ok (.if_icmp .gt 43, 3) := by decide +kernel
theorem d_Smo_learnSums_157 : decode M_Smo_learnSums.2.1 157 = .ok (.aload_n 0, 1) := by decide +kernel
theorem d_Smo_learnSums_158 : decode M_Smo_learnSums.2.1 158 = .ok (.getfield 23, 3) := by decide +kernel
theorem d_Smo_learnSums_161 : decode M_Smo_learnSums.2.1 161 = .ok (.iload_n 1, 1) := by decide +kernel
theorem d_Smo_learnSums_162 : decode M_Smo_learnSums.2.1 162 = .ok (.dup2, 1) := by decide +kernel
theorem d_Smo_learnSums_163 : decode M_Smo_learnSums.2.1 163 = .ok (.iaload, 1) := by decide +kernel
theorem d_Smo_learnSums_164 : decode M_Smo_learnSums.2.1 164 = .ok (.aload_n 0, 1) := by decide +kernel
theorem d_Smo_learnSums_165 : decode M_Smo_learnSums.2.1 165 = .ok (.getfield 23, 3) := by decide +kernel
theorem d_Smo_learnSums_168 : decode M_Smo_learnSums.2.1 168 = .ok (.iload_n 1, 1) := by decide +kernel
theorem d_Smo_learnSums_169 : decode M_Smo_learnSums.2.1 169 = .ok (.iconst 1, 1) := by decide +kernel
theorem d_Smo_learnSums_170 : decode M_Smo_learnSums.2.1 170 = .ok (.isub, 1) := by decide +kernel
theorem d_Smo_learnSums_171 : decode M_Smo_learnSums.2.1 171 = .ok (.iaload, 1) := by decide +kernel
theorem d_Smo_learnSums_172 : decode M_Smo_learnSums.2.1 172 = .ok (.iadd, 1) := by decide +kernel
theorem d_Smo_learnSums_173 : decode M_Smo_learnSums.2.1 173 = .ok (.iastore, 1) := by decide +kernel
theorem d_Smo_learnSums_174 : decode M_Smo_learnSums.2.1 174 = .ok (.aload_n 0, 1) := by decide +kernel
theorem d_Smo_learnSums_175 : decode M_Smo_learnSums.2.1 175 = .ok (.getfield 26, 3) := by decide +kernel
theorem d_Smo_learnSums_178 : decode M_Smo_learnSums.2.1 178 = .ok (.iload_n 1, 1) := by decide +kernel
theorem d_Smo_learnSums_179 : decode M_Smo_learnSums.2.1 179 = .ok (.dup2, 1) := by decide +kernel
theorem d_Smo_learnSums_180 : decode M_Smo_learnSums.2.1 180 = .ok (.iaload, 1) := by decide +kernel
theorem d_Smo_learnSums_181 : decode M_Smo_learnSums.2.1 181 = .ok (.aload_n 0, 1) := by decide +kernel
theorem d_Smo_learnSums_182 : decode M_Smo_learnSums.2.1 182 = .ok (.getfield 26, 3) := by decide +kernel
theorem d_Smo_learnSums_185 : decode M_Smo_learnSums.2.1 185 = .ok (.iload_n 1, 1) := by decide +kernel
theorem d_Smo_learnSums_186 : decode M_Smo_learnSums.2.1 186 = .ok (.iconst 1, 1) := by decide +kernel
theorem d_Smo_learnSums_187 : decode M_Smo_learnSums.2.1 187 = .ok (.isub, 1) := by decide +kernel
theorem d_Smo_learnSums_188 : decode M_Smo_learnSums.2.1 188 = .ok (.iaload, 1) := by decide +kernel
theorem d_Smo_learnSums_189 : decode M_Smo_learnSums.2.1 189 = .ok (.iadd, 1) := by decide +kernel
theorem d_Smo_learnSums_190 : decode M_Smo_learnSums.2.1 190 = .ok (.iastore, 1) := by decide +kernel
theorem d_Smo_learnSums_191 : decode M_Smo_learnSums.2.1 191 = .ok (.iinc 1 1, 3) := by decide +kernel
theorem d_Smo_learnSums_194 : decode M_Smo_learnSums.2.1 194 = .ok (.goto (-44), 3) := by decide +kernel
theorem d_Smo_learnSums_197 : decode M_Smo_learnSums.2.1 197 = .ok (.aload_n 0, 1) := by decide +kernel
theorem d_Smo_learnSums_198 : decode M_Smo_learnSums.2.1 198 = .ok (.iconst 1, 1) := by decide +kernel
theorem d_Smo_learnSums_199 : decode M_Smo_learnSums.2.1 199 = .ok (.putfield 33, 3) := by decide +kernel
theorem d_Smo_learnSums_202 : decode M_Smo_learnSums.2.1 202 = .ok (.return_, 1) := by decide +kernel
theorem d_Smo_learnSum_0 : decode M_Smo_learnSum.2.1 0 = .ok (.iload_n 1, 1) := by decide +kernel
theorem d_Smo_learnSum_1 : decode M_Smo_learnSum.2.1 1 = .ok (.ifCond .lt 16, 3) := by decide +kernel
theorem d_Smo_learnSum_4 : decode M_Smo_learnSum.2.1 4 = .ok (.iload_n 1, 1) := by decide +kernel
theorem d_Smo_learnSum_5 : decode M_Smo_learnSum.2.1 5 = .ok (.sipush 3000, 3) := by decide +kernel
theorem d_Smo_learnSum_8 : decode M_Smo_learnSum.2.1 8 = .ok (.if_icmp .gt 9, 3) := by decide +kernel
theorem d_Smo_learnSum_11 : decode M_Smo_learnSum.2.1 11 = .ok (.iload_n 2, 1) := by decide +kernel
theorem d_Smo_learnSum_12 : decode M_Smo_learnSum.2.1 12 = .ok (.iload_n 3, 1) := by decide +kernel
theorem d_Smo_learnSum_13 : decode M_Smo_learnSum.2.1 13 = .ok (.iand, 1) := by decide +kernel
theorem d_Smo_learnSum_14 : decode M_Smo_learnSum.2.1 14 = .ok (.ifCond .eq 4, 3) := by decide +kernel
theorem d_Smo_learnSum_17 : decode M_Smo_learnSum.2.1 17 = .ok (.return_, 1) := by decide +kernel
theorem d_Smo_learnSum_18 : decode M_Smo_learnSum.2.1 18 = .ok (.aload_n 0, 1) := by decide +kernel
theorem d_Smo_learnSum_19 : decode M_Smo_learnSum.2.1 19 = .ok (.getfield 23, 3) := by decide +kernel
theorem d_Smo_learnSum_22 : decode M_Smo_learnSum.2.1 22 = .ok (.iload_n 1, 1) := by decide +kernel
theorem d_Smo_learnSum_23 : decode M_Smo_learnSum.2.1 23 = .ok (.dup2, 1) := by decide +kernel
theorem d_Smo_learnSum_24 : decode M_Smo_learnSum.2.1 24 = .ok (.iaload, 1) := by decide +kernel
theorem d_Smo_learnSum_25 : decode M_Smo_learnSum.2.1 25 = .ok (.iconst 1, 1) := by decide +kernel
theorem d_Smo_learnSum_26 : decode M_Smo_learnSum.2.1 26 = .ok (.iadd, 1) := by decide +kernel
theorem d_Smo_learnSum_27 : decode M_Smo_learnSum.2.1 27 = .ok (.iastore, 1) := by decide +kernel
theorem d_Smo_learnSum_28 : decode M_Smo_learnSum.2.1 28 = .ok (.aload_n 0, 1) := by decide +kernel
theorem d_Smo_learnSum_29 : decode M_Smo_learnSum.2.1 29 = .ok (.getfield 26, 3) := by decide +kernel
theorem d_Smo_learnSum_32 : decode M_Smo_learnSum.2.1 32 = .ok (.iload_n 1, 1) := by decide +kernel
theorem d_Smo_learnSum_33 : decode M_Smo_learnSum.2.1 33 = .ok (.dup2, 1) := by decide +kernel
theorem d_Smo_learnSum_34 : decode M_Smo_learnSum.2.1 34 = .ok (.iaload, 1) := by decide +kernel
theorem d_Smo_learnSum_35 : decode M_Smo_learnSum.2.1 35 = .ok (.iload_n 1, 1) := by decide +kernel
theorem d_Smo_learnSum_36 : decode M_Smo_learnSum.2.1 36 = .ok (.iload_n 2, 1) := by decide +kernel
theorem d_Smo_learnSum_37 : decode M_Smo_learnSum.2.1 37 = .ok (.iload_n 3, 1) := by decide +kernel
theorem d_Smo_learnSum_38 : decode M_Smo_learnSum.2.1 38 = .ok (.ior, 1) := by decide +kernel
theorem d_Smo_learnSum_39 : decode M_Smo_learnSum.2.1 39 = .ok (.iload 4, 2) := by decide +kernel
theorem d_Smo_learnSum_41 : decode M_Smo_learnSum.2.1 41 = .ok (.ior, 1) := by decide +kernel
theorem d_Smo_learnSum_42 : decode M_Smo_learnSum.2.1 42 = .ok (.invokestatic 92, 3) := by decide +kernel
theorem d_Smo_learnSum_45 : decode M_Smo_learnSum.2.1 45 = .ok (.if_icmp .le 7, 3) := by decide +kernel
theorem d_Smo_learnSum_48 : decode M_Smo_learnSum.2.1 48 = .ok (.iconst 1, 1) := by decide +kernel
theorem d_Smo_learnSum_49 : decode M_Smo_learnSum.2.1 49 = .ok (.goto 4, 3) := by decide +kernel
theorem d_Smo_learnSum_52 : decode M_Smo_learnSum.2.1 52 = .ok (.iconst 0, 1) := by decide +kernel
theorem d_Smo_learnSum_53 : decode M_Smo_learnSum.2.1 53 = .ok (.iadd, 1) := by decide +kernel
theorem d_Smo_learnSum_54 : decode M_Smo_learnSum.2.1 54 = .ok (.iastore, 1) := by decide +kernel
theorem d_Smo_learnSum_55 : decode M_Smo_learnSum.2.1 55 = .ok (.return_, 1) := by decide +kernel
theorem d_SN_thick_0 : decode M_SN_thick.2.1 0 = .ok (.iload_n 1, 1) := by decide +kernel
theorem d_SN_thick_1 : decode M_SN_thick.2.1 1 = .ok (.iconst 1, 1) := by decide +kernel
theorem d_SN_thick_2 : decode M_SN_thick.2.1 2 = .ok (.if_icmp .lt 10, 3) := by decide +kernel
theorem d_SN_thick_5 : decode M_SN_thick.2.1 5 = .ok (.iload_n 1, 1) := by decide +kernel
theorem d_SN_thick_6 : decode M_SN_thick.2.1 6 = .ok (.ldc_w 317, 3) := by decide +kernel
theorem d_SN_thick_9 : decode M_SN_thick.2.1 9 = .ok (.if_icmp .le 5, 3) := by decide +kernel
theorem d_SN_thick_12 : decode M_SN_thick.2.1 12 = .ok (.lconst 0, 1) := by decide +kernel
theorem d_SN_thick_13 : decode M_SN_thick.2.1 13 = .ok (.lreturn, 1) := by decide +kernel
theorem d_SN_thick_14 : decode M_SN_thick.2.1 14 = .ok (.aload_n 0, 1) := by decide +kernel
theorem d_SN_thick_15 : decode M_SN_thick.2.1 15 = .ok (.getfield 24, 3) := by decide +kernel
theorem d_SN_thick_18 : decode M_SN_thick.2.1 18 = .ok (.aload_n 0, 1) := by decide +kernel
theorem d_SN_thick_19 : decode M_SN_thick.2.1 19 = .ok (.getfield 72, 3) := by decide +kernel
theorem d_SN_thick_22 : decode M_SN_thick.2.1 22 = .ok (.invokevirtual 291, 3) := by decide +kernel
theorem d_SN_thick_25 : decode M_SN_thick.2.1 25 = .ok (.iload_n 1, 1) := by decide +kernel
theorem d_SN_thick_26 : decode M_SN_thick.2.1 26 = .ok (.invokevirtual 294, 3) := by decide +kernel
theorem d_SN_thick_29 : decode M_SN_thick.2.1 29 = .ok (.i2d, 1) := by decide +kernel
theorem d_SN_thick_30 : decode M_SN_thick.2.1 30 = .ok (.iload_n 1, 1) := by decide +kernel
theorem d_SN_thick_31 : decode M_SN_thick.2.1 31 = .ok (.i2d, 1) := by decide +kernel
theorem d_SN_thick_32 : decode M_SN_thick.2.1 32 = .ok (.ddiv, 1) := by decide +kernel
theorem d_SN_thick_33 : decode M_SN_thick.2.1 33 = .ok (.invokestatic 318, 3) := by decide +kernel
theorem d_SN_thick_36 : decode M_SN_thick.2.1 36 = .ok (.lreturn, 1) := by decide +kernel
theorem d_SN_doubleBits_0 : decode M_SN_doubleBits.2.1 0 = .ok (.dload_n 0, 1) := by decide +kernel
theorem d_SN_doubleBits_1 : decode M_SN_doubleBits.2.1 1 = .ok (.dstore_n 2, 1) := by decide +kernel
theorem d_SN_doubleBits_2 : decode M_SN_doubleBits.2.1 2 = .ok (.ldc2_w 401, 3) := by decide +kernel
theorem d_SN_doubleBits_5 : decode M_SN_doubleBits.2.1 5 = .ok (.lstore 4, 2) := by decide +kernel
theorem d_SN_doubleBits_7 : decode M_SN_doubleBits.2.1 7 = .ok (.iconst 0, 1) := by decide +kernel
theorem d_SN_doubleBits_8 : decode M_SN_doubleBits.2.1 8 = .ok (.istore 6, 2) := by decide +kernel
theorem d_SN_doubleBits_10 : decode M_SN_doubleBits.2.1 10 = .ok (.iload 6, 2) := by decide +kernel
theorem d_SN_doubleBits_12 : decode M_SN_doubleBits.2.1 12 = .ok (.sipush 1000, 3) := by decide +kernel
theorem d_SN_doubleBits_15 : decode M_SN_doubleBits.2.1 15 = .ok (.if_icmp .ge 27, 3) := by decide +kernel
theorem d_SN_doubleBits_18 : decode M_SN_doubleBits.2.1 18 = .ok (.dload_n 2, 1) := by decide +kernel
theorem d_SN_doubleBits_19 : decode M_SN_doubleBits.2.1 19 = .ok (.dconst 1, 1) := by decide +kernel
theorem d_SN_doubleBits_20 : decode M_SN_doubleBits.2.1 20 = .ok (.dcmp .g, 1) := by decide +kernel
theorem d_SN_doubleBits_21 : decode M_SN_doubleBits.2.1 21 = .ok (.ifCond .ge 21, 3) := by decide +kernel
theorem d_SN_doubleBits_24 : decode M_SN_doubleBits.2.1 24 = .ok (.dload_n 2, 1) := by decide +kernel
theorem d_SN_doubleBits_25 : decode M_SN_doubleBits.2.1 25 = .ok (.ldc2_w 403, 3) := by decide +kernel
theorem d_SN_doubleBits_28 : decode M_SN_doubleBits.2.1 28 = .ok (.dmul, 1) := by decide +kernel
theorem d_SN_doubleBits_29 : decode M_SN_doubleBits.2.1 29 = .ok (.dstore_n 2, 1) := by decide +kernel
theorem d_SN_doubleBits_30 : decode M_SN_doubleBits.2.1 30 = .ok (.lload 4, 2) := by decide +kernel
theorem d_SN_doubleBits_32 : decode M_SN_doubleBits.2.1 32 = .ok (.lconst 1, 1) := by decide +kernel
theorem d_SN_doubleBits_33 : decode M_SN_doubleBits.2.1 33 = .ok (.lsub, 1) := by decide +kernel
theorem d_SN_doubleBits_34 : decode M_SN_doubleBits.2.1 34 = .ok (.lstore 4, 2) := by decide +kernel
theorem d_SN_doubleBits_36 : decode M_SN_doubleBits.2.1 36 = .ok (.iinc 6 1, 3) := by decide +kernel
theorem d_SN_doubleBits_39 : decode M_SN_doubleBits.2.1 39 = .ok (.goto (-29), 3) := by decide +kernel
theorem d_SN_doubleBits_42 : decode M_SN_doubleBits.2.1 42 = .ok (.lload 4, 2) := by decide +kernel
theorem d_SN_doubleBits_44 : decode M_SN_doubleBits.2.1 44 = .ok (.bipush 52, 2) := by decide +kernel
theorem d_SN_doubleBits_46 : decode M_SN_doubleBits.2.1 46 = .ok (.lshl, 1) := by decide +kernel
theorem d_SN_doubleBits_47 : decode M_SN_doubleBits.2.1 47 = .ok (.dload_n 2, 1) := by decide +kernel
theorem d_SN_doubleBits_48 : decode M_SN_doubleBits.2.1 48 = .ok (.dconst 1, 1) := by decide +kernel
theorem d_SN_doubleBits_49 : decode M_SN_doubleBits.2.1 49 = .ok (.dsub, 1) := by decide +kernel
theorem d_SN_doubleBits_50 : decode M_SN_doubleBits.2.1 50 = .ok (.ldc2_w 405, 3) := by decide +kernel
theorem d_SN_doubleBits_53 : decode M_SN_doubleBits.2.1 53 = .ok (.dmul, 1) := by decide +kernel
theorem d_SN_doubleBits_54 : decode M_SN_doubleBits.2.1 54 = .ok (.d2l, 1) := by decide +kernel
theorem d_SN_doubleBits_55 : decode M_SN_doubleBits.2.1 55 = .ok (.lor, 1) := by decide +kernel
theorem d_SN_doubleBits_56 : decode M_SN_doubleBits.2.1 56 = .ok (.lreturn, 1) := by decide +kernel
theorem d_SN_greatLong_0 : decode M_SN_greatLong.2.1 0 = .ok (.aload_n 0, 1) := by decide +kernel
theorem d_SN_greatLong_1 : decode M_SN_greatLong.2.1 1 = .ok (.getfield 31, 3) := by decide +kernel
theorem d_SN_greatLong_4 : decode M_SN_greatLong.2.1 4 = .ok (.iload_n 1, 1) := by decide +kernel
theorem d_SN_greatLong_5 : decode M_SN_greatLong.2.1 5 = .ok (.aload_n 0, 1) := by decide +kernel
theorem d_SN_greatLong_6 : decode M_SN_greatLong.2.1 6 = .ok (.getfield 72, 3) := by decide +kernel
theorem d_SN_greatLong_9 : decode M_SN_greatLong.2.1 9 = .ok (.invokevirtual 322, 3) := by decide +kernel
theorem d_SN_greatLong_12 : decode M_SN_greatLong.2.1 12 = .ok (.ifCond .eq 17, 3) := by decide +kernel
theorem d_SN_greatLong_15 : decode M_SN_greatLong.2.1 15 = .ok (.aload_n 0, 1) := by decide +kernel
theorem d_SN_greatLong_16 : decode M_SN_greatLong.2.1 16 = .ok (.getfield 31, 3) := by decide +kernel
theorem d_SN_greatLong_19 : decode M_SN_greatLong.2.1 19 = .ok (.iload_n 1, 1) := by decide +kernel
theorem d_SN_greatLong_20 : decode M_SN_greatLong.2.1 20 = .ok (.invokevirtual 325, 3) := by decide +kernel
theorem d_SN_greatLong_23 : decode M_SN_greatLong.2.1 23 = .ok (.invokevirtual 127, 3) := by decide +kernel
theorem d_SN_greatLong_26 : decode M_SN_greatLong.2.1 26 = .ok (.goto 4, 3) := by decide +kernel
theorem d_SN_greatLong_29 : decode M_SN_greatLong.2.1 29 = .ok (.iconst (-1), 1) := by decide +kernel
theorem d_SN_greatLong_30 : decode M_SN_greatLong.2.1 30 = .ok (.ireturn, 1) := by decide +kernel
theorem d_Gre_reaches_0 : decode M_Gre_reaches.2.1 0 = .ok (.iload_n 1, 1) := by decide +kernel
theorem d_Gre_reaches_1 : decode M_Gre_reaches.2.1 1 = .ok (.ifCond .lt 10, 3) := by decide +kernel
theorem d_Gre_reaches_4 : decode M_Gre_reaches.2.1 4 = .ok (.iload_n 1, 1) := by decide +kernel
theorem d_Gre_reaches_5 : decode M_Gre_reaches.2.1 5 = .ok (.sipush 400, 3) := by decide +kernel
theorem d_Gre_reaches_8 : decode M_Gre_reaches.2.1 8 = .ok (.if_icmp .le 5, 3) := by decide +kernel
theorem d_Gre_reaches_11 : decode M_Gre_reaches.2.1 11 = .ok (.iconst 0, 1) := by decide +kernel
theorem d_Gre_reaches_12 : decode M_Gre_reaches.2.1 12 = .ok (.ireturn, 1) := by decide +kernel
theorem d_Gre_reaches_13 : decode M_Gre_reaches.2.1 13 = .ok (.aload_n 0, 1) := by decide +kernel
theorem d_Gre_reaches_14 : decode M_Gre_reaches.2.1 14 = .ok (.getfield 36, 3) := by decide +kernel
theorem d_Gre_reaches_17 : decode M_Gre_reaches.2.1 17 = .ok (.iload_n 2, 1) := by decide +kernel
theorem d_Gre_reaches_18 : decode M_Gre_reaches.2.1 18 = .ok (.if_icmp .eq 8, 3) := by decide +kernel
theorem d_Gre_reaches_21 : decode M_Gre_reaches.2.1 21 = .ok (.aload_n 0, 1) := by decide +kernel
theorem d_Gre_reaches_22 : decode M_Gre_reaches.2.1 22 = .ok (.iload_n 2, 1) := by decide +kernel
theorem d_Gre_reaches_23 : decode M_Gre_reaches.2.1 23 = .ok (.invokevirtual 40, 3) := by decide +kernel
theorem d_Gre_reaches_26 : decode M_Gre_reaches.2.1 26 = .ok (.aload_n 0, 1) := by decide +kernel
theorem d_Gre_reaches_27 : decode M_Gre_reaches.2.1 27 = .ok (.getfield 43, 3) := by decide +kernel
theorem d_Gre_reaches_30 : decode M_Gre_reaches.2.1 30 = .ok (.istore_n 3, 1) := by decide +kernel
theorem d_Gre_reaches_31 : decode M_Gre_reaches.2.1 31 = .ok (.iload_n 3, 1) := by decide +kernel
theorem d_Gre_reaches_32 : decode M_Gre_reaches.2.1 32 = .ok (.iload_n 1, 1) := by decide +kernel
theorem d_Gre_reaches_33 : decode M_Gre_reaches.2.1 33 = .ok (.if_icmp .gt 20, 3) := by decide +kernel
theorem d_Gre_reaches_36 : decode M_Gre_reaches.2.1 36 = .ok (.aload_n 0, 1) := by decide +kernel
theorem d_Gre_reaches_37 : decode M_Gre_reaches.2.1 37 = .ok (.getfield 36, 3) := by decide +kernel
theorem d_Gre_reaches_40 : decode M_Gre_reaches.2.1 40 = .ok (.ifCond .eq 13, 3) := by decide +kernel
theorem d_Gre_reaches_43 : decode M_Gre_reaches.2.1 43 = .ok (.aload_n 0, 1) := by decide +kernel
theorem d_Gre_reaches_44 : decode M_Gre_reaches.2.1 44 = .ok (.invokevirtual 46, 3) := by decide +kernel
theorem d_Gre_reaches_47 : decode M_Gre_reaches.2.1 47 = .ok (.iinc 3 1, 3) := by decide +kernel
theorem d_Gre_reaches_50 : decode M_Gre_reaches.2.1 50 = .ok (.goto (-19), 3) := by decide +kernel
theorem d_Gre_reaches_53 : decode M_Gre_reaches.2.1 53 = .ok (.iload_n 1, 1) := by decide +kernel
theorem d_Gre_reaches_54 : decode M_Gre_reaches.2.1 54 = .ok (.aload_n 0, 1) := by decide +kernel
theorem d_Gre_reaches_55 : decode M_Gre_reaches.2.1 55 = .ok (.getfield 43, 3) := by decide +kernel
theorem d_Gre_reaches_58 : decode M_Gre_reaches.2.1 58 = .ok (.if_icmp .ge 7, 3) := by decide +kernel
theorem d_Gre_reaches_61 : decode M_Gre_reaches.2.1 61 = .ok (.iconst 1, 1) := by decide +kernel
theorem d_Gre_reaches_62 : decode M_Gre_reaches.2.1 62 = .ok (.goto 4, 3) := by decide +kernel
theorem d_Gre_reaches_65 : decode M_Gre_reaches.2.1 65 = .ok (.iconst 0, 1) := by decide +kernel
theorem d_Gre_reaches_66 : decode M_Gre_reaches.2.1 66 = .ok (.ireturn, 1) := by decide +kernel
theorem d_Gre_begin_0 : decode M_Gre_begin.2.1 0 = .ok (.aload_n 0, 1) := by decide +kernel
theorem d_Gre_begin_1 : decode M_Gre_begin.2.1 1 = .ok (.iload_n 1, 1) := by decide +kernel
theorem d_Gre_begin_2 : decode M_Gre_begin.2.1 2 = .ok (.putfield 36, 3) := by decide +kernel
theorem d_Gre_begin_5 : decode M_Gre_begin.2.1 5 = .ok (.aload_n 0, 1) := by decide +kernel
theorem d_Gre_begin_6 : decode M_Gre_begin.2.1 6 = .ok (.iconst 0, 1) := by decide +kernel
theorem d_Gre_begin_7 : decode M_Gre_begin.2.1 7 = .ok (.putfield 43, 3) := by decide +kernel
theorem d_Gre_begin_10 : decode M_Gre_begin.2.1 10 = .ok (.aload_n 0, 1) := by decide +kernel
theorem d_Gre_begin_11 : decode M_Gre_begin.2.1 11 = .ok (.getfield 32, 3) := by decide +kernel
theorem d_Gre_begin_14 : decode M_Gre_begin.2.1 14 = .ok (.iconst 1, 1) := by decide +kernel
theorem d_Gre_begin_15 : decode M_Gre_begin.2.1 15 = .ok (.invokevirtual 53, 3) := by decide +kernel
theorem d_Gre_begin_18 : decode M_Gre_begin.2.1 18 = .ok (.aload_n 0, 1) := by decide +kernel
theorem d_Gre_begin_19 : decode M_Gre_begin.2.1 19 = .ok (.invokevirtual 56, 3) := by decide +kernel
theorem d_Gre_begin_22 : decode M_Gre_begin.2.1 22 = .ok (.iconst 0, 1) := by decide +kernel
theorem d_Gre_begin_23 : decode M_Gre_begin.2.1 23 = .ok (.istore_n 2, 1) := by decide +kernel
theorem d_Gre_begin_24 : decode M_Gre_begin.2.1 24 = .ok (.iload_n 2, 1) := by decide +kernel
theorem d_Gre_begin_25 : decode M_Gre_begin.2.1 25 = .ok (.aload_n 0, 1) := by decide +kernel
theorem d_Gre_begin_26 : decode M_Gre_begin.2.1 26 = .ok (.getfield 20, 3) := by decide +kernel
theorem d_Gre_begin_29 : decode M_Gre_begin.2.1 29 = .ok (.arraylength, 1) := by decide +kernel
theorem d_Gre_begin_30 : decode M_Gre_begin.2.1 30 = .ok (.if_icmp .ge 21, 3) := by decide +kernel
theorem d_Gre_begin_33 : decode M_Gre_begin.2.1 33 = .ok (.aload_n 0, 1) := by decide +kernel
theorem d_Gre_begin_34 : decode M_Gre_begin.2.1 34 = .ok (.getfield 20, 3) := by decide +kernel
theorem d_Gre_begin_37 : decode M_Gre_begin.2.1 37 = .ok (.iload_n 2, 1) := by decide +kernel
theorem d_Gre_begin_38 : decode M_Gre_begin.2.1 38 = .ok (.iconst 0, 1) := by decide +kernel
theorem d_Gre_begin_39 : decode M_Gre_begin.2.1 39 = .ok (.iastore, 1) := by decide +kernel
theorem d_Gre_begin_40 : decode M_Gre_begin.2.1 40 = .ok (.aload_n 0, 1) := by decide +kernel
theorem d_Gre_begin_41 : decode M_Gre_begin.2.1 41 = .ok (.iload_n 2, 1) := by decide +kernel
theorem d_Gre_begin_42 : decode M_Gre_begin.2.1 42 = .ok (.invokevirtual 59, 3) := by decide +kernel
theorem d_Gre_begin_45 : decode M_Gre_begin.2.1 45 = .ok (.iinc 2 1, 3) := by decide +kernel
theorem d_Gre_begin_48 : decode M_Gre_begin.2.1 48 = .ok (.goto (-24), 3) := by decide +kernel
theorem d_Gre_begin_51 : decode M_Gre_begin.2.1 51 = .ok (.return_, 1) := by decide +kernel
theorem d_Gre_keepShown_0 : decode M_Gre_keepShown.2.1 0 = .ok (.aload_n 0, 1) := by decide +kernel
theorem d_Gre_keepShown_1 : decode M_Gre_keepShown.2.1 1 = .ok (.getfield 43, 3) := by decide +kernel
theorem d_Gre_keepShown_4 : decode M_Gre_keepShown.2.1 4 = .ok (.ifCond .lt 52, 3) := by decide +kernel
theorem d_Gre_keepShown_7 : decode M_Gre_keepShown.2.1 7 = .ok (.aload_n 0, 1) := by decide +kernel
theorem d_Gre_keepShown_8 : decode M_Gre_keepShown.2.1 8 = .ok (.getfield 43, 3) := by decide +kernel
theorem d_Gre_keepShown_11 : decode M_Gre_keepShown.2.1 11 = .ok (.aload_n 0, 1) := by decide +kernel
theorem d_Gre_keepShown_12 : decode M_Gre_keepShown.2.1 12 = .ok (.getfield 15, 3) := by decide +kernel
theorem d_Gre_keepShown_15 : decode M_Gre_keepShown.2.1 15 = .ok (.arraylength, 1) := by decide +kernel
theorem d_Gre_keepShown_16 : decode M_Gre_keepShown.2.1 16 = .ok (.if_icmp .ge 40, 3) := by decide +kernel
theorem d_Gre_keepShown_19 : decode M_Gre_keepShown.2.1 19 = .ok (.aload_n 0, 1) := by decide +kernel
theorem d_Gre_keepShown_20 : decode M_Gre_keepShown.2.1 20 = .ok (.getfield 15, 3) := by decide +kernel
theorem d_Gre_keepShown_23 : decode M_Gre_keepShown.2.1 23 = .ok (.aload_n 0, 1) := by decide +kernel
theorem d_Gre_keepShown_24 : decode M_Gre_keepShown.2.1 24 = .ok (.getfield 43, 3) := by decide +kernel
theorem d_Gre_keepShown_27 : decode M_Gre_keepShown.2.1 27 = .ok (.aload_n 0, 1) := by decide +kernel
theorem d_Gre_keepShown_28 : decode M_Gre_keepShown.2.1 28 = .ok (.getfield 32, 3) := by decide +kernel
theorem d_Gre_keepShown_31 : decode M_Gre_keepShown.2.1 31 = .ok (.aload_n 0, 1) := by decide +kernel
theorem d_Gre_keepShown_32 : decode M_Gre_keepShown.2.1 32 = .ok (.getfield 11, 3) := by decide +kernel
theorem d_Gre_keepShown_35 : decode M_Gre_keepShown.2.1 35 = .ok (.aload_n 0, 1) := by decide +kernel
theorem d_Gre_keepShown_36 : decode M_Gre_keepShown.2.1 36 = .ok (.getfield 43, 3) := by decide +kernel
theorem d_Gre_keepShown_39 : decode M_Gre_keepShown.2.1 39 = .ok (.bipush 58, 2) := by decide +kernel
theorem d_Gre_keepShown_41 : decode M_Gre_keepShown.2.1 41 = .ok (.imul, 1) := by decide +kernel
theorem d_Gre_keepShown_42 : decode M_Gre_keepShown.2.1 42 = .ok (.invokevirtual 85, 3) := by decide +kernel
theorem d_Gre_keepShown_45 : decode M_Gre_keepShown.2.1 45 = .ok (.iastore, 1) := by decide +kernel
theorem d_Gre_keepShown_46 : decode M_Gre_keepShown.2.1 46 = .ok (.aload_n 0, 1) := by decide +kernel
theorem d_Gre_keepShown_47 : decode M_Gre_keepShown.2.1 47 = .ok (.dup, 1) := by decide +kernel
theorem d_Gre_keepShown_48 : decode M_Gre_keepShown.2.1 48 = .ok (.getfield 43, 3) := by decide +kernel
theorem d_Gre_keepShown_51 : decode M_Gre_keepShown.2.1 51 = .ok (.iconst 1, 1) := by decide +kernel
theorem d_Gre_keepShown_52 : decode M_Gre_keepShown.2.1 52 = .ok (.iadd, 1) := by decide +kernel
theorem d_Gre_keepShown_53 : decode M_Gre_keepShown.2.1 53 = .ok (.putfield 43, 3) := by decide +kernel
theorem d_Gre_keepShown_56 : decode M_Gre_keepShown.2.1 56 = .ok (.return_, 1) := by decide +kernel
theorem d_Big_store_0 : decode M_Big_store.2.1 0 = .ok (.iconst 0, 1) := by decide +kernel
theorem d_Big_store_1 : decode M_Big_store.2.1 1 = .ok (.istore_n 3, 1) := by decide +kernel
theorem d_Big_store_2 : decode M_Big_store.2.1 2 = .ok (.iload_n 3, 1) := by decide +kernel
theorem d_Big_store_3 : decode M_Big_store.2.1 3 = .ok (.aload_n 0, 1) := by decide +kernel
theorem d_Big_store_4 : decode M_Big_store.2.1 4 = .ok (.getfield 15, 3) := by decide +kernel
theorem d_Big_store_7 : decode M_Big_store.2.1 7 = .ok (.if_icmp .ge 41, 3) := by decide +kernel
theorem d_Big_store_10 : decode M_Big_store.2.1 10 = .ok (.iload_n 3, 1) := by decide +kernel
theorem d_Big_store_11 : decode M_Big_store.2.1 11 = .ok (.aload_n 0, 1) := by decide +kernel
theorem d_Big_store_12 : decode M_Big_store.2.1 12 = .ok (.getfield 9, 3) := by decide +kernel
theorem d_Big_store_15 : decode M_Big_store.2.1 15 = .ok (.arraylength, 1) := by decide +kernel
theorem d_Big_store_16 : decode M_Big_store.2.1 16 = .ok (.if_icmp .ge 32, 3) := by decide +kernel
theorem d_Big_store_19 : decode M_Big_store.2.1 19 = .ok (.iload_n 2, 1) := by decide +kernel
theorem d_Big_store_20 : decode M_Big_store.2.1 20 = .ok (.ifCond .lt 28, 3) := by decide +kernel
theorem d_Big_store_23 : decode M_Big_store.2.1 23 = .ok (.iload_n 2, 1) := by decide +kernel
theorem d_Big_store_24 : decode M_Big_store.2.1 24 = .ok (.aload_n 1, 1) := by decide +kernel
theorem d_Big_store_25 : decode M_Big_store.2.1 25 = .ok (.arraylength, 1) := by decide +kernel
theorem d_Big_store_26 : decode M_Big_store.2.1 26 = .ok (.iload_n 3, 1) := by decide +kernel
theorem d_Big_store_27 : decode M_Big_store.2.1 27 = .ok (.isub, 1) := by decide +kernel
theorem d_Big_store_28 : decode M_Big_store.2.1 28 = .ok (.if_icmp .ge 20, 3) := by decide +kernel
theorem d_Big_store_31 : decode M_Big_store.2.1 31 = .ok (.aload_n 1, 1) := by decide +kernel
theorem d_Big_store_32 : decode M_Big_store.2.1 32 = .ok (.iload_n 2, 1) := by decide +kernel
theorem d_Big_store_33 : decode M_Big_store.2.1 33 = .ok (.iload_n 3, 1) := by decide +kernel
theorem d_Big_store_34 : decode M_Big_store.2.1 34 = .ok (.iadd, 1) := by decide +kernel
theorem d_Big_store_35 : decode M_Big_store.2.1 35 = .ok (.aload_n 0, 1) := by decide +kernel
theorem d_Big_store_36 : decode M_Big_store.2.1 36 = .ok (.getfield 9, 3) := by decide +kernel
theorem d_Big_store_39 : decode M_Big_store.2.1 39 = .ok (.iload_n 3, 1) := by decide +kernel
theorem d_Big_store_40 : decode M_Big_store.2.1 40 = .ok (.iaload, 1) := by decide +kernel
theorem d_Big_store_41 : decode M_Big_store.2.1 41 = .ok (.iastore, 1) := by decide +kernel
theorem d_Big_store_42 : decode M_Big_store.2.1 42 = .ok (.iinc 3 1, 3) := by decide +kernel
theorem d_Big_store_45 : decode M_Big_store.2.1 45 = .ok (.goto (-43), 3) := by decide +kernel
theorem d_Big_store_48 : decode M_Big_store.2.1 48 = .ok (.aload_n 0, 1) := by decide +kernel
theorem d_Big_store_49 : decode M_Big_store.2.1 49 = .ok (.getfield 15, 3) := by decide +kernel
theorem d_Big_store_52 : decode M_Big_store.2.1 52 = .ok (.ireturn, 1) := by decide +kernel
theorem d_Gre_multiplyTurn_0 : decode M_Gre_multiplyTurn.2.1 0 = .ok (.iload_n 1, 1) := by decide +kernel
theorem d_Gre_multiplyTurn_1 : decode M_Gre_multiplyTurn.2.1 1 = .ok (.ifCond .lt 21, 3) := by decide +kernel
theorem d_Gre_multiplyTurn_4 : decode M_Gre_multiplyTurn.2.1 4 = .ok (.iload_n 1, 1) := by decide +kernel
theorem d_Gre_multiplyTurn_5 : decode M_Gre_multiplyTurn.2.1 5 = .ok (.aload_n 0, 1) := by decide +kernel
theorem d_Gre_multiplyTurn_6 : decode M_Gre_multiplyTurn.2.1 6 = .ok (.getfield 20, 3) := by decide +kernel
theorem d_Gre_multiplyTurn_9 : decode M_Gre_multiplyTurn.2.1 9 = .ok (.arraylength, 1) := by decide +kernel
theorem d_Gre_multiplyTurn_10 : decode M_Gre_multiplyTurn.2.1 10 = .ok (.if_icmp .ge 12, 3) := by decide +kernel
theorem d_Gre_multiplyTurn_13 : decode M_Gre_multiplyTurn.2.1 13 = .ok (.aload_n 0, 1) := by decide +kernel
theorem d_Gre_multiplyTurn_14 : decode M_Gre_multiplyTurn.2.1 14 = .ok (.getfield 20, 3) := by decide +kernel
theorem d_Gre_multiplyTurn_17 : decode M_Gre_multiplyTurn.2.1 17 = .ok (.iload_n 1, 1) := by decide +kernel
theorem d_Gre_multiplyTurn_18 : decode M_Gre_multiplyTurn.2.1 18 = .ok (.iaload, 1) := by decide +kernel
theorem d_Gre_multiplyTurn_19 : decode M_Gre_multiplyTurn.2.1 19 = .ok (.goto 4, 3) := by decide +kernel
theorem d_Gre_multiplyTurn_22 : decode M_Gre_multiplyTurn.2.1 22 = .ok (.iconst (-1), 1) := by decide +kernel
theorem d_Gre_multiplyTurn_23 : decode M_Gre_multiplyTurn.2.1 23 = .ok (.istore_n 2, 1) := by decide +kernel
theorem d_Gre_multiplyTurn_24 : decode M_Gre_multiplyTurn.2.1 24 = .ok (.iload_n 2, 1) := by decide +kernel
theorem d_Gre_multiplyTurn_25 : decode M_Gre_multiplyTurn.2.1 25 = .ok (.ifCond .lt 44, 3) := by decide +kernel
theorem d_Gre_multiplyTurn_28 : decode M_Gre_multiplyTurn.2.1 28 = .ok (.iload_n 2, 1) := by decide +kernel
theorem d_Gre_multiplyTurn_29 : decode M_Gre_multiplyTurn.2.1 29 = .ok (.aload_n 0, 1) := by decide +kernel
theorem d_Gre_multiplyTurn_30 : decode M_Gre_multiplyTurn.2.1 30 = .ok (.getfield 15, 3) := by decide +kernel
theorem d_Gre_multiplyTurn_33 : decode M_Gre_multiplyTurn.2.1 33 = .ok (.arraylength, 1) := by decide +kernel
theorem d_Gre_multiplyTurn_34 : decode M_Gre_multiplyTurn.2.1 34 = .ok (.if_icmp .ge 35, 3) := by decide +kernel
theorem d_Gre_multiplyTurn_37 : decode M_Gre_multiplyTurn.2.1 37 = .ok (.aload_n 0, 1) := by decide +kernel
theorem d_Gre_multiplyTurn_38 : decode M_Gre_multiplyTurn.2.1 38 = .ok (.iload_n 1, 1) := by decide +kernel
theorem d_Gre_multiplyTurn_39 : decode M_Gre_multiplyTurn.2.1 39 = .ok (.invokevirtual 66, 3) := by decide +kernel
theorem d_Gre_multiplyTurn_42 : decode M_Gre_multiplyTurn.2.1 42 = .ok (.astore_n 3, 1) := by decide +kernel
theorem d_Gre_multiplyTurn_43 : decode M_Gre_multiplyTurn.2.1 43 = .ok (.aload_n 3, 1) := by decide +kernel
theorem d_Gre_multiplyTurn_44 : decode M_Gre_multiplyTurn.2.1 44 = .ok (.aload_n 0, 1) := by decide +kernel
theorem d_Gre_multiplyTurn_45 : decode M_Gre_multiplyTurn.2.1 45 = .ok (.getfield 11, 3) := by decide +kernel
theorem d_Gre_multiplyTurn_48 : decode M_Gre_multiplyTurn.2.1 48 = .ok (.iload_n 2, 1) := by decide +kernel
theorem d_Gre_multiplyTurn_49 : decode M_Gre_multiplyTurn.2.1 49 = .ok (.bipush 58, 2) := by decide +kernel
theorem d_Gre_multiplyTurn_51 : decode M_Gre_multiplyTurn.2.1 51 = .ok (.imul, 1) := by decide +kernel
theorem d_Gre_multiplyTurn_52 : decode M_Gre_multiplyTurn.2.1 52 = .ok (.aload_n 0, 1) := by decide +kernel
theorem d_Gre_multiplyTurn_53 : decode M_Gre_multiplyTurn.2.1 53 = .ok (.getfield 15, 3) := by decide +kernel
theorem d_Gre_multiplyTurn_56 : decode M_Gre_multiplyTurn.2.1 56 = .ok (.iload_n 2, 1) := by decide +kernel
theorem d_Gre_multiplyTurn_57 : decode M_Gre_multiplyTurn.2.1 57 = .ok (.iaload, 1) := by decide +kernel
theorem d_Gre_multiplyTurn_58 : decode M_Gre_multiplyTurn.2.1 58 = .ok (.invokevirtual 49, 3) := by decide +kernel
theorem d_Gre_multiplyTurn_61 : decode M_Gre_multiplyTurn.2.1 61 = .ok (.aload_n 3, 1) := by decide +kernel
theorem d_Gre_multiplyTurn_62 : decode M_Gre_multiplyTurn.2.1 62 = .ok (.iload_n 1, 1) := by decide +kernel
theorem d_Gre_multiplyTurn_63 : decode M_Gre_multiplyTurn.2.1 63 = .ok (.invokestatic 78, 3) := by decide +kernel
theorem d_Gre_multiplyTurn_66 : decode M_Gre_multiplyTurn.2.1 66 = .ok (.invokevirtual 82, 3) := by decide +kernel
theorem d_Gre_multiplyTurn_69 : decode M_Gre_multiplyTurn.2.1 69 = .ok (.return_, 1) := by decide +kernel
theorem d_Gre_productAt_0 : decode M_Gre_productAt.2.1 0 = .ok (.iload_n 1, 1) := by decide +kernel
theorem d_Gre_productAt_1 : decode M_Gre_productAt.2.1 1 = .ok (.ifCond .lt 21, 3) := by decide +kernel
theorem d_Gre_productAt_4 : decode M_Gre_productAt.2.1 4 = .ok (.iload_n 1, 1) := by decide +kernel
theorem d_Gre_productAt_5 : decode M_Gre_productAt.2.1 5 = .ok (.aload_n 0, 1) := by decide +kernel
theorem d_Gre_productAt_6 : decode M_Gre_productAt.2.1 6 = .ok (.getfield 25, 3) := by decide +kernel
theorem d_Gre_productAt_9 : decode M_Gre_productAt.2.1 9 = .ok (.arraylength, 1) := by decide +kernel
theorem d_Gre_productAt_10 : decode M_Gre_productAt.2.1 10 = .ok (.if_icmp .ge 12, 3) := by decide +kernel
theorem d_Gre_productAt_13 : decode M_Gre_productAt.2.1 13 = .ok (.aload_n 0, 1) := by decide +kernel
theorem d_Gre_productAt_14 : decode M_Gre_productAt.2.1 14 = .ok (.getfield 25, 3) := by decide +kernel
theorem d_Gre_productAt_17 : decode M_Gre_productAt.2.1 17 = .ok (.iload_n 1, 1) := by decide +kernel
theorem d_Gre_productAt_18 : decode M_Gre_productAt.2.1 18 = .ok (.aaload, 1) := by decide +kernel
theorem d_Gre_productAt_19 : decode M_Gre_productAt.2.1 19 = .ok (.goto 4, 3) := by decide +kernel
theorem d_Gre_productAt_22 : decode M_Gre_productAt.2.1 22 = .ok (.aconst_null, 1) := by decide +kernel
theorem d_Gre_productAt_23 : decode M_Gre_productAt.2.1 23 = .ok (.astore_n 2, 1) := by decide +kernel
theorem d_Gre_productAt_24 : decode M_Gre_productAt.2.1 24 = .ok (.aload_n 2, 1) := by decide +kernel
theorem d_Gre_productAt_25 : decode M_Gre_productAt.2.1 25 = .ok (.ifnonnull 10, 3) := by decide +kernel
theorem d_Gre_productAt_28 : decode M_Gre_productAt.2.1 28 = .ok (.aload_n 0, 1) := by decide +kernel
theorem d_Gre_productAt_29 : decode M_Gre_productAt.2.1 29 = .ok (.getfield 32, 3) := by decide +kernel
theorem d_Gre_productAt_32 : decode M_Gre_productAt.2.1 32 = .ok (.goto 4, 3) := by decide +kernel
theorem d_Gre_productAt_35 : decode M_Gre_productAt.2.1 35 = .ok (.aload_n 2, 1) := by decide +kernel
theorem d_Gre_productAt_36 : decode M_Gre_productAt.2.1 36 = .ok (.areturn, 1) := by decide +kernel
theorem d_Big_load_0 : decode M_Big_load.2.1 0 = .ok (.aload_n 0, 1) := by decide +kernel
theorem d_Big_load_1 : decode M_Big_load.2.1 1 = .ok (.iconst 0, 1) := by decide +kernel
theorem d_Big_load_2 : decode M_Big_load.2.1 2 = .ok (.putfield 15, 3) := by decide +kernel
theorem d_Big_load_5 : decode M_Big_load.2.1 5 = .ok (.iconst 0, 1) := by decide +kernel
theorem d_Big_load_6 : decode M_Big_load.2.1 6 = .ok (.istore 4, 2) := by decide +kernel
theorem d_Big_load_8 : decode M_Big_load.2.1 8 = .ok (.iload 4, 2) := by decide +kernel
theorem d_Big_load_10 : decode M_Big_load.2.1 10 = .ok (.iload_n 3, 1) := by decide +kernel
theorem d_Big_load_11 : decode M_Big_load.2.1 11 = .ok (.if_icmp .ge 53, 3) := by decide +kernel
theorem d_Big_load_14 : decode M_Big_load.2.1 14 = .ok (.iload 4, 2) := by decide +kernel
theorem d_Big_load_16 : decode M_Big_load.2.1 16 = .ok (.aload_n 0, 1) := by decide +kernel
theorem d_Big_load_17 : decode M_Big_load.2.1 17 = .ok (.getfield 9, 3) := by decide +kernel
theorem d_Big_load_20 : decode M_Big_load.2.1 20 = .ok (.arraylength, 1) := by decide +kernel
theorem d_Big_load_21 : decode M_Big_load.2.1 21 = .ok (.if_icmp .ge 43, 3) := by decide +kernel
theorem d_Big_load_24 : decode M_Big_load.2.1 24 = .ok (.iload_n 2, 1) := by decide +kernel
theorem d_Big_load_25 : decode M_Big_load.2.1 25 = .ok (.ifCond .lt 39, 3) := by decide +kernel
theorem d_Big_load_28 : decode M_Big_load.2.1 28 = .ok (.iload_n 2, 1) := by decide +kernel
theorem d_Big_load_29 : decode M_Big_load.2.1 29 = .ok (.aload_n 1, 1) := by decide +kernel
theorem d_Big_load_30 : decode M_Big_load.2.1 30 = .ok (.arraylength, 1) := by decide +kernel
theorem d_Big_load_31 : decode M_Big_load.2.1 31 = .ok (.iload 4, 2) := by decide +kernel
theorem d_Big_load_33 : decode M_Big_load.2.1 33 = .ok (.isub, 1) := by decide +kernel
theorem d_Big_load_34 : decode M_Big_load.2.1 34 = .ok (.if_icmp .ge 30, 3) := by decide +kernel
theorem d_Big_load_37 : decode M_Big_load.2.1 37 = .ok (.aload_n 0, 1) := by decide +kernel
theorem d_Big_load_38 : decode M_Big_load.2.1 38 = .ok (.getfield 9, 3) := by decide +kernel
theorem d_Big_load_41 : decode M_Big_load.2.1 41 = .ok (.iload 4, 2) := by decide +kernel
theorem d_Big_load_43 : decode M_Big_load.2.1 43 = .ok (.aload_n 1, 1) := by decide +kernel
theorem d_Big_load_44 : decode M_Big_load.2.1 44 = .ok (.iload_n 2, 1) := by decide +kernel
theorem d_Big_load_45 : decode M_Big_load.2.1 45 = .ok (.iload 4, 2) := by decide +kernel
theorem d_Big_load_47 : decode M_Big_load.2.1 47 = .ok (.iadd, 1) := by decide +kernel
theorem d_Big_load_48 : decode M_Big_load.2.1 48 = .ok (.iaload, 1) := by decide +kernel
theorem d_Big_load_49 : decode M_Big_load.2.1 49 = .ok (.iastore, 1) := by decide +kernel
theorem d_Big_load_50 : decode M_Big_load.2.1 50 = .ok (.aload_n 0, 1) := by decide +kernel
theorem d_Big_load_51 : decode M_Big_load.2.1 51 = .ok (.iload 4, 2) := by decide +kernel
theorem d_Big_load_53 : decode M_Big_load.2.1 53 = .ok (.iconst 1, 1) := by decide +kernel
theorem d_Big_load_54 : decode M_Big_load.2.1 54 = .ok (.iadd, 1) := by decide +kernel
theorem d_Big_load_55 : decode M_Big_load.2.1 55 = .ok (.putfield 15, 3) := by decide +kernel
theorem d_Big_load_58 : decode M_Big_load.2.1 58 = .ok (.iinc 4 1, 3) := by decide +kernel
theorem d_Big_load_61 : decode M_Big_load.2.1 61 = .ok (.goto (-53), 3) := by decide +kernel
theorem d_Big_load_64 : decode M_Big_load.2.1 64 = .ok (.return_, 1) := by decide +kernel
theorem d_Gre_goOn_0 : decode M_Gre_goOn.2.1 0 = .ok (.iconst (-1), 1) := by decide +kernel
theorem d_Gre_goOn_1 : decode M_Gre_goOn.2.1 1 = .ok (.istore_n 1, 1) := by decide +kernel
theorem d_Gre_goOn_2 : decode M_Gre_goOn.2.1 2 = .ok (.iconst 0, 1) := by decide +kernel
theorem d_Gre_goOn_3 : decode M_Gre_goOn.2.1 3 = .ok (.istore_n 2, 1) := by decide +kernel
theorem d_Gre_goOn_4 : decode M_Gre_goOn.2.1 4 = .ok (.iload_n 2, 1) := by decide +kernel
theorem d_Gre_goOn_5 : decode M_Gre_goOn.2.1 5 = .ok (.bipush 7, 2) := by decide +kernel
theorem d_Gre_goOn_7 : decode M_Gre_goOn.2.1 7 = .ok (.if_icmp .ge 40, 3) := by decide +kernel
theorem d_Gre_goOn_10 : decode M_Gre_goOn.2.1 10 = .ok (.aload_n 0, 1) := by decide +kernel
theorem d_Gre_goOn_11 : decode M_Gre_goOn.2.1 11 = .ok (.iload_n 2, 1) := by decide +kernel
theorem d_Gre_goOn_12 : decode M_Gre_goOn.2.1 12 = .ok (.invokevirtual 62, 3) := by decide +kernel
theorem d_Gre_goOn_15 : decode M_Gre_goOn.2.1 15 = .ok (.ifCond .eq 26, 3) := by decide +kernel
theorem d_Gre_goOn_18 : decode M_Gre_goOn.2.1 18 = .ok (.iload_n 1, 1) := by decide +kernel
theorem d_Gre_goOn_19 : decode M_Gre_goOn.2.1 19 = .ok (.iconst (-1), 1) := by decide +kernel
theorem d_Gre_goOn_20 : decode M_Gre_goOn.2.1 20 = .ok (.if_icmp .eq 19, 3) := by decide +kernel
theorem d_Gre_goOn_23 : decode M_Gre_goOn.2.1 23 = .ok (.aload_n 0, 1) := by decide +kernel
theorem d_Gre_goOn_24 : decode M_Gre_goOn.2.1 24 = .ok (.iload_n 2, 1) := by decide +kernel
theorem d_Gre_goOn_25 : decode M_Gre_goOn.2.1 25 = .ok (.invokevirtual 66, 3) := by decide +kernel
theorem d_Gre_goOn_28 : decode M_Gre_goOn.2.1 28 = .ok (.aload_n 0, 1) := by decide +kernel
theorem d_Gre_goOn_29 : decode M_Gre_goOn.2.1 29 = .ok (.iload_n 1, 1) := by decide +kernel
theorem d_Gre_goOn_30 : decode M_Gre_goOn.2.1 30 = .ok (.invokevirtual 66, 3) := by decide +kernel
theorem d_Gre_goOn_33 : decode M_Gre_goOn.2.1 33 = .ok (.invokevirtual 70, 3) := by decide +kernel
theorem d_Gre_goOn_36 : decode M_Gre_goOn.2.1 36 = .ok (.ifCond .ge 5, 3) := by decide +kernel
theorem d_Gre_goOn_39 : decode M_Gre_goOn.2.1 39 = .ok (.iload_n 2, 1) := by decide +kernel
theorem d_Gre_goOn_40 : decode M_Gre_goOn.2.1 40 = .ok (.istore_n 1, 1) := by decide +kernel
theorem d_Gre_goOn_41 : decode M_Gre_goOn.2.1 41 = .ok (.iinc 2 1, 3) := by decide +kernel
theorem d_Gre_goOn_44 : decode M_Gre_goOn.2.1 44 = .ok (.goto (-40), 3) := by decide +kernel
theorem d_Gre_goOn_47 : decode M_Gre_goOn.2.1 47 = .ok (.aload_n 0, 1) := by decide +kernel
theorem d_Gre_goOn_48 : decode M_Gre_goOn.2.1 48 = .ok (.getfield 32, 3) := by decide +kernel
theorem d_Gre_goOn_51 : decode M_Gre_goOn.2.1 51 = .ok (.aload_n 0, 1) := by decide +kernel
theorem d_Gre_goOn_52 : decode M_Gre_goOn.2.1 52 = .ok (.iload_n 1, 1) := by decide +kernel
theorem d_Gre_goOn_53 : decode M_Gre_goOn.2.1 53 = .ok (.invokevirtual 66, 3) := by decide +kernel
theorem d_Gre_goOn_56 : decode M_Gre_goOn.2.1 56 = .ok (.invokevirtual 74, 3) := by decide +kernel
theorem d_Gre_goOn_59 : decode M_Gre_goOn.2.1 59 = .ok (.aload_n 0, 1) := by decide +kernel
theorem d_Gre_goOn_60 : decode M_Gre_goOn.2.1 60 = .ok (.invokevirtual 56, 3) := by decide +kernel
theorem d_Gre_goOn_63 : decode M_Gre_goOn.2.1 63 = .ok (.iconst 0, 1) := by decide +kernel
theorem d_Gre_goOn_64 : decode M_Gre_goOn.2.1 64 = .ok (.istore_n 2, 1) := by decide +kernel
theorem d_Gre_goOn_65 : decode M_Gre_goOn.2.1 65 = .ok (.iload_n 2, 1) := by decide +kernel
theorem d_Gre_goOn_66 : decode M_Gre_goOn.2.1 66 = .ok (.aload_n 0, 1) := by decide +kernel
theorem d_Gre_goOn_67 : decode M_Gre_goOn.2.1 67 = .ok (.getfield 20, 3) := by decide +kernel
theorem d_Gre_goOn_70 : decode M_Gre_goOn.2.1 70 = .ok (.arraylength, 1) := by decide +kernel
theorem d_Gre_goOn_71 : decode M_Gre_goOn.2.1 71 = .ok (.if_icmp .ge 47, 3) := by decide +kernel
theorem d_Gre_goOn_74 : decode M_Gre_goOn.2.1 74 = .ok (.aload_n 0, 1) := by decide +kernel
theorem d_Gre_goOn_75 : decode M_Gre_goOn.2.1 75 = .ok (.iload_n 2, 1) := by decide +kernel
theorem d_Gre_goOn_76 : decode M_Gre_goOn.2.1 76 = .ok (.invokevirtual 62, 3) := by decide +kernel
theorem d_Gre_goOn_79 : decode M_Gre_goOn.2.1 79 = .ok (.ifCond .eq 33, 3) := by decide +kernel
theorem d_Gre_goOn_82 : decode M_Gre_goOn.2.1 82 = .ok (.aload_n 0, 1) := by decide +kernel
theorem d_Gre_goOn_83 : decode M_Gre_goOn.2.1 83 = .ok (.iload_n 2, 1) := by decide +kernel
theorem d_Gre_goOn_84 : decode M_Gre_goOn.2.1 84 = .ok (.invokevirtual 66, 3) := by decide +kernel
theorem d_Gre_goOn_87 : decode M_Gre_goOn.2.1 87 = .ok (.aload_n 0, 1) := by decide +kernel
theorem d_Gre_goOn_88 : decode M_Gre_goOn.2.1 88 = .ok (.getfield 32, 3) := by decide +kernel
theorem d_Gre_goOn_91 : decode M_Gre_goOn.2.1 91 = .ok (.invokevirtual 70, 3) := by decide +kernel
theorem d_Gre_goOn_94 : decode M_Gre_goOn.2.1 94 = .ok (.ifCond .ne 18, 3) := by decide +kernel
theorem d_Gre_goOn_97 : decode M_Gre_goOn.2.1 97 = .ok (.aload_n 0, 1) := by decide +kernel
theorem d_Gre_goOn_98 : decode M_Gre_goOn.2.1 98 = .ok (.getfield 20, 3) := by decide +kernel
theorem d_Gre_goOn_101 : decode M_Gre_goOn.2.1 101 = .ok (.iload_n 2, 1) := by decide +kernel
theorem d_Gre_goOn_102 : decode M_Gre_goOn.2.1 102 = .ok (.dup2, 1) := by decide +kernel
theorem d_Gre_goOn_103 : decode M_Gre_goOn.2.1 103 = .ok (.iaload, 1) := by decide +kernel
theorem d_Gre_goOn_104 : decode M_Gre_goOn.2.1 104 = .ok (.iconst 1, 1) := by decide +kernel
theorem d_Gre_goOn_105 : decode M_Gre_goOn.2.1 105 = .ok (.iadd, 1) := by decide +kernel
theorem d_Gre_goOn_106 : decode M_Gre_goOn.2.1 106 = .ok (.iastore, 1) := by decide +kernel
theorem d_Gre_goOn_107 : decode M_Gre_goOn.2.1 107 = .ok (.aload_n 0, 1) := by decide +kernel
theorem d_Gre_goOn_108 : decode M_Gre_goOn.2.1 108 = .ok (.iload_n 2, 1) := by decide +kernel
theorem d_Gre_goOn_109 : decode M_Gre_goOn.2.1 109 = .ok (.invokevirtual 59, 3) := by decide +kernel
theorem d_Gre_goOn_112 : decode M_Gre_goOn.2.1 112 = .ok (.iinc 2 1, 3) := by decide +kernel
theorem d_Gre_goOn_115 : decode M_Gre_goOn.2.1 115 = .ok (.goto (-50), 3) := by decide +kernel
theorem d_Gre_goOn_118 : decode M_Gre_goOn.2.1 118 = .ok (.return_, 1) := by decide +kernel
theorem d_Gre_isIn_0 : decode M_Gre_isIn.2.1 0 = .ok (.aload_n 0, 1) := by decide +kernel
theorem d_Gre_isIn_1 : decode M_Gre_isIn.2.1 1 = .ok (.getfield 36, 3) := by decide +kernel
theorem d_Gre_isIn_4 : decode M_Gre_isIn.2.1 4 = .ok (.iload_n 1, 1) := by decide +kernel
theorem d_Gre_isIn_5 : decode M_Gre_isIn.2.1 5 = .ok (.ishr, 1) := by decide +kernel
theorem d_Gre_isIn_6 : decode M_Gre_isIn.2.1 6 = .ok (.iconst 1, 1) := by decide +kernel
theorem d_Gre_isIn_7 : decode M_Gre_isIn.2.1 7 = .ok (.iand, 1) := by decide +kernel
theorem d_Gre_isIn_8 : decode M_Gre_isIn.2.1 8 = .ok (.iconst 1, 1) := by decide +kernel
theorem d_Gre_isIn_9 : decode M_Gre_isIn.2.1 9 = .ok (.if_icmp .ne 7, 3) := by decide +kernel
theorem d_Gre_isIn_12 : decode M_Gre_isIn.2.1 12 = .ok (.iconst 1, 1) := by decide +kernel
theorem d_Gre_isIn_13 : decode M_Gre_isIn.2.1 13 = .ok (.goto 4, 3) := by decide +kernel
theorem d_Gre_isIn_16 : decode M_Gre_isIn.2.1 16 = .ok (.iconst 0, 1) := by decide +kernel
theorem d_Gre_isIn_17 : decode M_Gre_isIn.2.1 17 = .ok (.ireturn, 1) := by decide +kernel
theorem d_Gre_shown_0 : decode M_Gre_shown.2.1 0 = .ok (.aload_n 0, 1) := by decide +kernel
theorem d_Gre_shown_1 : decode M_Gre_shown.2.1 1 = .ok (.getfield 32, 3) := by decide +kernel
theorem d_Gre_shown_4 : decode M_Gre_shown.2.1 4 = .ok (.aload_n 0, 1) := by decide +kernel
theorem d_Gre_shown_5 : decode M_Gre_shown.2.1 5 = .ok (.getfield 11, 3) := by decide +kernel
theorem d_Gre_shown_8 : decode M_Gre_shown.2.1 8 = .ok (.iload_n 1, 1) := by decide +kernel
theorem d_Gre_shown_9 : decode M_Gre_shown.2.1 9 = .ok (.bipush 58, 2) := by decide +kernel
theorem d_Gre_shown_11 : decode M_Gre_shown.2.1 11 = .ok (.imul, 1) := by decide +kernel
theorem d_Gre_shown_12 : decode M_Gre_shown.2.1 12 = .ok (.iload_n 1, 1) := by decide +kernel
theorem d_Gre_shown_13 : decode M_Gre_shown.2.1 13 = .ok (.ifCond .lt 21, 3) := by decide +kernel
theorem d_Gre_shown_16 : decode M_Gre_shown.2.1 16 = .ok (.iload_n 1, 1) := by decide +kernel
theorem d_Gre_shown_17 : decode M_Gre_shown.2.1 17 = .ok (.aload_n 0, 1) := by decide +kernel
theorem d_Gre_shown_18 : decode M_Gre_shown.2.1 18 = .ok (.getfield 15, 3) := by decide +kernel
theorem d_Gre_shown_21 : decode M_Gre_shown.2.1 21 = .ok (.arraylength, 1) := by decide +kernel
theorem d_Gre_shown_22 : decode M_Gre_shown.2.1 22 = .ok (.if_icmp .ge 12, 3) := by decide +kernel
theorem d_Gre_shown_25 : decode M_Gre_shown.2.1 25 = .ok (.aload_n 0, 1) := by decide +kernel
theorem d_Gre_shown_26 : decode M_Gre_shown.2.1 26 = .ok (.getfield 15, 3) := by decide +kernel
theorem d_Gre_shown_29 : decode M_Gre_shown.2.1 29 = .ok (.iload_n 1, 1) := by decide +kernel
theorem d_Gre_shown_30 : decode M_Gre_shown.2.1 30 = .ok (.iaload, 1) := by decide +kernel
theorem d_Gre_shown_31 : decode M_Gre_shown.2.1 31 = .ok (.goto 4, 3) := by decide +kernel
theorem d_Gre_shown_34 : decode M_Gre_shown.2.1 34 = .ok (.iconst 0, 1) := by decide +kernel
theorem d_Gre_shown_35 : decode M_Gre_shown.2.1 35 = .ok (.invokevirtual 49, 3) := by decide +kernel
theorem d_Gre_shown_38 : decode M_Gre_shown.2.1 38 = .ok (.aload_n 0, 1) := by decide +kernel
theorem d_Gre_shown_39 : decode M_Gre_shown.2.1 39 = .ok (.getfield 32, 3) := by decide +kernel
theorem d_Gre_shown_42 : decode M_Gre_shown.2.1 42 = .ok (.areturn, 1) := by decide +kernel
theorem d_SN_greatDigit_0 : decode M_SN_greatDigit.2.1 0 = .ok (.aload_n 0, 1) := by decide +kernel
theorem d_SN_greatDigit_1 : decode M_SN_greatDigit.2.1 1 = .ok (.getfield 31, 3) := by decide +kernel
theorem d_SN_greatDigit_4 : decode M_SN_greatDigit.2.1 4 = .ok (.iload_n 1, 1) := by decide +kernel
theorem d_SN_greatDigit_5 : decode M_SN_greatDigit.2.1 5 = .ok (.aload_n 0, 1) := by decide +kernel
theorem d_SN_greatDigit_6 : decode M_SN_greatDigit.2.1 6 = .ok (.getfield 72, 3) := by decide +kernel
theorem d_SN_greatDigit_9 : decode M_SN_greatDigit.2.1 9 = .ok (.invokevirtual 322, 3) := by decide +kernel
theorem d_SN_greatDigit_12 : decode M_SN_greatDigit.2.1 12 = .ok (.ifCond .eq 18, 3) := by decide +kernel
theorem d_SN_greatDigit_15 : decode M_SN_greatDigit.2.1 15 = .ok (.aload_n 0, 1) := by decide +kernel
theorem d_SN_greatDigit_16 : decode M_SN_greatDigit.2.1 16 = .ok (.getfield 31, 3) := by decide +kernel
theorem d_SN_greatDigit_19 : decode M_SN_greatDigit.2.1 19 = .ok (.iload_n 1, 1) := by decide +kernel
theorem d_SN_greatDigit_20 : decode M_SN_greatDigit.2.1 20 = .ok (.invokevirtual 325, 3) := by decide +kernel
theorem d_SN_greatDigit_23 : decode M_SN_greatDigit.2.1 23 = .ok (.iload_n 2, 1) := by decide +kernel
theorem d_SN_greatDigit_24 : decode M_SN_greatDigit.2.1 24 = .ok (.invokevirtual 186, 3) := by decide +kernel
theorem d_SN_greatDigit_27 : decode M_SN_greatDigit.2.1 27 = .ok (.goto 4, 3) := by decide +kernel
theorem d_SN_greatDigit_30 : decode M_SN_greatDigit.2.1 30 = .ok (.iconst (-1), 1) := by decide +kernel
theorem d_SN_greatDigit_31 : decode M_SN_greatDigit.2.1 31 = .ok (.ireturn, 1) := by decide +kernel
theorem d_SN_twos_0 : decode M_SN_twos.2.1 0 = .ok (.aload_n 0, 1) := by decide +kernel
theorem d_SN_twos_1 : decode M_SN_twos.2.1 1 = .ok (.getfield 18, 3) := by decide +kernel
theorem d_SN_twos_4 : decode M_SN_twos.2.1 4 = .ok (.aload_n 0, 1) := by decide +kernel
theorem d_SN_twos_5 : decode M_SN_twos.2.1 5 = .ok (.getfield 72, 3) := by decide +kernel
theorem d_SN_twos_8 : decode M_SN_twos.2.1 8 = .ok (.invokevirtual 79, 3) := by decide +kernel
theorem d_SN_twos_11 : decode M_SN_twos.2.1 11 = .ok (.getfield 93, 3) := by decide +kernel
theorem d_SN_twos_14 : decode M_SN_twos.2.1 14 = .ok (.ireturn, 1) := by decide +kernel
theorem d_SN_twoClasses_0 : decode M_SN_twoClasses.2.1 0 = .ok (.aload_n 0, 1) := by decide +kernel
theorem d_SN_twoClasses_1 : decode M_SN_twoClasses.2.1 1 = .ok (.getfield 18, 3) := by decide +kernel
theorem d_SN_twoClasses_4 : decode M_SN_twoClasses.2.1 4 = .ok (.aload_n 0, 1) := by decide +kernel
theorem d_SN_twoClasses_5 : decode M_SN_twoClasses.2.1 5 = .ok (.getfield 72, 3) := by decide +kernel
theorem d_SN_twoClasses_8 : decode M_SN_twoClasses.2.1 8 = .ok (.invokevirtual 79, 3) := by decide +kernel
theorem d_SN_twoClasses_11 : decode M_SN_twoClasses.2.1 11 = .ok (.getfield 105, 3) := by decide +kernel
theorem d_SN_twoClasses_14 : decode M_SN_twoClasses.2.1 14 = .ok (.ireturn, 1) := by decide +kernel
theorem d_SN_twoClass_0 : decode M_SN_twoClass.2.1 0 = .ok (.aload_n 0, 1) := by decide +kernel
theorem d_SN_twoClass_1 : decode M_SN_twoClass.2.1 1 = .ok (.getfield 18, 3) := by decide +kernel
theorem d_SN_twoClass_4 : decode M_SN_twoClass.2.1 4 = .ok (.aload_n 0, 1) := by decide +kernel
theorem d_SN_twoClass_5 : decode M_SN_twoClass.2.1 5 = .ok (.getfield 72, 3) := by decide +kernel
theorem d_SN_twoClass_8 : decode M_SN_twoClass.2.1 8 = .ok (.invokevirtual 79, 3) := by decide +kernel
theorem d_SN_twoClass_11 : decode M_SN_twoClass.2.1 11 = .ok (.iload_n 1, 1) := by decide +kernel
theorem d_SN_twoClass_12 : decode M_SN_twoClass.2.1 12 = .ok (.invokevirtual 139, 3) := by decide +kernel
theorem d_SN_twoClass_15 : decode M_SN_twoClass.2.1 15 = .ok (.ifCond .ne 5, 3) := by decide +kernel
theorem d_SN_twoClass_18 : decode M_SN_twoClass.2.1 18 = .ok (.iconst (-1), 1) := by decide +kernel
theorem d_SN_twoClass_19 : decode M_SN_twoClass.2.1 19 = .ok (.ireturn, 1) := by decide +kernel
theorem d_SN_twoClass_20 : decode M_SN_twoClass.2.1 20 = .ok (.aload_n 0, 1) := by decide +kernel
theorem d_SN_twoClass_21 : decode M_SN_twoClass.2.1 21 = .ok (.getfield 18, 3) := by decide +kernel
theorem d_SN_twoClass_24 : decode M_SN_twoClass.2.1 24 = .ok (.iload_n 1, 1) := by decide +kernel
theorem d_SN_twoClass_25 : decode M_SN_twoClass.2.1 25 = .ok (.invokevirtual 142, 3) := by decide +kernel
theorem d_SN_twoClass_28 : decode M_SN_twoClass.2.1 28 = .ok (.astore_n 3, 1) := by decide +kernel
theorem d_SN_twoClass_29 : decode M_SN_twoClass.2.1 29 = .ok (.iload_n 2, 1) := by decide +kernel
theorem d_SN_twoClass_30 : decode M_SN_twoClass.2.1 30 = .ok (.tableswitch 81 0 5 #[38, 43, 48, 53, 61, 69], 38) := by decide +kernel
theorem d_SN_twoClass_68 : decode M_SN_twoClass.2.1 68 = .ok (.aload_n 3, 1) := by decide +kernel
theorem d_SN_twoClass_69 : decode M_SN_twoClass.2.1 69 = .ok (.getfield 146, 3) := by decide +kernel
theorem d_SN_twoClass_72 : decode M_SN_twoClass.2.1 72 = .ok (.ireturn, 1) := by decide +kernel
theorem d_SN_twoClass_73 : decode M_SN_twoClass.2.1 73 = .ok (.aload_n 3, 1) := by decide +kernel
theorem d_SN_twoClass_74 : decode M_SN_twoClass.2.1 74 = .ok (.getfield 154, 3) := by decide +kernel
theorem d_SN_twoClass_77 : decode M_SN_twoClass.2.1 77 = .ok (.ireturn, 1) := by decide +kernel
theorem d_SN_twoClass_78 : decode M_SN_twoClass.2.1 78 = .ok (.aload_n 3, 1) := by decide +kernel
theorem d_SN_twoClass_79 : decode M_SN_twoClass.2.1 79 = .ok (.getfield 157, 3) := by decide +kernel
theorem d_SN_twoClass_82 : decode M_SN_twoClass.2.1 82 = .ok (.ireturn, 1) := by decide +kernel
theorem d_SN_twoClass_83 : decode M_SN_twoClass.2.1 83 = .ok (.aload_n 3, 1) := by decide +kernel
theorem d_SN_twoClass_84 : decode M_SN_twoClass.2.1 84 = .ok (.getfield 167, 3) := by decide +kernel
theorem d_SN_twoClass_87 : decode M_SN_twoClass.2.1 87 = .ok (.invokevirtual 127, 3) := by decide +kernel
theorem d_SN_twoClass_90 : decode M_SN_twoClass.2.1 90 = .ok (.ireturn, 1) := by decide +kernel
theorem d_SN_twoClass_91 : decode M_SN_twoClass.2.1 91 = .ok (.aload_n 3, 1) := by decide +kernel
theorem d_SN_twoClass_92 : decode M_SN_twoClass.2.1 92 = .ok (.getfield 170, 3) := by decide +kernel
theorem d_SN_twoClass_95 : decode M_SN_twoClass.2.1 95 = .ok (.invokevirtual 127, 3) := by decide +kernel
theorem d_SN_twoClass_98 : decode M_SN_twoClass.2.1 98 = .ok (.ireturn, 1) := by decide +kernel
theorem d_SN_twoClass_99 : decode M_SN_twoClass.2.1 99 = .ok (.aload_n 0, 1) := by decide +kernel
theorem d_SN_twoClass_100 : decode M_SN_twoClass.2.1 100 = .ok (.getfield 18, 3) := by decide +kernel
theorem d_SN_twoClass_103 : decode M_SN_twoClass.2.1 103 = .ok (.iload_n 1, 1) := by decide +kernel
theorem d_SN_twoClass_104 : decode M_SN_twoClass.2.1 104 = .ok (.invokevirtual 164, 3) := by decide +kernel
theorem d_SN_twoClass_107 : decode M_SN_twoClass.2.1 107 = .ok (.invokestatic 100, 3) := by decide +kernel
theorem d_SN_twoClass_110 : decode M_SN_twoClass.2.1 110 = .ok (.ireturn, 1) := by decide +kernel
theorem d_SN_twoClass_111 : decode M_SN_twoClass.2.1 111 = .ok (.iconst (-1), 1) := by decide +kernel
theorem d_SN_twoClass_112 : decode M_SN_twoClass.2.1 112 = .ok (.ireturn, 1) := by decide +kernel
theorem d_SN_two_0 : decode M_SN_two.2.1 0 = .ok (.aload_n 0, 1) := by decide +kernel
theorem d_SN_two_1 : decode M_SN_two.2.1 1 = .ok (.getfield 18, 3) := by decide +kernel
theorem d_SN_two_4 : decode M_SN_two.2.1 4 = .ok (.aload_n 0, 1) := by decide +kernel
theorem d_SN_two_5 : decode M_SN_two.2.1 5 = .ok (.getfield 72, 3) := by decide +kernel
theorem d_SN_two_8 : decode M_SN_two.2.1 8 = .ok (.invokevirtual 79, 3) := by decide +kernel
theorem d_SN_two_11 : decode M_SN_two.2.1 11 = .ok (.iload_n 1, 1) := by decide +kernel
theorem d_SN_two_12 : decode M_SN_two.2.1 12 = .ok (.invokevirtual 231, 3) := by decide +kernel
theorem d_SN_two_15 : decode M_SN_two.2.1 15 = .ok (.ifCond .ne 5, 3) := by decide +kernel
theorem d_SN_two_18 : decode M_SN_two.2.1 18 = .ok (.iconst (-1), 1) := by decide +kernel
theorem d_SN_two_19 : decode M_SN_two.2.1 19 = .ok (.ireturn, 1) := by decide +kernel
theorem d_SN_two_20 : decode M_SN_two.2.1 20 = .ok (.aload_n 0, 1) := by decide +kernel
theorem d_SN_two_21 : decode M_SN_two.2.1 21 = .ok (.getfield 18, 3) := by decide +kernel
theorem d_SN_two_24 : decode M_SN_two.2.1 24 = .ok (.iload_n 1, 1) := by decide +kernel
theorem d_SN_two_25 : decode M_SN_two.2.1 25 = .ok (.invokevirtual 118, 3) := by decide +kernel
theorem d_SN_two_28 : decode M_SN_two.2.1 28 = .ok (.astore_n 3, 1) := by decide +kernel
theorem d_SN_two_29 : decode M_SN_two.2.1 29 = .ok (.iload_n 2, 1) := by decide +kernel
theorem d_SN_two_30 : decode M_SN_two.2.1 30 = .ok (.tableswitch 71 0 4 #[34, 42, 47, 52, 63], 34) := by decide +kernel
theorem d_SN_two_64 : decode M_SN_two.2.1 64 = .ok (.aload_n 3, 1) := by decide +kernel
theorem d_SN_two_65 : decode M_SN_two.2.1 65 = .ok (.getfield 122, 3) := by decide +kernel
theorem d_SN_two_68 : decode M_SN_two.2.1 68 = .ok (.invokevirtual 127, 3) := by decide +kernel
theorem d_SN_two_71 : decode M_SN_two.2.1 71 = .ok (.ireturn, 1) := by decide +kernel
theorem d_SN_two_72 : decode M_SN_two.2.1 72 = .ok (.aload_n 3, 1) := by decide +kernel
theorem d_SN_two_73 : decode M_SN_two.2.1 73 = .ok (.getfield 329, 3) := by decide +kernel
theorem d_SN_two_76 : decode M_SN_two.2.1 76 = .ok (.ireturn, 1) := by decide +kernel
theorem d_SN_two_77 : decode M_SN_two.2.1 77 = .ok (.aload_n 3, 1) := by decide +kernel
theorem d_SN_two_78 : decode M_SN_two.2.1 78 = .ok (.getfield 332, 3) := by decide +kernel
theorem d_SN_two_81 : decode M_SN_two.2.1 81 = .ok (.ireturn, 1) := by decide +kernel
theorem d_SN_two_82 : decode M_SN_two.2.1 82 = .ok (.aload_n 3, 1) := by decide +kernel
theorem d_SN_two_83 : decode M_SN_two.2.1 83 = .ok (.getfield 122, 3) := by decide +kernel
theorem d_SN_two_86 : decode M_SN_two.2.1 86 = .ok (.sipush 10000, 3) := by decide +kernel
theorem d_SN_two_89 : decode M_SN_two.2.1 89 = .ok (.invokevirtual 234, 3) := by decide +kernel
theorem d_SN_two_92 : decode M_SN_two.2.1 92 = .ok (.ireturn, 1) := by decide +kernel
theorem d_SN_two_93 : decode M_SN_two.2.1 93 = .ok (.aload_n 3, 1) := by decide +kernel
theorem d_SN_two_94 : decode M_SN_two.2.1 94 = .ok (.getfield 122, 3) := by decide +kernel
theorem d_SN_two_97 : decode M_SN_two.2.1 97 = .ok (.invokevirtual 335, 3) := by decide +kernel
theorem d_SN_two_100 : decode M_SN_two.2.1 100 = .ok (.ireturn, 1) := by decide +kernel
theorem d_SN_two_101 : decode M_SN_two.2.1 101 = .ok (.iconst (-1), 1) := by decide +kernel
theorem d_SN_two_102 : decode M_SN_two.2.1 102 = .ok (.ireturn, 1) := by decide +kernel
theorem d_SN_twoDigit_0 : decode M_SN_twoDigit.2.1 0 = .ok (.aload_n 0, 1) := by decide +kernel
theorem d_SN_twoDigit_1 : decode M_SN_twoDigit.2.1 1 = .ok (.getfield 18, 3) := by decide +kernel
theorem d_SN_twoDigit_4 : decode M_SN_twoDigit.2.1 4 = .ok (.aload_n 0, 1) := by decide +kernel
theorem d_SN_twoDigit_5 : decode M_SN_twoDigit.2.1 5 = .ok (.getfield 72, 3) := by decide +kernel
theorem d_SN_twoDigit_8 : decode M_SN_twoDigit.2.1 8 = .ok (.invokevirtual 79, 3) := by decide +kernel
theorem d_SN_twoDigit_11 : decode M_SN_twoDigit.2.1 11 = .ok (.iload_n 1, 1) := by decide +kernel
theorem d_SN_twoDigit_12 : decode M_SN_twoDigit.2.1 12 = .ok (.invokevirtual 231, 3) := by decide +kernel
theorem d_SN_twoDigit_15 : decode M_SN_twoDigit.2.1 15 = .ok (.ifCond .eq 21, 3) := by decide +kernel
theorem d_SN_twoDigit_18 : decode M_SN_twoDigit.2.1 18 = .ok (.aload_n 0, 1) := by decide +kernel
theorem d_SN_twoDigit_19 : decode M_SN_twoDigit.2.1 19 = .ok (.getfield 18, 3) := by decide +kernel
theorem d_SN_twoDigit_22 : decode M_SN_twoDigit.2.1 22 = .ok (.iload_n 1, 1) := by decide +kernel
theorem d_SN_twoDigit_23 : decode M_SN_twoDigit.2.1 23 = .ok (.invokevirtual 118, 3) := by decide +kernel
theorem d_SN_twoDigit_26 : decode M_SN_twoDigit.2.1 26 = .ok (.getfield 122, 3) := by decide +kernel
theorem d_SN_twoDigit_29 : decode M_SN_twoDigit.2.1 29 = .ok (.iload_n 2, 1) := by decide +kernel
theorem d_SN_twoDigit_30 : decode M_SN_twoDigit.2.1 30 = .ok (.invokevirtual 186, 3) := by decide +kernel
theorem d_SN_twoDigit_33 : decode M_SN_twoDigit.2.1 33 = .ok (.goto 4, 3) := by decide +kernel
theorem d_SN_twoDigit_36 : decode M_SN_twoDigit.2.1 36 = .ok (.iconst (-1), 1) := by decide +kernel
theorem d_SN_twoDigit_37 : decode M_SN_twoDigit.2.1 37 = .ok (.ireturn, 1) := by decide +kernel
theorem d_SN_twosAgree_0 : decode M_SN_twosAgree.2.1 0 = .ok (.iload_n 1, 1) := by decide +kernel
theorem d_SN_twosAgree_1 : decode M_SN_twosAgree.2.1 1 = .ok (.invokestatic 288, 3) := by decide +kernel
theorem d_SN_twosAgree_4 : decode M_SN_twosAgree.2.1 4 = .ok (.ifCond .eq 36, 3) := by decide +kernel
theorem d_SN_twosAgree_7 : decode M_SN_twosAgree.2.1 7 = .ok (.aload_n 0, 1) := by decide +kernel
theorem d_SN_twosAgree_8 : decode M_SN_twosAgree.2.1 8 = .ok (.getfield 24, 3) := by decide +kernel
theorem d_SN_twosAgree_11 : decode M_SN_twosAgree.2.1 11 = .ok (.aload_n 0, 1) := by decide +kernel
theorem d_SN_twosAgree_12 : decode M_SN_twosAgree.2.1 12 = .ok (.getfield 72, 3) := by decide +kernel
theorem d_SN_twosAgree_15 : decode M_SN_twosAgree.2.1 15 = .ok (.invokevirtual 291, 3) := by decide +kernel
theorem d_SN_twosAgree_18 : decode M_SN_twosAgree.2.1 18 = .ok (.aload_n 0, 1) := by decide +kernel
theorem d_SN_twosAgree_19 : decode M_SN_twosAgree.2.1 19 = .ok (.getfield 18, 3) := by decide +kernel
theorem d_SN_twosAgree_22 : decode M_SN_twosAgree.2.1 22 = .ok (.aload_n 0, 1) := by decide +kernel
theorem d_SN_twosAgree_23 : decode M_SN_twosAgree.2.1 23 = .ok (.getfield 72, 3) := by decide +kernel
theorem d_SN_twosAgree_26 : decode M_SN_twosAgree.2.1 26 = .ok (.invokevirtual 79, 3) := by decide +kernel
theorem d_SN_twosAgree_29 : decode M_SN_twosAgree.2.1 29 = .ok (.iload_n 1, 1) := by decide +kernel
theorem d_SN_twosAgree_30 : decode M_SN_twosAgree.2.1 30 = .ok (.invokevirtual 306, 3) := by decide +kernel
theorem d_SN_twosAgree_33 : decode M_SN_twosAgree.2.1 33 = .ok (.ifCond .eq 7, 3) := by decide +kernel
theorem d_SN_twosAgree_36 : decode M_SN_twosAgree.2.1 36 = .ok (.iconst 1, 1) := by decide +kernel
theorem d_SN_twosAgree_37 : decode M_SN_twosAgree.2.1 37 = .ok (.goto 4, 3) := by decide +kernel
theorem d_SN_twosAgree_40 : decode M_SN_twosAgree.2.1 40 = .ok (.iconst 0, 1) := by decide +kernel
theorem d_SN_twosAgree_41 : decode M_SN_twosAgree.2.1 41 = .ok (.ireturn, 1) := by decide +kernel
theorem d_SN_feed_0 : decode M_SN_feed.2.1 0 = .ok (.aload_n 0, 1) := by decide +kernel
theorem d_SN_feed_1 : decode M_SN_feed.2.1 1 = .ok (.getfield 52, 3) := by decide +kernel
theorem d_SN_feed_4 : decode M_SN_feed.2.1 4 = .ok (.bipush 20, 2) := by decide +kernel
theorem d_SN_feed_6 : decode M_SN_feed.2.1 6 = .ok (.invokevirtual 338, 3) := by decide +kernel
theorem d_SN_feed_9 : decode M_SN_feed.2.1 9 = .ok (.ifCond .ne 5, 3) := by decide +kernel
theorem d_SN_feed_12 : decode M_SN_feed.2.1 12 = .ok (.iconst (-1), 1) := by decide +kernel
theorem d_SN_feed_13 : decode M_SN_feed.2.1 13 = .ok (.ireturn, 1) := by decide +kernel
theorem d_SN_feed_14 : decode M_SN_feed.2.1 14 = .ok (.aload_n 0, 1) := by decide +kernel
theorem d_SN_feed_15 : decode M_SN_feed.2.1 15 = .ok (.getfield 52, 3) := by decide +kernel
theorem d_SN_feed_18 : decode M_SN_feed.2.1 18 = .ok (.iload_n 1, 1) := by decide +kernel
theorem d_SN_feed_19 : decode M_SN_feed.2.1 19 = .ok (.invokevirtual 341, 3) := by decide +kernel
theorem d_SN_feed_22 : decode M_SN_feed.2.1 22 = .ok (.aload_n 0, 1) := by decide +kernel
theorem d_SN_feed_23 : decode M_SN_feed.2.1 23 = .ok (.getfield 52, 3) := by decide +kernel
theorem d_SN_feed_26 : decode M_SN_feed.2.1 26 = .ok (.iload_n 2, 1) := by decide +kernel
theorem d_SN_feed_27 : decode M_SN_feed.2.1 27 = .ok (.invokevirtual 341, 3) := by decide +kernel
theorem d_SN_feed_30 : decode M_SN_feed.2.1 30 = .ok (.aload_n 0, 1) := by decide +kernel
theorem d_SN_feed_31 : decode M_SN_feed.2.1 31 = .ok (.getfield 52, 3) := by decide +kernel
theorem d_SN_feed_34 : decode M_SN_feed.2.1 34 = .ok (.iload_n 3, 1) := by decide +kernel
theorem d_SN_feed_35 : decode M_SN_feed.2.1 35 = .ok (.invokevirtual 341, 3) := by decide +kernel
theorem d_SN_feed_38 : decode M_SN_feed.2.1 38 = .ok (.aload_n 0, 1) := by decide +kernel
theorem d_SN_feed_39 : decode M_SN_feed.2.1 39 = .ok (.getfield 52, 3) := by decide +kernel
theorem d_SN_feed_42 : decode M_SN_feed.2.1 42 = .ok (.iload 4, 2) := by decide +kernel
theorem d_SN_feed_44 : decode M_SN_feed.2.1 44 = .ok (.invokevirtual 341, 3) := by decide +kernel
theorem d_SN_feed_47 : decode M_SN_feed.2.1 47 = .ok (.aload_n 0, 1) := by decide +kernel
theorem d_SN_feed_48 : decode M_SN_feed.2.1 48 = .ok (.getfield 52, 3) := by decide +kernel
theorem d_SN_feed_51 : decode M_SN_feed.2.1 51 = .ok (.iload 5, 2) := by decide +kernel
theorem d_SN_feed_53 : decode M_SN_feed.2.1 53 = .ok (.invokevirtual 341, 3) := by decide +kernel
theorem d_SN_feed_56 : decode M_SN_feed.2.1 56 = .ok (.aload_n 0, 1) := by decide +kernel
theorem d_SN_feed_57 : decode M_SN_feed.2.1 57 = .ok (.getfield 52, 3) := by decide +kernel
theorem d_SN_feed_60 : decode M_SN_feed.2.1 60 = .ok (.getfield 344, 3) := by decide +kernel
theorem d_SN_feed_63 : decode M_SN_feed.2.1 63 = .ok (.ireturn, 1) := by decide +kernel
theorem d_Tex_hasRoomFor_0 : decode M_Tex_hasRoomFor.2.1 0 = .ok (.aload_n 0, 1) := by decide +kernel
theorem d_Tex_hasRoomFor_1 : decode M_Tex_hasRoomFor.2.1 1 = .ok (.getfield 15, 3) := by decide +kernel
theorem d_Tex_hasRoomFor_4 : decode M_Tex_hasRoomFor.2.1 4 = .ok (.aload_n 0, 1) := by decide +kernel
theorem d_Tex_hasRoomFor_5 : decode M_Tex_hasRoomFor.2.1 5 = .ok (.getfield 9, 3) := by decide +kernel
theorem d_Tex_hasRoomFor_8 : decode M_Tex_hasRoomFor.2.1 8 = .ok (.arraylength, 1) := by decide +kernel
theorem d_Tex_hasRoomFor_9 : decode M_Tex_hasRoomFor.2.1 9 = .ok (.iload_n 1, 1) := by decide +kernel
theorem d_Tex_hasRoomFor_10 : decode M_Tex_hasRoomFor.2.1 10 = .ok (.isub, 1) := by decide +kernel
theorem d_Tex_hasRoomFor_11 : decode M_Tex_hasRoomFor.2.1 11 = .ok (.if_icmp .gt 7, 3) := by decide +kernel
theorem d_Tex_hasRoomFor_14 : decode M_Tex_hasRoomFor.2.1 14 = .ok (.iconst 1, 1) := by decide +kernel
theorem d_Tex_hasRoomFor_15 : decode M_Tex_hasRoomFor.2.1 15 = .ok (.goto 4, 3) := by decide +kernel
theorem d_Tex_hasRoomFor_18 : decode M_Tex_hasRoomFor.2.1 18 = .ok (.iconst 0, 1) := by decide +kernel
theorem d_Tex_hasRoomFor_19 : decode M_Tex_hasRoomFor.2.1 19 = .ok (.ireturn, 1) := by decide +kernel
theorem d_Tex_appendFour_0 : decode M_Tex_appendFour.2.1 0 = .ok (.bipush 24, 2) := by decide +kernel
theorem d_Tex_appendFour_2 : decode M_Tex_appendFour.2.1 2 = .ok (.istore_n 2, 1) := by decide +kernel
theorem d_Tex_appendFour_3 : decode M_Tex_appendFour.2.1 3 = .ok (.iload_n 2, 1) := by decide +kernel
theorem d_Tex_appendFour_4 : decode M_Tex_appendFour.2.1 4 = .ok (.ifCond .lt 16, 3) := by decide +kernel
theorem d_Tex_appendFour_7 : decode M_Tex_appendFour.2.1 7 = .ok (.aload_n 0, 1) := by decide +kernel
theorem d_Tex_appendFour_8 : decode M_Tex_appendFour.2.1 8 = .ok (.iload_n 1, 1) := by decide +kernel
theorem d_Tex_appendFour_9 : decode M_Tex_appendFour.2.1 9 = .ok (.iload_n 2, 1) := by decide +kernel
theorem d_Tex_appendFour_10 : decode M_Tex_appendFour.2.1 10 = .ok (.ishr, 1) := by decide +kernel
theorem d_Tex_appendFour_11 : decode M_Tex_appendFour.2.1 11 = .ok (.invokevirtual 19, 3) := by decide +kernel
theorem d_Tex_appendFour_14 : decode M_Tex_appendFour.2.1 14 = .ok (.iinc 2 (-8), 3) := by decide +kernel
theorem d_Tex_appendFour_17 : decode M_Tex_appendFour.2.1 17 = .ok (.goto (-14), 3) := by decide +kernel
theorem d_Tex_appendFour_20 : decode M_Tex_appendFour.2.1 20 = .ok (.return_, 1) := by decide +kernel
theorem d_Tex_append_0 : decode M_Tex_append.2.1 0 = .ok (.aload_n 0, 1) := by decide +kernel
theorem d_Tex_append_1 : decode M_Tex_append.2.1 1 = .ok (.getfield 15, 3) := by decide +kernel
theorem d_Tex_append_4 : decode M_Tex_append.2.1 4 = .ok (.ifCond .lt 36, 3) := by decide +kernel
theorem d_Tex_append_7 : decode M_Tex_append.2.1 7 = .ok (.aload_n 0, 1) := by decide +kernel
theorem d_Tex_append_8 : decode M_Tex_append.2.1 8 = .ok (.getfield 15, 3) := by decide +kernel
theorem d_Tex_append_11 : decode M_Tex_append.2.1 11 = .ok (.aload_n 0, 1) := by decide +kernel
theorem d_Tex_append_12 : decode M_Tex_append.2.1 12 = .ok (.getfield 9, 3) := by decide +kernel
theorem d_Tex_append_15 : decode M_Tex_append.2.1 15 = .ok (.arraylength, 1) := by decide +kernel
theorem d_Tex_append_16 : decode M_Tex_append.2.1 16 = .ok (.if_icmp .ge 24, 3) := by decide +kernel
theorem d_Tex_append_19 : decode M_Tex_append.2.1 19 = .ok (.aload_n 0, 1) := by decide +kernel
theorem d_Tex_append_20 : decode M_Tex_append.2.1 20 = .ok (.getfield 9, 3) := by decide +kernel
theorem d_Tex_append_23 : decode M_Tex_append.2.1 23 = .ok (.aload_n 0, 1) := by decide +kernel
theorem d_Tex_append_24 : decode M_Tex_append.2.1 24 = .ok (.getfield 15, 3) := by decide +kernel
theorem d_Tex_append_27 : decode M_Tex_append.2.1 27 = .ok (.iload_n 1, 1) := by decide +kernel
theorem d_Tex_append_28 : decode M_Tex_append.2.1 28 = .ok (.i2b, 1) := by decide +kernel
theorem d_Tex_append_29 : decode M_Tex_append.2.1 29 = .ok (.bastore, 1) := by decide +kernel
theorem d_Tex_append_30 : decode M_Tex_append.2.1 30 = .ok (.aload_n 0, 1) := by decide +kernel
theorem d_Tex_append_31 : decode M_Tex_append.2.1 31 = .ok (.dup, 1) := by decide +kernel
theorem d_Tex_append_32 : decode M_Tex_append.2.1 32 = .ok (.getfield 15, 3) := by decide +kernel
theorem d_Tex_append_35 : decode M_Tex_append.2.1 35 = .ok (.iconst 1, 1) := by decide +kernel
theorem d_Tex_append_36 : decode M_Tex_append.2.1 36 = .ok (.iadd, 1) := by decide +kernel
theorem d_Tex_append_37 : decode M_Tex_append.2.1 37 = .ok (.putfield 15, 3) := by decide +kernel
theorem d_Tex_append_40 : decode M_Tex_append.2.1 40 = .ok (.return_, 1) := by decide +kernel
theorem d_SN_end_0 : decode M_SN_end.2.1 0 = .ok (.aload_n 0, 1) := by decide +kernel
theorem d_SN_end_1 : decode M_SN_end.2.1 1 = .ok (.getfield 52, 3) := by decide +kernel
theorem d_SN_end_4 : decode M_SN_end.2.1 4 = .ok (.iload_n 1, 1) := by decide +kernel
theorem d_SN_end_5 : decode M_SN_end.2.1 5 = .ok (.invokevirtual 347, 3) := by decide +kernel
theorem d_SN_end_8 : decode M_SN_end.2.1 8 = .ok (.ifCond .eq 7, 3) := by decide +kernel
theorem d_SN_end_11 : decode M_SN_end.2.1 11 = .ok (.iload_n 1, 1) := by decide +kernel
theorem d_SN_end_12 : decode M_SN_end.2.1 12 = .ok (.goto 4, 3) := by decide +kernel
theorem d_SN_end_15 : decode M_SN_end.2.1 15 = .ok (.iconst (-1), 1) := by decide +kernel
theorem d_SN_end_16 : decode M_SN_end.2.1 16 = .ok (.ireturn, 1) := by decide +kernel
theorem d_Tex_cutTo_0 : decode M_Tex_cutTo.2.1 0 = .ok (.iload_n 1, 1) := by decide +kernel
theorem d_Tex_cutTo_1 : decode M_Tex_cutTo.2.1 1 = .ok (.ifCond .lt 11, 3) := by decide +kernel
theorem d_Tex_cutTo_4 : decode M_Tex_cutTo.2.1 4 = .ok (.iload_n 1, 1) := by decide +kernel
theorem d_Tex_cutTo_5 : decode M_Tex_cutTo.2.1 5 = .ok (.aload_n 0, 1) := by decide +kernel
theorem d_Tex_cutTo_6 : decode M_Tex_cutTo.2.1 6 = .ok (.getfield 15, 3) := by decide +kernel
theorem d_Tex_cutTo_9 : decode M_Tex_cutTo.2.1 9 = .ok (.if_icmp .le 5, 3) := by decide +kernel
theorem d_Tex_cutTo_12 : decode M_Tex_cutTo.2.1 12 = .ok (.iconst 0, 1) := by decide +kernel
theorem d_Tex_cutTo_13 : decode M_Tex_cutTo.2.1 13 = .ok (.ireturn, 1) := by decide +kernel
theorem d_Tex_cutTo_14 : decode M_Tex_cutTo.2.1 14 = .ok (.aload_n 0, 1) := by decide +kernel
theorem d_Tex_cutTo_15 : decode M_Tex_cutTo.2.1 15 = .ok (.iload_n 1, 1) := by decide +kernel
theorem d_Tex_cutTo_16 : decode M_Tex_cutTo.2.1 16 = .ok (.putfield 15, 3) := by decide +kernel
theorem d_Tex_cutTo_19 : decode M_Tex_cutTo.2.1 19 = .ok (.iconst 1, 1) := by decide +kernel
theorem d_Tex_cutTo_20 : decode M_Tex_cutTo.2.1 20 = .ok (.ireturn, 1) := by decide +kernel
theorem d_SN_number_0 : decode M_SN_number.2.1 0 = .ok (.aload_n 0, 1) := by decide +kernel
theorem d_SN_number_1 : decode M_SN_number.2.1 1 = .ok (.getfield 52, 3) := by decide +kernel
theorem d_SN_number_4 : decode M_SN_number.2.1 4 = .ok (.sipush 300, 3) := by decide +kernel
theorem d_SN_number_7 : decode M_SN_number.2.1 7 = .ok (.invokevirtual 350, 3) := by decide +kernel
theorem d_SN_number_10 : decode M_SN_number.2.1 10 = .ok (.ifCond .eq 13, 3) := by decide +kernel
theorem d_SN_number_13 : decode M_SN_number.2.1 13 = .ok (.aload_n 0, 1) := by decide +kernel
theorem d_SN_number_14 : decode M_SN_number.2.1 14 = .ok (.getfield 52, 3) := by decide +kernel
theorem d_SN_number_17 : decode M_SN_number.2.1 17 = .ok (.getfield 344, 3) := by decide +kernel
theorem d_SN_number_20 : decode M_SN_number.2.1 20 = .ok (.goto 4, 3) := by decide +kernel
theorem d_SN_number_23 : decode M_SN_number.2.1 23 = .ok (.iconst (-1), 1) := by decide +kernel
theorem d_SN_number_24 : decode M_SN_number.2.1 24 = .ok (.istore_n 1, 1) := by decide +kernel
theorem d_SN_number_25 : decode M_SN_number.2.1 25 = .ok (.iload_n 1, 1) := by decide +kernel
theorem d_SN_number_26 : decode M_SN_number.2.1 26 = .ok (.iconst (-1), 1) := by decide +kernel
theorem d_SN_number_27 : decode M_SN_number.2.1 27 = .ok (.if_icmp .eq 51, 3) := by decide +kernel
theorem d_SN_number_30 : decode M_SN_number.2.1 30 = .ok (.aload_n 0, 1) := by decide +kernel
theorem d_SN_number_31 : decode M_SN_number.2.1 31 = .ok (.getfield 65, 3) := by decide +kernel
theorem d_SN_number_34 : decode M_SN_number.2.1 34 = .ok (.iconst 0, 1) := by decide +kernel
theorem d_SN_number_35 : decode M_SN_number.2.1 35 = .ok (.invokevirtual 76, 3) := by decide +kernel
theorem d_SN_number_38 : decode M_SN_number.2.1 38 = .ok (.iconst 0, 1) := by decide +kernel
theorem d_SN_number_39 : decode M_SN_number.2.1 39 = .ok (.istore_n 2, 1) := by decide +kernel
theorem d_SN_number_40 : decode M_SN_number.2.1 40 = .ok (.iload_n 2, 1) := by decide +kernel
theorem d_SN_number_41 : decode M_SN_number.2.1 41 = .ok (.iload_n 1, 1) := by decide +kernel
theorem d_SN_number_42 : decode M_SN_number.2.1 42 = .ok (.if_icmp .ge 36, 3) := by decide +kernel
theorem d_SN_number_45 : decode M_SN_number.2.1 45 = .ok (.aload_n 0, 1) := by decide +kernel
theorem d_SN_number_46 : decode M_SN_number.2.1 46 = .ok (.getfield 65, 3) := by decide +kernel
theorem d_SN_number_49 : decode M_SN_number.2.1 49 = .ok (.bipush 10, 2) := by decide +kernel
theorem d_SN_number_51 : decode M_SN_number.2.1 51 = .ok (.invokevirtual 353, 3) := by decide +kernel
theorem d_SN_number_54 : decode M_SN_number.2.1 54 = .ok (.aload_n 0, 1) := by decide +kernel
theorem d_SN_number_55 : decode M_SN_number.2.1 55 = .ok (.getfield 65, 3) := by decide +kernel
theorem d_SN_number_58 : decode M_SN_number.2.1 58 = .ok (.aload_n 0, 1) := by decide +kernel
theorem d_SN_number_59 : decode M_SN_number.2.1 59 = .ok (.getfield 52, 3) := by decide +kernel
theorem d_SN_number_62 : decode M_SN_number.2.1 62 = .ok (.iload_n 2, 1) := by decide +kernel
theorem d_SN_number_63 : decode M_SN_number.2.1 63 = .ok (.invokevirtual 356, 3) := by decide +kernel
theorem d_SN_number_66 : decode M_SN_number.2.1 66 = .ok (.bipush 48, 2) := by decide +kernel
theorem d_SN_number_68 : decode M_SN_number.2.1 68 = .ok (.isub, 1) := by decide +kernel
theorem d_SN_number_69 : decode M_SN_number.2.1 69 = .ok (.invokevirtual 359, 3) := by decide +kernel
theorem d_SN_number_72 : decode M_SN_number.2.1 72 = .ok (.iinc 2 1, 3) := by decide +kernel
theorem d_SN_number_75 : decode M_SN_number.2.1 75 = .ok (.goto (-35), 3) := by decide +kernel
theorem d_SN_number_78 : decode M_SN_number.2.1 78 = .ok (.aload_n 0, 1) := by decide +kernel
theorem d_SN_number_79 : decode M_SN_number.2.1 79 = .ok (.getfield 52, 3) := by decide +kernel
theorem d_SN_number_82 : decode M_SN_number.2.1 82 = .ok (.iconst 0, 1) := by decide +kernel
theorem d_SN_number_83 : decode M_SN_number.2.1 83 = .ok (.invokevirtual 347, 3) := by decide +kernel
theorem d_SN_number_86 : decode M_SN_number.2.1 86 = .ok (.pop, 1) := by decide +kernel
theorem d_SN_number_87 : decode M_SN_number.2.1 87 = .ok (.iload_n 1, 1) := by decide +kernel
theorem d_SN_number_88 : decode M_SN_number.2.1 88 = .ok (.ireturn, 1) := by decide +kernel
theorem d_Tex_isNumber_0 : decode M_Tex_isNumber.2.1 0 = .ok (.aload_n 0, 1) := by decide +kernel
theorem d_Tex_isNumber_1 : decode M_Tex_isNumber.2.1 1 = .ok (.getfield 15, 3) := by decide +kernel
theorem d_Tex_isNumber_4 : decode M_Tex_isNumber.2.1 4 = .ok (.iconst 1, 1) := by decide +kernel
theorem d_Tex_isNumber_5 : decode M_Tex_isNumber.2.1 5 = .ok (.if_icmp .lt 21, 3) := by decide +kernel
theorem d_Tex_isNumber_8 : decode M_Tex_isNumber.2.1 8 = .ok (.aload_n 0, 1) := by decide +kernel
theorem d_Tex_isNumber_9 : decode M_Tex_isNumber.2.1 9 = .ok (.getfield 15, 3) := by decide +kernel
theorem d_Tex_isNumber_12 : decode M_Tex_isNumber.2.1 12 = .ok (.iload_n 1, 1) := by decide +kernel
theorem d_Tex_isNumber_13 : decode M_Tex_isNumber.2.1 13 = .ok (.if_icmp .gt 13, 3) := by decide +kernel
theorem d_Tex_isNumber_16 : decode M_Tex_isNumber.2.1 16 = .ok (.aload_n 0, 1) := by decide +kernel
theorem d_Tex_isNumber_17 : decode M_Tex_isNumber.2.1 17 = .ok (.iconst 0, 1) := by decide +kernel
theorem d_Tex_isNumber_18 : decode M_Tex_isNumber.2.1 18 = .ok (.invokevirtual 33, 3) := by decide +kernel
theorem d_Tex_isNumber_21 : decode M_Tex_isNumber.2.1 21 = .ok (.bipush 48, 2) := by decide +kernel
theorem d_Tex_isNumber_23 : decode M_Tex_isNumber.2.1 23 = .ok (.if_icmp .ne 5, 3) := by decide +kernel
theorem d_Tex_isNumber_26 : decode M_Tex_isNumber.2.1 26 = .ok (.iconst 0, 1) := by decide +kernel
theorem d_Tex_isNumber_27 : decode M_Tex_isNumber.2.1 27 = .ok (.ireturn, 1) := by decide +kernel
theorem d_Tex_isNumber_28 : decode M_Tex_isNumber.2.1 28 = .ok (.iconst 0, 1) := by decide +kernel
theorem d_Tex_isNumber_29 : decode M_Tex_isNumber.2.1 29 = .ok (.istore_n 2, 1) := by decide +kernel
theorem d_Tex_isNumber_30 : decode M_Tex_isNumber.2.1 30 = .ok (.iload_n 2, 1) := by decide +kernel
theorem d_Tex_isNumber_31 : decode M_Tex_isNumber.2.1 31 = .ok (.aload_n 0, 1) := by decide +kernel
theorem d_Tex_isNumber_32 : decode M_Tex_isNumber.2.1 32 = .ok (.getfield 15, 3) := by decide +kernel
theorem d_Tex_isNumber_35 : decode M_Tex_isNumber.2.1 35 = .ok (.if_icmp .ge 31, 3) := by decide +kernel
theorem d_Tex_isNumber_38 : decode M_Tex_isNumber.2.1 38 = .ok (.aload_n 0, 1) := by decide +kernel
theorem d_Tex_isNumber_39 : decode M_Tex_isNumber.2.1 39 = .ok (.iload_n 2, 1) := by decide +kernel
theorem d_Tex_isNumber_40 : decode M_Tex_isNumber.2.1 40 = .ok (.invokevirtual 33, 3) := by decide +kernel
theorem d_Tex_isNumber_43 : decode M_Tex_isNumber.2.1 43 = .ok (.bipush 48, 2) := by decide +kernel
theorem d_Tex_isNumber_45 : decode M_Tex_isNumber.2.1 45 = .ok (.if_icmp .lt 13, 3) := by decide +kernel
theorem d_Tex_isNumber_48 : decode M_Tex_isNumber.2.1 48 = .ok (.aload_n 0, 1) := by decide +kernel
theorem d_Tex_isNumber_49 : decode M_Tex_isNumber.2.1 49 = .ok (.iload_n 2, 1) := by decide +kernel
theorem d_Tex_isNumber_50 : decode M_Tex_isNumber.2.1 50 = .ok (.invokevirtual 33, 3) := by decide +kernel
theorem d_Tex_isNumber_53 : decode M_Tex_isNumber.2.1 53 = .ok (.bipush 57, 2) := by decide +kernel
theorem d_Tex_isNumber_55 : decode M_Tex_isNumber.2.1 55 = .ok (.if_icmp .le 5, 3) := by decide +kernel
theorem d_Tex_isNumber_58 : decode M_Tex_isNumber.2.1 58 = .ok (.iconst 0, 1) := by decide +kernel
theorem d_Tex_isNumber_59 : decode M_Tex_isNumber.2.1 59 = .ok (.ireturn, 1) := by decide +kernel
theorem d_Tex_isNumber_60 : decode M_Tex_isNumber.2.1 60 = .ok (.iinc 2 1, 3) := by decide +kernel
theorem d_Tex_isNumber_63 : decode M_Tex_isNumber.2.1 63 = .ok (.goto (-33), 3) := by decide +kernel
theorem d_Tex_isNumber_66 : decode M_Tex_isNumber.2.1 66 = .ok (.iconst 1, 1) := by decide +kernel
theorem d_Tex_isNumber_67 : decode M_Tex_isNumber.2.1 67 = .ok (.ireturn, 1) := by decide +kernel
theorem d_Tex_byteAt_0 : decode M_Tex_byteAt.2.1 0 = .ok (.iload_n 1, 1) := by decide +kernel
theorem d_Tex_byteAt_1 : decode M_Tex_byteAt.2.1 1 = .ok (.ifCond .lt 33, 3) := by decide +kernel
theorem d_Tex_byteAt_4 : decode M_Tex_byteAt.2.1 4 = .ok (.iload_n 1, 1) := by decide +kernel
theorem d_Tex_byteAt_5 : decode M_Tex_byteAt.2.1 5 = .ok (.aload_n 0, 1) := by decide +kernel
theorem d_Tex_byteAt_6 : decode M_Tex_byteAt.2.1 6 = .ok (.getfield 15, 3) := by decide +kernel
theorem d_Tex_byteAt_9 : decode M_Tex_byteAt.2.1 9 = .ok (.if_icmp .ge 25, 3) := by decide +kernel
theorem d_Tex_byteAt_12 : decode M_Tex_byteAt.2.1 12 = .ok (.iload_n 1, 1) := by decide +kernel
theorem d_Tex_byteAt_13 : decode M_Tex_byteAt.2.1 13 = .ok (.aload_n 0, 1) := by decide +kernel
theorem d_Tex_byteAt_14 : decode M_Tex_byteAt.2.1 14 = .ok (.getfield 9, 3) := by decide +kernel
theorem d_Tex_byteAt_17 : decode M_Tex_byteAt.2.1 17 = .ok (.arraylength, 1) := by decide +kernel
theorem d_Tex_byteAt_18 : decode M_Tex_byteAt.2.1 18 = .ok (.if_icmp .ge 16, 3) := by decide +kernel
theorem d_Tex_byteAt_21 : decode M_Tex_byteAt.2.1 21 = .ok (.aload_n 0, 1) := by decide +kernel
theorem d_Tex_byteAt_22 : decode M_Tex_byteAt.2.1 22 = .ok (.getfield 9, 3) := by decide +kernel
theorem d_Tex_byteAt_25 : decode M_Tex_byteAt.2.1 25 = .ok (.iload_n 1, 1) := by decide +kernel
theorem d_Tex_byteAt_26 : decode M_Tex_byteAt.2.1 26 = .ok (.baload, 1) := by decide +kernel
theorem d_Tex_byteAt_27 : decode M_Tex_byteAt.2.1 27 = .ok (.sipush 255, 3) := by decide +kernel
theorem d_Tex_byteAt_30 : decode M_Tex_byteAt.2.1 30 = .ok (.iand, 1) := by decide +kernel
theorem d_Tex_byteAt_31 : decode M_Tex_byteAt.2.1 31 = .ok (.goto 4, 3) := by decide +kernel
theorem d_Tex_byteAt_34 : decode M_Tex_byteAt.2.1 34 = .ok (.iconst (-1), 1) := by decide +kernel
theorem d_Tex_byteAt_35 : decode M_Tex_byteAt.2.1 35 = .ok (.ireturn, 1) := by decide +kernel
theorem d_SN_inNumber_0 : decode M_SN_inNumber.2.1 0 = .ok (.iload_n 1, 1) := by decide +kernel
theorem d_SN_inNumber_1 : decode M_SN_inNumber.2.1 1 = .ok (.invokestatic 246, 3) := by decide +kernel
theorem d_SN_inNumber_4 : decode M_SN_inNumber.2.1 4 = .ok (.iconst (-1), 1) := by decide +kernel
theorem d_SN_inNumber_5 : decode M_SN_inNumber.2.1 5 = .ok (.if_icmp .eq 10, 3) := by decide +kernel
theorem d_SN_inNumber_8 : decode M_SN_inNumber.2.1 8 = .ok (.iload_n 2, 1) := by decide +kernel
theorem d_SN_inNumber_9 : decode M_SN_inNumber.2.1 9 = .ok (.invokestatic 183, 3) := by decide +kernel
theorem d_SN_inNumber_12 : decode M_SN_inNumber.2.1 12 = .ok (.ifCond .ne 5, 3) := by decide +kernel
theorem d_SN_inNumber_15 : decode M_SN_inNumber.2.1 15 = .ok (.iconst (-1), 1) := by decide +kernel
theorem d_SN_inNumber_16 : decode M_SN_inNumber.2.1 16 = .ok (.ireturn, 1) := by decide +kernel
theorem d_SN_inNumber_17 : decode M_SN_inNumber.2.1 17 = .ok (.aload_n 0, 1) := by decide +kernel
theorem d_SN_inNumber_18 : decode M_SN_inNumber.2.1 18 = .ok (.getfield 69, 3) := by decide +kernel
theorem d_SN_inNumber_21 : decode M_SN_inNumber.2.1 21 = .ok (.aload_n 0, 1) := by decide +kernel
theorem d_SN_inNumber_22 : decode M_SN_inNumber.2.1 22 = .ok (.getfield 65, 3) := by decide +kernel
theorem d_SN_inNumber_25 : decode M_SN_inNumber.2.1 25 = .ok (.invokevirtual 362, 3) := by decide +kernel
theorem d_SN_inNumber_28 : decode M_SN_inNumber.2.1 28 = .ok (.aload_n 0, 1) := by decide +kernel
theorem d_SN_inNumber_29 : decode M_SN_inNumber.2.1 29 = .ok (.getfield 69, 3) := by decide +kernel
theorem d_SN_inNumber_32 : decode M_SN_inNumber.2.1 32 = .ok (.iload_n 2, 1) := by decide +kernel
theorem d_SN_inNumber_33 : decode M_SN_inNumber.2.1 33 = .ok (.invokevirtual 359, 3) := by decide +kernel
theorem d_SN_inNumber_36 : decode M_SN_inNumber.2.1 36 = .ok (.aload_n 0, 1) := by decide +kernel
theorem d_SN_inNumber_37 : decode M_SN_inNumber.2.1 37 = .ok (.getfield 69, 3) := by decide +kernel
theorem d_SN_inNumber_40 : decode M_SN_inNumber.2.1 40 = .ok (.iload_n 1, 1) := by decide +kernel
theorem d_SN_inNumber_41 : decode M_SN_inNumber.2.1 41 = .ok (.invokevirtual 366, 3) := by decide +kernel
theorem d_SN_inNumber_44 : decode M_SN_inNumber.2.1 44 = .ok (.ireturn, 1) := by decide +kernel
theorem d_SN_ofNumber_0 : decode M_SN_ofNumber.2.1 0 = .ok (.iload_n 1, 1) := by decide +kernel
theorem d_SN_ofNumber_1 : decode M_SN_ofNumber.2.1 1 = .ok (.tableswitch 118 0 5 #[39, 56, 68, 87, 95, 107], 39) := by decide +kernel
theorem d_SN_ofNumber_40 : decode M_SN_ofNumber.2.1 40 = .ok (.aload_n 0, 1) := by decide +kernel
theorem d_SN_ofNumber_41 : decode M_SN_ofNumber.2.1 41 = .ok (.invokevirtual 369, 3) := by decide +kernel
theorem d_SN_ofNumber_44 : decode M_SN_ofNumber.2.1 44 = .ok (.invokevirtual 335, 3) := by decide +kernel
theorem d_SN_ofNumber_47 : decode M_SN_ofNumber.2.1 47 = .ok (.iconst 1, 1) := by decide +kernel
theorem d_SN_ofNumber_48 : decode M_SN_ofNumber.2.1 48 = .ok (.if_icmp .ne 7, 3) := by decide +kernel
theorem d_SN_ofNumber_51 : decode M_SN_ofNumber.2.1 51 = .ok (.iconst 1, 1) := by decide +kernel
theorem d_SN_ofNumber_52 : decode M_SN_ofNumber.2.1 52 = .ok (.goto 4, 3) := by decide +kernel
theorem d_SN_ofNumber_55 : decode M_SN_ofNumber.2.1 55 = .ok (.iconst 0, 1) := by decide +kernel
theorem d_SN_ofNumber_56 : decode M_SN_ofNumber.2.1 56 = .ok (.ireturn, 1) := by decide +kernel
theorem d_SN_ofNumber_57 : decode M_SN_ofNumber.2.1 57 = .ok (.aload_n 0, 1) := by decide +kernel
theorem d_SN_ofNumber_58 : decode M_SN_ofNumber.2.1 58 = .ok (.getfield 12, 3) := by decide +kernel
theorem d_SN_ofNumber_61 : decode M_SN_ofNumber.2.1 61 = .ok (.aload_n 0, 1) := by decide +kernel
theorem d_SN_ofNumber_62 : decode M_SN_ofNumber.2.1 62 = .ok (.getfield 65, 3) := by decide +kernel
theorem d_SN_ofNumber_65 : decode M_SN_ofNumber.2.1 65 = .ok (.invokevirtual 373, 3) := by decide +kernel
theorem d_SN_ofNumber_68 : decode M_SN_ofNumber.2.1 68 = .ok (.ireturn, 1) := by decide +kernel
theorem d_SN_ofNumber_69 : decode M_SN_ofNumber.2.1 69 = .ok (.aload_n 0, 1) := by decide +kernel
theorem d_SN_ofNumber_70 : decode M_SN_ofNumber.2.1 70 = .ok (.getfield 18, 3) := by decide +kernel
theorem d_SN_ofNumber_73 : decode M_SN_ofNumber.2.1 73 = .ok (.aload_n 0, 1) := by decide +kernel
theorem d_SN_ofNumber_74 : decode M_SN_ofNumber.2.1 74 = .ok (.getfield 72, 3) := by decide +kernel
theorem d_SN_ofNumber_77 : decode M_SN_ofNumber.2.1 77 = .ok (.invokevirtual 79, 3) := by decide +kernel
theorem d_SN_ofNumber_80 : decode M_SN_ofNumber.2.1 80 = .ok (.aload_n 0, 1) := by decide +kernel
theorem d_SN_ofNumber_81 : decode M_SN_ofNumber.2.1 81 = .ok (.getfield 65, 3) := by decide +kernel
theorem d_SN_ofNumber_84 : decode M_SN_ofNumber.2.1 84 = .ok (.invokevirtual 373, 3) := by decide +kernel
theorem d_SN_ofNumber_87 : decode M_SN_ofNumber.2.1 87 = .ok (.ireturn, 1) := by decide +kernel
theorem d_SN_ofNumber_88 : decode M_SN_ofNumber.2.1 88 = .ok (.aload_n 0, 1) := by decide +kernel
theorem d_SN_ofNumber_89 : decode M_SN_ofNumber.2.1 89 = .ok (.invokevirtual 369, 3) := by decide +kernel
theorem d_SN_ofNumber_92 : decode M_SN_ofNumber.2.1 92 = .ok (.invokevirtual 127, 3) := by decide +kernel
theorem d_SN_ofNumber_95 : decode M_SN_ofNumber.2.1 95 = .ok (.ireturn, 1) := by decide +kernel
theorem d_SN_ofNumber_96 : decode M_SN_ofNumber.2.1 96 = .ok (.aload_n 0, 1) := by decide +kernel
theorem d_SN_ofNumber_97 : decode M_SN_ofNumber.2.1 97 = .ok (.getfield 12, 3) := by decide +kernel
theorem d_SN_ofNumber_100 : decode M_SN_ofNumber.2.1 100 = .ok (.aload_n 0, 1) := by decide +kernel
theorem d_SN_ofNumber_101 : decode M_SN_ofNumber.2.1 101 = .ok (.getfield 65, 3) := by decide +kernel
theorem d_SN_ofNumber_104 : decode M_SN_ofNumber.2.1 104 = .ok (.invokevirtual 376, 3) := by decide +kernel
theorem d_SN_ofNumber_107 : decode M_SN_ofNumber.2.1 107 = .ok (.ireturn, 1) := by decide +kernel
theorem d_SN_ofNumber_108 : decode M_SN_ofNumber.2.1 108 = .ok (.aload_n 0, 1) := by decide +kernel
theorem d_SN_ofNumber_109 : decode M_SN_ofNumber.2.1 109 = .ok (.getfield 65, 3) := by decide +kernel
theorem d_SN_ofNumber_112 : decode M_SN_ofNumber.2.1 112 = .ok (.sipush 9973, 3) := by decide +kernel
theorem d_SN_ofNumber_115 : decode M_SN_ofNumber.2.1 115 = .ok (.invokevirtual 234, 3) := by decide +kernel
theorem d_SN_ofNumber_118 : decode M_SN_ofNumber.2.1 118 = .ok (.ireturn, 1) := by decide +kernel
theorem d_SN_ofNumber_119 : decode M_SN_ofNumber.2.1 119 = .ok (.iconst (-1), 1) := by decide +kernel
theorem d_SN_ofNumber_120 : decode M_SN_ofNumber.2.1 120 = .ok (.ireturn, 1) := by decide +kernel
theorem d_SN_restOfNumber_0 : decode M_SN_restOfNumber.2.1 0 = .ok (.aload_n 0, 1) := by decide +kernel
theorem d_SN_restOfNumber_1 : decode M_SN_restOfNumber.2.1 1 = .ok (.getfield 69, 3) := by decide +kernel
theorem d_SN_restOfNumber_4 : decode M_SN_restOfNumber.2.1 4 = .ok (.aload_n 0, 1) := by decide +kernel
theorem d_SN_restOfNumber_5 : decode M_SN_restOfNumber.2.1 5 = .ok (.getfield 65, 3) := by decide +kernel
theorem d_SN_restOfNumber_8 : decode M_SN_restOfNumber.2.1 8 = .ok (.invokevirtual 362, 3) := by decide +kernel
theorem d_SN_restOfNumber_11 : decode M_SN_restOfNumber.2.1 11 = .ok (.iconst 0, 1) := by decide +kernel
theorem d_SN_restOfNumber_12 : decode M_SN_restOfNumber.2.1 12 = .ok (.istore_n 1, 1) := by decide +kernel
theorem d_SN_restOfNumber_13 : decode M_SN_restOfNumber.2.1 13 = .ok (.iload_n 1, 1) := by decide +kernel
theorem d_SN_restOfNumber_14 : decode M_SN_restOfNumber.2.1 14 = .ok (.bipush 7, 2) := by decide +kernel
theorem d_SN_restOfNumber_16 : decode M_SN_restOfNumber.2.1 16 = .ok (.if_icmp .ge 34, 3) := by decide +kernel
theorem d_SN_restOfNumber_19 : decode M_SN_restOfNumber.2.1 19 = .ok (.iload_n 1, 1) := by decide +kernel
theorem d_SN_restOfNumber_20 : decode M_SN_restOfNumber.2.1 20 = .ok (.invokestatic 282, 3) := by decide +kernel
theorem d_SN_restOfNumber_23 : decode M_SN_restOfNumber.2.1 23 = .ok (.istore_n 2, 1) := by decide +kernel
theorem d_SN_restOfNumber_24 : decode M_SN_restOfNumber.2.1 24 = .ok (.aload_n 0, 1) := by decide +kernel
theorem d_SN_restOfNumber_25 : decode M_SN_restOfNumber.2.1 25 = .ok (.getfield 72, 3) := by decide +kernel
theorem d_SN_restOfNumber_28 : decode M_SN_restOfNumber.2.1 28 = .ok (.iload_n 2, 1) := by decide +kernel
theorem d_SN_restOfNumber_29 : decode M_SN_restOfNumber.2.1 29 = .ok (.invokestatic 96, 3) := by decide +kernel
theorem d_SN_restOfNumber_32 : decode M_SN_restOfNumber.2.1 32 = .ok (.ifCond .eq 12, 3) := by decide +kernel
theorem d_SN_restOfNumber_35 : decode M_SN_restOfNumber.2.1 35 = .ok (.aload_n 0, 1) := by decide +kernel
theorem d_SN_restOfNumber_36 : decode M_SN_restOfNumber.2.1 36 = .ok (.getfield 69, 3) := by decide +kernel
theorem d_SN_restOfNumber_39 : decode M_SN_restOfNumber.2.1 39 = .ok (.iload_n 2, 1) := by decide +kernel
theorem d_SN_restOfNumber_40 : decode M_SN_restOfNumber.2.1 40 = .ok (.invokevirtual 366, 3) := by decide +kernel
theorem d_SN_restOfNumber_43 : decode M_SN_restOfNumber.2.1 43 = .ok (.pop, 1) := by decide +kernel
theorem d_SN_restOfNumber_44 : decode M_SN_restOfNumber.2.1 44 = .ok (.iinc 1 1, 3) := by decide +kernel
theorem d_SN_restOfNumber_47 : decode M_SN_restOfNumber.2.1 47 = .ok (.goto (-34), 3) := by decide +kernel
theorem d_SN_restOfNumber_50 : decode M_SN_restOfNumber.2.1 50 = .ok (.aload_n 0, 1) := by decide +kernel
theorem d_SN_restOfNumber_51 : decode M_SN_restOfNumber.2.1 51 = .ok (.getfield 69, 3) := by decide +kernel
theorem d_SN_restOfNumber_54 : decode M_SN_restOfNumber.2.1 54 = .ok (.areturn, 1) := by decide +kernel
theorem d_Sea_placeOf_0 : decode M_Sea_placeOf.2.1 0 = .ok (.iconst 0, 1) := by decide +kernel
theorem d_Sea_placeOf_1 : decode M_Sea_placeOf.2.1 1 = .ok (.istore_n 2, 1) := by decide +kernel
theorem d_Sea_placeOf_2 : decode M_Sea_placeOf.2.1 2 = .ok (.iload_n 2, 1) := by decide +kernel
theorem d_Sea_placeOf_3 : decode M_Sea_placeOf.2.1 3 = .ok (.aload_n 0, 1) := by decide +kernel
theorem d_Sea_placeOf_4 : decode M_Sea_placeOf.2.1 4 = .ok (.getfield 82, 3) := by decide +kernel
theorem d_Sea_placeOf_7 : decode M_Sea_placeOf.2.1 7 = .ok (.if_icmp .ge 26, 3) := by decide +kernel
theorem d_Sea_placeOf_10 : decode M_Sea_placeOf.2.1 10 = .ok (.aload_n 0, 1) := by decide +kernel
theorem d_Sea_placeOf_11 : decode M_Sea_placeOf.2.1 11 = .ok (.iload_n 2, 1) := by decide +kernel
theorem d_Sea_placeOf_12 : decode M_Sea_placeOf.2.1 12 = .ok (.invokevirtual 135, 3) := by decide +kernel
theorem d_Sea_placeOf_15 : decode M_Sea_placeOf.2.1 15 = .ok (.getfield 139, 3) := by decide +kernel
theorem d_Sea_placeOf_18 : decode M_Sea_placeOf.2.1 18 = .ok (.aload_n 1, 1) := by decide +kernel
theorem d_Sea_placeOf_19 : decode M_Sea_placeOf.2.1 19 = .ok (.invokevirtual 142, 3) := by decide +kernel
theorem d_Sea_placeOf_22 : decode M_Sea_placeOf.2.1 22 = .ok (.ifCond .ne 5, 3) := by decide +kernel
theorem d_Sea_placeOf_25 : decode M_Sea_placeOf.2.1 25 = .ok (.iload_n 2, 1) := by decide +kernel
theorem d_Sea_placeOf_26 : decode M_Sea_placeOf.2.1 26 = .ok (.ireturn, 1) := by decide +kernel
theorem d_Sea_placeOf_27 : decode M_Sea_placeOf.2.1 27 = .ok (.iinc 2 1, 3) := by decide +kernel
theorem d_Sea_placeOf_30 : decode M_Sea_placeOf.2.1 30 = .ok (.goto (-28), 3) := by decide +kernel
theorem d_Sea_placeOf_33 : decode M_Sea_placeOf.2.1 33 = .ok (.iconst (-1), 1) := by decide +kernel
theorem d_Sea_placeOf_34 : decode M_Sea_placeOf.2.1 34 = .ok (.ireturn, 1) := by decide +kernel
theorem d_Sea_lessThan_0 : decode M_Sea_lessThan.2.1 0 = .ok (.iconst 0, 1) := by decide +kernel
theorem d_Sea_lessThan_1 : decode M_Sea_lessThan.2.1 1 = .ok (.istore_n 2, 1) := by decide +kernel
theorem d_Sea_lessThan_2 : decode M_Sea_lessThan.2.1 2 = .ok (.iconst 0, 1) := by decide +kernel
theorem d_Sea_lessThan_3 : decode M_Sea_lessThan.2.1 3 = .ok (.istore_n 3, 1) := by decide +kernel
theorem d_Sea_lessThan_4 : decode M_Sea_lessThan.2.1 4 = .ok (.iload_n 3, 1) := by decide +kernel
theorem d_Sea_lessThan_5 : decode M_Sea_lessThan.2.1 5 = .ok (.aload_n 0, 1) := by decide +kernel
theorem d_Sea_lessThan_6 : decode M_Sea_lessThan.2.1 6 = .ok (.getfield 82, 3) := by decide +kernel
theorem d_Sea_lessThan_9 : decode M_Sea_lessThan.2.1 9 = .ok (.if_icmp .ge 32, 3) := by decide +kernel
theorem d_Sea_lessThan_12 : decode M_Sea_lessThan.2.1 12 = .ok (.iload_n 2, 1) := by decide +kernel
theorem d_Sea_lessThan_13 : decode M_Sea_lessThan.2.1 13 = .ok (.aload_n 0, 1) := by decide +kernel
theorem d_Sea_lessThan_14 : decode M_Sea_lessThan.2.1 14 = .ok (.iload_n 3, 1) := by decide +kernel
theorem d_Sea_lessThan_15 : decode M_Sea_lessThan.2.1 15 = .ok (.invokevirtual 135, 3) := by decide +kernel
theorem d_Sea_lessThan_18 : decode M_Sea_lessThan.2.1 18 = .ok (.getfield 139, 3) := by decide +kernel
theorem d_Sea_lessThan_21 : decode M_Sea_lessThan.2.1 21 = .ok (.aload_n 1, 1) := by decide +kernel
theorem d_Sea_lessThan_22 : decode M_Sea_lessThan.2.1 22 = .ok (.invokevirtual 142, 3) := by decide +kernel
theorem d_Sea_lessThan_25 : decode M_Sea_lessThan.2.1 25 = .ok (.ifCond .ge 7, 3) := by decide +kernel
theorem d_Sea_lessThan_28 : decode M_Sea_lessThan.2.1 28 = .ok (.iconst 1, 1) := by decide +kernel
theorem d_Sea_lessThan_29 : decode M_Sea_lessThan.2.1 29 = .ok (.goto 4, 3) := by decide +kernel
theorem d_Sea_lessThan_32 : decode M_Sea_lessThan.2.1 32 = .ok (.iconst 0, 1) := by decide +kernel
theorem d_Sea_lessThan_33 : decode M_Sea_lessThan.2.1 33 = .ok (.iadd, 1) := by decide +kernel
theorem d_Sea_lessThan_34 : decode M_Sea_lessThan.2.1 34 = .ok (.istore_n 2, 1) := by decide +kernel
theorem d_Sea_lessThan_35 : decode M_Sea_lessThan.2.1 35 = .ok (.iinc 3 1, 3) := by decide +kernel
theorem d_Sea_lessThan_38 : decode M_Sea_lessThan.2.1 38 = .ok (.goto (-34), 3) := by decide +kernel
theorem d_Sea_lessThan_41 : decode M_Sea_lessThan.2.1 41 = .ok (.iload_n 2, 1) := by decide +kernel
theorem d_Sea_lessThan_42 : decode M_Sea_lessThan.2.1 42 = .ok (.ireturn, 1) := by decide +kernel
theorem d_SN_proof_0 : decode M_SN_proof.2.1 0 = .ok (.aload_n 0, 1) := by decide +kernel
theorem d_SN_proof_1 : decode M_SN_proof.2.1 1 = .ok (.aload_n 0, 1) := by decide +kernel
theorem d_SN_proof_2 : decode M_SN_proof.2.1 2 = .ok (.getfield 56, 3) := by decide +kernel
theorem d_SN_proof_5 : decode M_SN_proof.2.1 5 = .ok (.invokevirtual 379, 3) := by decide +kernel
theorem d_SN_proof_8 : decode M_SN_proof.2.1 8 = .ok (.aload_n 0, 1) := by decide +kernel
theorem d_SN_proof_9 : decode M_SN_proof.2.1 9 = .ok (.getfield 56, 3) := by decide +kernel
theorem d_SN_proof_12 : decode M_SN_proof.2.1 12 = .ok (.getfield 344, 3) := by decide +kernel
theorem d_SN_proof_15 : decode M_SN_proof.2.1 15 = .ok (.ireturn, 1) := by decide +kernel
theorem d_SN_writeProof_0 : decode M_SN_writeProof.2.1 0 = .ok (.aload_n 1, 1) := by decide +kernel
theorem d_SN_writeProof_1 : decode M_SN_writeProof.2.1 1 = .ok (.iconst 0, 1) := by decide +kernel
theorem d_SN_writeProof_2 : decode M_SN_writeProof.2.1 2 = .ok (.invokevirtual 347, 3) := by decide +kernel
theorem d_SN_writeProof_5 : decode M_SN_writeProof.2.1 5 = .ok (.pop, 1) := by decide +kernel
theorem d_SN_writeProof_6 : decode M_SN_writeProof.2.1 6 = .ok (.iconst 0, 1) := by decide +kernel
theorem d_SN_writeProof_7 : decode M_SN_writeProof.2.1 7 = .ok (.istore_n 2, 1) := by decide +kernel
theorem d_SN_writeProof_8 : decode M_SN_writeProof.2.1 8 = .ok (.iload_n 2, 1) := by decide +kernel
theorem d_SN_writeProof_9 : decode M_SN_writeProof.2.1 9 = .ok (.aload_n 0, 1) := by decide +kernel
theorem d_SN_writeProof_10 : decode M_SN_writeProof.2.1 10 = .ok (.getfield 12, 3) := by decide +kernel
theorem d_SN_writeProof_13 : decode M_SN_writeProof.2.1 13 = .ok (.getfield 105, 3) := by decide +kernel
theorem d_SN_writeProof_16 : decode M_SN_writeProof.2.1 16 = .ok (.if_icmp .ge 101, 3) := by decide +kernel
theorem d_SN_writeProof_19 : decode M_SN_writeProof.2.1 19 = .ok (.aload_n 0, 1) := by decide +kernel
theorem d_SN_writeProof_20 : decode M_SN_writeProof.2.1 20 = .ok (.getfield 12, 3) := by decide +kernel
theorem d_SN_writeProof_23 : decode M_SN_writeProof.2.1 23 = .ok (.iload_n 2, 1) := by decide +kernel
theorem d_SN_writeProof_24 : decode M_SN_writeProof.2.1 24 = .ok (.invokevirtual 142, 3) := by decide +kernel
theorem d_SN_writeProof_27 : decode M_SN_writeProof.2.1 27 = .ok (.astore_n 3, 1) := by decide +kernel
theorem d_SN_writeProof_28 : decode M_SN_writeProof.2.1 28 = .ok (.aload_n 1, 1) := by decide +kernel
theorem d_SN_writeProof_29 : decode M_SN_writeProof.2.1 29 = .ok (.aload_n 3, 1) := by decide +kernel
theorem d_SN_writeProof_30 : decode M_SN_writeProof.2.1 30 = .ok (.getfield 146, 3) := by decide +kernel
theorem d_SN_writeProof_33 : decode M_SN_writeProof.2.1 33 = .ok (.invokevirtual 387, 3) := by decide +kernel
theorem d_SN_writeProof_36 : decode M_SN_writeProof.2.1 36 = .ok (.aload_n 1, 1) := by decide +kernel
theorem d_SN_writeProof_37 : decode M_SN_writeProof.2.1 37 = .ok (.bipush 58, 2) := by decide +kernel
theorem d_SN_writeProof_39 : decode M_SN_writeProof.2.1 39 = .ok (.invokevirtual 390, 3) := by decide +kernel
theorem d_SN_writeProof_42 : decode M_SN_writeProof.2.1 42 = .ok (.aload_n 1, 1) := by decide +kernel
theorem d_SN_writeProof_43 : decode M_SN_writeProof.2.1 43 = .ok (.aload_n 3, 1) := by decide +kernel
theorem d_SN_writeProof_44 : decode M_SN_writeProof.2.1 44 = .ok (.getfield 167, 3) := by decide +kernel
theorem d_SN_writeProof_47 : decode M_SN_writeProof.2.1 47 = .ok (.invokevirtual 393, 3) := by decide +kernel
theorem d_SN_writeProof_50 : decode M_SN_writeProof.2.1 50 = .ok (.aload_n 1, 1) := by decide +kernel
theorem d_SN_writeProof_51 : decode M_SN_writeProof.2.1 51 = .ok (.bipush 44, 2) := by decide +kernel
theorem d_SN_writeProof_53 : decode M_SN_writeProof.2.1 53 = .ok (.invokevirtual 390, 3) := by decide +kernel
theorem d_SN_writeProof_56 : decode M_SN_writeProof.2.1 56 = .ok (.aload_n 1, 1) := by decide +kernel
theorem d_SN_writeProof_57 : decode M_SN_writeProof.2.1 57 = .ok (.aload_n 3, 1) := by decide +kernel
theorem d_SN_writeProof_58 : decode M_SN_writeProof.2.1 58 = .ok (.getfield 170, 3) := by decide +kernel
theorem d_SN_writeProof_61 : decode M_SN_writeProof.2.1 61 = .ok (.invokevirtual 393, 3) := by decide +kernel
theorem d_SN_writeProof_64 : decode M_SN_writeProof.2.1 64 = .ok (.iconst 1, 1) := by decide +kernel
theorem d_SN_writeProof_65 : decode M_SN_writeProof.2.1 65 = .ok (.istore 4, 2) := by decide +kernel
theorem d_SN_writeProof_67 : decode M_SN_writeProof.2.1 67 = .ok (.iload 4, 2) := by decide +kernel
theorem d_SN_writeProof_69 : decode M_SN_writeProof.2.1 69 = .ok (.aload_n 0, 1) := by decide +kernel
theorem d_SN_writeProof_70 : decode M_SN_writeProof.2.1 70 = .ok (.getfield 12, 3) := by decide +kernel
theorem d_SN_writeProof_73 : decode M_SN_writeProof.2.1 73 = .ok (.getfield 108, 3) := by decide +kernel
theorem d_SN_writeProof_76 : decode M_SN_writeProof.2.1 76 = .ok (.if_icmp .gt 29, 3) := by decide +kernel
theorem d_SN_writeProof_79 : decode M_SN_writeProof.2.1 79 = .ok (.aload_n 1, 1) := by decide +kernel
theorem d_SN_writeProof_80 : decode M_SN_writeProof.2.1 80 = .ok (.bipush 59, 2) := by decide +kernel
theorem d_SN_writeProof_82 : decode M_SN_writeProof.2.1 82 = .ok (.invokevirtual 390, 3) := by decide +kernel
theorem d_SN_writeProof_85 : decode M_SN_writeProof.2.1 85 = .ok (.aload_n 1, 1) := by decide +kernel
theorem d_SN_writeProof_86 : decode M_SN_writeProof.2.1 86 = .ok (.aload_n 3, 1) := by decide +kernel
theorem d_SN_writeProof_87 : decode M_SN_writeProof.2.1 87 = .ok (.iload 4, 2) := by decide +kernel
theorem d_SN_writeProof_89 : decode M_SN_writeProof.2.1 89 = .ok (.aload_n 0, 1) := by decide +kernel
theorem d_SN_writeProof_90 : decode M_SN_writeProof.2.1 90 = .ok (.getfield 72, 3) := by decide +kernel
theorem d_SN_writeProof_93 : decode M_SN_writeProof.2.1 93 = .ok (.invokevirtual 222, 3) := by decide +kernel
theorem d_SN_writeProof_96 : decode M_SN_writeProof.2.1 96 = .ok (.invokestatic 396, 3) := by decide +kernel
theorem d_SN_writeProof_99 : decode M_SN_writeProof.2.1 99 = .ok (.iinc 4 1, 3) := by decide +kernel
theorem d_SN_writeProof_102 : decode M_SN_writeProof.2.1 102 = .ok (.goto (-35), 3) := by decide +kernel
theorem d_SN_writeProof_105 : decode M_SN_writeProof.2.1 105 = .ok (.aload_n 1, 1) := by decide +kernel
theorem d_SN_writeProof_106 : decode M_SN_writeProof.2.1 106 = .ok (.bipush 46, 2) := by decide +kernel
theorem d_SN_writeProof_108 : decode M_SN_writeProof.2.1 108 = .ok (.invokevirtual 390, 3) := by decide +kernel
theorem d_SN_writeProof_111 : decode M_SN_writeProof.2.1 111 = .ok (.iinc 2 1, 3) := by decide +kernel
theorem d_SN_writeProof_114 : decode M_SN_writeProof.2.1 114 = .ok (.goto (-106), 3) := by decide +kernel
theorem d_SN_writeProof_117 : decode M_SN_writeProof.2.1 117 = .ok (.return_, 1) := by decide +kernel
theorem d_Tex_appendInt_0 : decode M_Tex_appendInt.2.1 0 = .ok (.iconst 1, 1) := by decide +kernel
theorem d_Tex_appendInt_1 : decode M_Tex_appendInt.2.1 1 = .ok (.istore_n 2, 1) := by decide +kernel
theorem d_Tex_appendInt_2 : decode M_Tex_appendInt.2.1 2 = .ok (.iload_n 1, 1) := by decide +kernel
theorem d_Tex_appendInt_3 : decode M_Tex_appendInt.2.1 3 = .ok (.istore_n 3, 1) := by decide +kernel
theorem d_Tex_appendInt_4 : decode M_Tex_appendInt.2.1 4 = .ok (.iload_n 3, 1) := by decide +kernel
theorem d_Tex_appendInt_5 : decode M_Tex_appendInt.2.1 5 = .ok (.bipush 10, 2) := by decide +kernel
theorem d_Tex_appendInt_7 : decode M_Tex_appendInt.2.1 7 = .ok (.if_icmp .lt 14, 3) := by decide +kernel
theorem d_Tex_appendInt_10 : decode M_Tex_appendInt.2.1 10 = .ok (.iinc 2 1, 3) := by decide +kernel
theorem d_Tex_appendInt_13 : decode M_Tex_appendInt.2.1 13 = .ok (.iload_n 3, 1) := by decide +kernel
theorem d_Tex_appendInt_14 : decode M_Tex_appendInt.2.1 14 = .ok (.bipush 10, 2) := by decide +kernel
theorem d_Tex_appendInt_16 : decode M_Tex_appendInt.2.1 16 = .ok (.idiv, 1) := by decide +kernel
theorem d_Tex_appendInt_17 : decode M_Tex_appendInt.2.1 17 = .ok (.istore_n 3, 1) := by decide +kernel
theorem d_Tex_appendInt_18 : decode M_Tex_appendInt.2.1 18 = .ok (.goto (-14), 3) := by decide +kernel
theorem d_Tex_appendInt_21 : decode M_Tex_appendInt.2.1 21 = .ok (.iload_n 2, 1) := by decide +kernel
theorem d_Tex_appendInt_22 : decode M_Tex_appendInt.2.1 22 = .ok (.iconst 1, 1) := by decide +kernel
theorem d_Tex_appendInt_23 : decode M_Tex_appendInt.2.1 23 = .ok (.isub, 1) := by decide +kernel
theorem d_Tex_appendInt_24 : decode M_Tex_appendInt.2.1 24 = .ok (.istore_n 3, 1) := by decide +kernel
theorem d_Tex_appendInt_25 : decode M_Tex_appendInt.2.1 25 = .ok (.iload_n 3, 1) := by decide +kernel
theorem d_Tex_appendInt_26 : decode M_Tex_appendInt.2.1 26 = .ok (.ifCond .lt 46, 3) := by decide +kernel
theorem d_Tex_appendInt_29 : decode M_Tex_appendInt.2.1 29 = .ok (.iload_n 1, 1) := by decide +kernel
theorem d_Tex_appendInt_30 : decode M_Tex_appendInt.2.1 30 = .ok (.istore 4, 2) := by decide +kernel
theorem d_Tex_appendInt_32 : decode M_Tex_appendInt.2.1 32 = .ok (.iconst 0, 1) := by decide +kernel
theorem d_Tex_appendInt_33 : decode M_Tex_appendInt.2.1 33 = .ok (.istore 5, 2) := by decide +kernel
theorem d_Tex_appendInt_35 : decode M_Tex_appendInt.2.1 35 = .ok (.iload 5, 2) := by decide +kernel
theorem d_Tex_appendInt_37 : decode M_Tex_appendInt.2.1 37 = .ok (.iload_n 3, 1) := by decide +kernel
theorem d_Tex_appendInt_38 : decode M_Tex_appendInt.2.1 38 = .ok (.if_icmp .ge 16, 3) := by decide +kernel
theorem d_Tex_appendInt_41 : decode M_Tex_appendInt.2.1 41 = .ok (.iload 4, 2) := by decide +kernel
theorem d_Tex_appendInt_43 : decode M_Tex_appendInt.2.1 43 = .ok (.bipush 10, 2) := by decide +kernel
theorem d_Tex_appendInt_45 : decode M_Tex_appendInt.2.1 45 = .ok (.idiv, 1) := by decide +kernel
theorem d_Tex_appendInt_46 : decode M_Tex_appendInt.2.1 46 = .ok (.istore 4, 2) := by decide +kernel
theorem d_Tex_appendInt_48 : decode M_Tex_appendInt.2.1 48 = .ok (.iinc 5 1, 3) := by decide +kernel
theorem d_Tex_appendInt_51 : decode M_Tex_appendInt.2.1 51 = .ok (.goto (-16), 3) := by decide +kernel
theorem d_Tex_appendInt_54 : decode M_Tex_appendInt.2.1 54 = .ok (.aload_n 0, 1) := by decide +kernel
theorem d_Tex_appendInt_55 : decode M_Tex_appendInt.2.1 55 = .ok (.bipush 48, 2) := by decide +kernel
theorem d_Tex_appendInt_57 : decode M_Tex_appendInt.2.1 57 = .ok (.iload 4, 2) := by decide +kernel
theorem d_Tex_appendInt_59 : decode M_Tex_appendInt.2.1 59 = .ok (.bipush 10, 2) := by decide +kernel
theorem d_Tex_appendInt_61 : decode M_Tex_appendInt.2.1 61 = .ok (.irem, 1) := by decide +kernel
theorem d_Tex_appendInt_62 : decode M_Tex_appendInt.2.1 62 = .ok (.iadd, 1) := by decide +kernel
theorem d_Tex_appendInt_63 : decode M_Tex_appendInt.2.1 63 = .ok (.invokevirtual 19, 3) := by decide +kernel
theorem d_Tex_appendInt_66 : decode M_Tex_appendInt.2.1 66 = .ok (.iinc 3 (-1), 3) := by decide +kernel
theorem d_Tex_appendInt_69 : decode M_Tex_appendInt.2.1 69 = .ok (.goto (-44), 3) := by decide +kernel
theorem d_Tex_appendInt_72 : decode M_Tex_appendInt.2.1 72 = .ok (.return_, 1) := by decide +kernel
theorem d_Tex_appendBig_0 : decode M_Tex_appendBig.2.1 0 = .ok (.aload_n 1, 1) := by decide +kernel
theorem d_Tex_appendBig_1 : decode M_Tex_appendBig.2.1 1 = .ok (.invokevirtual 23, 3) := by decide +kernel
theorem d_Tex_appendBig_4 : decode M_Tex_appendBig.2.1 4 = .ok (.iconst 1, 1) := by decide +kernel
theorem d_Tex_appendBig_5 : decode M_Tex_appendBig.2.1 5 = .ok (.isub, 1) := by decide +kernel
theorem d_Tex_appendBig_6 : decode M_Tex_appendBig.2.1 6 = .ok (.istore_n 2, 1) := by decide +kernel
theorem d_Tex_appendBig_7 : decode M_Tex_appendBig.2.1 7 = .ok (.iload_n 2, 1) := by decide +kernel
theorem d_Tex_appendBig_8 : decode M_Tex_appendBig.2.1 8 = .ok (.ifCond .lt 21, 3) := by decide +kernel
theorem d_Tex_appendBig_11 : decode M_Tex_appendBig.2.1 11 = .ok (.aload_n 0, 1) := by decide +kernel
theorem d_Tex_appendBig_12 : decode M_Tex_appendBig.2.1 12 = .ok (.bipush 48, 2) := by decide +kernel
theorem d_Tex_appendBig_14 : decode M_Tex_appendBig.2.1 14 = .ok (.aload_n 1, 1) := by decide +kernel
theorem d_Tex_appendBig_15 : decode M_Tex_appendBig.2.1 15 = .ok (.iload_n 2, 1) := by decide +kernel
theorem d_Tex_appendBig_16 : decode M_Tex_appendBig.2.1 16 = .ok (.invokevirtual 29, 3) := by decide +kernel
theorem d_Tex_appendBig_19 : decode M_Tex_appendBig.2.1 19 = .ok (.iadd, 1) := by decide +kernel
theorem d_Tex_appendBig_20 : decode M_Tex_appendBig.2.1 20 = .ok (.invokevirtual 19, 3) := by decide +kernel
theorem d_Tex_appendBig_23 : decode M_Tex_appendBig.2.1 23 = .ok (.iinc 2 (-1), 3) := by decide +kernel
theorem d_Tex_appendBig_26 : decode M_Tex_appendBig.2.1 26 = .ok (.goto (-19), 3) := by decide +kernel
theorem d_Tex_appendBig_29 : decode M_Tex_appendBig.2.1 29 = .ok (.return_, 1) := by decide +kernel
theorem d_SN_appendWitness_0 : decode M_SN_appendWitness.2.1 0 = .ok (.iload_n 1, 1) := by decide +kernel
theorem d_SN_appendWitness_1 : decode M_SN_appendWitness.2.1 1 = .ok (.ifCond .ne 12, 3) := by decide +kernel
theorem d_SN_appendWitness_4 : decode M_SN_appendWitness.2.1 4 = .ok (.aload_n 0, 1) := by decide +kernel
theorem d_SN_appendWitness_5 : decode M_SN_appendWitness.2.1 5 = .ok (.bipush 115, 2) := by decide +kernel
theorem d_SN_appendWitness_7 : decode M_SN_appendWitness.2.1 7 = .ok (.invokevirtual 390, 3) := by decide +kernel
theorem d_SN_appendWitness_10 : decode M_SN_appendWitness.2.1 10 = .ok (.goto 23, 3) := by decide +kernel
theorem d_SN_appendWitness_13 : decode M_SN_appendWitness.2.1 13 = .ok (.iload_n 1, 1) := by decide +kernel
theorem d_SN_appendWitness_14 : decode M_SN_appendWitness.2.1 14 = .ok (.bipush (-2), 2) := by decide +kernel
theorem d_SN_appendWitness_16 : decode M_SN_appendWitness.2.1 16 = .ok (.if_icmp .ne 12, 3) := by decide +kernel
theorem d_SN_appendWitness_19 : decode M_SN_appendWitness.2.1 19 = .ok (.aload_n 0, 1) := by decide +kernel
theorem d_SN_appendWitness_20 : decode M_SN_appendWitness.2.1 20 = .ok (.bipush 63, 2) := by decide +kernel
theorem d_SN_appendWitness_22 : decode M_SN_appendWitness.2.1 22 = .ok (.invokevirtual 390, 3) := by decide +kernel
theorem d_SN_appendWitness_25 : decode M_SN_appendWitness.2.1 25 = .ok (.goto 8, 3) := by decide +kernel
theorem d_SN_appendWitness_28 : decode M_SN_appendWitness.2.1 28 = .ok (.aload_n 0, 1) := by decide +kernel
theorem d_SN_appendWitness_29 : decode M_SN_appendWitness.2.1 29 = .ok (.iload_n 1, 1) := by decide +kernel
theorem d_SN_appendWitness_30 : decode M_SN_appendWitness.2.1 30 = .ok (.invokevirtual 387, 3) := by decide +kernel
theorem d_SN_appendWitness_33 : decode M_SN_appendWitness.2.1 33 = .ok (.return_, 1) := by decide +kernel
theorem d_SN_octet_0 : decode M_SN_octet.2.1 0 = .ok (.aload_n 0, 1) := by decide +kernel
theorem d_SN_octet_1 : decode M_SN_octet.2.1 1 = .ok (.getfield 56, 3) := by decide +kernel
theorem d_SN_octet_4 : decode M_SN_octet.2.1 4 = .ok (.iload_n 1, 1) := by decide +kernel
theorem d_SN_octet_5 : decode M_SN_octet.2.1 5 = .ok (.invokevirtual 356, 3) := by decide +kernel
theorem d_SN_octet_8 : decode M_SN_octet.2.1 8 = .ok (.ireturn, 1) := by decide +kernel
theorem d_SN_proves_0 : decode M_SN_proves.2.1 0 = .ok (.aload_n 0, 1) := by decide +kernel
theorem d_SN_proves_1 : decode M_SN_proves.2.1 1 = .ok (.aload_n 0, 1) := by decide +kernel
theorem d_SN_proves_2 : decode M_SN_proves.2.1 2 = .ok (.getfield 59, 3) := by decide +kernel
theorem d_SN_proves_5 : decode M_SN_proves.2.1 5 = .ok (.invokevirtual 379, 3) := by decide +kernel
theorem d_SN_proves_8 : decode M_SN_proves.2.1 8 = .ok (.aload_n 0, 1) := by decide +kernel
theorem d_SN_proves_9 : decode M_SN_proves.2.1 9 = .ok (.getfield 59, 3) := by decide +kernel
theorem d_SN_proves_12 : decode M_SN_proves.2.1 12 = .ok (.aload_n 0, 1) := by decide +kernel
theorem d_SN_proves_13 : decode M_SN_proves.2.1 13 = .ok (.getfield 52, 3) := by decide +kernel
theorem d_SN_proves_16 : decode M_SN_proves.2.1 16 = .ok (.invokevirtual 383, 3) := by decide +kernel
theorem d_SN_proves_19 : decode M_SN_proves.2.1 19 = .ok (.istore_n 1, 1) := by decide +kernel
theorem d_SN_proves_20 : decode M_SN_proves.2.1 20 = .ok (.aload_n 0, 1) := by decide +kernel
theorem d_SN_proves_21 : decode M_SN_proves.2.1 21 = .ok (.getfield 52, 3) := by decide +kernel
theorem d_SN_proves_24 : decode M_SN_proves.2.1 24 = .ok (.iconst 0, 1) := by decide +kernel
theorem d_SN_proves_25 : decode M_SN_proves.2.1 25 = .ok (.invokevirtual 347, 3) := by decide +kernel
theorem d_SN_proves_28 : decode M_SN_proves.2.1 28 = .ok (.pop, 1) := by decide +kernel
theorem d_SN_proves_29 : decode M_SN_proves.2.1 29 = .ok (.iload_n 1, 1) := by decide +kernel
theorem d_SN_proves_30 : decode M_SN_proves.2.1 30 = .ok (.ireturn, 1) := by decide +kernel
theorem d_Tex_firstUnlike_0 : decode M_Tex_firstUnlike.2.1 0 = .ok (.iconst 0, 1) := by decide +kernel
theorem d_Tex_firstUnlike_1 : decode M_Tex_firstUnlike.2.1 1 = .ok (.istore_n 2, 1) := by decide +kernel
theorem d_Tex_firstUnlike_2 : decode M_Tex_firstUnlike.2.1 2 = .ok (.iload_n 2, 1) := by decide +kernel
theorem d_Tex_firstUnlike_3 : decode M_Tex_firstUnlike.2.1 3 = .ok (.aload_n 0, 1) := by decide +kernel
theorem d_Tex_firstUnlike_4 : decode M_Tex_firstUnlike.2.1 4 = .ok (.getfield 15, 3) := by decide +kernel
theorem d_Tex_firstUnlike_7 : decode M_Tex_firstUnlike.2.1 7 = .ok (.if_icmp .ge 24, 3) := by decide +kernel
theorem d_Tex_firstUnlike_10 : decode M_Tex_firstUnlike.2.1 10 = .ok (.aload_n 1, 1) := by decide +kernel
theorem d_Tex_firstUnlike_11 : decode M_Tex_firstUnlike.2.1 11 = .ok (.iload_n 2, 1) := by decide +kernel
theorem d_Tex_firstUnlike_12 : decode M_Tex_firstUnlike.2.1 12 = .ok (.invokevirtual 33, 3) := by decide +kernel
theorem d_Tex_firstUnlike_15 : decode M_Tex_firstUnlike.2.1 15 = .ok (.aload_n 0, 1) := by decide +kernel
theorem d_Tex_firstUnlike_16 : decode M_Tex_firstUnlike.2.1 16 = .ok (.iload_n 2, 1) := by decide +kernel
theorem d_Tex_firstUnlike_17 : decode M_Tex_firstUnlike.2.1 17 = .ok (.invokevirtual 33, 3) := by decide +kernel
theorem d_Tex_firstUnlike_20 : decode M_Tex_firstUnlike.2.1 20 = .ok (.if_icmp .eq 5, 3) := by decide +kernel
theorem d_Tex_firstUnlike_23 : decode M_Tex_firstUnlike.2.1 23 = .ok (.iload_n 2, 1) := by decide +kernel
theorem d_Tex_firstUnlike_24 : decode M_Tex_firstUnlike.2.1 24 = .ok (.ireturn, 1) := by decide +kernel
theorem d_Tex_firstUnlike_25 : decode M_Tex_firstUnlike.2.1 25 = .ok (.iinc 2 1, 3) := by decide +kernel
theorem d_Tex_firstUnlike_28 : decode M_Tex_firstUnlike.2.1 28 = .ok (.goto (-26), 3) := by decide +kernel
theorem d_Tex_firstUnlike_31 : decode M_Tex_firstUnlike.2.1 31 = .ok (.aload_n 1, 1) := by decide +kernel
theorem d_Tex_firstUnlike_32 : decode M_Tex_firstUnlike.2.1 32 = .ok (.getfield 15, 3) := by decide +kernel
theorem d_Tex_firstUnlike_35 : decode M_Tex_firstUnlike.2.1 35 = .ok (.aload_n 0, 1) := by decide +kernel
theorem d_Tex_firstUnlike_36 : decode M_Tex_firstUnlike.2.1 36 = .ok (.getfield 15, 3) := by decide +kernel
theorem d_Tex_firstUnlike_39 : decode M_Tex_firstUnlike.2.1 39 = .ok (.if_icmp .le 10, 3) := by decide +kernel
theorem d_Tex_firstUnlike_42 : decode M_Tex_firstUnlike.2.1 42 = .ok (.aload_n 0, 1) := by decide +kernel
theorem d_Tex_firstUnlike_43 : decode M_Tex_firstUnlike.2.1 43 = .ok (.getfield 15, 3) := by decide +kernel
theorem d_Tex_firstUnlike_46 : decode M_Tex_firstUnlike.2.1 46 = .ok (.goto 4, 3) := by decide +kernel
theorem d_Tex_firstUnlike_49 : decode M_Tex_firstUnlike.2.1 49 = .ok (.iconst (-1), 1) := by decide +kernel
theorem d_Tex_firstUnlike_50 : decode M_Tex_firstUnlike.2.1 50 = .ok (.ireturn, 1) := by decide +kernel
theorem d_Ref_init_0 : decode M_Ref_init.2.1 0 = .ok (.aload_n 0, 1) := by decide +kernel
theorem d_Ref_init_1 : decode M_Ref_init.2.1 1 = .ok (.invokespecial 3, 3) := by decide +kernel
theorem d_Ref_init_4 : decode M_Ref_init.2.1 4 = .ok (.aload_n 0, 1) := by decide +kernel
theorem d_Ref_init_5 : decode M_Ref_init.2.1 5 = .ok (.bipush 7, 2) := by decide +kernel
theorem d_Ref_init_7 : decode M_Ref_init.2.1 7 = .ok (.newarray .int, 2) := by decide +kernel
theorem d_Ref_init_9 : decode M_Ref_init.2.1 9 = .ok (.dup, 1) := by decide +kernel
theorem d_Ref_init_10 : decode M_Ref_init.2.1 10 = .ok (.iconst 0, 1) := by decide +kernel
theorem d_Ref_init_11 : decode M_Ref_init.2.1 11 = .ok (.iconst 2, 1) := by decide +kernel
theorem d_Ref_init_12 : decode M_Ref_init.2.1 12 = .ok (.iastore, 1) := by decide +kernel
theorem d_Ref_init_13 : decode M_Ref_init.2.1 13 = .ok (.dup, 1) := by decide +kernel
theorem d_Ref_init_14 : decode M_Ref_init.2.1 14 = .ok (.iconst 1, 1) := by decide +kernel
theorem d_Ref_init_15 : decode M_Ref_init.2.1 15 = .ok (.iconst 3, 1) := by decide +kernel
theorem d_Ref_init_16 : decode M_Ref_init.2.1 16 = .ok (.iastore, 1) := by decide +kernel
theorem d_Ref_init_17 : decode M_Ref_init.2.1 17 = .ok (.dup, 1) := by decide +kernel
theorem d_Ref_init_18 : decode M_Ref_init.2.1 18 = .ok (.iconst 2, 1) := by decide +kernel
theorem d_Ref_init_19 : decode M_Ref_init.2.1 19 = .ok (.iconst 5, 1) := by decide +kernel
theorem d_Ref_init_20 : decode M_Ref_init.2.1 20 = .ok (.iastore, 1) := by decide +kernel
theorem d_Ref_init_21 : decode M_Ref_init.2.1 21 = .ok (.dup, 1) := by decide +kernel
theorem d_Ref_init_22 : decode M_Ref_init.2.1 22 = .ok (.iconst 3, 1) := by decide +kernel
theorem d_Ref_init_23 : decode M_Ref_init.2.1 23 = .ok (.bipush 7, 2) := by decide +kernel
theorem d_Ref_init_25 : decode M_Ref_init.2.1 25 = .ok (.iastore, 1) := by decide +kernel
theorem d_Ref_init_26 : decode M_Ref_init.2.1 26 = .ok (.dup, 1) := by decide +kernel
theorem d_Ref_init_27 : decode M_Ref_init.2.1 27 = .ok (.iconst 4, 1) := by decide +kernel
theorem d_Ref_init_28 : decode M_Ref_init.2.1 28 = .ok (.bipush 11, 2) := by decide +kernel
theorem d_Ref_init_30 : decode M_Ref_init.2.1 30 = .ok (.iastore, 1) := by decide +kernel
theorem d_Ref_init_31 : decode M_Ref_init.2.1 31 = .ok (.dup, 1) := by decide +kernel
theorem d_Ref_init_32 : decode M_Ref_init.2.1 32 = .ok (.iconst 5, 1) := by decide +kernel
theorem d_Ref_init_33 : decode M_Ref_init.2.1 33 = .ok (.bipush 13, 2) := by decide +kernel
theorem d_Ref_init_35 : decode M_Ref_init.2.1 35 = .ok (.iastore, 1) := by decide +kernel
theorem d_Ref_init_36 : decode M_Ref_init.2.1 36 = .ok (.dup, 1) := by decide +kernel
theorem d_Ref_init_37 : decode M_Ref_init.2.1 37 = .ok (.bipush 6, 2) := by decide +kernel
theorem d_Ref_init_39 : decode M_Ref_init.2.1 39 = .ok (.bipush 17, 2) := by decide +kernel
theorem d_Ref_init_41 : decode M_Ref_init.2.1 41 = .ok (.iastore, 1) := by decide +kernel
theorem d_Ref_init_42 : decode M_Ref_init.2.1 42 = .ok (.putfield 9, 3) := by decide +kernel
theorem d_Ref_init_45 : decode M_Ref_init.2.1 45 = .ok (.aload_n 0, 1) := by decide +kernel
theorem d_Ref_init_46 : decode M_Ref_init.2.1 46 = .ok (.sipush 17160, 3) := by decide +kernel
theorem d_Ref_init_49 : decode M_Ref_init.2.1 49 = .ok (.newarray .int, 2) := by decide +kernel
theorem d_Ref_init_51 : decode M_Ref_init.2.1 51 = .ok (.putfield 13, 3) := by decide +kernel
theorem d_Ref_init_54 : decode M_Ref_init.2.1 54 = .ok (.aload_n 0, 1) := by decide +kernel
theorem d_Ref_init_55 : decode M_Ref_init.2.1 55 = .ok (.bipush 63, 2) := by decide +kernel
theorem d_Ref_init_57 : decode M_Ref_init.2.1 57 = .ok (.newarray .int, 2) := by decide +kernel
theorem d_Ref_init_59 : decode M_Ref_init.2.1 59 = .ok (.putfield 16, 3) := by decide +kernel
theorem d_Ref_init_62 : decode M_Ref_init.2.1 62 = .ok (.aload_n 0, 1) := by decide +kernel
theorem d_Ref_init_63 : decode M_Ref_init.2.1 63 = .ok (.bipush 63, 2) := by decide +kernel
theorem d_Ref_init_65 : decode M_Ref_init.2.1 65 = .ok (.newarray .int, 2) := by decide +kernel
theorem d_Ref_init_67 : decode M_Ref_init.2.1 67 = .ok (.putfield 19, 3) := by decide +kernel
theorem d_Ref_init_70 : decode M_Ref_init.2.1 70 = .ok (.aload_n 0, 1) := by decide +kernel
theorem d_Ref_init_71 : decode M_Ref_init.2.1 71 = .ok (.bipush 63, 2) := by decide +kernel
theorem d_Ref_init_73 : decode M_Ref_init.2.1 73 = .ok (.newarray .int, 2) := by decide +kernel
theorem d_Ref_init_75 : decode M_Ref_init.2.1 75 = .ok (.putfield 22, 3) := by decide +kernel
theorem d_Ref_init_78 : decode M_Ref_init.2.1 78 = .ok (.aload_n 0, 1) := by decide +kernel
theorem d_Ref_init_79 : decode M_Ref_init.2.1 79 = .ok (.bipush 63, 2) := by decide +kernel
theorem d_Ref_init_81 : decode M_Ref_init.2.1 81 = .ok (.newarray .int, 2) := by decide +kernel
theorem d_Ref_init_83 : decode M_Ref_init.2.1 83 = .ok (.putfield 25, 3) := by decide +kernel
theorem d_Ref_init_86 : decode M_Ref_init.2.1 86 = .ok (.aload_n 0, 1) := by decide +kernel
theorem d_Ref_init_87 : decode M_Ref_init.2.1 87 = .ok (.sipush 288, 3) := by decide +kernel
theorem d_Ref_init_90 : decode M_Ref_init.2.1 90 = .ok (.newarray .int, 2) := by decide +kernel
theorem d_Ref_init_92 : decode M_Ref_init.2.1 92 = .ok (.putfield 28, 3) := by decide +kernel
theorem d_Ref_init_95 : decode M_Ref_init.2.1 95 = .ok (.aload_n 0, 1) := by decide +kernel
theorem d_Ref_init_96 : decode M_Ref_init.2.1 96 = .ok (.sipush 288, 3) := by decide +kernel
theorem d_Ref_init_99 : decode M_Ref_init.2.1 99 = .ok (.newarray .int, 2) := by decide +kernel
theorem d_Ref_init_101 : decode M_Ref_init.2.1 101 = .ok (.putfield 31, 3) := by decide +kernel
theorem d_Ref_init_104 : decode M_Ref_init.2.1 104 = .ok (.aload_n 0, 1) := by decide +kernel
theorem d_Ref_init_105 : decode M_Ref_init.2.1 105 = .ok (.sipush 288, 3) := by decide +kernel
theorem d_Ref_init_108 : decode M_Ref_init.2.1 108 = .ok (.newarray .int, 2) := by decide +kernel
theorem d_Ref_init_110 : decode M_Ref_init.2.1 110 = .ok (.putfield 34, 3) := by decide +kernel
theorem d_Ref_init_113 : decode M_Ref_init.2.1 113 = .ok (.aload_n 0, 1) := by decide +kernel
theorem d_Ref_init_114 : decode M_Ref_init.2.1 114 = .ok (.sipush 288, 3) := by decide +kernel
theorem d_Ref_init_117 : decode M_Ref_init.2.1 117 = .ok (.newarray .int, 2) := by decide +kernel
theorem d_Ref_init_119 : decode M_Ref_init.2.1 119 = .ok (.putfield 37, 3) := by decide +kernel
theorem d_Ref_init_122 : decode M_Ref_init.2.1 122 = .ok (.aload_n 0, 1) := by decide +kernel
theorem d_Ref_init_123 : decode M_Ref_init.2.1 123 = .ok (.sipush 288, 3) := by decide +kernel
theorem d_Ref_init_126 : decode M_Ref_init.2.1 126 = .ok (.newarray .int, 2) := by decide +kernel
theorem d_Ref_init_128 : decode M_Ref_init.2.1 128 = .ok (.putfield 40, 3) := by decide +kernel
theorem d_Ref_init_131 : decode M_Ref_init.2.1 131 = .ok (.aload_n 0, 1) := by decide +kernel
theorem d_Ref_init_132 : decode M_Ref_init.2.1 132 = .ok (.sipush 288, 3) := by decide +kernel
theorem d_Ref_init_135 : decode M_Ref_init.2.1 135 = .ok (.newarray .int, 2) := by decide +kernel
theorem d_Ref_init_137 : decode M_Ref_init.2.1 137 = .ok (.putfield 43, 3) := by decide +kernel
theorem d_Ref_init_140 : decode M_Ref_init.2.1 140 = .ok (.aload_n 0, 1) := by decide +kernel
theorem d_Ref_init_141 : decode M_Ref_init.2.1 141 = .ok (.sipush 2016, 3) := by decide +kernel
theorem d_Ref_init_144 : decode M_Ref_init.2.1 144 = .ok (.newarray .int, 2) := by decide +kernel
theorem d_Ref_init_146 : decode M_Ref_init.2.1 146 = .ok (.putfield 46, 3) := by decide +kernel
theorem d_Ref_init_149 : decode M_Ref_init.2.1 149 = .ok (.aload_n 0, 1) := by decide +kernel
theorem d_Ref_init_150 : decode M_Ref_init.2.1 150 = .ok (.sipush 3001, 3) := by decide +kernel
theorem d_Ref_init_153 : decode M_Ref_init.2.1 153 = .ok (.newarray .int, 2) := by decide +kernel
theorem d_Ref_init_155 : decode M_Ref_init.2.1 155 = .ok (.putfield 49, 3) := by decide +kernel
theorem d_Ref_init_158 : decode M_Ref_init.2.1 158 = .ok (.aload_n 0, 1) := by decide +kernel
theorem d_Ref_init_159 : decode M_Ref_init.2.1 159 = .ok (.ldc 52, 2) := by decide +kernel
theorem d_Ref_init_161 : decode M_Ref_init.2.1 161 = .ok (.newarray .int, 2) := by decide +kernel
theorem d_Ref_init_163 : decode M_Ref_init.2.1 163 = .ok (.putfield 53, 3) := by decide +kernel
theorem d_Ref_init_166 : decode M_Ref_init.2.1 166 = .ok (.aload_n 0, 1) := by decide +kernel
theorem d_Ref_init_167 : decode M_Ref_init.2.1 167 = .ok (.bipush 7, 2) := by decide +kernel
theorem d_Ref_init_169 : decode M_Ref_init.2.1 169 = .ok (.newarray .int, 2) := by decide +kernel
theorem d_Ref_init_171 : decode M_Ref_init.2.1 171 = .ok (.putfield 56, 3) := by decide +kernel
theorem d_Ref_init_174 : decode M_Ref_init.2.1 174 = .ok (.aload_n 0, 1) := by decide +kernel
theorem d_Ref_init_175 : decode M_Ref_init.2.1 175 = .ok (.sipush 2000, 3) := by decide +kernel
theorem d_Ref_init_178 : decode M_Ref_init.2.1 178 = .ok (.newarray .byte, 2) := by decide +kernel
theorem d_Ref_init_180 : decode M_Ref_init.2.1 180 = .ok (.putfield 59, 3) := by decide +kernel
theorem d_Ref_init_183 : decode M_Ref_init.2.1 183 = .ok (.aload_n 0, 1) := by decide +kernel
theorem d_Ref_init_184 : decode M_Ref_init.2.1 184 = .ok (.sipush 2000, 3) := by decide +kernel
theorem d_Ref_init_187 : decode M_Ref_init.2.1 187 = .ok (.newarray .byte, 2) := by decide +kernel
theorem d_Ref_init_189 : decode M_Ref_init.2.1 189 = .ok (.putfield 63, 3) := by decide +kernel
theorem d_Ref_init_192 : decode M_Ref_init.2.1 192 = .ok (.aload_n 0, 1) := by decide +kernel
theorem d_Ref_init_193 : decode M_Ref_init.2.1 193 = .ok (.sipush 2000, 3) := by decide +kernel
theorem d_Ref_init_196 : decode M_Ref_init.2.1 196 = .ok (.newarray .byte, 2) := by decide +kernel
theorem d_Ref_init_198 : decode M_Ref_init.2.1 198 = .ok (.putfield 66, 3) := by decide +kernel
theorem d_Ref_init_201 : decode M_Ref_init.2.1 201 = .ok (.aload_n 0, 1) := by decide +kernel
theorem d_Ref_init_202 : decode M_Ref_init.2.1 202 = .ok (.sipush 131, 3) := by decide +kernel
theorem d_Ref_init_205 : decode M_Ref_init.2.1 205 = .ok (.iconst 1, 1) := by decide +kernel
theorem d_Ref_init_206 : decode M_Ref_init.2.1 206 = .ok (.invokevirtual 69, 3) := by decide +kernel
theorem d_Ref_init_209 : decode M_Ref_init.2.1 209 = .ok (.aload_n 0, 1) := by decide +kernel
theorem d_Ref_init_210 : decode M_Ref_init.2.1 210 = .ok (.iconst 3, 1) := by decide +kernel
theorem d_Ref_init_211 : decode M_Ref_init.2.1 211 = .ok (.invokevirtual 73, 3) := by decide +kernel
theorem d_Ref_init_214 : decode M_Ref_init.2.1 214 = .ok (.return_, 1) := by decide +kernel
theorem d_Ref_setSmall_0 : decode M_Ref_setSmall.2.1 0 = .ok (.iconst 0, 1) := by decide +kernel
theorem d_Ref_setSmall_1 : decode M_Ref_setSmall.2.1 1 = .ok (.istore_n 3, 1) := by decide +kernel
theorem d_Ref_setSmall_2 : decode M_Ref_setSmall.2.1 2 = .ok (.iload_n 2, 1) := by decide +kernel
theorem d_Ref_setSmall_3 : decode M_Ref_setSmall.2.1 3 = .ok (.istore 4, 2) := by decide +kernel
theorem d_Ref_setSmall_5 : decode M_Ref_setSmall.2.1 5 = .ok (.iload 4, 2) := by decide +kernel
theorem d_Ref_setSmall_7 : decode M_Ref_setSmall.2.1 7 = .ok (.ifCond .le 35, 3) := by decide +kernel
theorem d_Ref_setSmall_10 : decode M_Ref_setSmall.2.1 10 = .ok (.iinc 3 1, 3) := by decide +kernel
theorem d_Ref_setSmall_13 : decode M_Ref_setSmall.2.1 13 = .ok (.aload_n 0, 1) := by decide +kernel
theorem d_Ref_setSmall_14 : decode M_Ref_setSmall.2.1 14 = .ok (.getfield 13, 3) := by decide +kernel
theorem d_Ref_setSmall_17 : decode M_Ref_setSmall.2.1 17 = .ok (.sipush 130, 3) := by decide +kernel
theorem d_Ref_setSmall_20 : decode M_Ref_setSmall.2.1 20 = .ok (.iload_n 1, 1) := by decide +kernel
theorem d_Ref_setSmall_21 : decode M_Ref_setSmall.2.1 21 = .ok (.imul, 1) := by decide +kernel
theorem d_Ref_setSmall_22 : decode M_Ref_setSmall.2.1 22 = .ok (.iload_n 3, 1) := by decide +kernel
theorem d_Ref_setSmall_23 : decode M_Ref_setSmall.2.1 23 = .ok (.iadd, 1) := by decide +kernel
theorem d_Ref_setSmall_24 : decode M_Ref_setSmall.2.1 24 = .ok (.iload 4, 2) := by decide +kernel
theorem d_Ref_setSmall_26 : decode M_Ref_setSmall.2.1 26 = .ok (.sipush 10000, 3) := by decide +kernel
theorem d_Ref_setSmall_29 : decode M_Ref_setSmall.2.1 29 = .ok (.irem, 1) := by decide +kernel
theorem d_Ref_setSmall_30 : decode M_Ref_setSmall.2.1 30 = .ok (.iastore, 1) := by decide +kernel
theorem d_Ref_setSmall_31 : decode M_Ref_setSmall.2.1 31 = .ok (.iload 4, 2) := by decide +kernel
theorem d_Ref_setSmall_33 : decode M_Ref_setSmall.2.1 33 = .ok (.sipush 10000, 3) := by decide +kernel
theorem d_Ref_setSmall_36 : decode M_Ref_setSmall.2.1 36 = .ok (.idiv, 1) := by decide +kernel
theorem d_Ref_setSmall_37 : decode M_Ref_setSmall.2.1 37 = .ok (.istore 4, 2) := by decide +kernel
theorem d_Ref_setSmall_39 : decode M_Ref_setSmall.2.1 39 = .ok (.goto (-34), 3) := by decide +kernel
theorem d_Ref_setSmall_42 : decode M_Ref_setSmall.2.1 42 = .ok (.aload_n 0, 1) := by decide +kernel
theorem d_Ref_setSmall_43 : decode M_Ref_setSmall.2.1 43 = .ok (.getfield 13, 3) := by decide +kernel
theorem d_Ref_setSmall_46 : decode M_Ref_setSmall.2.1 46 = .ok (.sipush 130, 3) := by decide +kernel
theorem d_Ref_setSmall_49 : decode M_Ref_setSmall.2.1 49 = .ok (.iload_n 1, 1) := by decide +kernel
theorem d_Ref_setSmall_50 : decode M_Ref_setSmall.2.1 50 = .ok (.imul, 1) := by decide +kernel
theorem d_Ref_setSmall_51 : decode M_Ref_setSmall.2.1 51 = .ok (.iload_n 3, 1) := by decide +kernel
theorem d_Ref_setSmall_52 : decode M_Ref_setSmall.2.1 52 = .ok (.iastore, 1) := by decide +kernel
theorem d_Ref_setSmall_53 : decode M_Ref_setSmall.2.1 53 = .ok (.return_, 1) := by decide +kernel
theorem d_Ref_layAll_0 : decode M_Ref_layAll.2.1 0 = .ok (.aload_n 0, 1) := by decide +kernel
theorem d_Ref_layAll_1 : decode M_Ref_layAll.2.1 1 = .ok (.iload_n 1, 1) := by decide +kernel
theorem d_Ref_layAll_2 : decode M_Ref_layAll.2.1 2 = .ok (.putfield 81, 3) := by decide +kernel
theorem d_Ref_layAll_5 : decode M_Ref_layAll.2.1 5 = .ok (.aload_n 0, 1) := by decide +kernel
theorem d_Ref_layAll_6 : decode M_Ref_layAll.2.1 6 = .ok (.aload_n 0, 1) := by decide +kernel
theorem d_Ref_layAll_7 : decode M_Ref_layAll.2.1 7 = .ok (.iconst 0, 1) := by decide +kernel
theorem d_Ref_layAll_8 : decode M_Ref_layAll.2.1 8 = .ok (.iconst 1, 1) := by decide +kernel
theorem d_Ref_layAll_9 : decode M_Ref_layAll.2.1 9 = .ok (.invokevirtual 192, 3) := by decide +kernel
theorem d_Ref_layAll_12 : decode M_Ref_layAll.2.1 12 = .ok (.putfield 195, 3) := by decide +kernel
theorem d_Ref_layAll_15 : decode M_Ref_layAll.2.1 15 = .ok (.aload_n 0, 1) := by decide +kernel
theorem d_Ref_layAll_16 : decode M_Ref_layAll.2.1 16 = .ok (.aload_n 0, 1) := by decide +kernel
theorem d_Ref_layAll_17 : decode M_Ref_layAll.2.1 17 = .ok (.bipush 32, 2) := by decide +kernel
theorem d_Ref_layAll_19 : decode M_Ref_layAll.2.1 19 = .ok (.iconst 0, 1) := by decide +kernel
theorem d_Ref_layAll_20 : decode M_Ref_layAll.2.1 20 = .ok (.invokevirtual 192, 3) := by decide +kernel
theorem d_Ref_layAll_23 : decode M_Ref_layAll.2.1 23 = .ok (.putfield 198, 3) := by decide +kernel
theorem d_Ref_layAll_26 : decode M_Ref_layAll.2.1 26 = .ok (.aload_n 0, 1) := by decide +kernel
theorem d_Ref_layAll_27 : decode M_Ref_layAll.2.1 27 = .ok (.iconst 0, 1) := by decide +kernel
theorem d_Ref_layAll_28 : decode M_Ref_layAll.2.1 28 = .ok (.putfield 167, 3) := by decide +kernel
theorem d_Ref_layAll_31 : decode M_Ref_layAll.2.1 31 = .ok (.aload_n 0, 1) := by decide +kernel
theorem d_Ref_layAll_32 : decode M_Ref_layAll.2.1 32 = .ok (.iconst 0, 1) := by decide +kernel
theorem d_Ref_layAll_33 : decode M_Ref_layAll.2.1 33 = .ok (.putfield 170, 3) := by decide +kernel
theorem d_Ref_layAll_36 : decode M_Ref_layAll.2.1 36 = .ok (.iconst 0, 1) := by decide +kernel
theorem d_Ref_layAll_37 : decode M_Ref_layAll.2.1 37 = .ok (.istore_n 2, 1) := by decide +kernel
theorem d_Ref_layAll_38 : decode M_Ref_layAll.2.1 38 = .ok (.iload_n 2, 1) := by decide +kernel
theorem d_Ref_layAll_39 : decode M_Ref_layAll.2.1 39 = .ok (.aload_n 0, 1) := by decide +kernel
theorem d_Ref_layAll_40 : decode M_Ref_layAll.2.1 40 = .ok (.getfield 195, 3) := by decide +kernel
theorem d_Ref_layAll_43 : decode M_Ref_layAll.2.1 43 = .ok (.if_icmp .ge 14, 3) := by decide +kernel
theorem d_Ref_layAll_46 : decode M_Ref_layAll.2.1 46 = .ok (.aload_n 0, 1) := by decide +kernel
theorem d_Ref_layAll_47 : decode M_Ref_layAll.2.1 47 = .ok (.iload_n 2, 1) := by decide +kernel
theorem d_Ref_layAll_48 : decode M_Ref_layAll.2.1 48 = .ok (.invokevirtual 201, 3) := by decide +kernel
theorem d_Ref_layAll_51 : decode M_Ref_layAll.2.1 51 = .ok (.iinc 2 1, 3) := by decide +kernel
theorem d_Ref_layAll_54 : decode M_Ref_layAll.2.1 54 = .ok (.goto (-16), 3) := by decide +kernel
theorem d_Ref_layAll_57 : decode M_Ref_layAll.2.1 57 = .ok (.bipush 32, 2) := by decide +kernel
theorem d_Ref_layAll_59 : decode M_Ref_layAll.2.1 59 = .ok (.istore_n 2, 1) := by decide +kernel
theorem d_Ref_layAll_60 : decode M_Ref_layAll.2.1 60 = .ok (.iload_n 2, 1) := by decide +kernel
theorem d_Ref_layAll_61 : decode M_Ref_layAll.2.1 61 = .ok (.bipush 32, 2) := by decide +kernel
theorem d_Ref_layAll_63 : decode M_Ref_layAll.2.1 63 = .ok (.aload_n 0, 1) := by decide +kernel
theorem d_Ref_layAll_64 : decode M_Ref_layAll.2.1 64 = .ok (.getfield 198, 3) := by decide +kernel
theorem d_Ref_layAll_67 : decode M_Ref_layAll.2.1 67 = .ok (.iadd, 1) := by decide +kernel
theorem d_Ref_layAll_68 : decode M_Ref_layAll.2.1 68 = .ok (.if_icmp .ge 14, 3) := by decide +kernel
theorem d_Ref_layAll_71 : decode M_Ref_layAll.2.1 71 = .ok (.aload_n 0, 1) := by decide +kernel
theorem d_Ref_layAll_72 : decode M_Ref_layAll.2.1 72 = .ok (.iload_n 2, 1) := by decide +kernel
theorem d_Ref_layAll_73 : decode M_Ref_layAll.2.1 73 = .ok (.invokevirtual 201, 3) := by decide +kernel
theorem d_Ref_layAll_76 : decode M_Ref_layAll.2.1 76 = .ok (.iinc 2 1, 3) := by decide +kernel
theorem d_Ref_layAll_79 : decode M_Ref_layAll.2.1 79 = .ok (.goto (-19), 3) := by decide +kernel
theorem d_Ref_layAll_82 : decode M_Ref_layAll.2.1 82 = .ok (.return_, 1) := by decide +kernel
theorem d_Ref_layProducts_0 : decode M_Ref_layProducts.2.1 0 = .ok (.iconst 0, 1) := by decide +kernel
theorem d_Ref_layProducts_1 : decode M_Ref_layProducts.2.1 1 = .ok (.istore_n 3, 1) := by decide +kernel
theorem d_Ref_layProducts_2 : decode M_Ref_layProducts.2.1 2 = .ok (.iconst 0, 1) := by decide +kernel
theorem d_Ref_layProducts_3 : decode M_Ref_layProducts.2.1 3 = .ok (.istore 4, 2) := by decide +kernel
theorem d_Ref_layProducts_5 : decode M_Ref_layProducts.2.1 5 = .ok (.iload 4, 2) := by decide +kernel
theorem d_Ref_layProducts_7 : decode M_Ref_layProducts.2.1 7 = .ok (.sipush 128, 3) := by decide +kernel
theorem d_Ref_layProducts_10 : decode M_Ref_layProducts.2.1 10 = .ok (.if_icmp .ge 97, 3) := by decide +kernel
theorem d_Ref_layProducts_13 : decode M_Ref_layProducts.2.1 13 = .ok (.iload 4, 2) := by decide +kernel
theorem d_Ref_layProducts_15 : decode M_Ref_layProducts.2.1 15 = .ok (.aload_n 0, 1) := by decide +kernel
theorem d_Ref_layProducts_16 : decode M_Ref_layProducts.2.1 16 = .ok (.getfield 81, 3) := by decide +kernel
theorem d_Ref_layProducts_19 : decode M_Ref_layProducts.2.1 19 = .ok (.iconst (-1), 1) := by decide +kernel
theorem d_Ref_layProducts_20 : decode M_Ref_layProducts.2.1 20 = .ok (.ixor, 1) := by decide +kernel
theorem d_Ref_layProducts_21 : decode M_Ref_layProducts.2.1 21 = .ok (.iand, 1) := by decide +kernel
theorem d_Ref_layProducts_22 : decode M_Ref_layProducts.2.1 22 = .ok (.ifCond .ne 79, 3) := by decide +kernel
theorem d_Ref_layProducts_25 : decode M_Ref_layProducts.2.1 25 = .ok (.iload 4, 2) := by decide +kernel
theorem d_Ref_layProducts_27 : decode M_Ref_layProducts.2.1 27 = .ok (.iload_n 2, 1) := by decide +kernel
theorem d_Ref_layProducts_28 : decode M_Ref_layProducts.2.1 28 = .ok (.if_icmp .ne 6, 3) := by decide +kernel
theorem d_Ref_layProducts_31 : decode M_Ref_layProducts.2.1 31 = .ok (.goto 70, 3) := by decide +kernel
theorem d_Ref_layProducts_34 : decode M_Ref_layProducts.2.1 34 = .ok (.aload_n 0, 1) := by decide +kernel
theorem d_Ref_layProducts_35 : decode M_Ref_layProducts.2.1 35 = .ok (.iload 4, 2) := by decide +kernel
theorem d_Ref_layProducts_37 : decode M_Ref_layProducts.2.1 37 = .ok (.invokevirtual 137, 3) := by decide +kernel
theorem d_Ref_layProducts_40 : decode M_Ref_layProducts.2.1 40 = .ok (.istore 5, 2) := by decide +kernel
theorem d_Ref_layProducts_42 : decode M_Ref_layProducts.2.1 42 = .ok (.iload_n 1, 1) := by decide +kernel
theorem d_Ref_layProducts_43 : decode M_Ref_layProducts.2.1 43 = .ok (.iload_n 3, 1) := by decide +kernel
theorem d_Ref_layProducts_44 : decode M_Ref_layProducts.2.1 44 = .ok (.iadd, 1) := by decide +kernel
theorem d_Ref_layProducts_45 : decode M_Ref_layProducts.2.1 45 = .ok (.istore 6, 2) := by decide +kernel
theorem d_Ref_layProducts_47 : decode M_Ref_layProducts.2.1 47 = .ok (.iload 6, 2) := by decide +kernel
theorem d_Ref_layProducts_49 : decode M_Ref_layProducts.2.1 49 = .ok (.iload_n 1, 1) := by decide +kernel
theorem d_Ref_layProducts_50 : decode M_Ref_layProducts.2.1 50 = .ok (.if_icmp .le 39, 3) := by decide +kernel
theorem d_Ref_layProducts_53 : decode M_Ref_layProducts.2.1 53 = .ok (.aload_n 0, 1) := by decide +kernel
theorem d_Ref_layProducts_54 : decode M_Ref_layProducts.2.1 54 = .ok (.getfield 16, 3) := by decide +kernel
theorem d_Ref_layProducts_57 : decode M_Ref_layProducts.2.1 57 = .ok (.iload 6, 2) := by decide +kernel
theorem d_Ref_layProducts_59 : decode M_Ref_layProducts.2.1 59 = .ok (.iconst 1, 1) := by decide +kernel
theorem d_Ref_layProducts_60 : decode M_Ref_layProducts.2.1 60 = .ok (.isub, 1) := by decide +kernel
theorem d_Ref_layProducts_61 : decode M_Ref_layProducts.2.1 61 = .ok (.iaload, 1) := by decide +kernel
theorem d_Ref_layProducts_62 : decode M_Ref_layProducts.2.1 62 = .ok (.iload 5, 2) := by decide +kernel
theorem d_Ref_layProducts_64 : decode M_Ref_layProducts.2.1 64 = .ok (.if_icmp .le 25, 3) := by decide +kernel
theorem d_Ref_layProducts_67 : decode M_Ref_layProducts.2.1 67 = .ok (.aload_n 0, 1) := by decide +kernel
theorem d_Ref_layProducts_68 : decode M_Ref_layProducts.2.1 68 = .ok (.getfield 16, 3) := by decide +kernel
theorem d_Ref_layProducts_71 : decode M_Ref_layProducts.2.1 71 = .ok (.iload 6, 2) := by decide +kernel
theorem d_Ref_layProducts_73 : decode M_Ref_layProducts.2.1 73 = .ok (.aload_n 0, 1) := by decide +kernel
theorem d_Ref_layProducts_74 : decode M_Ref_layProducts.2.1 74 = .ok (.getfield 16, 3) := by decide +kernel
theorem d_Ref_layProducts_77 : decode M_Ref_layProducts.2.1 77 = .ok (.iload 6, 2) := by decide +kernel
theorem d_Ref_layProducts_79 : decode M_Ref_layProducts.2.1 79 = .ok (.iconst 1, 1) := by decide +kernel
theorem d_Ref_layProducts_80 : decode M_Ref_layProducts.2.1 80 = .ok (.isub, 1) := by decide +kernel
theorem d_Ref_layProducts_81 : decode M_Ref_layProducts.2.1 81 = .ok (.iaload, 1) := by decide +kernel
theorem d_Ref_layProducts_82 : decode M_Ref_layProducts.2.1 82 = .ok (.iastore, 1) := by decide +kernel
theorem d_Ref_layProducts_83 : decode M_Ref_layProducts.2.1 83 = .ok (.iinc 6 (-1), 3) := by decide +kernel
theorem d_Ref_layProducts_86 : decode M_Ref_layProducts.2.1 86 = .ok (.goto (-39), 3) := by decide +kernel
theorem d_Ref_layProducts_89 : decode M_Ref_layProducts.2.1 89 = .ok (.aload_n 0, 1) := by decide +kernel
theorem d_Ref_layProducts_90 : decode M_Ref_layProducts.2.1 90 = .ok (.getfield 16, 3) := by decide +kernel
theorem d_Ref_layProducts_93 : decode M_Ref_layProducts.2.1 93 = .ok (.iload 6, 2) := by decide +kernel
theorem d_Ref_layProducts_95 : decode M_Ref_layProducts.2.1 95 = .ok (.iload 5, 2) := by decide +kernel
theorem d_Ref_layProducts_97 : decode M_Ref_layProducts.2.1 97 = .ok (.iastore, 1) := by decide +kernel
theorem d_Ref_layProducts_98 : decode M_Ref_layProducts.2.1 98 = .ok (.iinc 3 1, 3) := by decide +kernel
theorem d_Ref_layProducts_101 : decode M_Ref_layProducts.2.1 101 = .ok (.iinc 4 1, 3) := by decide +kernel
theorem d_Ref_layProducts_104 : decode M_Ref_layProducts.2.1 104 = .ok (.goto (-99), 3) := by decide +kernel
theorem d_Ref_layProducts_107 : decode M_Ref_layProducts.2.1 107 = .ok (.iload_n 1, 1) := by decide +kernel
theorem d_Ref_layProducts_108 : decode M_Ref_layProducts.2.1 108 = .ok (.istore 4, 2) := by decide +kernel
theorem d_Ref_layProducts_110 : decode M_Ref_layProducts.2.1 110 = .ok (.iload 4, 2) := by decide +kernel
theorem d_Ref_layProducts_112 : decode M_Ref_layProducts.2.1 112 = .ok (.iload_n 1, 1) := by decide +kernel
theorem d_Ref_layProducts_113 : decode M_Ref_layProducts.2.1 113 = .ok (.iload_n 3, 1) := by decide +kernel
theorem d_Ref_layProducts_114 : decode M_Ref_layProducts.2.1 114 = .ok (.iadd, 1) := by decide +kernel
theorem d_Ref_layProducts_115 : decode M_Ref_layProducts.2.1 115 = .ok (.if_icmp .ge 15, 3) := by decide +kernel
theorem d_Ref_layProducts_118 : decode M_Ref_layProducts.2.1 118 = .ok (.aload_n 0, 1) := by decide +kernel
theorem d_Ref_layProducts_119 : decode M_Ref_layProducts.2.1 119 = .ok (.iload 4, 2) := by decide +kernel
theorem d_Ref_layProducts_121 : decode M_Ref_layProducts.2.1 121 = .ok (.invokevirtual 140, 3) := by decide +kernel
theorem d_Ref_layProducts_124 : decode M_Ref_layProducts.2.1 124 = .ok (.iinc 4 1, 3) := by decide +kernel
theorem d_Ref_layProducts_127 : decode M_Ref_layProducts.2.1 127 = .ok (.goto (-17), 3) := by decide +kernel
theorem d_Ref_layProducts_130 : decode M_Ref_layProducts.2.1 130 = .ok (.iload_n 3, 1) := by decide +kernel
theorem d_Ref_layProducts_131 : decode M_Ref_layProducts.2.1 131 = .ok (.ireturn, 1) := by decide +kernel
theorem d_Ref_radicalOf_0 : decode M_Ref_radicalOf.2.1 0 = .ok (.iconst 1, 1) := by decide +kernel
theorem d_Ref_radicalOf_1 : decode M_Ref_radicalOf.2.1 1 = .ok (.istore_n 2, 1) := by decide +kernel
theorem d_Ref_radicalOf_2 : decode M_Ref_radicalOf.2.1 2 = .ok (.iconst 0, 1) := by decide +kernel
theorem d_Ref_radicalOf_3 : decode M_Ref_radicalOf.2.1 3 = .ok (.istore_n 3, 1) := by decide +kernel
theorem d_Ref_radicalOf_4 : decode M_Ref_radicalOf.2.1 4 = .ok (.iload_n 3, 1) := by decide +kernel
theorem d_Ref_radicalOf_5 : decode M_Ref_radicalOf.2.1 5 = .ok (.bipush 7, 2) := by decide +kernel
theorem d_Ref_radicalOf_7 : decode M_Ref_radicalOf.2.1 7 = .ok (.if_icmp .ge 26, 3) := by decide +kernel
theorem d_Ref_radicalOf_10 : decode M_Ref_radicalOf.2.1 10 = .ok (.iload_n 1, 1) := by decide +kernel
theorem d_Ref_radicalOf_11 : decode M_Ref_radicalOf.2.1 11 = .ok (.iload_n 3, 1) := by decide +kernel
theorem d_Ref_radicalOf_12 : decode M_Ref_radicalOf.2.1 12 = .ok (.invokestatic 85, 3) := by decide +kernel
theorem d_Ref_radicalOf_15 : decode M_Ref_radicalOf.2.1 15 = .ok (.ifCond .eq 12, 3) := by decide +kernel
theorem d_Ref_radicalOf_18 : decode M_Ref_radicalOf.2.1 18 = .ok (.iload_n 2, 1) := by decide +kernel
theorem d_Ref_radicalOf_19 : decode M_Ref_radicalOf.2.1 19 = .ok (.aload_n 0, 1) := by decide +kernel
theorem d_Ref_radicalOf_20 : decode M_Ref_radicalOf.2.1 20 = .ok (.getfield 9, 3) := by decide +kernel
theorem d_Ref_radicalOf_23 : decode M_Ref_radicalOf.2.1 23 = .ok (.iload_n 3, 1) := by decide +kernel
theorem d_Ref_radicalOf_24 : decode M_Ref_radicalOf.2.1 24 = .ok (.iaload, 1) := by decide +kernel
theorem d_Ref_radicalOf_25 : decode M_Ref_radicalOf.2.1 25 = .ok (.imul, 1) := by decide +kernel
theorem d_Ref_radicalOf_26 : decode M_Ref_radicalOf.2.1 26 = .ok (.istore_n 2, 1) := by decide +kernel
theorem d_Ref_radicalOf_27 : decode M_Ref_radicalOf.2.1 27 = .ok (.iinc 3 1, 3) := by decide +kernel
theorem d_Ref_radicalOf_30 : decode M_Ref_radicalOf.2.1 30 = .ok (.goto (-26), 3) := by decide +kernel
theorem d_Ref_radicalOf_33 : decode M_Ref_radicalOf.2.1 33 = .ok (.iload_n 2, 1) := by decide +kernel
theorem d_Ref_radicalOf_34 : decode M_Ref_radicalOf.2.1 34 = .ok (.ireturn, 1) := by decide +kernel
theorem d_Ref_has_0 : decode M_Ref_has.2.1 0 = .ok (.iload_n 0, 1) := by decide +kernel
theorem d_Ref_has_1 : decode M_Ref_has.2.1 1 = .ok (.iload_n 1, 1) := by decide +kernel
theorem d_Ref_has_2 : decode M_Ref_has.2.1 2 = .ok (.ishr, 1) := by decide +kernel
theorem d_Ref_has_3 : decode M_Ref_has.2.1 3 = .ok (.iconst 1, 1) := by decide +kernel
theorem d_Ref_has_4 : decode M_Ref_has.2.1 4 = .ok (.iand, 1) := by decide +kernel
theorem d_Ref_has_5 : decode M_Ref_has.2.1 5 = .ok (.iconst 1, 1) := by decide +kernel
theorem d_Ref_has_6 : decode M_Ref_has.2.1 6 = .ok (.if_icmp .ne 7, 3) := by decide +kernel
theorem d_Ref_has_9 : decode M_Ref_has.2.1 9 = .ok (.iconst 1, 1) := by decide +kernel
theorem d_Ref_has_10 : decode M_Ref_has.2.1 10 = .ok (.goto 4, 3) := by decide +kernel
theorem d_Ref_has_13 : decode M_Ref_has.2.1 13 = .ok (.iconst 0, 1) := by decide +kernel
theorem d_Ref_has_14 : decode M_Ref_has.2.1 14 = .ok (.ireturn, 1) := by decide +kernel
theorem d_Ref_layClass_0 : decode M_Ref_layClass.2.1 0 = .ok (.aload_n 0, 1) := by decide +kernel
theorem d_Ref_layClass_1 : decode M_Ref_layClass.2.1 1 = .ok (.getfield 19, 3) := by decide +kernel
theorem d_Ref_layClass_4 : decode M_Ref_layClass.2.1 4 = .ok (.iload_n 1, 1) := by decide +kernel
theorem d_Ref_layClass_5 : decode M_Ref_layClass.2.1 5 = .ok (.aload_n 0, 1) := by decide +kernel
theorem d_Ref_layClass_6 : decode M_Ref_layClass.2.1 6 = .ok (.iload_n 1, 1) := by decide +kernel
theorem d_Ref_layClass_7 : decode M_Ref_layClass.2.1 7 = .ok (.invokevirtual 128, 3) := by decide +kernel
theorem d_Ref_layClass_10 : decode M_Ref_layClass.2.1 10 = .ok (.invokestatic 143, 3) := by decide +kernel
theorem d_Ref_layClass_13 : decode M_Ref_layClass.2.1 13 = .ok (.iastore, 1) := by decide +kernel
theorem d_Ref_layClass_14 : decode M_Ref_layClass.2.1 14 = .ok (.aload_n 0, 1) := by decide +kernel
theorem d_Ref_layClass_15 : decode M_Ref_layClass.2.1 15 = .ok (.getfield 22, 3) := by decide +kernel
theorem d_Ref_layClass_18 : decode M_Ref_layClass.2.1 18 = .ok (.iload_n 1, 1) := by decide +kernel
theorem d_Ref_layClass_19 : decode M_Ref_layClass.2.1 19 = .ok (.iconst 0, 1) := by decide +kernel
theorem d_Ref_layClass_20 : decode M_Ref_layClass.2.1 20 = .ok (.iastore, 1) := by decide +kernel
theorem d_Ref_layClass_21 : decode M_Ref_layClass.2.1 21 = .ok (.aload_n 0, 1) := by decide +kernel
theorem d_Ref_layClass_22 : decode M_Ref_layClass.2.1 22 = .ok (.iload_n 1, 1) := by decide +kernel
theorem d_Ref_layClass_23 : decode M_Ref_layClass.2.1 23 = .ok (.invokevirtual 131, 3) := by decide +kernel
theorem d_Ref_layClass_26 : decode M_Ref_layClass.2.1 26 = .ok (.aload_n 0, 1) := by decide +kernel
theorem d_Ref_layClass_27 : decode M_Ref_layClass.2.1 27 = .ok (.getfield 22, 3) := by decide +kernel
theorem d_Ref_layClass_30 : decode M_Ref_layClass.2.1 30 = .ok (.iload_n 1, 1) := by decide +kernel
theorem d_Ref_layClass_31 : decode M_Ref_layClass.2.1 31 = .ok (.iaload, 1) := by decide +kernel
theorem d_Ref_layClass_32 : decode M_Ref_layClass.2.1 32 = .ok (.ifCond .eq 11, 3) := by decide +kernel
theorem d_Ref_layClass_35 : decode M_Ref_layClass.2.1 35 = .ok (.aload_n 0, 1) := by decide +kernel
theorem d_Ref_layClass_36 : decode M_Ref_layClass.2.1 36 = .ok (.getfield 122, 3) := by decide +kernel
theorem d_Ref_layClass_39 : decode M_Ref_layClass.2.1 39 = .ok (.iconst 1, 1) := by decide +kernel
theorem d_Ref_layClass_40 : decode M_Ref_layClass.2.1 40 = .ok (.if_icmp .eq 21, 3) := by decide +kernel
theorem d_Ref_layClass_43 : decode M_Ref_layClass.2.1 43 = .ok (.aload_n 0, 1) := by decide +kernel
theorem d_Ref_layClass_44 : decode M_Ref_layClass.2.1 44 = .ok (.iload_n 1, 1) := by decide +kernel
theorem d_Ref_layClass_45 : decode M_Ref_layClass.2.1 45 = .ok (.invokevirtual 134, 3) := by decide +kernel
theorem d_Ref_layClass_48 : decode M_Ref_layClass.2.1 48 = .ok (.aload_n 0, 1) := by decide +kernel
theorem d_Ref_layClass_49 : decode M_Ref_layClass.2.1 49 = .ok (.getfield 22, 3) := by decide +kernel
theorem d_Ref_layClass_52 : decode M_Ref_layClass.2.1 52 = .ok (.iload_n 1, 1) := by decide +kernel
theorem d_Ref_layClass_53 : decode M_Ref_layClass.2.1 53 = .ok (.dup2, 1) := by decide +kernel
theorem d_Ref_layClass_54 : decode M_Ref_layClass.2.1 54 = .ok (.iaload, 1) := by decide +kernel
theorem d_Ref_layClass_55 : decode M_Ref_layClass.2.1 55 = .ok (.iconst 1, 1) := by decide +kernel
theorem d_Ref_layClass_56 : decode M_Ref_layClass.2.1 56 = .ok (.iadd, 1) := by decide +kernel
theorem d_Ref_layClass_57 : decode M_Ref_layClass.2.1 57 = .ok (.iastore, 1) := by decide +kernel
theorem d_Ref_layClass_58 : decode M_Ref_layClass.2.1 58 = .ok (.goto (-32), 3) := by decide +kernel
theorem d_Ref_layClass_61 : decode M_Ref_layClass.2.1 61 = .ok (.aload_n 0, 1) := by decide +kernel
theorem d_Ref_layClass_62 : decode M_Ref_layClass.2.1 62 = .ok (.iload_n 1, 1) := by decide +kernel
theorem d_Ref_layClass_63 : decode M_Ref_layClass.2.1 63 = .ok (.invokevirtual 146, 3) := by decide +kernel
theorem d_Ref_layClass_66 : decode M_Ref_layClass.2.1 66 = .ok (.return_, 1) := by decide +kernel
theorem d_Ref_dOf_0 : decode M_Ref_dOf.2.1 0 = .ok (.iload_n 1, 1) := by decide +kernel
theorem d_Ref_dOf_1 : decode M_Ref_dOf.2.1 1 = .ok (.bipush 32, 2) := by decide +kernel
theorem d_Ref_dOf_3 : decode M_Ref_dOf.2.1 3 = .ok (.if_icmp .ge 14, 3) := by decide +kernel
theorem d_Ref_dOf_6 : decode M_Ref_dOf.2.1 6 = .ok (.iconst 2, 1) := by decide +kernel
theorem d_Ref_dOf_7 : decode M_Ref_dOf.2.1 7 = .ok (.aload_n 0, 1) := by decide +kernel
theorem d_Ref_dOf_8 : decode M_Ref_dOf.2.1 8 = .ok (.getfield 16, 3) := by decide +kernel
theorem d_Ref_dOf_11 : decode M_Ref_dOf.2.1 11 = .ok (.iload_n 1, 1) := by decide +kernel
theorem d_Ref_dOf_12 : decode M_Ref_dOf.2.1 12 = .ok (.iaload, 1) := by decide +kernel
theorem d_Ref_dOf_13 : decode M_Ref_dOf.2.1 13 = .ok (.imul, 1) := by decide +kernel
theorem d_Ref_dOf_14 : decode M_Ref_dOf.2.1 14 = .ok (.goto 9, 3) := by decide +kernel
theorem d_Ref_dOf_17 : decode M_Ref_dOf.2.1 17 = .ok (.aload_n 0, 1) := by decide +kernel
theorem d_Ref_dOf_18 : decode M_Ref_dOf.2.1 18 = .ok (.getfield 16, 3) := by decide +kernel
theorem d_Ref_dOf_21 : decode M_Ref_dOf.2.1 21 = .ok (.iload_n 1, 1) := by decide +kernel
theorem d_Ref_dOf_22 : decode M_Ref_dOf.2.1 22 = .ok (.iaload, 1) := by decide +kernel
theorem d_Ref_dOf_23 : decode M_Ref_dOf.2.1 23 = .ok (.ireturn, 1) := by decide +kernel
theorem d_Ref_rootIn_0 : decode M_Ref_rootIn.2.1 0 = .ok (.iconst 0, 1) := by decide +kernel
theorem d_Ref_rootIn_1 : decode M_Ref_rootIn.2.1 1 = .ok (.istore_n 1, 1) := by decide +kernel
theorem d_Ref_rootIn_2 : decode M_Ref_rootIn.2.1 2 = .ok (.ldc 118, 2) := by decide +kernel
theorem d_Ref_rootIn_4 : decode M_Ref_rootIn.2.1 4 = .ok (.istore_n 2, 1) := by decide +kernel
theorem d_Ref_rootIn_5 : decode M_Ref_rootIn.2.1 5 = .ok (.iload_n 1, 1) := by decide +kernel
theorem d_Ref_rootIn_6 : decode M_Ref_rootIn.2.1 6 = .ok (.iload_n 2, 1) := by decide +kernel
theorem d_Ref_rootIn_7 : decode M_Ref_rootIn.2.1 7 = .ok (.if_icmp .ge 30, 3) := by decide +kernel
theorem d_Ref_rootIn_10 : decode M_Ref_rootIn.2.1 10 = .ok (.iload_n 1, 1) := by decide +kernel
theorem d_Ref_rootIn_11 : decode M_Ref_rootIn.2.1 11 = .ok (.iload_n 2, 1) := by decide +kernel
theorem d_Ref_rootIn_12 : decode M_Ref_rootIn.2.1 12 = .ok (.iadd, 1) := by decide +kernel
theorem d_Ref_rootIn_13 : decode M_Ref_rootIn.2.1 13 = .ok (.iconst 1, 1) := by decide +kernel
theorem d_Ref_rootIn_14 : decode M_Ref_rootIn.2.1 14 = .ok (.iadd, 1) := by decide +kernel
theorem d_Ref_rootIn_15 : decode M_Ref_rootIn.2.1 15 = .ok (.iconst 2, 1) := by decide +kernel
theorem d_Ref_rootIn_16 : decode M_Ref_rootIn.2.1 16 = .ok (.idiv, 1) := by decide +kernel
theorem d_Ref_rootIn_17 : decode M_Ref_rootIn.2.1 17 = .ok (.istore_n 3, 1) := by decide +kernel
theorem d_Ref_rootIn_18 : decode M_Ref_rootIn.2.1 18 = .ok (.iload_n 3, 1) := by decide +kernel
theorem d_Ref_rootIn_19 : decode M_Ref_rootIn.2.1 19 = .ok (.iload_n 3, 1) := by decide +kernel
theorem d_Ref_rootIn_20 : decode M_Ref_rootIn.2.1 20 = .ok (.imul, 1) := by decide +kernel
theorem d_Ref_rootIn_21 : decode M_Ref_rootIn.2.1 21 = .ok (.iload_n 0, 1) := by decide +kernel
theorem d_Ref_rootIn_22 : decode M_Ref_rootIn.2.1 22 = .ok (.if_icmp .gt 8, 3) := by decide +kernel
theorem d_Ref_rootIn_25 : decode M_Ref_rootIn.2.1 25 = .ok (.iload_n 3, 1) := by decide +kernel
theorem d_Ref_rootIn_26 : decode M_Ref_rootIn.2.1 26 = .ok (.istore_n 1, 1) := by decide +kernel
theorem d_Ref_rootIn_27 : decode M_Ref_rootIn.2.1 27 = .ok (.goto 7, 3) := by decide +kernel
theorem d_Ref_rootIn_30 : decode M_Ref_rootIn.2.1 30 = .ok (.iload_n 3, 1) := by decide +kernel
theorem d_Ref_rootIn_31 : decode M_Ref_rootIn.2.1 31 = .ok (.iconst 1, 1) := by decide +kernel
theorem d_Ref_rootIn_32 : decode M_Ref_rootIn.2.1 32 = .ok (.isub, 1) := by decide +kernel
theorem d_Ref_rootIn_33 : decode M_Ref_rootIn.2.1 33 = .ok (.istore_n 2, 1) := by decide +kernel
theorem d_Ref_rootIn_34 : decode M_Ref_rootIn.2.1 34 = .ok (.goto (-29), 3) := by decide +kernel
theorem d_Ref_rootIn_37 : decode M_Ref_rootIn.2.1 37 = .ok (.iload_n 1, 1) := by decide +kernel
theorem d_Ref_rootIn_38 : decode M_Ref_rootIn.2.1 38 = .ok (.ireturn, 1) := by decide +kernel
theorem d_Ref_begin_0 : decode M_Ref_begin.2.1 0 = .ok (.aload_n 0, 1) := by decide +kernel
theorem d_Ref_begin_1 : decode M_Ref_begin.2.1 1 = .ok (.iconst 0, 1) := by decide +kernel
theorem d_Ref_begin_2 : decode M_Ref_begin.2.1 2 = .ok (.putfield 119, 3) := by decide +kernel
theorem d_Ref_begin_5 : decode M_Ref_begin.2.1 5 = .ok (.aload_n 0, 1) := by decide +kernel
theorem d_Ref_begin_6 : decode M_Ref_begin.2.1 6 = .ok (.iconst 1, 1) := by decide +kernel
theorem d_Ref_begin_7 : decode M_Ref_begin.2.1 7 = .ok (.putfield 122, 3) := by decide +kernel
theorem d_Ref_begin_10 : decode M_Ref_begin.2.1 10 = .ok (.aload_n 0, 1) := by decide +kernel
theorem d_Ref_begin_11 : decode M_Ref_begin.2.1 11 = .ok (.aload_n 0, 1) := by decide +kernel
theorem d_Ref_begin_12 : decode M_Ref_begin.2.1 12 = .ok (.getfield 19, 3) := by decide +kernel
theorem d_Ref_begin_15 : decode M_Ref_begin.2.1 15 = .ok (.iload_n 1, 1) := by decide +kernel
theorem d_Ref_begin_16 : decode M_Ref_begin.2.1 16 = .ok (.iaload, 1) := by decide +kernel
theorem d_Ref_begin_17 : decode M_Ref_begin.2.1 17 = .ok (.putfield 125, 3) := by decide +kernel
theorem d_Ref_begin_20 : decode M_Ref_begin.2.1 20 = .ok (.return_, 1) := by decide +kernel
theorem d_Ref_go_0 : decode M_Ref_go.2.1 0 = .ok (.aload_n 0, 1) := by decide +kernel
theorem d_Ref_go_1 : decode M_Ref_go.2.1 1 = .ok (.aload_n 0, 1) := by decide +kernel
theorem d_Ref_go_2 : decode M_Ref_go.2.1 2 = .ok (.getfield 122, 3) := by decide +kernel
theorem d_Ref_go_5 : decode M_Ref_go.2.1 5 = .ok (.aload_n 0, 1) := by decide +kernel
theorem d_Ref_go_6 : decode M_Ref_go.2.1 6 = .ok (.getfield 125, 3) := by decide +kernel
theorem d_Ref_go_9 : decode M_Ref_go.2.1 9 = .ok (.imul, 1) := by decide +kernel
theorem d_Ref_go_10 : decode M_Ref_go.2.1 10 = .ok (.aload_n 0, 1) := by decide +kernel
theorem d_Ref_go_11 : decode M_Ref_go.2.1 11 = .ok (.getfield 119, 3) := by decide +kernel
theorem d_Ref_go_14 : decode M_Ref_go.2.1 14 = .ok (.isub, 1) := by decide +kernel
theorem d_Ref_go_15 : decode M_Ref_go.2.1 15 = .ok (.putfield 119, 3) := by decide +kernel
theorem d_Ref_go_18 : decode M_Ref_go.2.1 18 = .ok (.aload_n 0, 1) := by decide +kernel
theorem d_Ref_go_19 : decode M_Ref_go.2.1 19 = .ok (.aload_n 0, 1) := by decide +kernel
theorem d_Ref_go_20 : decode M_Ref_go.2.1 20 = .ok (.iload_n 1, 1) := by decide +kernel
theorem d_Ref_go_21 : decode M_Ref_go.2.1 21 = .ok (.invokevirtual 128, 3) := by decide +kernel
theorem d_Ref_go_24 : decode M_Ref_go.2.1 24 = .ok (.aload_n 0, 1) := by decide +kernel
theorem d_Ref_go_25 : decode M_Ref_go.2.1 25 = .ok (.getfield 119, 3) := by decide +kernel
theorem d_Ref_go_28 : decode M_Ref_go.2.1 28 = .ok (.aload_n 0, 1) := by decide +kernel
theorem d_Ref_go_29 : decode M_Ref_go.2.1 29 = .ok (.getfield 119, 3) := by decide +kernel
theorem d_Ref_go_32 : decode M_Ref_go.2.1 32 = .ok (.imul, 1) := by decide +kernel
theorem d_Ref_go_33 : decode M_Ref_go.2.1 33 = .ok (.isub, 1) := by decide +kernel
theorem d_Ref_go_34 : decode M_Ref_go.2.1 34 = .ok (.aload_n 0, 1) := by decide +kernel
theorem d_Ref_go_35 : decode M_Ref_go.2.1 35 = .ok (.getfield 122, 3) := by decide +kernel
theorem d_Ref_go_38 : decode M_Ref_go.2.1 38 = .ok (.idiv, 1) := by decide +kernel
theorem d_Ref_go_39 : decode M_Ref_go.2.1 39 = .ok (.putfield 122, 3) := by decide +kernel
theorem d_Ref_go_42 : decode M_Ref_go.2.1 42 = .ok (.aload_n 0, 1) := by decide +kernel
theorem d_Ref_go_43 : decode M_Ref_go.2.1 43 = .ok (.aload_n 0, 1) := by decide +kernel
theorem d_Ref_go_44 : decode M_Ref_go.2.1 44 = .ok (.getfield 19, 3) := by decide +kernel
theorem d_Ref_go_47 : decode M_Ref_go.2.1 47 = .ok (.iload_n 1, 1) := by decide +kernel
theorem d_Ref_go_48 : decode M_Ref_go.2.1 48 = .ok (.iaload, 1) := by decide +kernel
theorem d_Ref_go_49 : decode M_Ref_go.2.1 49 = .ok (.aload_n 0, 1) := by decide +kernel
theorem d_Ref_go_50 : decode M_Ref_go.2.1 50 = .ok (.getfield 119, 3) := by decide +kernel
theorem d_Ref_go_53 : decode M_Ref_go.2.1 53 = .ok (.iadd, 1) := by decide +kernel
theorem d_Ref_go_54 : decode M_Ref_go.2.1 54 = .ok (.aload_n 0, 1) := by decide +kernel
theorem d_Ref_go_55 : decode M_Ref_go.2.1 55 = .ok (.getfield 122, 3) := by decide +kernel
theorem d_Ref_go_58 : decode M_Ref_go.2.1 58 = .ok (.idiv, 1) := by decide +kernel
theorem d_Ref_go_59 : decode M_Ref_go.2.1 59 = .ok (.putfield 125, 3) := by decide +kernel
theorem d_Ref_go_62 : decode M_Ref_go.2.1 62 = .ok (.return_, 1) := by decide +kernel
theorem d_Ref_layUnit_0 : decode M_Ref_layUnit.2.1 0 = .ok (.iconst 2, 1) := by decide +kernel
theorem d_Ref_layUnit_1 : decode M_Ref_layUnit.2.1 1 = .ok (.iload_n 1, 1) := by decide +kernel
theorem d_Ref_layUnit_2 : decode M_Ref_layUnit.2.1 2 = .ok (.imul, 1) := by decide +kernel
theorem d_Ref_layUnit_3 : decode M_Ref_layUnit.2.1 3 = .ok (.istore_n 2, 1) := by decide +kernel
theorem d_Ref_layUnit_4 : decode M_Ref_layUnit.2.1 4 = .ok (.iconst 2, 1) := by decide +kernel
theorem d_Ref_layUnit_5 : decode M_Ref_layUnit.2.1 5 = .ok (.iload_n 1, 1) := by decide +kernel
theorem d_Ref_layUnit_6 : decode M_Ref_layUnit.2.1 6 = .ok (.imul, 1) := by decide +kernel
theorem d_Ref_layUnit_7 : decode M_Ref_layUnit.2.1 7 = .ok (.iconst 1, 1) := by decide +kernel
theorem d_Ref_layUnit_8 : decode M_Ref_layUnit.2.1 8 = .ok (.iadd, 1) := by decide +kernel
theorem d_Ref_layUnit_9 : decode M_Ref_layUnit.2.1 9 = .ok (.istore_n 3, 1) := by decide +kernel
theorem d_Ref_layUnit_10 : decode M_Ref_layUnit.2.1 10 = .ok (.aload_n 0, 1) := by decide +kernel
theorem d_Ref_layUnit_11 : decode M_Ref_layUnit.2.1 11 = .ok (.iload_n 1, 1) := by decide +kernel
theorem d_Ref_layUnit_12 : decode M_Ref_layUnit.2.1 12 = .ok (.iload_n 2, 1) := by decide +kernel
theorem d_Ref_layUnit_13 : decode M_Ref_layUnit.2.1 13 = .ok (.iload_n 3, 1) := by decide +kernel
theorem d_Ref_layUnit_14 : decode M_Ref_layUnit.2.1 14 = .ok (.invokevirtual 156, 3) := by decide +kernel
theorem d_Ref_layUnit_17 : decode M_Ref_layUnit.2.1 17 = .ok (.aload_n 0, 1) := by decide +kernel
theorem d_Ref_layUnit_18 : decode M_Ref_layUnit.2.1 18 = .ok (.iload_n 1, 1) := by decide +kernel
theorem d_Ref_layUnit_19 : decode M_Ref_layUnit.2.1 19 = .ok (.invokevirtual 160, 3) := by decide +kernel
theorem d_Ref_layUnit_22 : decode M_Ref_layUnit.2.1 22 = .ok (.ifCond .ne 4, 3) := by decide +kernel
theorem d_Ref_layUnit_25 : decode M_Ref_layUnit.2.1 25 = .ok (.return_, 1) := by decide +kernel
theorem d_Ref_layUnit_26 : decode M_Ref_layUnit.2.1 26 = .ok (.aload_n 0, 1) := by decide +kernel
theorem d_Ref_layUnit_27 : decode M_Ref_layUnit.2.1 27 = .ok (.iload_n 2, 1) := by decide +kernel
theorem d_Ref_layUnit_28 : decode M_Ref_layUnit.2.1 28 = .ok (.iload_n 3, 1) := by decide +kernel
theorem d_Ref_layUnit_29 : decode M_Ref_layUnit.2.1 29 = .ok (.bipush 126, 2) := by decide +kernel
theorem d_Ref_layUnit_31 : decode M_Ref_layUnit.2.1 31 = .ok (.invokevirtual 164, 3) := by decide +kernel
theorem d_Ref_layUnit_34 : decode M_Ref_layUnit.2.1 34 = .ok (.aload_n 0, 1) := by decide +kernel
theorem d_Ref_layUnit_35 : decode M_Ref_layUnit.2.1 35 = .ok (.iload_n 2, 1) := by decide +kernel
theorem d_Ref_layUnit_36 : decode M_Ref_layUnit.2.1 36 = .ok (.iload_n 2, 1) := by decide +kernel
theorem d_Ref_layUnit_37 : decode M_Ref_layUnit.2.1 37 = .ok (.bipush 127, 2) := by decide +kernel
theorem d_Ref_layUnit_39 : decode M_Ref_layUnit.2.1 39 = .ok (.invokevirtual 164, 3) := by decide +kernel
theorem d_Ref_layUnit_42 : decode M_Ref_layUnit.2.1 42 = .ok (.aload_n 0, 1) := by decide +kernel
theorem d_Ref_layUnit_43 : decode M_Ref_layUnit.2.1 43 = .ok (.sipush 128, 3) := by decide +kernel
theorem d_Ref_layUnit_46 : decode M_Ref_layUnit.2.1 46 = .ok (.iconst 1, 1) := by decide +kernel
theorem d_Ref_layUnit_47 : decode M_Ref_layUnit.2.1 47 = .ok (.invokevirtual 69, 3) := by decide +kernel
theorem d_Ref_layUnit_50 : decode M_Ref_layUnit.2.1 50 = .ok (.aload_n 0, 1) := by decide +kernel
theorem d_Ref_layUnit_51 : decode M_Ref_layUnit.2.1 51 = .ok (.sipush 129, 3) := by decide +kernel
theorem d_Ref_layUnit_54 : decode M_Ref_layUnit.2.1 54 = .ok (.iconst 0, 1) := by decide +kernel
theorem d_Ref_layUnit_55 : decode M_Ref_layUnit.2.1 55 = .ok (.invokevirtual 69, 3) := by decide +kernel
theorem d_Ref_layUnit_58 : decode M_Ref_layUnit.2.1 58 = .ok (.aload_n 0, 1) := by decide +kernel
theorem d_Ref_layUnit_59 : decode M_Ref_layUnit.2.1 59 = .ok (.bipush 127, 2) := by decide +kernel
theorem d_Ref_layUnit_61 : decode M_Ref_layUnit.2.1 61 = .ok (.iconst 2, 1) := by decide +kernel
theorem d_Ref_layUnit_62 : decode M_Ref_layUnit.2.1 62 = .ok (.sipush 128, 3) := by decide +kernel
theorem d_Ref_layUnit_65 : decode M_Ref_layUnit.2.1 65 = .ok (.iload_n 2, 1) := by decide +kernel
theorem d_Ref_layUnit_66 : decode M_Ref_layUnit.2.1 66 = .ok (.invokevirtual 149, 3) := by decide +kernel
theorem d_Ref_layUnit_69 : decode M_Ref_layUnit.2.1 69 = .ok (.aload_n 0, 1) := by decide +kernel
theorem d_Ref_layUnit_70 : decode M_Ref_layUnit.2.1 70 = .ok (.bipush 126, 2) := by decide +kernel
theorem d_Ref_layUnit_72 : decode M_Ref_layUnit.2.1 72 = .ok (.iconst 2, 1) := by decide +kernel
theorem d_Ref_layUnit_73 : decode M_Ref_layUnit.2.1 73 = .ok (.sipush 129, 3) := by decide +kernel
theorem d_Ref_layUnit_76 : decode M_Ref_layUnit.2.1 76 = .ok (.iload_n 3, 1) := by decide +kernel
theorem d_Ref_layUnit_77 : decode M_Ref_layUnit.2.1 77 = .ok (.invokevirtual 149, 3) := by decide +kernel
theorem d_Ref_layUnit_80 : decode M_Ref_layUnit.2.1 80 = .ok (.return_, 1) := by decide +kernel
theorem d_Ref_layNearing_0 : decode M_Ref_layNearing.2.1 0 = .ok (.aload_n 0, 1) := by decide +kernel
theorem d_Ref_layNearing_1 : decode M_Ref_layNearing.2.1 1 = .ok (.bipush 126, 2) := by decide +kernel
theorem d_Ref_layNearing_3 : decode M_Ref_layNearing.2.1 3 = .ok (.iconst 1, 1) := by decide +kernel
theorem d_Ref_layNearing_4 : decode M_Ref_layNearing.2.1 4 = .ok (.invokevirtual 69, 3) := by decide +kernel
theorem d_Ref_layNearing_7 : decode M_Ref_layNearing.2.1 7 = .ok (.aload_n 0, 1) := by decide +kernel
theorem d_Ref_layNearing_8 : decode M_Ref_layNearing.2.1 8 = .ok (.bipush 127, 2) := by decide +kernel
theorem d_Ref_layNearing_10 : decode M_Ref_layNearing.2.1 10 = .ok (.iconst 0, 1) := by decide +kernel
theorem d_Ref_layNearing_11 : decode M_Ref_layNearing.2.1 11 = .ok (.invokevirtual 69, 3) := by decide +kernel
theorem d_Ref_layNearing_14 : decode M_Ref_layNearing.2.1 14 = .ok (.aload_n 0, 1) := by decide +kernel
theorem d_Ref_layNearing_15 : decode M_Ref_layNearing.2.1 15 = .ok (.iload_n 2, 1) := by decide +kernel
theorem d_Ref_layNearing_16 : decode M_Ref_layNearing.2.1 16 = .ok (.aload_n 0, 1) := by decide +kernel
theorem d_Ref_layNearing_17 : decode M_Ref_layNearing.2.1 17 = .ok (.getfield 19, 3) := by decide +kernel
theorem d_Ref_layNearing_20 : decode M_Ref_layNearing.2.1 20 = .ok (.iload_n 1, 1) := by decide +kernel
theorem d_Ref_layNearing_21 : decode M_Ref_layNearing.2.1 21 = .ok (.iaload, 1) := by decide +kernel
theorem d_Ref_layNearing_22 : decode M_Ref_layNearing.2.1 22 = .ok (.invokevirtual 69, 3) := by decide +kernel
theorem d_Ref_layNearing_25 : decode M_Ref_layNearing.2.1 25 = .ok (.aload_n 0, 1) := by decide +kernel
theorem d_Ref_layNearing_26 : decode M_Ref_layNearing.2.1 26 = .ok (.iload_n 3, 1) := by decide +kernel
theorem d_Ref_layNearing_27 : decode M_Ref_layNearing.2.1 27 = .ok (.iconst 1, 1) := by decide +kernel
theorem d_Ref_layNearing_28 : decode M_Ref_layNearing.2.1 28 = .ok (.invokevirtual 69, 3) := by decide +kernel
theorem d_Ref_layNearing_31 : decode M_Ref_layNearing.2.1 31 = .ok (.aload_n 0, 1) := by decide +kernel
theorem d_Ref_layNearing_32 : decode M_Ref_layNearing.2.1 32 = .ok (.iload_n 1, 1) := by decide +kernel
theorem d_Ref_layNearing_33 : decode M_Ref_layNearing.2.1 33 = .ok (.invokevirtual 131, 3) := by decide +kernel
theorem d_Ref_layNearing_36 : decode M_Ref_layNearing.2.1 36 = .ok (.iconst 1, 1) := by decide +kernel
theorem d_Ref_layNearing_37 : decode M_Ref_layNearing.2.1 37 = .ok (.istore 4, 2) := by decide +kernel
theorem d_Ref_layNearing_39 : decode M_Ref_layNearing.2.1 39 = .ok (.iload 4, 2) := by decide +kernel
theorem d_Ref_layNearing_41 : decode M_Ref_layNearing.2.1 41 = .ok (.aload_n 0, 1) := by decide +kernel
theorem d_Ref_layNearing_42 : decode M_Ref_layNearing.2.1 42 = .ok (.getfield 22, 3) := by decide +kernel
theorem d_Ref_layNearing_45 : decode M_Ref_layNearing.2.1 45 = .ok (.iload_n 1, 1) := by decide +kernel
theorem d_Ref_layNearing_46 : decode M_Ref_layNearing.2.1 46 = .ok (.iaload, 1) := by decide +kernel
theorem d_Ref_layNearing_47 : decode M_Ref_layNearing.2.1 47 = .ok (.if_icmp .ge 72, 3) := by decide +kernel
theorem d_Ref_layNearing_50 : decode M_Ref_layNearing.2.1 50 = .ok (.aload_n 0, 1) := by decide +kernel
theorem d_Ref_layNearing_51 : decode M_Ref_layNearing.2.1 51 = .ok (.iload_n 1, 1) := by decide +kernel
theorem d_Ref_layNearing_52 : decode M_Ref_layNearing.2.1 52 = .ok (.invokevirtual 134, 3) := by decide +kernel
theorem d_Ref_layNearing_55 : decode M_Ref_layNearing.2.1 55 = .ok (.aload_n 0, 1) := by decide +kernel
theorem d_Ref_layNearing_56 : decode M_Ref_layNearing.2.1 56 = .ok (.iload_n 2, 1) := by decide +kernel
theorem d_Ref_layNearing_57 : decode M_Ref_layNearing.2.1 57 = .ok (.aload_n 0, 1) := by decide +kernel
theorem d_Ref_layNearing_58 : decode M_Ref_layNearing.2.1 58 = .ok (.getfield 125, 3) := by decide +kernel
theorem d_Ref_layNearing_61 : decode M_Ref_layNearing.2.1 61 = .ok (.bipush 126, 2) := by decide +kernel
theorem d_Ref_layNearing_63 : decode M_Ref_layNearing.2.1 63 = .ok (.sipush 128, 3) := by decide +kernel
theorem d_Ref_layNearing_66 : decode M_Ref_layNearing.2.1 66 = .ok (.invokevirtual 149, 3) := by decide +kernel
theorem d_Ref_layNearing_69 : decode M_Ref_layNearing.2.1 69 = .ok (.aload_n 0, 1) := by decide +kernel
theorem d_Ref_layNearing_70 : decode M_Ref_layNearing.2.1 70 = .ok (.iload_n 2, 1) := by decide +kernel
theorem d_Ref_layNearing_71 : decode M_Ref_layNearing.2.1 71 = .ok (.bipush 126, 2) := by decide +kernel
theorem d_Ref_layNearing_73 : decode M_Ref_layNearing.2.1 73 = .ok (.invokevirtual 153, 3) := by decide +kernel
theorem d_Ref_layNearing_76 : decode M_Ref_layNearing.2.1 76 = .ok (.aload_n 0, 1) := by decide +kernel
theorem d_Ref_layNearing_77 : decode M_Ref_layNearing.2.1 77 = .ok (.sipush 128, 3) := by decide +kernel
theorem d_Ref_layNearing_80 : decode M_Ref_layNearing.2.1 80 = .ok (.iload_n 2, 1) := by decide +kernel
theorem d_Ref_layNearing_81 : decode M_Ref_layNearing.2.1 81 = .ok (.invokevirtual 153, 3) := by decide +kernel
theorem d_Ref_layNearing_84 : decode M_Ref_layNearing.2.1 84 = .ok (.aload_n 0, 1) := by decide +kernel
theorem d_Ref_layNearing_85 : decode M_Ref_layNearing.2.1 85 = .ok (.iload_n 3, 1) := by decide +kernel
theorem d_Ref_layNearing_86 : decode M_Ref_layNearing.2.1 86 = .ok (.aload_n 0, 1) := by decide +kernel
theorem d_Ref_layNearing_87 : decode M_Ref_layNearing.2.1 87 = .ok (.getfield 125, 3) := by decide +kernel
theorem d_Ref_layNearing_90 : decode M_Ref_layNearing.2.1 90 = .ok (.bipush 127, 2) := by decide +kernel
theorem d_Ref_layNearing_92 : decode M_Ref_layNearing.2.1 92 = .ok (.sipush 128, 3) := by decide +kernel
theorem d_Ref_layNearing_95 : decode M_Ref_layNearing.2.1 95 = .ok (.invokevirtual 149, 3) := by decide +kernel
theorem d_Ref_layNearing_98 : decode M_Ref_layNearing.2.1 98 = .ok (.aload_n 0, 1) := by decide +kernel
theorem d_Ref_layNearing_99 : decode M_Ref_layNearing.2.1 99 = .ok (.iload_n 3, 1) := by decide +kernel
theorem d_Ref_layNearing_100 : decode M_Ref_layNearing.2.1 100 = .ok (.bipush 127, 2) := by decide +kernel
theorem d_Ref_layNearing_102 : decode M_Ref_layNearing.2.1 102 = .ok (.invokevirtual 153, 3) := by decide +kernel
theorem d_Ref_layNearing_105 : decode M_Ref_layNearing.2.1 105 = .ok (.aload_n 0, 1) := by decide +kernel
theorem d_Ref_layNearing_106 : decode M_Ref_layNearing.2.1 106 = .ok (.sipush 128, 3) := by decide +kernel
theorem d_Ref_layNearing_109 : decode M_Ref_layNearing.2.1 109 = .ok (.iload_n 3, 1) := by decide +kernel
theorem d_Ref_layNearing_110 : decode M_Ref_layNearing.2.1 110 = .ok (.invokevirtual 153, 3) := by decide +kernel
theorem d_Ref_layNearing_113 : decode M_Ref_layNearing.2.1 113 = .ok (.iinc 4 1, 3) := by decide +kernel
theorem d_Ref_layNearing_116 : decode M_Ref_layNearing.2.1 116 = .ok (.goto (-77), 3) := by decide +kernel
theorem d_Ref_layNearing_119 : decode M_Ref_layNearing.2.1 119 = .ok (.return_, 1) := by decide +kernel
theorem d_Ref_times_0 : decode M_Ref_times.2.1 0 = .ok (.iconst 0, 1) := by decide +kernel
theorem d_Ref_times_1 : decode M_Ref_times.2.1 1 = .ok (.istore 5, 2) := by decide +kernel
theorem d_Ref_times_3 : decode M_Ref_times.2.1 3 = .ok (.iconst 1, 1) := by decide +kernel
theorem d_Ref_times_4 : decode M_Ref_times.2.1 4 = .ok (.aload_n 0, 1) := by decide +kernel
theorem d_Ref_times_5 : decode M_Ref_times.2.1 5 = .ok (.iload_n 1, 1) := by decide +kernel
theorem d_Ref_times_6 : decode M_Ref_times.2.1 6 = .ok (.invokevirtual 93, 3) := by decide +kernel
theorem d_Ref_times_9 : decode M_Ref_times.2.1 9 = .ok (.aload_n 0, 1) := by decide +kernel
theorem d_Ref_times_10 : decode M_Ref_times.2.1 10 = .ok (.iload_n 3, 1) := by decide +kernel
theorem d_Ref_times_11 : decode M_Ref_times.2.1 11 = .ok (.invokevirtual 93, 3) := by decide +kernel
theorem d_Ref_times_14 : decode M_Ref_times.2.1 14 = .ok (.if_icmp .le 11, 3) := by decide +kernel
theorem d_Ref_times_17 : decode M_Ref_times.2.1 17 = .ok (.aload_n 0, 1) := by decide +kernel
theorem d_Ref_times_18 : decode M_Ref_times.2.1 18 = .ok (.iload_n 1, 1) := by decide +kernel
theorem d_Ref_times_19 : decode M_Ref_times.2.1 19 = .ok (.invokevirtual 93, 3) := by decide +kernel
theorem d_Ref_times_22 : decode M_Ref_times.2.1 22 = .ok (.goto 8, 3) := by decide +kernel
theorem d_Ref_times_25 : decode M_Ref_times.2.1 25 = .ok (.aload_n 0, 1) := by decide +kernel
theorem d_Ref_times_26 : decode M_Ref_times.2.1 26 = .ok (.iload_n 3, 1) := by decide +kernel
theorem d_Ref_times_27 : decode M_Ref_times.2.1 27 = .ok (.invokevirtual 93, 3) := by decide +kernel
theorem d_Ref_times_30 : decode M_Ref_times.2.1 30 = .ok (.iadd, 1) := by decide +kernel
theorem d_Ref_times_31 : decode M_Ref_times.2.1 31 = .ok (.istore 6, 2) := by decide +kernel
theorem d_Ref_times_33 : decode M_Ref_times.2.1 33 = .ok (.iconst 0, 1) := by decide +kernel
theorem d_Ref_times_34 : decode M_Ref_times.2.1 34 = .ok (.istore 7, 2) := by decide +kernel
theorem d_Ref_times_36 : decode M_Ref_times.2.1 36 = .ok (.iload 7, 2) := by decide +kernel
theorem d_Ref_times_38 : decode M_Ref_times.2.1 38 = .ok (.iload 6, 2) := by decide +kernel
theorem d_Ref_times_40 : decode M_Ref_times.2.1 40 = .ok (.if_icmp .ge 61, 3) := by decide +kernel
theorem d_Ref_times_43 : decode M_Ref_times.2.1 43 = .ok (.aload_n 0, 1) := by decide +kernel
theorem d_Ref_times_44 : decode M_Ref_times.2.1 44 = .ok (.iload_n 1, 1) := by decide +kernel
theorem d_Ref_times_45 : decode M_Ref_times.2.1 45 = .ok (.iload 7, 2) := by decide +kernel
theorem d_Ref_times_47 : decode M_Ref_times.2.1 47 = .ok (.invokevirtual 96, 3) := by decide +kernel
theorem d_Ref_times_50 : decode M_Ref_times.2.1 50 = .ok (.iload_n 2, 1) := by decide +kernel
theorem d_Ref_times_51 : decode M_Ref_times.2.1 51 = .ok (.imul, 1) := by decide +kernel
theorem d_Ref_times_52 : decode M_Ref_times.2.1 52 = .ok (.aload_n 0, 1) := by decide +kernel
theorem d_Ref_times_53 : decode M_Ref_times.2.1 53 = .ok (.iload_n 3, 1) := by decide +kernel
theorem d_Ref_times_54 : decode M_Ref_times.2.1 54 = .ok (.iload 7, 2) := by decide +kernel
theorem d_Ref_times_56 : decode M_Ref_times.2.1 56 = .ok (.invokevirtual 96, 3) := by decide +kernel
theorem d_Ref_times_59 : decode M_Ref_times.2.1 59 = .ok (.iadd, 1) := by decide +kernel
theorem d_Ref_times_60 : decode M_Ref_times.2.1 60 = .ok (.iload 5, 2) := by decide +kernel
theorem d_Ref_times_62 : decode M_Ref_times.2.1 62 = .ok (.iadd, 1) := by decide +kernel
theorem d_Ref_times_63 : decode M_Ref_times.2.1 63 = .ok (.istore 8, 2) := by decide +kernel
theorem d_Ref_times_65 : decode M_Ref_times.2.1 65 = .ok (.aload_n 0, 1) := by decide +kernel
theorem d_Ref_times_66 : decode M_Ref_times.2.1 66 = .ok (.getfield 13, 3) := by decide +kernel
theorem d_Ref_times_69 : decode M_Ref_times.2.1 69 = .ok (.sipush 130, 3) := by decide +kernel
theorem d_Ref_times_72 : decode M_Ref_times.2.1 72 = .ok (.iload 4, 2) := by decide +kernel
theorem d_Ref_times_74 : decode M_Ref_times.2.1 74 = .ok (.imul, 1) := by decide +kernel
theorem d_Ref_times_75 : decode M_Ref_times.2.1 75 = .ok (.iconst 1, 1) := by decide +kernel
theorem d_Ref_times_76 : decode M_Ref_times.2.1 76 = .ok (.iadd, 1) := by decide +kernel
theorem d_Ref_times_77 : decode M_Ref_times.2.1 77 = .ok (.iload 7, 2) := by decide +kernel
theorem d_Ref_times_79 : decode M_Ref_times.2.1 79 = .ok (.iadd, 1) := by decide +kernel
theorem d_Ref_times_80 : decode M_Ref_times.2.1 80 = .ok (.iload 8, 2) := by decide +kernel
theorem d_Ref_times_82 : decode M_Ref_times.2.1 82 = .ok (.sipush 10000, 3) := by decide +kernel
theorem d_Ref_times_85 : decode M_Ref_times.2.1 85 = .ok (.irem, 1) := by decide +kernel
theorem d_Ref_times_86 : decode M_Ref_times.2.1 86 = .ok (.iastore, 1) := by decide +kernel
theorem d_Ref_times_87 : decode M_Ref_times.2.1 87 = .ok (.iload 8, 2) := by decide +kernel
theorem d_Ref_times_89 : decode M_Ref_times.2.1 89 = .ok (.sipush 10000, 3) := by decide +kernel
theorem d_Ref_times_92 : decode M_Ref_times.2.1 92 = .ok (.idiv, 1) := by decide +kernel
theorem d_Ref_times_93 : decode M_Ref_times.2.1 93 = .ok (.istore 5, 2) := by decide +kernel
theorem d_Ref_times_95 : decode M_Ref_times.2.1 95 = .ok (.iinc 7 1, 3) := by decide +kernel
theorem d_Ref_times_98 : decode M_Ref_times.2.1 98 = .ok (.goto (-62), 3) := by decide +kernel
theorem d_Ref_times_101 : decode M_Ref_times.2.1 101 = .ok (.aload_n 0, 1) := by decide +kernel
theorem d_Ref_times_102 : decode M_Ref_times.2.1 102 = .ok (.iload 4, 2) := by decide +kernel
theorem d_Ref_times_104 : decode M_Ref_times.2.1 104 = .ok (.iload 6, 2) := by decide +kernel
theorem d_Ref_times_106 : decode M_Ref_times.2.1 106 = .ok (.invokevirtual 100, 3) := by decide +kernel
theorem d_Ref_times_109 : decode M_Ref_times.2.1 109 = .ok (.return_, 1) := by decide +kernel
theorem d_Ref_parts_0 : decode M_Ref_parts.2.1 0 = .ok (.aload_n 0, 1) := by decide +kernel
theorem d_Ref_parts_1 : decode M_Ref_parts.2.1 1 = .ok (.getfield 13, 3) := by decide +kernel
theorem d_Ref_parts_4 : decode M_Ref_parts.2.1 4 = .ok (.sipush 130, 3) := by decide +kernel
theorem d_Ref_parts_7 : decode M_Ref_parts.2.1 7 = .ok (.iload_n 1, 1) := by decide +kernel
theorem d_Ref_parts_8 : decode M_Ref_parts.2.1 8 = .ok (.imul, 1) := by decide +kernel
theorem d_Ref_parts_9 : decode M_Ref_parts.2.1 9 = .ok (.iaload, 1) := by decide +kernel
theorem d_Ref_parts_10 : decode M_Ref_parts.2.1 10 = .ok (.ireturn, 1) := by decide +kernel
theorem d_Ref_part_0 : decode M_Ref_part.2.1 0 = .ok (.iload_n 2, 1) := by decide +kernel
theorem d_Ref_part_1 : decode M_Ref_part.2.1 1 = .ok (.aload_n 0, 1) := by decide +kernel
theorem d_Ref_part_2 : decode M_Ref_part.2.1 2 = .ok (.iload_n 1, 1) := by decide +kernel
theorem d_Ref_part_3 : decode M_Ref_part.2.1 3 = .ok (.invokevirtual 93, 3) := by decide +kernel
theorem d_Ref_part_6 : decode M_Ref_part.2.1 6 = .ok (.if_icmp .ge 20, 3) := by decide +kernel
theorem d_Ref_part_9 : decode M_Ref_part.2.1 9 = .ok (.aload_n 0, 1) := by decide +kernel
theorem d_Ref_part_10 : decode M_Ref_part.2.1 10 = .ok (.getfield 13, 3) := by decide +kernel
theorem d_Ref_part_13 : decode M_Ref_part.2.1 13 = .ok (.sipush 130, 3) := by decide +kernel
theorem d_Ref_part_16 : decode M_Ref_part.2.1 16 = .ok (.iload_n 1, 1) := by decide +kernel
theorem d_Ref_part_17 : decode M_Ref_part.2.1 17 = .ok (.imul, 1) := by decide +kernel
theorem d_Ref_part_18 : decode M_Ref_part.2.1 18 = .ok (.iconst 1, 1) := by decide +kernel
theorem d_Ref_part_19 : decode M_Ref_part.2.1 19 = .ok (.iadd, 1) := by decide +kernel
theorem d_Ref_part_20 : decode M_Ref_part.2.1 20 = .ok (.iload_n 2, 1) := by decide +kernel
theorem d_Ref_part_21 : decode M_Ref_part.2.1 21 = .ok (.iadd, 1) := by decide +kernel
theorem d_Ref_part_22 : decode M_Ref_part.2.1 22 = .ok (.iaload, 1) := by decide +kernel
theorem d_Ref_part_23 : decode M_Ref_part.2.1 23 = .ok (.goto 4, 3) := by decide +kernel
theorem d_Ref_part_26 : decode M_Ref_part.2.1 26 = .ok (.iconst 0, 1) := by decide +kernel
theorem d_Ref_part_27 : decode M_Ref_part.2.1 27 = .ok (.ireturn, 1) := by decide +kernel
theorem d_Ref_trim_0 : decode M_Ref_trim.2.1 0 = .ok (.iload_n 2, 1) := by decide +kernel
theorem d_Ref_trim_1 : decode M_Ref_trim.2.1 1 = .ok (.istore_n 3, 1) := by decide +kernel
theorem d_Ref_trim_2 : decode M_Ref_trim.2.1 2 = .ok (.iload_n 3, 1) := by decide +kernel
theorem d_Ref_trim_3 : decode M_Ref_trim.2.1 3 = .ok (.ifCond .le 24, 3) := by decide +kernel
theorem d_Ref_trim_6 : decode M_Ref_trim.2.1 6 = .ok (.aload_n 0, 1) := by decide +kernel
theorem d_Ref_trim_7 : decode M_Ref_trim.2.1 7 = .ok (.getfield 13, 3) := by decide +kernel
theorem d_Ref_trim_10 : decode M_Ref_trim.2.1 10 = .ok (.sipush 130, 3) := by decide +kernel
theorem d_Ref_trim_13 : decode M_Ref_trim.2.1 13 = .ok (.iload_n 1, 1) := by decide +kernel
theorem d_Ref_trim_14 : decode M_Ref_trim.2.1 14 = .ok (.imul, 1) := by decide +kernel
theorem d_Ref_trim_15 : decode M_Ref_trim.2.1 15 = .ok (.iload_n 3, 1) := by decide +kernel
theorem d_Ref_trim_16 : decode M_Ref_trim.2.1 16 = .ok (.iadd, 1) := by decide +kernel
theorem d_Ref_trim_17 : decode M_Ref_trim.2.1 17 = .ok (.iaload, 1) := by decide +kernel
theorem d_Ref_trim_18 : decode M_Ref_trim.2.1 18 = .ok (.ifCond .ne 9, 3) := by decide +kernel
theorem d_Ref_trim_21 : decode M_Ref_trim.2.1 21 = .ok (.iinc 3 (-1), 3) := by decide +kernel
theorem d_Ref_trim_24 : decode M_Ref_trim.2.1 24 = .ok (.goto (-22), 3) := by decide +kernel
theorem d_Ref_trim_27 : decode M_Ref_trim.2.1 27 = .ok (.aload_n 0, 1) := by decide +kernel
theorem d_Ref_trim_28 : decode M_Ref_trim.2.1 28 = .ok (.getfield 13, 3) := by decide +kernel
theorem d_Ref_trim_31 : decode M_Ref_trim.2.1 31 = .ok (.sipush 130, 3) := by decide +kernel
theorem d_Ref_trim_34 : decode M_Ref_trim.2.1 34 = .ok (.iload_n 1, 1) := by decide +kernel
theorem d_Ref_trim_35 : decode M_Ref_trim.2.1 35 = .ok (.imul, 1) := by decide +kernel
theorem d_Ref_trim_36 : decode M_Ref_trim.2.1 36 = .ok (.iload_n 3, 1) := by decide +kernel
theorem d_Ref_trim_37 : decode M_Ref_trim.2.1 37 = .ok (.iastore, 1) := by decide +kernel
theorem d_Ref_trim_38 : decode M_Ref_trim.2.1 38 = .ok (.return_, 1) := by decide +kernel
theorem d_Ref_copyBig_0 : decode M_Ref_copyBig.2.1 0 = .ok (.iconst 0, 1) := by decide +kernel
theorem d_Ref_copyBig_1 : decode M_Ref_copyBig.2.1 1 = .ok (.istore_n 3, 1) := by decide +kernel
theorem d_Ref_copyBig_2 : decode M_Ref_copyBig.2.1 2 = .ok (.iload_n 3, 1) := by decide +kernel
theorem d_Ref_copyBig_3 : decode M_Ref_copyBig.2.1 3 = .ok (.sipush 130, 3) := by decide +kernel
theorem d_Ref_copyBig_6 : decode M_Ref_copyBig.2.1 6 = .ok (.if_icmp .ge 33, 3) := by decide +kernel
theorem d_Ref_copyBig_9 : decode M_Ref_copyBig.2.1 9 = .ok (.aload_n 0, 1) := by decide +kernel
theorem d_Ref_copyBig_10 : decode M_Ref_copyBig.2.1 10 = .ok (.getfield 13, 3) := by decide +kernel
theorem d_Ref_copyBig_13 : decode M_Ref_copyBig.2.1 13 = .ok (.sipush 130, 3) := by decide +kernel
theorem d_Ref_copyBig_16 : decode M_Ref_copyBig.2.1 16 = .ok (.iload_n 2, 1) := by decide +kernel
theorem d_Ref_copyBig_17 : decode M_Ref_copyBig.2.1 17 = .ok (.imul, 1) := by decide +kernel
theorem d_Ref_copyBig_18 : decode M_Ref_copyBig.2.1 18 = .ok (.iload_n 3, 1) := by decide +kernel
theorem d_Ref_copyBig_19 : decode M_Ref_copyBig.2.1 19 = .ok (.iadd, 1) := by decide +kernel
theorem d_Ref_copyBig_20 : decode M_Ref_copyBig.2.1 20 = .ok (.aload_n 0, 1) := by decide +kernel
theorem d_Ref_copyBig_21 : decode M_Ref_copyBig.2.1 21 = .ok (.getfield 13, 3) := by decide +kernel
theorem d_Ref_copyBig_24 : decode M_Ref_copyBig.2.1 24 = .ok (.sipush 130, 3) := by decide +kernel
theorem d_Ref_copyBig_27 : decode M_Ref_copyBig.2.1 27 = .ok (.iload_n 1, 1) := by decide +kernel
theorem d_Ref_copyBig_28 : decode M_Ref_copyBig.2.1 28 = .ok (.imul, 1) := by decide +kernel
theorem d_Ref_copyBig_29 : decode M_Ref_copyBig.2.1 29 = .ok (.iload_n 3, 1) := by decide +kernel
theorem d_Ref_copyBig_30 : decode M_Ref_copyBig.2.1 30 = .ok (.iadd, 1) := by decide +kernel
theorem d_Ref_copyBig_31 : decode M_Ref_copyBig.2.1 31 = .ok (.iaload, 1) := by decide +kernel
theorem d_Ref_copyBig_32 : decode M_Ref_copyBig.2.1 32 = .ok (.iastore, 1) := by decide +kernel
theorem d_Ref_copyBig_33 : decode M_Ref_copyBig.2.1 33 = .ok (.iinc 3 1, 3) := by decide +kernel
theorem d_Ref_copyBig_36 : decode M_Ref_copyBig.2.1 36 = .ok (.goto (-34), 3) := by decide +kernel
theorem d_Ref_copyBig_39 : decode M_Ref_copyBig.2.1 39 = .ok (.return_, 1) := by decide +kernel
theorem d_Ref_isNegative_0 : decode M_Ref_isNegative.2.1 0 = .ok (.aload_n 0, 1) := by decide +kernel
theorem d_Ref_isNegative_1 : decode M_Ref_isNegative.2.1 1 = .ok (.getfield 22, 3) := by decide +kernel
theorem d_Ref_isNegative_4 : decode M_Ref_isNegative.2.1 4 = .ok (.iload_n 1, 1) := by decide +kernel
theorem d_Ref_isNegative_5 : decode M_Ref_isNegative.2.1 5 = .ok (.iaload, 1) := by decide +kernel
theorem d_Ref_isNegative_6 : decode M_Ref_isNegative.2.1 6 = .ok (.iconst 2, 1) := by decide +kernel
theorem d_Ref_isNegative_7 : decode M_Ref_isNegative.2.1 7 = .ok (.irem, 1) := by decide +kernel
theorem d_Ref_isNegative_8 : decode M_Ref_isNegative.2.1 8 = .ok (.iconst 1, 1) := by decide +kernel
theorem d_Ref_isNegative_9 : decode M_Ref_isNegative.2.1 9 = .ok (.if_icmp .ne 7, 3) := by decide +kernel
theorem d_Ref_isNegative_12 : decode M_Ref_isNegative.2.1 12 = .ok (.iconst 1, 1) := by decide +kernel
theorem d_Ref_isNegative_13 : decode M_Ref_isNegative.2.1 13 = .ok (.goto 4, 3) := by decide +kernel
theorem d_Ref_isNegative_16 : decode M_Ref_isNegative.2.1 16 = .ok (.iconst 0, 1) := by decide +kernel
theorem d_Ref_isNegative_17 : decode M_Ref_isNegative.2.1 17 = .ok (.ireturn, 1) := by decide +kernel
theorem d_Ref_product_0 : decode M_Ref_product.2.1 0 = .ok (.aload_n 0, 1) := by decide +kernel
theorem d_Ref_product_1 : decode M_Ref_product.2.1 1 = .ok (.iload_n 1, 1) := by decide +kernel
theorem d_Ref_product_2 : decode M_Ref_product.2.1 2 = .ok (.invokevirtual 93, 3) := by decide +kernel
theorem d_Ref_product_5 : decode M_Ref_product.2.1 5 = .ok (.aload_n 0, 1) := by decide +kernel
theorem d_Ref_product_6 : decode M_Ref_product.2.1 6 = .ok (.iload_n 2, 1) := by decide +kernel
theorem d_Ref_product_7 : decode M_Ref_product.2.1 7 = .ok (.invokevirtual 93, 3) := by decide +kernel
theorem d_Ref_product_10 : decode M_Ref_product.2.1 10 = .ok (.iadd, 1) := by decide +kernel
theorem d_Ref_product_11 : decode M_Ref_product.2.1 11 = .ok (.istore 4, 2) := by decide +kernel
theorem d_Ref_product_13 : decode M_Ref_product.2.1 13 = .ok (.iconst 1, 1) := by decide +kernel
theorem d_Ref_product_14 : decode M_Ref_product.2.1 14 = .ok (.istore 5, 2) := by decide +kernel
theorem d_Ref_product_16 : decode M_Ref_product.2.1 16 = .ok (.iload 5, 2) := by decide +kernel
theorem d_Ref_product_18 : decode M_Ref_product.2.1 18 = .ok (.iload 4, 2) := by decide +kernel
theorem d_Ref_product_20 : decode M_Ref_product.2.1 20 = .ok (.if_icmp .gt 23, 3) := by decide +kernel
theorem d_Ref_product_23 : decode M_Ref_product.2.1 23 = .ok (.aload_n 0, 1) := by decide +kernel
theorem d_Ref_product_24 : decode M_Ref_product.2.1 24 = .ok (.getfield 13, 3) := by decide +kernel
theorem d_Ref_product_27 : decode M_Ref_product.2.1 27 = .ok (.sipush 130, 3) := by decide +kernel
theorem d_Ref_product_30 : decode M_Ref_product.2.1 30 = .ok (.iload_n 3, 1) := by decide +kernel
theorem d_Ref_product_31 : decode M_Ref_product.2.1 31 = .ok (.imul, 1) := by decide +kernel
theorem d_Ref_product_32 : decode M_Ref_product.2.1 32 = .ok (.iload 5, 2) := by decide +kernel
theorem d_Ref_product_34 : decode M_Ref_product.2.1 34 = .ok (.iadd, 1) := by decide +kernel
theorem d_Ref_product_35 : decode M_Ref_product.2.1 35 = .ok (.iconst 0, 1) := by decide +kernel
theorem d_Ref_product_36 : decode M_Ref_product.2.1 36 = .ok (.iastore, 1) := by decide +kernel
theorem d_Ref_product_37 : decode M_Ref_product.2.1 37 = .ok (.iinc 5 1, 3) := by decide +kernel
theorem d_Ref_product_40 : decode M_Ref_product.2.1 40 = .ok (.goto (-24), 3) := by decide +kernel
theorem d_Ref_product_43 : decode M_Ref_product.2.1 43 = .ok (.iconst 0, 1) := by decide +kernel
theorem d_Ref_product_44 : decode M_Ref_product.2.1 44 = .ok (.istore 5, 2) := by decide +kernel
theorem d_Ref_product_46 : decode M_Ref_product.2.1 46 = .ok (.iload 5, 2) := by decide +kernel
theorem d_Ref_product_48 : decode M_Ref_product.2.1 48 = .ok (.aload_n 0, 1) := by decide +kernel
theorem d_Ref_product_49 : decode M_Ref_product.2.1 49 = .ok (.iload_n 1, 1) := by decide +kernel
theorem d_Ref_product_50 : decode M_Ref_product.2.1 50 = .ok (.invokevirtual 93, 3) := by decide +kernel
theorem d_Ref_product_53 : decode M_Ref_product.2.1 53 = .ok (.if_icmp .ge 100, 3) := by decide +kernel
theorem d_Ref_product_56 : decode M_Ref_product.2.1 56 = .ok (.iconst 0, 1) := by decide +kernel
theorem d_Ref_product_57 : decode M_Ref_product.2.1 57 = .ok (.istore 6, 2) := by decide +kernel
theorem d_Ref_product_59 : decode M_Ref_product.2.1 59 = .ok (.iconst 0, 1) := by decide +kernel
theorem d_Ref_product_60 : decode M_Ref_product.2.1 60 = .ok (.istore 7, 2) := by decide +kernel
theorem d_Ref_product_62 : decode M_Ref_product.2.1 62 = .ok (.iload 7, 2) := by decide +kernel
theorem d_Ref_product_64 : decode M_Ref_product.2.1 64 = .ok (.aload_n 0, 1) := by decide +kernel
theorem d_Ref_product_65 : decode M_Ref_product.2.1 65 = .ok (.iload_n 2, 1) := by decide +kernel
theorem d_Ref_product_66 : decode M_Ref_product.2.1 66 = .ok (.invokevirtual 93, 3) := by decide +kernel
theorem d_Ref_product_69 : decode M_Ref_product.2.1 69 = .ok (.if_icmp .lt 8, 3) := by decide +kernel
theorem d_Ref_product_72 : decode M_Ref_product.2.1 72 = .ok (.iload 6, 2) := by decide +kernel
theorem d_Ref_product_74 : decode M_Ref_product.2.1 74 = .ok (.ifCond .le 73, 3) := by decide +kernel
theorem d_Ref_product_77 : decode M_Ref_product.2.1 77 = .ok (.sipush 130, 3) := by decide +kernel
theorem d_Ref_product_80 : decode M_Ref_product.2.1 80 = .ok (.iload_n 3, 1) := by decide +kernel
theorem d_Ref_product_81 : decode M_Ref_product.2.1 81 = .ok (.imul, 1) := by decide +kernel
theorem d_Ref_product_82 : decode M_Ref_product.2.1 82 = .ok (.iconst 1, 1) := by decide +kernel
theorem d_Ref_product_83 : decode M_Ref_product.2.1 83 = .ok (.iadd, 1) := by decide +kernel
theorem d_Ref_product_84 : decode M_Ref_product.2.1 84 = .ok (.iload 5, 2) := by decide +kernel
theorem d_Ref_product_86 : decode M_Ref_product.2.1 86 = .ok (.iadd, 1) := by decide +kernel
theorem d_Ref_product_87 : decode M_Ref_product.2.1 87 = .ok (.iload 7, 2) := by decide +kernel
theorem d_Ref_product_89 : decode M_Ref_product.2.1 89 = .ok (.iadd, 1) := by decide +kernel
theorem d_Ref_product_90 : decode M_Ref_product.2.1 90 = .ok (.istore 8, 2) := by decide +kernel
theorem d_Ref_product_92 : decode M_Ref_product.2.1 92 = .ok (.aload_n 0, 1) := by decide +kernel
theorem d_Ref_product_93 : decode M_Ref_product.2.1 93 = .ok (.getfield 13, 3) := by decide +kernel
theorem d_Ref_product_96 : decode M_Ref_product.2.1 96 = .ok (.iload 8, 2) := by decide +kernel
theorem d_Ref_product_98 : decode M_Ref_product.2.1 98 = .ok (.iaload, 1) := by decide +kernel
theorem d_Ref_product_99 : decode M_Ref_product.2.1 99 = .ok (.aload_n 0, 1) := by decide +kernel
theorem d_Ref_product_100 : decode M_Ref_product.2.1 100 = .ok (.iload_n 1, 1) := by decide +kernel
theorem d_Ref_product_101 : decode M_Ref_product.2.1 101 = .ok (.iload 5, 2) := by decide +kernel
theorem d_Ref_product_103 : decode M_Ref_product.2.1 103 = .ok (.invokevirtual 96, 3) := by decide +kernel
theorem d_Ref_product_106 : decode M_Ref_product.2.1 106 = .ok (.aload_n 0, 1) := by decide +kernel
theorem d_Ref_product_107 : decode M_Ref_product.2.1 107 = .ok (.iload_n 2, 1) := by decide +kernel
theorem d_Ref_product_108 : decode M_Ref_product.2.1 108 = .ok (.iload 7, 2) := by decide +kernel
theorem d_Ref_product_110 : decode M_Ref_product.2.1 110 = .ok (.invokevirtual 96, 3) := by decide +kernel
theorem d_Ref_product_113 : decode M_Ref_product.2.1 113 = .ok (.imul, 1) := by decide +kernel
theorem d_Ref_product_114 : decode M_Ref_product.2.1 114 = .ok (.iadd, 1) := by decide +kernel
theorem d_Ref_product_115 : decode M_Ref_product.2.1 115 = .ok (.iload 6, 2) := by decide +kernel
theorem d_Ref_product_117 : decode M_Ref_product.2.1 117 = .ok (.iadd, 1) := by decide +kernel
theorem d_Ref_product_118 : decode M_Ref_product.2.1 118 = .ok (.istore 9, 2) := by decide +kernel
theorem d_Ref_product_120 : decode M_Ref_product.2.1 120 = .ok (.aload_n 0, 1) := by decide +kernel
theorem d_Ref_product_121 : decode M_Ref_product.2.1 121 = .ok (.getfield 13, 3) := by decide +kernel
theorem d_Ref_product_124 : decode M_Ref_product.2.1 124 = .ok (.iload 8, 2) := by decide +kernel
theorem d_Ref_product_126 : decode M_Ref_product.2.1 126 = .ok (.iload 9, 2) := by decide +kernel
theorem d_Ref_product_128 : decode M_Ref_product.2.1 128 = .ok (.sipush 10000, 3) := by decide +kernel
theorem d_Ref_product_131 : decode M_Ref_product.2.1 131 = .ok (.irem, 1) := by decide +kernel
theorem d_Ref_product_132 : decode M_Ref_product.2.1 132 = .ok (.iastore, 1) := by decide +kernel
theorem d_Ref_product_133 : decode M_Ref_product.2.1 133 = .ok (.iload 9, 2) := by decide +kernel
theorem d_Ref_product_135 : decode M_Ref_product.2.1 135 = .ok (.sipush 10000, 3) := by decide +kernel
theorem d_Ref_product_138 : decode M_Ref_product.2.1 138 = .ok (.idiv, 1) := by decide +kernel
theorem d_Ref_product_139 : decode M_Ref_product.2.1 139 = .ok (.istore 6, 2) := by decide +kernel
theorem d_Ref_product_141 : decode M_Ref_product.2.1 141 = .ok (.iinc 7 1, 3) := by decide +kernel
theorem d_Ref_product_144 : decode M_Ref_product.2.1 144 = .ok (.goto (-82), 3) := by decide +kernel
theorem d_Ref_product_147 : decode M_Ref_product.2.1 147 = .ok (.iinc 5 1, 3) := by decide +kernel
theorem d_Ref_product_150 : decode M_Ref_product.2.1 150 = .ok (.goto (-104), 3) := by decide +kernel
theorem d_Ref_product_153 : decode M_Ref_product.2.1 153 = .ok (.aload_n 0, 1) := by decide +kernel
theorem d_Ref_product_154 : decode M_Ref_product.2.1 154 = .ok (.iload_n 3, 1) := by decide +kernel
theorem d_Ref_product_155 : decode M_Ref_product.2.1 155 = .ok (.iload 4, 2) := by decide +kernel
theorem d_Ref_product_157 : decode M_Ref_product.2.1 157 = .ok (.invokevirtual 100, 3) := by decide +kernel
theorem d_Ref_product_160 : decode M_Ref_product.2.1 160 = .ok (.return_, 1) := by decide +kernel
theorem d_Ref_findIn_0 : decode M_Ref_findIn.2.1 0 = .ok (.aload_n 0, 1) := by decide +kernel
theorem d_Ref_findIn_1 : decode M_Ref_findIn.2.1 1 = .ok (.getfield 25, 3) := by decide +kernel
theorem d_Ref_findIn_4 : decode M_Ref_findIn.2.1 4 = .ok (.iload_n 1, 1) := by decide +kernel
theorem d_Ref_findIn_5 : decode M_Ref_findIn.2.1 5 = .ok (.iconst 0, 1) := by decide +kernel
theorem d_Ref_findIn_6 : decode M_Ref_findIn.2.1 6 = .ok (.iastore, 1) := by decide +kernel
theorem d_Ref_findIn_7 : decode M_Ref_findIn.2.1 7 = .ok (.aload_n 0, 1) := by decide +kernel
theorem d_Ref_findIn_8 : decode M_Ref_findIn.2.1 8 = .ok (.iconst 2, 1) := by decide +kernel
theorem d_Ref_findIn_9 : decode M_Ref_findIn.2.1 9 = .ok (.iload_n 1, 1) := by decide +kernel
theorem d_Ref_findIn_10 : decode M_Ref_findIn.2.1 10 = .ok (.imul, 1) := by decide +kernel
theorem d_Ref_findIn_11 : decode M_Ref_findIn.2.1 11 = .ok (.invokevirtual 108, 3) := by decide +kernel
theorem d_Ref_findIn_14 : decode M_Ref_findIn.2.1 14 = .ok (.bipush 9, 2) := by decide +kernel
theorem d_Ref_findIn_16 : decode M_Ref_findIn.2.1 16 = .ok (.if_icmp .le 4, 3) := by decide +kernel
theorem d_Ref_findIn_19 : decode M_Ref_findIn.2.1 19 = .ok (.return_, 1) := by decide +kernel
theorem d_Ref_findIn_20 : decode M_Ref_findIn.2.1 20 = .ok (.aload_n 0, 1) := by decide +kernel
theorem d_Ref_findIn_21 : decode M_Ref_findIn.2.1 21 = .ok (.iconst 2, 1) := by decide +kernel
theorem d_Ref_findIn_22 : decode M_Ref_findIn.2.1 22 = .ok (.iload_n 1, 1) := by decide +kernel
theorem d_Ref_findIn_23 : decode M_Ref_findIn.2.1 23 = .ok (.imul, 1) := by decide +kernel
theorem d_Ref_findIn_24 : decode M_Ref_findIn.2.1 24 = .ok (.invokevirtual 173, 3) := by decide +kernel
theorem d_Ref_findIn_27 : decode M_Ref_findIn.2.1 27 = .ok (.i2l, 1) := by decide +kernel
theorem d_Ref_findIn_28 : decode M_Ref_findIn.2.1 28 = .ok (.lstore_n 2, 1) := by decide +kernel
theorem d_Ref_findIn_29 : decode M_Ref_findIn.2.1 29 = .ok (.lconst 1, 1) := by decide +kernel
theorem d_Ref_findIn_30 : decode M_Ref_findIn.2.1 30 = .ok (.lstore 4, 2) := by decide +kernel
theorem d_Ref_findIn_32 : decode M_Ref_findIn.2.1 32 = .ok (.lload_n 2, 1) := by decide +kernel
theorem d_Ref_findIn_33 : decode M_Ref_findIn.2.1 33 = .ok (.lstore 6, 2) := by decide +kernel
theorem d_Ref_findIn_35 : decode M_Ref_findIn.2.1 35 = .ok (.iconst 1, 1) := by decide +kernel
theorem d_Ref_findIn_36 : decode M_Ref_findIn.2.1 36 = .ok (.istore 8, 2) := by decide +kernel
theorem d_Ref_findIn_38 : decode M_Ref_findIn.2.1 38 = .ok (.iload 8, 2) := by decide +kernel
theorem d_Ref_findIn_40 : decode M_Ref_findIn.2.1 40 = .ok (.aload_n 0, 1) := by decide +kernel
theorem d_Ref_findIn_41 : decode M_Ref_findIn.2.1 41 = .ok (.invokevirtual 176, 3) := by decide +kernel
theorem d_Ref_findIn_44 : decode M_Ref_findIn.2.1 44 = .ok (.if_icmp .gt 151, 3) := by decide +kernel
theorem d_Ref_findIn_47 : decode M_Ref_findIn.2.1 47 = .ok (.lload 6, 2) := by decide +kernel
theorem d_Ref_findIn_49 : decode M_Ref_findIn.2.1 49 = .ok (.ldc2_w 179, 3) := by decide +kernel
theorem d_Ref_findIn_52 : decode M_Ref_findIn.2.1 52 = .ok (.lcmp, 1) := by decide +kernel
theorem d_Ref_findIn_53 : decode M_Ref_findIn.2.1 53 = .ok (.ifCond .ge 142, 3) := by decide +kernel
theorem d_Ref_findIn_56 : decode M_Ref_findIn.2.1 56 = .ok (.iload_n 1, 1) := by decide +kernel
theorem d_Ref_findIn_57 : decode M_Ref_findIn.2.1 57 = .ok (.bipush 32, 2) := by decide +kernel
theorem d_Ref_findIn_59 : decode M_Ref_findIn.2.1 59 = .ok (.if_icmp .lt 7, 3) := by decide +kernel
theorem d_Ref_findIn_62 : decode M_Ref_findIn.2.1 62 = .ok (.iconst 1, 1) := by decide +kernel
theorem d_Ref_findIn_63 : decode M_Ref_findIn.2.1 63 = .ok (.goto 4, 3) := by decide +kernel
theorem d_Ref_findIn_66 : decode M_Ref_findIn.2.1 66 = .ok (.iconst 0, 1) := by decide +kernel
theorem d_Ref_findIn_67 : decode M_Ref_findIn.2.1 67 = .ok (.istore 9, 2) := by decide +kernel
theorem d_Ref_findIn_69 : decode M_Ref_findIn.2.1 69 = .ok (.iload 9, 2) := by decide +kernel
theorem d_Ref_findIn_71 : decode M_Ref_findIn.2.1 71 = .ok (.ifCond .eq 10, 3) := by decide +kernel
theorem d_Ref_findIn_74 : decode M_Ref_findIn.2.1 74 = .ok (.lload 6, 2) := by decide +kernel
theorem d_Ref_findIn_76 : decode M_Ref_findIn.2.1 76 = .ok (.lconst 1, 1) := by decide +kernel
theorem d_Ref_findIn_77 : decode M_Ref_findIn.2.1 77 = .ok (.lsub, 1) := by decide +kernel
theorem d_Ref_findIn_78 : decode M_Ref_findIn.2.1 78 = .ok (.goto 11, 3) := by decide +kernel
theorem d_Ref_findIn_81 : decode M_Ref_findIn.2.1 81 = .ok (.lload 6, 2) := by decide +kernel
theorem d_Ref_findIn_83 : decode M_Ref_findIn.2.1 83 = .ok (.lconst 1, 1) := by decide +kernel
theorem d_Ref_findIn_84 : decode M_Ref_findIn.2.1 84 = .ok (.lsub, 1) := by decide +kernel
theorem d_Ref_findIn_85 : decode M_Ref_findIn.2.1 85 = .ok (.ldc2_w 181, 3) := by decide +kernel
theorem d_Ref_findIn_88 : decode M_Ref_findIn.2.1 88 = .ok (.ldiv, 1) := by decide +kernel
theorem d_Ref_findIn_89 : decode M_Ref_findIn.2.1 89 = .ok (.l2i, 1) := by decide +kernel
theorem d_Ref_findIn_90 : decode M_Ref_findIn.2.1 90 = .ok (.istore 10, 2) := by decide +kernel
theorem d_Ref_findIn_92 : decode M_Ref_findIn.2.1 92 = .ok (.aload_n 0, 1) := by decide +kernel
theorem d_Ref_findIn_93 : decode M_Ref_findIn.2.1 93 = .ok (.iload 10, 2) := by decide +kernel
theorem d_Ref_findIn_95 : decode M_Ref_findIn.2.1 95 = .ok (.invokevirtual 183, 3) := by decide +kernel
theorem d_Ref_findIn_98 : decode M_Ref_findIn.2.1 98 = .ok (.ifCond .eq 70, 3) := by decide +kernel
theorem d_Ref_findIn_101 : decode M_Ref_findIn.2.1 101 = .ok (.aload_n 0, 1) := by decide +kernel
theorem d_Ref_findIn_102 : decode M_Ref_findIn.2.1 102 = .ok (.iload 9, 2) := by decide +kernel
theorem d_Ref_findIn_104 : decode M_Ref_findIn.2.1 104 = .ok (.ifCond .eq 10, 3) := by decide +kernel
theorem d_Ref_findIn_107 : decode M_Ref_findIn.2.1 107 = .ok (.iload 10, 2) := by decide +kernel
theorem d_Ref_findIn_109 : decode M_Ref_findIn.2.1 109 = .ok (.iconst 2, 1) := by decide +kernel
theorem d_Ref_findIn_110 : decode M_Ref_findIn.2.1 110 = .ok (.iadd, 1) := by decide +kernel
theorem d_Ref_findIn_111 : decode M_Ref_findIn.2.1 111 = .ok (.goto 7, 3) := by decide +kernel
theorem d_Ref_findIn_114 : decode M_Ref_findIn.2.1 114 = .ok (.iload 10, 2) := by decide +kernel
theorem d_Ref_findIn_116 : decode M_Ref_findIn.2.1 116 = .ok (.iconst 1, 1) := by decide +kernel
theorem d_Ref_findIn_117 : decode M_Ref_findIn.2.1 117 = .ok (.iadd, 1) := by decide +kernel
theorem d_Ref_findIn_118 : decode M_Ref_findIn.2.1 118 = .ok (.invokevirtual 183, 3) := by decide +kernel
theorem d_Ref_findIn_121 : decode M_Ref_findIn.2.1 121 = .ok (.ifCond .eq 47, 3) := by decide +kernel
theorem d_Ref_findIn_124 : decode M_Ref_findIn.2.1 124 = .ok (.iload 9, 2) := by decide +kernel
theorem d_Ref_findIn_126 : decode M_Ref_findIn.2.1 126 = .ok (.ifCond .eq 18, 3) := by decide +kernel
theorem d_Ref_findIn_129 : decode M_Ref_findIn.2.1 129 = .ok (.aload_n 0, 1) := by decide +kernel
theorem d_Ref_findIn_130 : decode M_Ref_findIn.2.1 130 = .ok (.iload 10, 2) := by decide +kernel
theorem d_Ref_findIn_132 : decode M_Ref_findIn.2.1 132 = .ok (.iload_n 1, 1) := by decide +kernel
theorem d_Ref_findIn_133 : decode M_Ref_findIn.2.1 133 = .ok (.bipush 32, 2) := by decide +kernel
theorem d_Ref_findIn_135 : decode M_Ref_findIn.2.1 135 = .ok (.isub, 1) := by decide +kernel
theorem d_Ref_findIn_136 : decode M_Ref_findIn.2.1 136 = .ok (.iload 8, 2) := by decide +kernel
theorem d_Ref_findIn_138 : decode M_Ref_findIn.2.1 138 = .ok (.invokevirtual 186, 3) := by decide +kernel
theorem d_Ref_findIn_141 : decode M_Ref_findIn.2.1 141 = .ok (.goto 12, 3) := by decide +kernel
theorem d_Ref_findIn_144 : decode M_Ref_findIn.2.1 144 = .ok (.aload_n 0, 1) := by decide +kernel
theorem d_Ref_findIn_145 : decode M_Ref_findIn.2.1 145 = .ok (.iload 10, 2) := by decide +kernel
theorem d_Ref_findIn_147 : decode M_Ref_findIn.2.1 147 = .ok (.iload_n 1, 1) := by decide +kernel
theorem d_Ref_findIn_148 : decode M_Ref_findIn.2.1 148 = .ok (.iload 8, 2) := by decide +kernel
theorem d_Ref_findIn_150 : decode M_Ref_findIn.2.1 150 = .ok (.invokevirtual 189, 3) := by decide +kernel
theorem d_Ref_findIn_153 : decode M_Ref_findIn.2.1 153 = .ok (.aload_n 0, 1) := by decide +kernel
theorem d_Ref_findIn_154 : decode M_Ref_findIn.2.1 154 = .ok (.getfield 25, 3) := by decide +kernel
theorem d_Ref_findIn_157 : decode M_Ref_findIn.2.1 157 = .ok (.iload_n 1, 1) := by decide +kernel
theorem d_Ref_findIn_158 : decode M_Ref_findIn.2.1 158 = .ok (.dup2, 1) := by decide +kernel
theorem d_Ref_findIn_159 : decode M_Ref_findIn.2.1 159 = .ok (.iaload, 1) := by decide +kernel
theorem d_Ref_findIn_160 : decode M_Ref_findIn.2.1 160 = .ok (.iconst 1, 1) := by decide +kernel
theorem d_Ref_findIn_161 : decode M_Ref_findIn.2.1 161 = .ok (.iload 8, 2) := by decide +kernel
theorem d_Ref_findIn_163 : decode M_Ref_findIn.2.1 163 = .ok (.iconst 1, 1) := by decide +kernel
theorem d_Ref_findIn_164 : decode M_Ref_findIn.2.1 164 = .ok (.isub, 1) := by decide +kernel
theorem d_Ref_findIn_165 : decode M_Ref_findIn.2.1 165 = .ok (.ishl, 1) := by decide +kernel
theorem d_Ref_findIn_166 : decode M_Ref_findIn.2.1 166 = .ok (.ior, 1) := by decide +kernel
theorem d_Ref_findIn_167 : decode M_Ref_findIn.2.1 167 = .ok (.iastore, 1) := by decide +kernel
theorem d_Ref_findIn_168 : decode M_Ref_findIn.2.1 168 = .ok (.ldc2_w 181, 3) := by decide +kernel
theorem d_Ref_findIn_171 : decode M_Ref_findIn.2.1 171 = .ok (.lload_n 2, 1) := by decide +kernel
theorem d_Ref_findIn_172 : decode M_Ref_findIn.2.1 172 = .ok (.lmul, 1) := by decide +kernel
theorem d_Ref_findIn_173 : decode M_Ref_findIn.2.1 173 = .ok (.lload 6, 2) := by decide +kernel
theorem d_Ref_findIn_175 : decode M_Ref_findIn.2.1 175 = .ok (.lmul, 1) := by decide +kernel
theorem d_Ref_findIn_176 : decode M_Ref_findIn.2.1 176 = .ok (.lload 4, 2) := by decide +kernel
theorem d_Ref_findIn_178 : decode M_Ref_findIn.2.1 178 = .ok (.lsub, 1) := by decide +kernel
theorem d_Ref_findIn_179 : decode M_Ref_findIn.2.1 179 = .ok (.lstore 11, 2) := by decide +kernel
theorem d_Ref_findIn_181 : decode M_Ref_findIn.2.1 181 = .ok (.lload 6, 2) := by decide +kernel
theorem d_Ref_findIn_183 : decode M_Ref_findIn.2.1 183 = .ok (.lstore 4, 2) := by decide +kernel
theorem d_Ref_findIn_185 : decode M_Ref_findIn.2.1 185 = .ok (.lload 11, 2) := by decide +kernel
theorem d_Ref_findIn_187 : decode M_Ref_findIn.2.1 187 = .ok (.lstore 6, 2) := by decide +kernel
theorem d_Ref_findIn_189 : decode M_Ref_findIn.2.1 189 = .ok (.iinc 8 1, 3) := by decide +kernel
theorem d_Ref_findIn_192 : decode M_Ref_findIn.2.1 192 = .ok (.goto (-154), 3) := by decide +kernel
theorem d_Ref_findIn_195 : decode M_Ref_findIn.2.1 195 = .ok (.return_, 1) := by decide +kernel
theorem d_Ref_longOf_0 : decode M_Ref_longOf.2.1 0 = .ok (.aload_n 0, 1) := by decide +kernel
theorem d_Ref_longOf_1 : decode M_Ref_longOf.2.1 1 = .ok (.iload_n 1, 1) := by decide +kernel
theorem d_Ref_longOf_2 : decode M_Ref_longOf.2.1 2 = .ok (.invokevirtual 93, 3) := by decide +kernel
theorem d_Ref_longOf_5 : decode M_Ref_longOf.2.1 5 = .ok (.ifCond .ne 7, 3) := by decide +kernel
theorem d_Ref_longOf_8 : decode M_Ref_longOf.2.1 8 = .ok (.iconst 1, 1) := by decide +kernel
theorem d_Ref_longOf_9 : decode M_Ref_longOf.2.1 9 = .ok (.goto 28, 3) := by decide +kernel
theorem d_Ref_longOf_12 : decode M_Ref_longOf.2.1 12 = .ok (.iconst 4, 1) := by decide +kernel
theorem d_Ref_longOf_13 : decode M_Ref_longOf.2.1 13 = .ok (.aload_n 0, 1) := by decide +kernel
theorem d_Ref_longOf_14 : decode M_Ref_longOf.2.1 14 = .ok (.iload_n 1, 1) := by decide +kernel
theorem d_Ref_longOf_15 : decode M_Ref_longOf.2.1 15 = .ok (.invokevirtual 93, 3) := by decide +kernel
theorem d_Ref_longOf_18 : decode M_Ref_longOf.2.1 18 = .ok (.iconst 1, 1) := by decide +kernel
theorem d_Ref_longOf_19 : decode M_Ref_longOf.2.1 19 = .ok (.isub, 1) := by decide +kernel
theorem d_Ref_longOf_20 : decode M_Ref_longOf.2.1 20 = .ok (.imul, 1) := by decide +kernel
theorem d_Ref_longOf_21 : decode M_Ref_longOf.2.1 21 = .ok (.aload_n 0, 1) := by decide +kernel
theorem d_Ref_longOf_22 : decode M_Ref_longOf.2.1 22 = .ok (.iload_n 1, 1) := by decide +kernel
theorem d_Ref_longOf_23 : decode M_Ref_longOf.2.1 23 = .ok (.aload_n 0, 1) := by decide +kernel
theorem d_Ref_longOf_24 : decode M_Ref_longOf.2.1 24 = .ok (.iload_n 1, 1) := by decide +kernel
theorem d_Ref_longOf_25 : decode M_Ref_longOf.2.1 25 = .ok (.invokevirtual 93, 3) := by decide +kernel
theorem d_Ref_longOf_28 : decode M_Ref_longOf.2.1 28 = .ok (.iconst 1, 1) := by decide +kernel
theorem d_Ref_longOf_29 : decode M_Ref_longOf.2.1 29 = .ok (.isub, 1) := by decide +kernel
theorem d_Ref_longOf_30 : decode M_Ref_longOf.2.1 30 = .ok (.invokevirtual 96, 3) := by decide +kernel
theorem d_Ref_longOf_33 : decode M_Ref_longOf.2.1 33 = .ok (.invokestatic 105, 3) := by decide +kernel
theorem d_Ref_longOf_36 : decode M_Ref_longOf.2.1 36 = .ok (.iadd, 1) := by decide +kernel
theorem d_Ref_longOf_37 : decode M_Ref_longOf.2.1 37 = .ok (.ireturn, 1) := by decide +kernel
theorem d_Ref_digitsOf_0 : decode M_Ref_digitsOf.2.1 0 = .ok (.iconst 1, 1) := by decide +kernel
theorem d_Ref_digitsOf_1 : decode M_Ref_digitsOf.2.1 1 = .ok (.istore_n 1, 1) := by decide +kernel
theorem d_Ref_digitsOf_2 : decode M_Ref_digitsOf.2.1 2 = .ok (.iload_n 0, 1) := by decide +kernel
theorem d_Ref_digitsOf_3 : decode M_Ref_digitsOf.2.1 3 = .ok (.bipush 10, 2) := by decide +kernel
theorem d_Ref_digitsOf_5 : decode M_Ref_digitsOf.2.1 5 = .ok (.idiv, 1) := by decide +kernel
theorem d_Ref_digitsOf_6 : decode M_Ref_digitsOf.2.1 6 = .ok (.istore_n 2, 1) := by decide +kernel
theorem d_Ref_digitsOf_7 : decode M_Ref_digitsOf.2.1 7 = .ok (.iload_n 2, 1) := by decide +kernel
theorem d_Ref_digitsOf_8 : decode M_Ref_digitsOf.2.1 8 = .ok (.ifCond .le 14, 3) := by decide +kernel
theorem d_Ref_digitsOf_11 : decode M_Ref_digitsOf.2.1 11 = .ok (.iinc 1 1, 3) := by decide +kernel
theorem d_Ref_digitsOf_14 : decode M_Ref_digitsOf.2.1 14 = .ok (.iload_n 2, 1) := by decide +kernel
theorem d_Ref_digitsOf_15 : decode M_Ref_digitsOf.2.1 15 = .ok (.bipush 10, 2) := by decide +kernel
theorem d_Ref_digitsOf_17 : decode M_Ref_digitsOf.2.1 17 = .ok (.idiv, 1) := by decide +kernel
theorem d_Ref_digitsOf_18 : decode M_Ref_digitsOf.2.1 18 = .ok (.istore_n 2, 1) := by decide +kernel
theorem d_Ref_digitsOf_19 : decode M_Ref_digitsOf.2.1 19 = .ok (.goto (-12), 3) := by decide +kernel
theorem d_Ref_digitsOf_22 : decode M_Ref_digitsOf.2.1 22 = .ok (.iload_n 1, 1) := by decide +kernel
theorem d_Ref_digitsOf_23 : decode M_Ref_digitsOf.2.1 23 = .ok (.ireturn, 1) := by decide +kernel
theorem d_Ref_smallOf_0 : decode M_Ref_smallOf.2.1 0 = .ok (.iconst 0, 1) := by decide +kernel
theorem d_Ref_smallOf_1 : decode M_Ref_smallOf.2.1 1 = .ok (.istore_n 2, 1) := by decide +kernel
theorem d_Ref_smallOf_2 : decode M_Ref_smallOf.2.1 2 = .ok (.aload_n 0, 1) := by decide +kernel
theorem d_Ref_smallOf_3 : decode M_Ref_smallOf.2.1 3 = .ok (.iload_n 1, 1) := by decide +kernel
theorem d_Ref_smallOf_4 : decode M_Ref_smallOf.2.1 4 = .ok (.invokevirtual 93, 3) := by decide +kernel
theorem d_Ref_smallOf_7 : decode M_Ref_smallOf.2.1 7 = .ok (.iconst 1, 1) := by decide +kernel
theorem d_Ref_smallOf_8 : decode M_Ref_smallOf.2.1 8 = .ok (.isub, 1) := by decide +kernel
theorem d_Ref_smallOf_9 : decode M_Ref_smallOf.2.1 9 = .ok (.istore_n 3, 1) := by decide +kernel
theorem d_Ref_smallOf_10 : decode M_Ref_smallOf.2.1 10 = .ok (.iload_n 3, 1) := by decide +kernel
theorem d_Ref_smallOf_11 : decode M_Ref_smallOf.2.1 11 = .ok (.ifCond .lt 22, 3) := by decide +kernel
theorem d_Ref_smallOf_14 : decode M_Ref_smallOf.2.1 14 = .ok (.sipush 10000, 3) := by decide +kernel
theorem d_Ref_smallOf_17 : decode M_Ref_smallOf.2.1 17 = .ok (.iload_n 2, 1) := by decide +kernel
theorem d_Ref_smallOf_18 : decode M_Ref_smallOf.2.1 18 = .ok (.imul, 1) := by decide +kernel
theorem d_Ref_smallOf_19 : decode M_Ref_smallOf.2.1 19 = .ok (.aload_n 0, 1) := by decide +kernel
theorem d_Ref_smallOf_20 : decode M_Ref_smallOf.2.1 20 = .ok (.iload_n 1, 1) := by decide +kernel
theorem d_Ref_smallOf_21 : decode M_Ref_smallOf.2.1 21 = .ok (.iload_n 3, 1) := by decide +kernel
theorem d_Ref_smallOf_22 : decode M_Ref_smallOf.2.1 22 = .ok (.invokevirtual 96, 3) := by decide +kernel
theorem d_Ref_smallOf_25 : decode M_Ref_smallOf.2.1 25 = .ok (.iadd, 1) := by decide +kernel
theorem d_Ref_smallOf_26 : decode M_Ref_smallOf.2.1 26 = .ok (.istore_n 2, 1) := by decide +kernel
theorem d_Ref_smallOf_27 : decode M_Ref_smallOf.2.1 27 = .ok (.iinc 3 (-1), 3) := by decide +kernel
theorem d_Ref_smallOf_30 : decode M_Ref_smallOf.2.1 30 = .ok (.goto (-20), 3) := by decide +kernel
theorem d_Ref_smallOf_33 : decode M_Ref_smallOf.2.1 33 = .ok (.iload_n 2, 1) := by decide +kernel
theorem d_Ref_smallOf_34 : decode M_Ref_smallOf.2.1 34 = .ok (.ireturn, 1) := by decide +kernel
theorem d_Ref_bound_0 : decode M_Ref_bound.2.1 0 = .ok (.aload_n 0, 1) := by decide +kernel
theorem d_Ref_bound_1 : decode M_Ref_bound.2.1 1 = .ok (.invokevirtual 89, 3) := by decide +kernel
theorem d_Ref_bound_4 : decode M_Ref_bound.2.1 4 = .ok (.bipush 6, 2) := by decide +kernel
theorem d_Ref_bound_6 : decode M_Ref_bound.2.1 6 = .ok (.if_icmp .ge 7, 3) := by decide +kernel
theorem d_Ref_bound_9 : decode M_Ref_bound.2.1 9 = .ok (.iconst 3, 1) := by decide +kernel
theorem d_Ref_bound_10 : decode M_Ref_bound.2.1 10 = .ok (.goto 11, 3) := by decide +kernel
theorem d_Ref_bound_13 : decode M_Ref_bound.2.1 13 = .ok (.aload_n 0, 1) := by decide +kernel
theorem d_Ref_bound_14 : decode M_Ref_bound.2.1 14 = .ok (.invokevirtual 89, 3) := by decide +kernel
theorem d_Ref_bound_17 : decode M_Ref_bound.2.1 17 = .ok (.iconst 1, 1) := by decide +kernel
theorem d_Ref_bound_18 : decode M_Ref_bound.2.1 18 = .ok (.iadd, 1) := by decide +kernel
theorem d_Ref_bound_19 : decode M_Ref_bound.2.1 19 = .ok (.iconst 2, 1) := by decide +kernel
theorem d_Ref_bound_20 : decode M_Ref_bound.2.1 20 = .ok (.idiv, 1) := by decide +kernel
theorem d_Ref_bound_21 : decode M_Ref_bound.2.1 21 = .ok (.ireturn, 1) := by decide +kernel
theorem d_Ref_greatest_0 : decode M_Ref_greatest.2.1 0 = .ok (.iconst 0, 1) := by decide +kernel
theorem d_Ref_greatest_1 : decode M_Ref_greatest.2.1 1 = .ok (.istore_n 1, 1) := by decide +kernel
theorem d_Ref_greatest_2 : decode M_Ref_greatest.2.1 2 = .ok (.iconst 0, 1) := by decide +kernel
theorem d_Ref_greatest_3 : decode M_Ref_greatest.2.1 3 = .ok (.istore_n 2, 1) := by decide +kernel
theorem d_Ref_greatest_4 : decode M_Ref_greatest.2.1 4 = .ok (.iload_n 2, 1) := by decide +kernel
theorem d_Ref_greatest_5 : decode M_Ref_greatest.2.1 5 = .ok (.bipush 7, 2) := by decide +kernel
theorem d_Ref_greatest_7 : decode M_Ref_greatest.2.1 7 = .ok (.if_icmp .ge 27, 3) := by decide +kernel
theorem d_Ref_greatest_10 : decode M_Ref_greatest.2.1 10 = .ok (.aload_n 0, 1) := by decide +kernel
theorem d_Ref_greatest_11 : decode M_Ref_greatest.2.1 11 = .ok (.getfield 81, 3) := by decide +kernel
theorem d_Ref_greatest_14 : decode M_Ref_greatest.2.1 14 = .ok (.iload_n 2, 1) := by decide +kernel
theorem d_Ref_greatest_15 : decode M_Ref_greatest.2.1 15 = .ok (.invokestatic 85, 3) := by decide +kernel
theorem d_Ref_greatest_18 : decode M_Ref_greatest.2.1 18 = .ok (.ifCond .eq 10, 3) := by decide +kernel
theorem d_Ref_greatest_21 : decode M_Ref_greatest.2.1 21 = .ok (.aload_n 0, 1) := by decide +kernel
theorem d_Ref_greatest_22 : decode M_Ref_greatest.2.1 22 = .ok (.getfield 9, 3) := by decide +kernel
theorem d_Ref_greatest_25 : decode M_Ref_greatest.2.1 25 = .ok (.iload_n 2, 1) := by decide +kernel
theorem d_Ref_greatest_26 : decode M_Ref_greatest.2.1 26 = .ok (.iaload, 1) := by decide +kernel
theorem d_Ref_greatest_27 : decode M_Ref_greatest.2.1 27 = .ok (.istore_n 1, 1) := by decide +kernel
theorem d_Ref_greatest_28 : decode M_Ref_greatest.2.1 28 = .ok (.iinc 2 1, 3) := by decide +kernel
theorem d_Ref_greatest_31 : decode M_Ref_greatest.2.1 31 = .ok (.goto (-27), 3) := by decide +kernel
theorem d_Ref_greatest_34 : decode M_Ref_greatest.2.1 34 = .ok (.iload_n 1, 1) := by decide +kernel
theorem d_Ref_greatest_35 : decode M_Ref_greatest.2.1 35 = .ok (.ireturn, 1) := by decide +kernel
theorem d_Ref_isSmooth_0 : decode M_Ref_isSmooth.2.1 0 = .ok (.iload_n 1, 1) := by decide +kernel
theorem d_Ref_isSmooth_1 : decode M_Ref_isSmooth.2.1 1 = .ok (.istore_n 2, 1) := by decide +kernel
theorem d_Ref_isSmooth_2 : decode M_Ref_isSmooth.2.1 2 = .ok (.iconst 0, 1) := by decide +kernel
theorem d_Ref_isSmooth_3 : decode M_Ref_isSmooth.2.1 3 = .ok (.istore_n 3, 1) := by decide +kernel
theorem d_Ref_isSmooth_4 : decode M_Ref_isSmooth.2.1 4 = .ok (.iload_n 3, 1) := by decide +kernel
theorem d_Ref_isSmooth_5 : decode M_Ref_isSmooth.2.1 5 = .ok (.bipush 7, 2) := by decide +kernel
theorem d_Ref_isSmooth_7 : decode M_Ref_isSmooth.2.1 7 = .ok (.if_icmp .ge 43, 3) := by decide +kernel
theorem d_Ref_isSmooth_10 : decode M_Ref_isSmooth.2.1 10 = .ok (.aload_n 0, 1) := by decide +kernel
theorem d_Ref_isSmooth_11 : decode M_Ref_isSmooth.2.1 11 = .ok (.getfield 81, 3) := by decide +kernel
theorem d_Ref_isSmooth_14 : decode M_Ref_isSmooth.2.1 14 = .ok (.iload_n 3, 1) := by decide +kernel
theorem d_Ref_isSmooth_15 : decode M_Ref_isSmooth.2.1 15 = .ok (.invokestatic 85, 3) := by decide +kernel
theorem d_Ref_isSmooth_18 : decode M_Ref_isSmooth.2.1 18 = .ok (.ifCond .eq 26, 3) := by decide +kernel
theorem d_Ref_isSmooth_21 : decode M_Ref_isSmooth.2.1 21 = .ok (.iload_n 2, 1) := by decide +kernel
theorem d_Ref_isSmooth_22 : decode M_Ref_isSmooth.2.1 22 = .ok (.aload_n 0, 1) := by decide +kernel
theorem d_Ref_isSmooth_23 : decode M_Ref_isSmooth.2.1 23 = .ok (.getfield 9, 3) := by decide +kernel
theorem d_Ref_isSmooth_26 : decode M_Ref_isSmooth.2.1 26 = .ok (.iload_n 3, 1) := by decide +kernel
theorem d_Ref_isSmooth_27 : decode M_Ref_isSmooth.2.1 27 = .ok (.iaload, 1) := by decide +kernel
theorem d_Ref_isSmooth_28 : decode M_Ref_isSmooth.2.1 28 = .ok (.irem, 1) := by decide +kernel
theorem d_Ref_isSmooth_29 : decode M_Ref_isSmooth.2.1 29 = .ok (.ifCond .ne 15, 3) := by decide +kernel
theorem d_Ref_isSmooth_32 : decode M_Ref_isSmooth.2.1 32 = .ok (.iload_n 2, 1) := by decide +kernel
theorem d_Ref_isSmooth_33 : decode M_Ref_isSmooth.2.1 33 = .ok (.aload_n 0, 1) := by decide +kernel
theorem d_Ref_isSmooth_34 : decode M_Ref_isSmooth.2.1 34 = .ok (.getfield 9, 3) := by decide +kernel
theorem d_Ref_isSmooth_37 : decode M_Ref_isSmooth.2.1 37 = .ok (.iload_n 3, 1) := by decide +kernel
theorem d_Ref_isSmooth_38 : decode M_Ref_isSmooth.2.1 38 = .ok (.iaload, 1) := by decide +kernel
theorem d_Ref_isSmooth_39 : decode M_Ref_isSmooth.2.1 39 = .ok (.idiv, 1) := by decide +kernel
theorem d_Ref_isSmooth_40 : decode M_Ref_isSmooth.2.1 40 = .ok (.istore_n 2, 1) := by decide +kernel
theorem d_Ref_isSmooth_41 : decode M_Ref_isSmooth.2.1 41 = .ok (.goto (-31), 3) := by decide +kernel
theorem d_Ref_isSmooth_44 : decode M_Ref_isSmooth.2.1 44 = .ok (.iinc 3 1, 3) := by decide +kernel
theorem d_Ref_isSmooth_47 : decode M_Ref_isSmooth.2.1 47 = .ok (.goto (-43), 3) := by decide +kernel
theorem d_Ref_isSmooth_50 : decode M_Ref_isSmooth.2.1 50 = .ok (.iload_n 2, 1) := by decide +kernel
theorem d_Ref_isSmooth_51 : decode M_Ref_isSmooth.2.1 51 = .ok (.iconst 1, 1) := by decide +kernel
theorem d_Ref_isSmooth_52 : decode M_Ref_isSmooth.2.1 52 = .ok (.if_icmp .ne 7, 3) := by decide +kernel
theorem d_Ref_isSmooth_55 : decode M_Ref_isSmooth.2.1 55 = .ok (.iconst 1, 1) := by decide +kernel
theorem d_Ref_isSmooth_56 : decode M_Ref_isSmooth.2.1 56 = .ok (.goto 4, 3) := by decide +kernel
theorem d_Ref_isSmooth_59 : decode M_Ref_isSmooth.2.1 59 = .ok (.iconst 0, 1) := by decide +kernel
theorem d_Ref_isSmooth_60 : decode M_Ref_isSmooth.2.1 60 = .ok (.ireturn, 1) := by decide +kernel
theorem d_Ref_comeTwo_0 : decode M_Ref_comeTwo.2.1 0 = .ok (.aload_n 0, 1) := by decide +kernel
theorem d_Ref_comeTwo_1 : decode M_Ref_comeTwo.2.1 1 = .ok (.getfield 170, 3) := by decide +kernel
theorem d_Ref_comeTwo_4 : decode M_Ref_comeTwo.2.1 4 = .ok (.istore 4, 2) := by decide +kernel
theorem d_Ref_comeTwo_6 : decode M_Ref_comeTwo.2.1 6 = .ok (.iload 4, 2) := by decide +kernel
theorem d_Ref_comeTwo_8 : decode M_Ref_comeTwo.2.1 8 = .ok (.ifCond .le 70, 3) := by decide +kernel
theorem d_Ref_comeTwo_11 : decode M_Ref_comeTwo.2.1 11 = .ok (.aload_n 0, 1) := by decide +kernel
theorem d_Ref_comeTwo_12 : decode M_Ref_comeTwo.2.1 12 = .ok (.getfield 37, 3) := by decide +kernel
theorem d_Ref_comeTwo_15 : decode M_Ref_comeTwo.2.1 15 = .ok (.iload 4, 2) := by decide +kernel
theorem d_Ref_comeTwo_17 : decode M_Ref_comeTwo.2.1 17 = .ok (.iconst 1, 1) := by decide +kernel
theorem d_Ref_comeTwo_18 : decode M_Ref_comeTwo.2.1 18 = .ok (.isub, 1) := by decide +kernel
theorem d_Ref_comeTwo_19 : decode M_Ref_comeTwo.2.1 19 = .ok (.iaload, 1) := by decide +kernel
theorem d_Ref_comeTwo_20 : decode M_Ref_comeTwo.2.1 20 = .ok (.iload_n 1, 1) := by decide +kernel
theorem d_Ref_comeTwo_21 : decode M_Ref_comeTwo.2.1 21 = .ok (.if_icmp .le 57, 3) := by decide +kernel
theorem d_Ref_comeTwo_24 : decode M_Ref_comeTwo.2.1 24 = .ok (.aload_n 0, 1) := by decide +kernel
theorem d_Ref_comeTwo_25 : decode M_Ref_comeTwo.2.1 25 = .ok (.getfield 37, 3) := by decide +kernel
theorem d_Ref_comeTwo_28 : decode M_Ref_comeTwo.2.1 28 = .ok (.iload 4, 2) := by decide +kernel
theorem d_Ref_comeTwo_30 : decode M_Ref_comeTwo.2.1 30 = .ok (.aload_n 0, 1) := by decide +kernel
theorem d_Ref_comeTwo_31 : decode M_Ref_comeTwo.2.1 31 = .ok (.getfield 37, 3) := by decide +kernel
theorem d_Ref_comeTwo_34 : decode M_Ref_comeTwo.2.1 34 = .ok (.iload 4, 2) := by decide +kernel
theorem d_Ref_comeTwo_36 : decode M_Ref_comeTwo.2.1 36 = .ok (.iconst 1, 1) := by decide +kernel
theorem d_Ref_comeTwo_37 : decode M_Ref_comeTwo.2.1 37 = .ok (.isub, 1) := by decide +kernel
theorem d_Ref_comeTwo_38 : decode M_Ref_comeTwo.2.1 38 = .ok (.iaload, 1) := by decide +kernel
theorem d_Ref_comeTwo_39 : decode M_Ref_comeTwo.2.1 39 = .ok (.iastore, 1) := by decide +kernel
theorem d_Ref_comeTwo_40 : decode M_Ref_comeTwo.2.1 40 = .ok (.aload_n 0, 1) := by decide +kernel
theorem d_Ref_comeTwo_41 : decode M_Ref_comeTwo.2.1 41 = .ok (.getfield 40, 3) := by decide +kernel
theorem d_Ref_comeTwo_44 : decode M_Ref_comeTwo.2.1 44 = .ok (.iload 4, 2) := by decide +kernel
theorem d_Ref_comeTwo_46 : decode M_Ref_comeTwo.2.1 46 = .ok (.aload_n 0, 1) := by decide +kernel
theorem d_Ref_comeTwo_47 : decode M_Ref_comeTwo.2.1 47 = .ok (.getfield 40, 3) := by decide +kernel
theorem d_Ref_comeTwo_50 : decode M_Ref_comeTwo.2.1 50 = .ok (.iload 4, 2) := by decide +kernel
theorem d_Ref_comeTwo_52 : decode M_Ref_comeTwo.2.1 52 = .ok (.iconst 1, 1) := by decide +kernel
theorem d_Ref_comeTwo_53 : decode M_Ref_comeTwo.2.1 53 = .ok (.isub, 1) := by decide +kernel
theorem d_Ref_comeTwo_54 : decode M_Ref_comeTwo.2.1 54 = .ok (.iaload, 1) := by decide +kernel
theorem d_Ref_comeTwo_55 : decode M_Ref_comeTwo.2.1 55 = .ok (.iastore, 1) := by decide +kernel
theorem d_Ref_comeTwo_56 : decode M_Ref_comeTwo.2.1 56 = .ok (.aload_n 0, 1) := by decide +kernel
theorem d_Ref_comeTwo_57 : decode M_Ref_comeTwo.2.1 57 = .ok (.getfield 43, 3) := by decide +kernel
theorem d_Ref_comeTwo_60 : decode M_Ref_comeTwo.2.1 60 = .ok (.iload 4, 2) := by decide +kernel
theorem d_Ref_comeTwo_62 : decode M_Ref_comeTwo.2.1 62 = .ok (.aload_n 0, 1) := by decide +kernel
theorem d_Ref_comeTwo_63 : decode M_Ref_comeTwo.2.1 63 = .ok (.getfield 43, 3) := by decide +kernel
theorem d_Ref_comeTwo_66 : decode M_Ref_comeTwo.2.1 66 = .ok (.iload 4, 2) := by decide +kernel
theorem d_Ref_comeTwo_68 : decode M_Ref_comeTwo.2.1 68 = .ok (.iconst 1, 1) := by decide +kernel
theorem d_Ref_comeTwo_69 : decode M_Ref_comeTwo.2.1 69 = .ok (.isub, 1) := by decide +kernel
theorem d_Ref_comeTwo_70 : decode M_Ref_comeTwo.2.1 70 = .ok (.iaload, 1) := by decide +kernel
theorem d_Ref_comeTwo_71 : decode M_Ref_comeTwo.2.1 71 = .ok (.iastore, 1) := by decide +kernel
theorem d_Ref_comeTwo_72 : decode M_Ref_comeTwo.2.1 72 = .ok (.iinc 4 (-1), 3) := by decide +kernel
theorem d_Ref_comeTwo_75 : decode M_Ref_comeTwo.2.1 75 = .ok (.goto (-69), 3) := by decide +kernel
theorem d_Ref_comeTwo_78 : decode M_Ref_comeTwo.2.1 78 = .ok (.aload_n 0, 1) := by decide +kernel
theorem d_Ref_comeTwo_79 : decode M_Ref_comeTwo.2.1 79 = .ok (.getfield 37, 3) := by decide +kernel
theorem d_Ref_comeTwo_82 : decode M_Ref_comeTwo.2.1 82 = .ok (.iload 4, 2) := by decide +kernel
theorem d_Ref_comeTwo_84 : decode M_Ref_comeTwo.2.1 84 = .ok (.iload_n 1, 1) := by decide +kernel
theorem d_Ref_comeTwo_85 : decode M_Ref_comeTwo.2.1 85 = .ok (.iastore, 1) := by decide +kernel
theorem d_Ref_comeTwo_86 : decode M_Ref_comeTwo.2.1 86 = .ok (.aload_n 0, 1) := by decide +kernel
theorem d_Ref_comeTwo_87 : decode M_Ref_comeTwo.2.1 87 = .ok (.getfield 40, 3) := by decide +kernel
theorem d_Ref_comeTwo_90 : decode M_Ref_comeTwo.2.1 90 = .ok (.iload 4, 2) := by decide +kernel
theorem d_Ref_comeTwo_92 : decode M_Ref_comeTwo.2.1 92 = .ok (.iload_n 2, 1) := by decide +kernel
theorem d_Ref_comeTwo_93 : decode M_Ref_comeTwo.2.1 93 = .ok (.iastore, 1) := by decide +kernel
theorem d_Ref_comeTwo_94 : decode M_Ref_comeTwo.2.1 94 = .ok (.aload_n 0, 1) := by decide +kernel
theorem d_Ref_comeTwo_95 : decode M_Ref_comeTwo.2.1 95 = .ok (.getfield 43, 3) := by decide +kernel
theorem d_Ref_comeTwo_98 : decode M_Ref_comeTwo.2.1 98 = .ok (.iload 4, 2) := by decide +kernel
theorem d_Ref_comeTwo_100 : decode M_Ref_comeTwo.2.1 100 = .ok (.iload_n 3, 1) := by decide +kernel
theorem d_Ref_comeTwo_101 : decode M_Ref_comeTwo.2.1 101 = .ok (.iastore, 1) := by decide +kernel
theorem d_Ref_comeTwo_102 : decode M_Ref_comeTwo.2.1 102 = .ok (.aload_n 0, 1) := by decide +kernel
theorem d_Ref_comeTwo_103 : decode M_Ref_comeTwo.2.1 103 = .ok (.dup, 1) := by decide +kernel
theorem d_Ref_comeTwo_104 : decode M_Ref_comeTwo.2.1 104 = .ok (.getfield 170, 3) := by decide +kernel
theorem d_Ref_comeTwo_107 : decode M_Ref_comeTwo.2.1 107 = .ok (.iconst 1, 1) := by decide +kernel
theorem d_Ref_comeTwo_108 : decode M_Ref_comeTwo.2.1 108 = .ok (.iadd, 1) := by decide +kernel
theorem d_Ref_comeTwo_109 : decode M_Ref_comeTwo.2.1 109 = .ok (.putfield 170, 3) := by decide +kernel
theorem d_Ref_comeTwo_112 : decode M_Ref_comeTwo.2.1 112 = .ok (.return_, 1) := by decide +kernel
theorem d_Ref_comePair_0 : decode M_Ref_comePair.2.1 0 = .ok (.aload_n 0, 1) := by decide +kernel
theorem d_Ref_comePair_1 : decode M_Ref_comePair.2.1 1 = .ok (.getfield 167, 3) := by decide +kernel
theorem d_Ref_comePair_4 : decode M_Ref_comePair.2.1 4 = .ok (.istore 4, 2) := by decide +kernel
theorem d_Ref_comePair_6 : decode M_Ref_comePair.2.1 6 = .ok (.iload 4, 2) := by decide +kernel
theorem d_Ref_comePair_8 : decode M_Ref_comePair.2.1 8 = .ok (.ifCond .le 70, 3) := by decide +kernel
theorem d_Ref_comePair_11 : decode M_Ref_comePair.2.1 11 = .ok (.aload_n 0, 1) := by decide +kernel
theorem d_Ref_comePair_12 : decode M_Ref_comePair.2.1 12 = .ok (.getfield 28, 3) := by decide +kernel
theorem d_Ref_comePair_15 : decode M_Ref_comePair.2.1 15 = .ok (.iload 4, 2) := by decide +kernel
theorem d_Ref_comePair_17 : decode M_Ref_comePair.2.1 17 = .ok (.iconst 1, 1) := by decide +kernel
theorem d_Ref_comePair_18 : decode M_Ref_comePair.2.1 18 = .ok (.isub, 1) := by decide +kernel
theorem d_Ref_comePair_19 : decode M_Ref_comePair.2.1 19 = .ok (.iaload, 1) := by decide +kernel
theorem d_Ref_comePair_20 : decode M_Ref_comePair.2.1 20 = .ok (.iload_n 1, 1) := by decide +kernel
theorem d_Ref_comePair_21 : decode M_Ref_comePair.2.1 21 = .ok (.if_icmp .le 57, 3) := by decide +kernel
theorem d_Ref_comePair_24 : decode M_Ref_comePair.2.1 24 = .ok (.aload_n 0, 1) := by decide +kernel
theorem d_Ref_comePair_25 : decode M_Ref_comePair.2.1 25 = .ok (.getfield 28, 3) := by decide +kernel
theorem d_Ref_comePair_28 : decode M_Ref_comePair.2.1 28 = .ok (.iload 4, 2) := by decide +kernel
theorem d_Ref_comePair_30 : decode M_Ref_comePair.2.1 30 = .ok (.aload_n 0, 1) := by decide +kernel
theorem d_Ref_comePair_31 : decode M_Ref_comePair.2.1 31 = .ok (.getfield 28, 3) := by decide +kernel
theorem d_Ref_comePair_34 : decode M_Ref_comePair.2.1 34 = .ok (.iload 4, 2) := by decide +kernel
theorem d_Ref_comePair_36 : decode M_Ref_comePair.2.1 36 = .ok (.iconst 1, 1) := by decide +kernel
theorem d_Ref_comePair_37 : decode M_Ref_comePair.2.1 37 = .ok (.isub, 1) := by decide +kernel
theorem d_Ref_comePair_38 : decode M_Ref_comePair.2.1 38 = .ok (.iaload, 1) := by decide +kernel
theorem d_Ref_comePair_39 : decode M_Ref_comePair.2.1 39 = .ok (.iastore, 1) := by decide +kernel
theorem d_Ref_comePair_40 : decode M_Ref_comePair.2.1 40 = .ok (.aload_n 0, 1) := by decide +kernel
theorem d_Ref_comePair_41 : decode M_Ref_comePair.2.1 41 = .ok (.getfield 31, 3) := by decide +kernel
theorem d_Ref_comePair_44 : decode M_Ref_comePair.2.1 44 = .ok (.iload 4, 2) := by decide +kernel
theorem d_Ref_comePair_46 : decode M_Ref_comePair.2.1 46 = .ok (.aload_n 0, 1) := by decide +kernel
theorem d_Ref_comePair_47 : decode M_Ref_comePair.2.1 47 = .ok (.getfield 31, 3) := by decide +kernel
theorem d_Ref_comePair_50 : decode M_Ref_comePair.2.1 50 = .ok (.iload 4, 2) := by decide +kernel
theorem d_Ref_comePair_52 : decode M_Ref_comePair.2.1 52 = .ok (.iconst 1, 1) := by decide +kernel
theorem d_Ref_comePair_53 : decode M_Ref_comePair.2.1 53 = .ok (.isub, 1) := by decide +kernel
theorem d_Ref_comePair_54 : decode M_Ref_comePair.2.1 54 = .ok (.iaload, 1) := by decide +kernel
theorem d_Ref_comePair_55 : decode M_Ref_comePair.2.1 55 = .ok (.iastore, 1) := by decide +kernel
theorem d_Ref_comePair_56 : decode M_Ref_comePair.2.1 56 = .ok (.aload_n 0, 1) := by decide +kernel
theorem d_Ref_comePair_57 : decode M_Ref_comePair.2.1 57 = .ok (.getfield 34, 3) := by decide +kernel
theorem d_Ref_comePair_60 : decode M_Ref_comePair.2.1 60 = .ok (.iload 4, 2) := by decide +kernel
theorem d_Ref_comePair_62 : decode M_Ref_comePair.2.1 62 = .ok (.aload_n 0, 1) := by decide +kernel
theorem d_Ref_comePair_63 : decode M_Ref_comePair.2.1 63 = .ok (.getfield 34, 3) := by decide +kernel
theorem d_Ref_comePair_66 : decode M_Ref_comePair.2.1 66 = .ok (.iload 4, 2) := by decide +kernel
theorem d_Ref_comePair_68 : decode M_Ref_comePair.2.1 68 = .ok (.iconst 1, 1) := by decide +kernel
theorem d_Ref_comePair_69 : decode M_Ref_comePair.2.1 69 = .ok (.isub, 1) := by decide +kernel
theorem d_Ref_comePair_70 : decode M_Ref_comePair.2.1 70 = .ok (.iaload, 1) := by decide +kernel
theorem d_Ref_comePair_71 : decode M_Ref_comePair.2.1 71 = .ok (.iastore, 1) := by decide +kernel
theorem d_Ref_comePair_72 : decode M_Ref_comePair.2.1 72 = .ok (.iinc 4 (-1), 3) := by decide +kernel
theorem d_Ref_comePair_75 : decode M_Ref_comePair.2.1 75 = .ok (.goto (-69), 3) := by decide +kernel
theorem d_Ref_comePair_78 : decode M_Ref_comePair.2.1 78 = .ok (.aload_n 0, 1) := by decide +kernel
theorem d_Ref_comePair_79 : decode M_Ref_comePair.2.1 79 = .ok (.getfield 28, 3) := by decide +kernel
theorem d_Ref_comePair_82 : decode M_Ref_comePair.2.1 82 = .ok (.iload 4, 2) := by decide +kernel
theorem d_Ref_comePair_84 : decode M_Ref_comePair.2.1 84 = .ok (.iload_n 1, 1) := by decide +kernel
theorem d_Ref_comePair_85 : decode M_Ref_comePair.2.1 85 = .ok (.iastore, 1) := by decide +kernel
theorem d_Ref_comePair_86 : decode M_Ref_comePair.2.1 86 = .ok (.aload_n 0, 1) := by decide +kernel
theorem d_Ref_comePair_87 : decode M_Ref_comePair.2.1 87 = .ok (.getfield 31, 3) := by decide +kernel
theorem d_Ref_comePair_90 : decode M_Ref_comePair.2.1 90 = .ok (.iload 4, 2) := by decide +kernel
theorem d_Ref_comePair_92 : decode M_Ref_comePair.2.1 92 = .ok (.iload_n 2, 1) := by decide +kernel
theorem d_Ref_comePair_93 : decode M_Ref_comePair.2.1 93 = .ok (.iastore, 1) := by decide +kernel
theorem d_Ref_comePair_94 : decode M_Ref_comePair.2.1 94 = .ok (.aload_n 0, 1) := by decide +kernel
theorem d_Ref_comePair_95 : decode M_Ref_comePair.2.1 95 = .ok (.getfield 34, 3) := by decide +kernel
theorem d_Ref_comePair_98 : decode M_Ref_comePair.2.1 98 = .ok (.iload 4, 2) := by decide +kernel
theorem d_Ref_comePair_100 : decode M_Ref_comePair.2.1 100 = .ok (.iload_n 3, 1) := by decide +kernel
theorem d_Ref_comePair_101 : decode M_Ref_comePair.2.1 101 = .ok (.iastore, 1) := by decide +kernel
theorem d_Ref_comePair_102 : decode M_Ref_comePair.2.1 102 = .ok (.aload_n 0, 1) := by decide +kernel
theorem d_Ref_comePair_103 : decode M_Ref_comePair.2.1 103 = .ok (.dup, 1) := by decide +kernel
theorem d_Ref_comePair_104 : decode M_Ref_comePair.2.1 104 = .ok (.getfield 167, 3) := by decide +kernel
theorem d_Ref_comePair_107 : decode M_Ref_comePair.2.1 107 = .ok (.iconst 1, 1) := by decide +kernel
theorem d_Ref_comePair_108 : decode M_Ref_comePair.2.1 108 = .ok (.iadd, 1) := by decide +kernel
theorem d_Ref_comePair_109 : decode M_Ref_comePair.2.1 109 = .ok (.putfield 167, 3) := by decide +kernel
theorem d_Ref_comePair_112 : decode M_Ref_comePair.2.1 112 = .ok (.return_, 1) := by decide +kernel
theorem d_Ref_choose_0 : decode M_Ref_choose.2.1 0 = .ok (.iload_n 1, 1) := by decide +kernel
theorem d_Ref_choose_1 : decode M_Ref_choose.2.1 1 = .ok (.i2l, 1) := by decide +kernel
theorem d_Ref_choose_2 : decode M_Ref_choose.2.1 2 = .ok (.lconst 0, 1) := by decide +kernel
theorem d_Ref_choose_3 : decode M_Ref_choose.2.1 3 = .ok (.ldc2_w 204, 3) := by decide +kernel
theorem d_Ref_choose_6 : decode M_Ref_choose.2.1 6 = .ok (.invokestatic 111, 3) := by decide +kernel
theorem d_Ref_choose_9 : decode M_Ref_choose.2.1 9 = .ok (.ifCond .eq 11, 3) := by decide +kernel
theorem d_Ref_choose_12 : decode M_Ref_choose.2.1 12 = .ok (.iload_n 1, 1) := by decide +kernel
theorem d_Ref_choose_13 : decode M_Ref_choose.2.1 13 = .ok (.invokestatic 206, 3) := by decide +kernel
theorem d_Ref_choose_16 : decode M_Ref_choose.2.1 16 = .ok (.iconst 5, 1) := by decide +kernel
theorem d_Ref_choose_17 : decode M_Ref_choose.2.1 17 = .ok (.if_icmp .le 5, 3) := by decide +kernel
theorem d_Ref_choose_20 : decode M_Ref_choose.2.1 20 = .ok (.iconst (-1), 1) := by decide +kernel
theorem d_Ref_choose_21 : decode M_Ref_choose.2.1 21 = .ok (.ireturn, 1) := by decide +kernel
theorem d_Ref_choose_22 : decode M_Ref_choose.2.1 22 = .ok (.aload_n 0, 1) := by decide +kernel
theorem d_Ref_choose_23 : decode M_Ref_choose.2.1 23 = .ok (.iload_n 1, 1) := by decide +kernel
theorem d_Ref_choose_24 : decode M_Ref_choose.2.1 24 = .ok (.invokevirtual 73, 3) := by decide +kernel
theorem d_Ref_choose_27 : decode M_Ref_choose.2.1 27 = .ok (.aload_n 0, 1) := by decide +kernel
theorem d_Ref_choose_28 : decode M_Ref_choose.2.1 28 = .ok (.getfield 167, 3) := by decide +kernel
theorem d_Ref_choose_31 : decode M_Ref_choose.2.1 31 = .ok (.ireturn, 1) := by decide +kernel
theorem d_Ref_isIn_0 : decode M_Ref_isIn.2.1 0 = .ok (.lload_n 0, 1) := by decide +kernel
theorem d_Ref_isIn_1 : decode M_Ref_isIn.2.1 1 = .ok (.lload_n 2, 1) := by decide +kernel
theorem d_Ref_isIn_2 : decode M_Ref_isIn.2.1 2 = .ok (.lcmp, 1) := by decide +kernel
theorem d_Ref_isIn_3 : decode M_Ref_isIn.2.1 3 = .ok (.ifCond .lt 14, 3) := by decide +kernel
theorem d_Ref_isIn_6 : decode M_Ref_isIn.2.1 6 = .ok (.lload_n 0, 1) := by decide +kernel
theorem d_Ref_isIn_7 : decode M_Ref_isIn.2.1 7 = .ok (.lload 4, 2) := by decide +kernel
theorem d_Ref_isIn_9 : decode M_Ref_isIn.2.1 9 = .ok (.lcmp, 1) := by decide +kernel
theorem d_Ref_isIn_10 : decode M_Ref_isIn.2.1 10 = .ok (.ifCond .gt 7, 3) := by decide +kernel
theorem d_Ref_isIn_13 : decode M_Ref_isIn.2.1 13 = .ok (.iconst 1, 1) := by decide +kernel
theorem d_Ref_isIn_14 : decode M_Ref_isIn.2.1 14 = .ok (.goto 4, 3) := by decide +kernel
theorem d_Ref_isIn_17 : decode M_Ref_isIn.2.1 17 = .ok (.iconst 0, 1) := by decide +kernel
theorem d_Ref_isIn_18 : decode M_Ref_isIn.2.1 18 = .ok (.ireturn, 1) := by decide +kernel
theorem d_Ref_many_0 : decode M_Ref_many.2.1 0 = .ok (.iconst 0, 1) := by decide +kernel
theorem d_Ref_many_1 : decode M_Ref_many.2.1 1 = .ok (.istore_n 1, 1) := by decide +kernel
theorem d_Ref_many_2 : decode M_Ref_many.2.1 2 = .ok (.iload_n 0, 1) := by decide +kernel
theorem d_Ref_many_3 : decode M_Ref_many.2.1 3 = .ok (.istore_n 2, 1) := by decide +kernel
theorem d_Ref_many_4 : decode M_Ref_many.2.1 4 = .ok (.iload_n 2, 1) := by decide +kernel
theorem d_Ref_many_5 : decode M_Ref_many.2.1 5 = .ok (.ifCond .eq 15, 3) := by decide +kernel
theorem d_Ref_many_8 : decode M_Ref_many.2.1 8 = .ok (.iinc 1 1, 3) := by decide +kernel
theorem d_Ref_many_11 : decode M_Ref_many.2.1 11 = .ok (.iload_n 2, 1) := by decide +kernel
theorem d_Ref_many_12 : decode M_Ref_many.2.1 12 = .ok (.iload_n 2, 1) := by decide +kernel
theorem d_Ref_many_13 : decode M_Ref_many.2.1 13 = .ok (.iconst 1, 1) := by decide +kernel
theorem d_Ref_many_14 : decode M_Ref_many.2.1 14 = .ok (.isub, 1) := by decide +kernel
theorem d_Ref_many_15 : decode M_Ref_many.2.1 15 = .ok (.iand, 1) := by decide +kernel
theorem d_Ref_many_16 : decode M_Ref_many.2.1 16 = .ok (.istore_n 2, 1) := by decide +kernel
theorem d_Ref_many_17 : decode M_Ref_many.2.1 17 = .ok (.goto (-13), 3) := by decide +kernel
theorem d_Ref_many_20 : decode M_Ref_many.2.1 20 = .ok (.iload_n 1, 1) := by decide +kernel
theorem d_Ref_many_21 : decode M_Ref_many.2.1 21 = .ok (.ireturn, 1) := by decide +kernel
theorem d_Ref_add_0 : decode M_Ref_add.2.1 0 = .ok (.aload_n 0, 1) := by decide +kernel
theorem d_Ref_add_1 : decode M_Ref_add.2.1 1 = .ok (.iload_n 1, 1) := by decide +kernel
theorem d_Ref_add_2 : decode M_Ref_add.2.1 2 = .ok (.invokevirtual 212, 3) := by decide +kernel
theorem d_Ref_add_5 : decode M_Ref_add.2.1 5 = .ok (.ifCond .eq 22, 3) := by decide +kernel
theorem d_Ref_add_8 : decode M_Ref_add.2.1 8 = .ok (.aload_n 0, 1) := by decide +kernel
theorem d_Ref_add_9 : decode M_Ref_add.2.1 9 = .ok (.aload_n 0, 1) := by decide +kernel
theorem d_Ref_add_10 : decode M_Ref_add.2.1 10 = .ok (.getfield 81, 3) := by decide +kernel
theorem d_Ref_add_13 : decode M_Ref_add.2.1 13 = .ok (.iconst 1, 1) := by decide +kernel
theorem d_Ref_add_14 : decode M_Ref_add.2.1 14 = .ok (.aload_n 0, 1) := by decide +kernel
theorem d_Ref_add_15 : decode M_Ref_add.2.1 15 = .ok (.iload_n 1, 1) := by decide +kernel
theorem d_Ref_add_16 : decode M_Ref_add.2.1 16 = .ok (.invokevirtual 77, 3) := by decide +kernel
theorem d_Ref_add_19 : decode M_Ref_add.2.1 19 = .ok (.ishl, 1) := by decide +kernel
theorem d_Ref_add_20 : decode M_Ref_add.2.1 20 = .ok (.ior, 1) := by decide +kernel
theorem d_Ref_add_21 : decode M_Ref_add.2.1 21 = .ok (.invokevirtual 215, 3) := by decide +kernel
theorem d_Ref_add_24 : decode M_Ref_add.2.1 24 = .ok (.goto 4, 3) := by decide +kernel
theorem d_Ref_add_27 : decode M_Ref_add.2.1 27 = .ok (.iconst (-1), 1) := by decide +kernel
theorem d_Ref_add_28 : decode M_Ref_add.2.1 28 = .ok (.ireturn, 1) := by decide +kernel
theorem d_Ref_canCome_0 : decode M_Ref_canCome.2.1 0 = .ok (.aload_n 0, 1) := by decide +kernel
theorem d_Ref_canCome_1 : decode M_Ref_canCome.2.1 1 = .ok (.iload_n 1, 1) := by decide +kernel
theorem d_Ref_canCome_2 : decode M_Ref_canCome.2.1 2 = .ok (.invokevirtual 77, 3) := by decide +kernel
theorem d_Ref_canCome_5 : decode M_Ref_canCome.2.1 5 = .ok (.iconst (-1), 1) := by decide +kernel
theorem d_Ref_canCome_6 : decode M_Ref_canCome.2.1 6 = .ok (.if_icmp .eq 26, 3) := by decide +kernel
theorem d_Ref_canCome_9 : decode M_Ref_canCome.2.1 9 = .ok (.aload_n 0, 1) := by decide +kernel
theorem d_Ref_canCome_10 : decode M_Ref_canCome.2.1 10 = .ok (.iload_n 1, 1) := by decide +kernel
theorem d_Ref_canCome_11 : decode M_Ref_canCome.2.1 11 = .ok (.invokevirtual 209, 3) := by decide +kernel
theorem d_Ref_canCome_14 : decode M_Ref_canCome.2.1 14 = .ok (.ifCond .ne 18, 3) := by decide +kernel
theorem d_Ref_canCome_17 : decode M_Ref_canCome.2.1 17 = .ok (.aload_n 0, 1) := by decide +kernel
theorem d_Ref_canCome_18 : decode M_Ref_canCome.2.1 18 = .ok (.getfield 81, 3) := by decide +kernel
theorem d_Ref_canCome_21 : decode M_Ref_canCome.2.1 21 = .ok (.invokestatic 206, 3) := by decide +kernel
theorem d_Ref_canCome_24 : decode M_Ref_canCome.2.1 24 = .ok (.iconst 5, 1) := by decide +kernel
theorem d_Ref_canCome_25 : decode M_Ref_canCome.2.1 25 = .ok (.if_icmp .ge 7, 3) := by decide +kernel
theorem d_Ref_canCome_28 : decode M_Ref_canCome.2.1 28 = .ok (.iconst 1, 1) := by decide +kernel
theorem d_Ref_canCome_29 : decode M_Ref_canCome.2.1 29 = .ok (.goto 4, 3) := by decide +kernel
theorem d_Ref_canCome_32 : decode M_Ref_canCome.2.1 32 = .ok (.iconst 0, 1) := by decide +kernel
theorem d_Ref_canCome_33 : decode M_Ref_canCome.2.1 33 = .ok (.ireturn, 1) := by decide +kernel
theorem d_Ref_placeOf_0 : decode M_Ref_placeOf.2.1 0 = .ok (.iconst 0, 1) := by decide +kernel
theorem d_Ref_placeOf_1 : decode M_Ref_placeOf.2.1 1 = .ok (.istore_n 2, 1) := by decide +kernel
theorem d_Ref_placeOf_2 : decode M_Ref_placeOf.2.1 2 = .ok (.iload_n 2, 1) := by decide +kernel
theorem d_Ref_placeOf_3 : decode M_Ref_placeOf.2.1 3 = .ok (.bipush 7, 2) := by decide +kernel
theorem d_Ref_placeOf_5 : decode M_Ref_placeOf.2.1 5 = .ok (.if_icmp .ge 21, 3) := by decide +kernel
theorem d_Ref_placeOf_8 : decode M_Ref_placeOf.2.1 8 = .ok (.aload_n 0, 1) := by decide +kernel
theorem d_Ref_placeOf_9 : decode M_Ref_placeOf.2.1 9 = .ok (.getfield 9, 3) := by decide +kernel
theorem d_Ref_placeOf_12 : decode M_Ref_placeOf.2.1 12 = .ok (.iload_n 2, 1) := by decide +kernel
theorem d_Ref_placeOf_13 : decode M_Ref_placeOf.2.1 13 = .ok (.iaload, 1) := by decide +kernel
theorem d_Ref_placeOf_14 : decode M_Ref_placeOf.2.1 14 = .ok (.iload_n 1, 1) := by decide +kernel
theorem d_Ref_placeOf_15 : decode M_Ref_placeOf.2.1 15 = .ok (.if_icmp .ne 5, 3) := by decide +kernel
theorem d_Ref_placeOf_18 : decode M_Ref_placeOf.2.1 18 = .ok (.iload_n 2, 1) := by decide +kernel
theorem d_Ref_placeOf_19 : decode M_Ref_placeOf.2.1 19 = .ok (.ireturn, 1) := by decide +kernel
theorem d_Ref_placeOf_20 : decode M_Ref_placeOf.2.1 20 = .ok (.iinc 2 1, 3) := by decide +kernel
theorem d_Ref_placeOf_23 : decode M_Ref_placeOf.2.1 23 = .ok (.goto (-21), 3) := by decide +kernel
theorem d_Ref_placeOf_26 : decode M_Ref_placeOf.2.1 26 = .ok (.iconst (-1), 1) := by decide +kernel
theorem d_Ref_placeOf_27 : decode M_Ref_placeOf.2.1 27 = .ok (.ireturn, 1) := by decide +kernel
theorem d_Ref_isPrimeHere_0 : decode M_Ref_isPrimeHere.2.1 0 = .ok (.aload_n 0, 1) := by decide +kernel
theorem d_Ref_isPrimeHere_1 : decode M_Ref_isPrimeHere.2.1 1 = .ok (.iload_n 1, 1) := by decide +kernel
theorem d_Ref_isPrimeHere_2 : decode M_Ref_isPrimeHere.2.1 2 = .ok (.invokevirtual 77, 3) := by decide +kernel
theorem d_Ref_isPrimeHere_5 : decode M_Ref_isPrimeHere.2.1 5 = .ok (.istore_n 2, 1) := by decide +kernel
theorem d_Ref_isPrimeHere_6 : decode M_Ref_isPrimeHere.2.1 6 = .ok (.iload_n 2, 1) := by decide +kernel
theorem d_Ref_isPrimeHere_7 : decode M_Ref_isPrimeHere.2.1 7 = .ok (.iconst (-1), 1) := by decide +kernel
theorem d_Ref_isPrimeHere_8 : decode M_Ref_isPrimeHere.2.1 8 = .ok (.if_icmp .eq 18, 3) := by decide +kernel
theorem d_Ref_isPrimeHere_11 : decode M_Ref_isPrimeHere.2.1 11 = .ok (.aload_n 0, 1) := by decide +kernel
theorem d_Ref_isPrimeHere_12 : decode M_Ref_isPrimeHere.2.1 12 = .ok (.getfield 81, 3) := by decide +kernel
theorem d_Ref_isPrimeHere_15 : decode M_Ref_isPrimeHere.2.1 15 = .ok (.iload_n 2, 1) := by decide +kernel
theorem d_Ref_isPrimeHere_16 : decode M_Ref_isPrimeHere.2.1 16 = .ok (.invokestatic 85, 3) := by decide +kernel
theorem d_Ref_isPrimeHere_19 : decode M_Ref_isPrimeHere.2.1 19 = .ok (.ifCond .eq 7, 3) := by decide +kernel
theorem d_Ref_isPrimeHere_22 : decode M_Ref_isPrimeHere.2.1 22 = .ok (.iconst 1, 1) := by decide +kernel
theorem d_Ref_isPrimeHere_23 : decode M_Ref_isPrimeHere.2.1 23 = .ok (.goto 4, 3) := by decide +kernel
theorem d_Ref_isPrimeHere_26 : decode M_Ref_isPrimeHere.2.1 26 = .ok (.iconst 0, 1) := by decide +kernel
theorem d_Ref_isPrimeHere_27 : decode M_Ref_isPrimeHere.2.1 27 = .ok (.ireturn, 1) := by decide +kernel
theorem d_Ref_drop_0 : decode M_Ref_drop.2.1 0 = .ok (.aload_n 0, 1) := by decide +kernel
theorem d_Ref_drop_1 : decode M_Ref_drop.2.1 1 = .ok (.iload_n 1, 1) := by decide +kernel
theorem d_Ref_drop_2 : decode M_Ref_drop.2.1 2 = .ok (.invokevirtual 209, 3) := by decide +kernel
theorem d_Ref_drop_5 : decode M_Ref_drop.2.1 5 = .ok (.ifCond .eq 24, 3) := by decide +kernel
theorem d_Ref_drop_8 : decode M_Ref_drop.2.1 8 = .ok (.aload_n 0, 1) := by decide +kernel
theorem d_Ref_drop_9 : decode M_Ref_drop.2.1 9 = .ok (.aload_n 0, 1) := by decide +kernel
theorem d_Ref_drop_10 : decode M_Ref_drop.2.1 10 = .ok (.getfield 81, 3) := by decide +kernel
theorem d_Ref_drop_13 : decode M_Ref_drop.2.1 13 = .ok (.iconst 1, 1) := by decide +kernel
theorem d_Ref_drop_14 : decode M_Ref_drop.2.1 14 = .ok (.aload_n 0, 1) := by decide +kernel
theorem d_Ref_drop_15 : decode M_Ref_drop.2.1 15 = .ok (.iload_n 1, 1) := by decide +kernel
theorem d_Ref_drop_16 : decode M_Ref_drop.2.1 16 = .ok (.invokevirtual 77, 3) := by decide +kernel
theorem d_Ref_drop_19 : decode M_Ref_drop.2.1 19 = .ok (.ishl, 1) := by decide +kernel
theorem d_Ref_drop_20 : decode M_Ref_drop.2.1 20 = .ok (.iconst (-1), 1) := by decide +kernel
theorem d_Ref_drop_21 : decode M_Ref_drop.2.1 21 = .ok (.ixor, 1) := by decide +kernel
theorem d_Ref_drop_22 : decode M_Ref_drop.2.1 22 = .ok (.iand, 1) := by decide +kernel
theorem d_Ref_drop_23 : decode M_Ref_drop.2.1 23 = .ok (.invokevirtual 215, 3) := by decide +kernel
theorem d_Ref_drop_26 : decode M_Ref_drop.2.1 26 = .ok (.goto 4, 3) := by decide +kernel
theorem d_Ref_drop_29 : decode M_Ref_drop.2.1 29 = .ok (.iconst (-1), 1) := by decide +kernel
theorem d_Ref_drop_30 : decode M_Ref_drop.2.1 30 = .ok (.ireturn, 1) := by decide +kernel
theorem d_Ref_would_0 : decode M_Ref_would.2.1 0 = .ok (.aload_n 0, 1) := by decide +kernel
theorem d_Ref_would_1 : decode M_Ref_would.2.1 1 = .ok (.iload_n 1, 1) := by decide +kernel
theorem d_Ref_would_2 : decode M_Ref_would.2.1 2 = .ok (.invokevirtual 212, 3) := by decide +kernel
theorem d_Ref_would_5 : decode M_Ref_would.2.1 5 = .ok (.ifCond .eq 22, 3) := by decide +kernel
theorem d_Ref_would_8 : decode M_Ref_would.2.1 8 = .ok (.aload_n 0, 1) := by decide +kernel
theorem d_Ref_would_9 : decode M_Ref_would.2.1 9 = .ok (.aload_n 0, 1) := by decide +kernel
theorem d_Ref_would_10 : decode M_Ref_would.2.1 10 = .ok (.getfield 81, 3) := by decide +kernel
theorem d_Ref_would_13 : decode M_Ref_would.2.1 13 = .ok (.iconst 1, 1) := by decide +kernel
theorem d_Ref_would_14 : decode M_Ref_would.2.1 14 = .ok (.aload_n 0, 1) := by decide +kernel
theorem d_Ref_would_15 : decode M_Ref_would.2.1 15 = .ok (.iload_n 1, 1) := by decide +kernel
theorem d_Ref_would_16 : decode M_Ref_would.2.1 16 = .ok (.invokevirtual 77, 3) := by decide +kernel
theorem d_Ref_would_19 : decode M_Ref_would.2.1 19 = .ok (.ishl, 1) := by decide +kernel
theorem d_Ref_would_20 : decode M_Ref_would.2.1 20 = .ok (.ior, 1) := by decide +kernel
theorem d_Ref_would_21 : decode M_Ref_would.2.1 21 = .ok (.invokevirtual 218, 3) := by decide +kernel
theorem d_Ref_would_24 : decode M_Ref_would.2.1 24 = .ok (.goto 4, 3) := by decide +kernel
theorem d_Ref_would_27 : decode M_Ref_would.2.1 27 = .ok (.iconst (-1), 1) := by decide +kernel
theorem d_Ref_would_28 : decode M_Ref_would.2.1 28 = .ok (.ireturn, 1) := by decide +kernel
theorem d_Ref_pairsBy_0 : decode M_Ref_pairsBy.2.1 0 = .ok (.aload_n 0, 1) := by decide +kernel
theorem d_Ref_pairsBy_1 : decode M_Ref_pairsBy.2.1 1 = .ok (.getfield 81, 3) := by decide +kernel
theorem d_Ref_pairsBy_4 : decode M_Ref_pairsBy.2.1 4 = .ok (.istore_n 2, 1) := by decide +kernel
theorem d_Ref_pairsBy_5 : decode M_Ref_pairsBy.2.1 5 = .ok (.aload_n 0, 1) := by decide +kernel
theorem d_Ref_pairsBy_6 : decode M_Ref_pairsBy.2.1 6 = .ok (.iload_n 1, 1) := by decide +kernel
theorem d_Ref_pairsBy_7 : decode M_Ref_pairsBy.2.1 7 = .ok (.invokevirtual 73, 3) := by decide +kernel
theorem d_Ref_pairsBy_10 : decode M_Ref_pairsBy.2.1 10 = .ok (.aload_n 0, 1) := by decide +kernel
theorem d_Ref_pairsBy_11 : decode M_Ref_pairsBy.2.1 11 = .ok (.getfield 167, 3) := by decide +kernel
theorem d_Ref_pairsBy_14 : decode M_Ref_pairsBy.2.1 14 = .ok (.istore_n 3, 1) := by decide +kernel
theorem d_Ref_pairsBy_15 : decode M_Ref_pairsBy.2.1 15 = .ok (.aload_n 0, 1) := by decide +kernel
theorem d_Ref_pairsBy_16 : decode M_Ref_pairsBy.2.1 16 = .ok (.iload_n 2, 1) := by decide +kernel
theorem d_Ref_pairsBy_17 : decode M_Ref_pairsBy.2.1 17 = .ok (.invokevirtual 73, 3) := by decide +kernel
theorem d_Ref_pairsBy_20 : decode M_Ref_pairsBy.2.1 20 = .ok (.iload_n 3, 1) := by decide +kernel
theorem d_Ref_pairsBy_21 : decode M_Ref_pairsBy.2.1 21 = .ok (.ireturn, 1) := by decide +kernel
theorem d_Ref_without_0 : decode M_Ref_without.2.1 0 = .ok (.aload_n 0, 1) := by decide +kernel
theorem d_Ref_without_1 : decode M_Ref_without.2.1 1 = .ok (.iload_n 1, 1) := by decide +kernel
theorem d_Ref_without_2 : decode M_Ref_without.2.1 2 = .ok (.invokevirtual 209, 3) := by decide +kernel
theorem d_Ref_without_5 : decode M_Ref_without.2.1 5 = .ok (.ifCond .eq 24, 3) := by decide +kernel
theorem d_Ref_without_8 : decode M_Ref_without.2.1 8 = .ok (.aload_n 0, 1) := by decide +kernel
theorem d_Ref_without_9 : decode M_Ref_without.2.1 9 = .ok (.aload_n 0, 1) := by decide +kernel
theorem d_Ref_without_10 : decode M_Ref_without.2.1 10 = .ok (.getfield 81, 3) := by decide +kernel
theorem d_Ref_without_13 : decode M_Ref_without.2.1 13 = .ok (.iconst 1, 1) := by decide +kernel
theorem d_Ref_without_14 : decode M_Ref_without.2.1 14 = .ok (.aload_n 0, 1) := by decide +kernel
theorem d_Ref_without_15 : decode M_Ref_without.2.1 15 = .ok (.iload_n 1, 1) := by decide +kernel
theorem d_Ref_without_16 : decode M_Ref_without.2.1 16 = .ok (.invokevirtual 77, 3) := by decide +kernel
theorem d_Ref_without_19 : decode M_Ref_without.2.1 19 = .ok (.ishl, 1) := by decide +kernel
theorem d_Ref_without_20 : decode M_Ref_without.2.1 20 = .ok (.iconst (-1), 1) := by decide +kernel
theorem d_Ref_without_21 : decode M_Ref_without.2.1 21 = .ok (.ixor, 1) := by decide +kernel
theorem d_Ref_without_22 : decode M_Ref_without.2.1 22 = .ok (.iand, 1) := by decide +kernel
theorem d_Ref_without_23 : decode M_Ref_without.2.1 23 = .ok (.invokevirtual 218, 3) := by decide +kernel
theorem d_Ref_without_26 : decode M_Ref_without.2.1 26 = .ok (.goto 4, 3) := by decide +kernel
theorem d_Ref_without_29 : decode M_Ref_without.2.1 29 = .ok (.iconst (-1), 1) := by decide +kernel
theorem d_Ref_without_30 : decode M_Ref_without.2.1 30 = .ok (.ireturn, 1) := by decide +kernel
theorem d_Ref_bestPrime_0 : decode M_Ref_bestPrime.2.1 0 = .ok (.iconst (-1), 1) := by decide +kernel
theorem d_Ref_bestPrime_1 : decode M_Ref_bestPrime.2.1 1 = .ok (.istore_n 1, 1) := by decide +kernel
theorem d_Ref_bestPrime_2 : decode M_Ref_bestPrime.2.1 2 = .ok (.iconst (-1), 1) := by decide +kernel
theorem d_Ref_bestPrime_3 : decode M_Ref_bestPrime.2.1 3 = .ok (.istore_n 2, 1) := by decide +kernel
theorem d_Ref_bestPrime_4 : decode M_Ref_bestPrime.2.1 4 = .ok (.iconst 0, 1) := by decide +kernel
theorem d_Ref_bestPrime_5 : decode M_Ref_bestPrime.2.1 5 = .ok (.istore_n 3, 1) := by decide +kernel
theorem d_Ref_bestPrime_6 : decode M_Ref_bestPrime.2.1 6 = .ok (.iload_n 3, 1) := by decide +kernel
theorem d_Ref_bestPrime_7 : decode M_Ref_bestPrime.2.1 7 = .ok (.bipush 7, 2) := by decide +kernel
theorem d_Ref_bestPrime_9 : decode M_Ref_bestPrime.2.1 9 = .ok (.if_icmp .ge 40, 3) := by decide +kernel
theorem d_Ref_bestPrime_12 : decode M_Ref_bestPrime.2.1 12 = .ok (.aload_n 0, 1) := by decide +kernel
theorem d_Ref_bestPrime_13 : decode M_Ref_bestPrime.2.1 13 = .ok (.aload_n 0, 1) := by decide +kernel
theorem d_Ref_bestPrime_14 : decode M_Ref_bestPrime.2.1 14 = .ok (.getfield 9, 3) := by decide +kernel
theorem d_Ref_bestPrime_17 : decode M_Ref_bestPrime.2.1 17 = .ok (.iload_n 3, 1) := by decide +kernel
theorem d_Ref_bestPrime_18 : decode M_Ref_bestPrime.2.1 18 = .ok (.iaload, 1) := by decide +kernel
theorem d_Ref_bestPrime_19 : decode M_Ref_bestPrime.2.1 19 = .ok (.invokevirtual 221, 3) := by decide +kernel
theorem d_Ref_bestPrime_22 : decode M_Ref_bestPrime.2.1 22 = .ok (.istore 4, 2) := by decide +kernel
theorem d_Ref_bestPrime_24 : decode M_Ref_bestPrime.2.1 24 = .ok (.iload 4, 2) := by decide +kernel
theorem d_Ref_bestPrime_26 : decode M_Ref_bestPrime.2.1 26 = .ok (.iload_n 2, 1) := by decide +kernel
theorem d_Ref_bestPrime_27 : decode M_Ref_bestPrime.2.1 27 = .ok (.if_icmp .gt 6, 3) := by decide +kernel
theorem d_Ref_bestPrime_30 : decode M_Ref_bestPrime.2.1 30 = .ok (.goto 13, 3) := by decide +kernel
theorem d_Ref_bestPrime_33 : decode M_Ref_bestPrime.2.1 33 = .ok (.aload_n 0, 1) := by decide +kernel
theorem d_Ref_bestPrime_34 : decode M_Ref_bestPrime.2.1 34 = .ok (.getfield 9, 3) := by decide +kernel
theorem d_Ref_bestPrime_37 : decode M_Ref_bestPrime.2.1 37 = .ok (.iload_n 3, 1) := by decide +kernel
theorem d_Ref_bestPrime_38 : decode M_Ref_bestPrime.2.1 38 = .ok (.iaload, 1) := by decide +kernel
theorem d_Ref_bestPrime_39 : decode M_Ref_bestPrime.2.1 39 = .ok (.istore_n 1, 1) := by decide +kernel
theorem d_Ref_bestPrime_40 : decode M_Ref_bestPrime.2.1 40 = .ok (.iload 4, 2) := by decide +kernel
theorem d_Ref_bestPrime_42 : decode M_Ref_bestPrime.2.1 42 = .ok (.istore_n 2, 1) := by decide +kernel
theorem d_Ref_bestPrime_43 : decode M_Ref_bestPrime.2.1 43 = .ok (.iinc 3 1, 3) := by decide +kernel
theorem d_Ref_bestPrime_46 : decode M_Ref_bestPrime.2.1 46 = .ok (.goto (-40), 3) := by decide +kernel
theorem d_Ref_bestPrime_49 : decode M_Ref_bestPrime.2.1 49 = .ok (.iload_n 1, 1) := by decide +kernel
theorem d_Ref_bestPrime_50 : decode M_Ref_bestPrime.2.1 50 = .ok (.ireturn, 1) := by decide +kernel
theorem d_Ref_growth_0 : decode M_Ref_growth.2.1 0 = .ok (.iload_n 1, 1) := by decide +kernel
theorem d_Ref_growth_1 : decode M_Ref_growth.2.1 1 = .ok (.i2l, 1) := by decide +kernel
theorem d_Ref_growth_2 : decode M_Ref_growth.2.1 2 = .ok (.lconst 0, 1) := by decide +kernel
theorem d_Ref_growth_3 : decode M_Ref_growth.2.1 3 = .ok (.aload_n 0, 1) := by decide +kernel
theorem d_Ref_growth_4 : decode M_Ref_growth.2.1 4 = .ok (.getfield 81, 3) := by decide +kernel
theorem d_Ref_growth_7 : decode M_Ref_growth.2.1 7 = .ok (.invokestatic 206, 3) := by decide +kernel
theorem d_Ref_growth_10 : decode M_Ref_growth.2.1 10 = .ok (.i2l, 1) := by decide +kernel
theorem d_Ref_growth_11 : decode M_Ref_growth.2.1 11 = .ok (.invokestatic 111, 3) := by decide +kernel
theorem d_Ref_growth_14 : decode M_Ref_growth.2.1 14 = .ok (.ifCond .ne 5, 3) := by decide +kernel
theorem d_Ref_growth_17 : decode M_Ref_growth.2.1 17 = .ok (.iconst (-1), 1) := by decide +kernel
theorem d_Ref_growth_18 : decode M_Ref_growth.2.1 18 = .ok (.ireturn, 1) := by decide +kernel
theorem d_Ref_growth_19 : decode M_Ref_growth.2.1 19 = .ok (.iconst 0, 1) := by decide +kernel
theorem d_Ref_growth_20 : decode M_Ref_growth.2.1 20 = .ok (.istore_n 2, 1) := by decide +kernel
theorem d_Ref_growth_21 : decode M_Ref_growth.2.1 21 = .ok (.iload_n 1, 1) := by decide +kernel
theorem d_Ref_growth_22 : decode M_Ref_growth.2.1 22 = .ok (.istore_n 3, 1) := by decide +kernel
theorem d_Ref_growth_23 : decode M_Ref_growth.2.1 23 = .ok (.iconst 0, 1) := by decide +kernel
theorem d_Ref_growth_24 : decode M_Ref_growth.2.1 24 = .ok (.istore 4, 2) := by decide +kernel
theorem d_Ref_growth_26 : decode M_Ref_growth.2.1 26 = .ok (.iload 4, 2) := by decide +kernel
theorem d_Ref_growth_28 : decode M_Ref_growth.2.1 28 = .ok (.bipush 7, 2) := by decide +kernel
theorem d_Ref_growth_30 : decode M_Ref_growth.2.1 30 = .ok (.if_icmp .ge 38, 3) := by decide +kernel
theorem d_Ref_growth_33 : decode M_Ref_growth.2.1 33 = .ok (.aload_n 0, 1) := by decide +kernel
theorem d_Ref_growth_34 : decode M_Ref_growth.2.1 34 = .ok (.getfield 81, 3) := by decide +kernel
theorem d_Ref_growth_37 : decode M_Ref_growth.2.1 37 = .ok (.iload 4, 2) := by decide +kernel
theorem d_Ref_growth_39 : decode M_Ref_growth.2.1 39 = .ok (.invokestatic 85, 3) := by decide +kernel
theorem d_Ref_growth_42 : decode M_Ref_growth.2.1 42 = .ok (.ifCond .eq 20, 3) := by decide +kernel
theorem d_Ref_growth_45 : decode M_Ref_growth.2.1 45 = .ok (.iload_n 3, 1) := by decide +kernel
theorem d_Ref_growth_46 : decode M_Ref_growth.2.1 46 = .ok (.ifCond .ne 6, 3) := by decide +kernel
theorem d_Ref_growth_49 : decode M_Ref_growth.2.1 49 = .ok (.goto 13, 3) := by decide +kernel
theorem d_Ref_growth_52 : decode M_Ref_growth.2.1 52 = .ok (.iload_n 2, 1) := by decide +kernel
theorem d_Ref_growth_53 : decode M_Ref_growth.2.1 53 = .ok (.iconst 1, 1) := by decide +kernel
theorem d_Ref_growth_54 : decode M_Ref_growth.2.1 54 = .ok (.iload 4, 2) := by decide +kernel
theorem d_Ref_growth_56 : decode M_Ref_growth.2.1 56 = .ok (.ishl, 1) := by decide +kernel
theorem d_Ref_growth_57 : decode M_Ref_growth.2.1 57 = .ok (.ior, 1) := by decide +kernel
theorem d_Ref_growth_58 : decode M_Ref_growth.2.1 58 = .ok (.istore_n 2, 1) := by decide +kernel
theorem d_Ref_growth_59 : decode M_Ref_growth.2.1 59 = .ok (.iinc 3 (-1), 3) := by decide +kernel
theorem d_Ref_growth_62 : decode M_Ref_growth.2.1 62 = .ok (.iinc 4 1, 3) := by decide +kernel
theorem d_Ref_growth_65 : decode M_Ref_growth.2.1 65 = .ok (.goto (-39), 3) := by decide +kernel
theorem d_Ref_growth_68 : decode M_Ref_growth.2.1 68 = .ok (.aload_n 0, 1) := by decide +kernel
theorem d_Ref_growth_69 : decode M_Ref_growth.2.1 69 = .ok (.iload_n 2, 1) := by decide +kernel
theorem d_Ref_growth_70 : decode M_Ref_growth.2.1 70 = .ok (.invokevirtual 218, 3) := by decide +kernel
theorem d_Ref_growth_73 : decode M_Ref_growth.2.1 73 = .ok (.ireturn, 1) := by decide +kernel
theorem d_Ref_run_0 : decode M_Ref_run.2.1 0 = .ok (.iload_n 1, 1) := by decide +kernel
theorem d_Ref_run_1 : decode M_Ref_run.2.1 1 = .ok (.ifCond .lt 12, 3) := by decide +kernel
theorem d_Ref_run_4 : decode M_Ref_run.2.1 4 = .ok (.iload_n 1, 1) := by decide +kernel
theorem d_Ref_run_5 : decode M_Ref_run.2.1 5 = .ok (.aload_n 0, 1) := by decide +kernel
theorem d_Ref_run_6 : decode M_Ref_run.2.1 6 = .ok (.iload_n 1, 1) := by decide +kernel
theorem d_Ref_run_7 : decode M_Ref_run.2.1 7 = .ok (.invokevirtual 230, 3) := by decide +kernel
theorem d_Ref_run_10 : decode M_Ref_run.2.1 10 = .ok (.if_icmp .lt 5, 3) := by decide +kernel
theorem d_Ref_run_13 : decode M_Ref_run.2.1 13 = .ok (.iconst (-1), 1) := by decide +kernel
theorem d_Ref_run_14 : decode M_Ref_run.2.1 14 = .ok (.ireturn, 1) := by decide +kernel
theorem d_Ref_run_15 : decode M_Ref_run.2.1 15 = .ok (.iload_n 2, 1) := by decide +kernel
theorem d_Ref_run_16 : decode M_Ref_run.2.1 16 = .ok (.ifCond .ne 10, 3) := by decide +kernel
theorem d_Ref_run_19 : decode M_Ref_run.2.1 19 = .ok (.aload_n 0, 1) := by decide +kernel
theorem d_Ref_run_20 : decode M_Ref_run.2.1 20 = .ok (.getfield 224, 3) := by decide +kernel
theorem d_Ref_run_23 : decode M_Ref_run.2.1 23 = .ok (.goto 16, 3) := by decide +kernel
theorem d_Ref_run_26 : decode M_Ref_run.2.1 26 = .ok (.iload_n 2, 1) := by decide +kernel
theorem d_Ref_run_27 : decode M_Ref_run.2.1 27 = .ok (.iconst 1, 1) := by decide +kernel
theorem d_Ref_run_28 : decode M_Ref_run.2.1 28 = .ok (.if_icmp .ne 10, 3) := by decide +kernel
theorem d_Ref_run_31 : decode M_Ref_run.2.1 31 = .ok (.aload_n 0, 1) := by decide +kernel
theorem d_Ref_run_32 : decode M_Ref_run.2.1 32 = .ok (.getfield 227, 3) := by decide +kernel
theorem d_Ref_run_35 : decode M_Ref_run.2.1 35 = .ok (.goto 4, 3) := by decide +kernel
theorem d_Ref_run_38 : decode M_Ref_run.2.1 38 = .ok (.iconst (-1), 1) := by decide +kernel
theorem d_Ref_run_39 : decode M_Ref_run.2.1 39 = .ok (.ireturn, 1) := by decide +kernel
theorem d_Ref_layRuns_0 : decode M_Ref_layRuns.2.1 0 = .ok (.iconst 0, 1) := by decide +kernel
theorem d_Ref_layRuns_1 : decode M_Ref_layRuns.2.1 1 = .ok (.istore_n 2, 1) := by decide +kernel
theorem d_Ref_layRuns_2 : decode M_Ref_layRuns.2.1 2 = .ok (.iconst 0, 1) := by decide +kernel
theorem d_Ref_layRuns_3 : decode M_Ref_layRuns.2.1 3 = .ok (.istore_n 3, 1) := by decide +kernel
theorem d_Ref_layRuns_4 : decode M_Ref_layRuns.2.1 4 = .ok (.iload_n 3, 1) := by decide +kernel
theorem d_Ref_layRuns_5 : decode M_Ref_layRuns.2.1 5 = .ok (.aload_n 0, 1) := by decide +kernel
theorem d_Ref_layRuns_6 : decode M_Ref_layRuns.2.1 6 = .ok (.getfield 167, 3) := by decide +kernel
theorem d_Ref_layRuns_9 : decode M_Ref_layRuns.2.1 9 = .ok (.if_icmp .ge 81, 3) := by decide +kernel
theorem d_Ref_layRuns_12 : decode M_Ref_layRuns.2.1 12 = .ok (.iload_n 3, 1) := by decide +kernel
theorem d_Ref_layRuns_13 : decode M_Ref_layRuns.2.1 13 = .ok (.istore 4, 2) := by decide +kernel
theorem d_Ref_layRuns_15 : decode M_Ref_layRuns.2.1 15 = .ok (.iload 4, 2) := by decide +kernel
theorem d_Ref_layRuns_17 : decode M_Ref_layRuns.2.1 17 = .ok (.iconst 1, 1) := by decide +kernel
theorem d_Ref_layRuns_18 : decode M_Ref_layRuns.2.1 18 = .ok (.iadd, 1) := by decide +kernel
theorem d_Ref_layRuns_19 : decode M_Ref_layRuns.2.1 19 = .ok (.aload_n 0, 1) := by decide +kernel
theorem d_Ref_layRuns_20 : decode M_Ref_layRuns.2.1 20 = .ok (.getfield 167, 3) := by decide +kernel
theorem d_Ref_layRuns_23 : decode M_Ref_layRuns.2.1 23 = .ok (.if_icmp .ge 30, 3) := by decide +kernel
theorem d_Ref_layRuns_26 : decode M_Ref_layRuns.2.1 26 = .ok (.aload_n 0, 1) := by decide +kernel
theorem d_Ref_layRuns_27 : decode M_Ref_layRuns.2.1 27 = .ok (.getfield 28, 3) := by decide +kernel
theorem d_Ref_layRuns_30 : decode M_Ref_layRuns.2.1 30 = .ok (.iload 4, 2) := by decide +kernel
theorem d_Ref_layRuns_32 : decode M_Ref_layRuns.2.1 32 = .ok (.iconst 1, 1) := by decide +kernel
theorem d_Ref_layRuns_33 : decode M_Ref_layRuns.2.1 33 = .ok (.iadd, 1) := by decide +kernel
theorem d_Ref_layRuns_34 : decode M_Ref_layRuns.2.1 34 = .ok (.iaload, 1) := by decide +kernel
theorem d_Ref_layRuns_35 : decode M_Ref_layRuns.2.1 35 = .ok (.aload_n 0, 1) := by decide +kernel
theorem d_Ref_layRuns_36 : decode M_Ref_layRuns.2.1 36 = .ok (.getfield 28, 3) := by decide +kernel
theorem d_Ref_layRuns_39 : decode M_Ref_layRuns.2.1 39 = .ok (.iload 4, 2) := by decide +kernel
theorem d_Ref_layRuns_41 : decode M_Ref_layRuns.2.1 41 = .ok (.iaload, 1) := by decide +kernel
theorem d_Ref_layRuns_42 : decode M_Ref_layRuns.2.1 42 = .ok (.iconst 1, 1) := by decide +kernel
theorem d_Ref_layRuns_43 : decode M_Ref_layRuns.2.1 43 = .ok (.iadd, 1) := by decide +kernel
theorem d_Ref_layRuns_44 : decode M_Ref_layRuns.2.1 44 = .ok (.if_icmp .ne 9, 3) := by decide +kernel
theorem d_Ref_layRuns_47 : decode M_Ref_layRuns.2.1 47 = .ok (.iinc 4 1, 3) := by decide +kernel
theorem d_Ref_layRuns_50 : decode M_Ref_layRuns.2.1 50 = .ok (.goto (-35), 3) := by decide +kernel
theorem d_Ref_layRuns_53 : decode M_Ref_layRuns.2.1 53 = .ok (.iload 4, 2) := by decide +kernel
theorem d_Ref_layRuns_55 : decode M_Ref_layRuns.2.1 55 = .ok (.iload_n 3, 1) := by decide +kernel
theorem d_Ref_layRuns_56 : decode M_Ref_layRuns.2.1 56 = .ok (.if_icmp .le 26, 3) := by decide +kernel
theorem d_Ref_layRuns_59 : decode M_Ref_layRuns.2.1 59 = .ok (.iload_n 2, 1) := by decide +kernel
theorem d_Ref_layRuns_60 : decode M_Ref_layRuns.2.1 60 = .ok (.iload_n 1, 1) := by decide +kernel
theorem d_Ref_layRuns_61 : decode M_Ref_layRuns.2.1 61 = .ok (.if_icmp .ne 18, 3) := by decide +kernel
theorem d_Ref_layRuns_64 : decode M_Ref_layRuns.2.1 64 = .ok (.aload_n 0, 1) := by decide +kernel
theorem d_Ref_layRuns_65 : decode M_Ref_layRuns.2.1 65 = .ok (.iload_n 3, 1) := by decide +kernel
theorem d_Ref_layRuns_66 : decode M_Ref_layRuns.2.1 66 = .ok (.putfield 224, 3) := by decide +kernel
theorem d_Ref_layRuns_69 : decode M_Ref_layRuns.2.1 69 = .ok (.aload_n 0, 1) := by decide +kernel
theorem d_Ref_layRuns_70 : decode M_Ref_layRuns.2.1 70 = .ok (.iload 4, 2) := by decide +kernel
theorem d_Ref_layRuns_72 : decode M_Ref_layRuns.2.1 72 = .ok (.iload_n 3, 1) := by decide +kernel
theorem d_Ref_layRuns_73 : decode M_Ref_layRuns.2.1 73 = .ok (.isub, 1) := by decide +kernel
theorem d_Ref_layRuns_74 : decode M_Ref_layRuns.2.1 74 = .ok (.iconst 2, 1) := by decide +kernel
theorem d_Ref_layRuns_75 : decode M_Ref_layRuns.2.1 75 = .ok (.iadd, 1) := by decide +kernel
theorem d_Ref_layRuns_76 : decode M_Ref_layRuns.2.1 76 = .ok (.putfield 227, 3) := by decide +kernel
theorem d_Ref_layRuns_79 : decode M_Ref_layRuns.2.1 79 = .ok (.iinc 2 1, 3) := by decide +kernel
theorem d_Ref_layRuns_82 : decode M_Ref_layRuns.2.1 82 = .ok (.iload 4, 2) := by decide +kernel
theorem d_Ref_layRuns_84 : decode M_Ref_layRuns.2.1 84 = .ok (.iconst 1, 1) := by decide +kernel
theorem d_Ref_layRuns_85 : decode M_Ref_layRuns.2.1 85 = .ok (.iadd, 1) := by decide +kernel
theorem d_Ref_layRuns_86 : decode M_Ref_layRuns.2.1 86 = .ok (.istore_n 3, 1) := by decide +kernel
theorem d_Ref_layRuns_87 : decode M_Ref_layRuns.2.1 87 = .ok (.goto (-83), 3) := by decide +kernel
theorem d_Ref_layRuns_90 : decode M_Ref_layRuns.2.1 90 = .ok (.iload_n 2, 1) := by decide +kernel
theorem d_Ref_layRuns_91 : decode M_Ref_layRuns.2.1 91 = .ok (.ireturn, 1) := by decide +kernel
theorem d_Ref_is_0 : decode M_Ref_is.2.1 0 = .ok (.iload_n 1, 1) := by decide +kernel
theorem d_Ref_is_1 : decode M_Ref_is.2.1 1 = .ok (.tableswitch 139 0 10 #[59, 64, 72, 77, 82, 87, 93, 98, 124, 129, 134], 59) := by decide +kernel
theorem d_Ref_is_60 : decode M_Ref_is.2.1 60 = .ok (.aload_n 0, 1) := by decide +kernel
theorem d_Ref_is_61 : decode M_Ref_is.2.1 61 = .ok (.getfield 81, 3) := by decide +kernel
theorem d_Ref_is_64 : decode M_Ref_is.2.1 64 = .ok (.ireturn, 1) := by decide +kernel
theorem d_Ref_is_65 : decode M_Ref_is.2.1 65 = .ok (.aload_n 0, 1) := by decide +kernel
theorem d_Ref_is_66 : decode M_Ref_is.2.1 66 = .ok (.getfield 81, 3) := by decide +kernel
theorem d_Ref_is_69 : decode M_Ref_is.2.1 69 = .ok (.invokestatic 206, 3) := by decide +kernel
theorem d_Ref_is_72 : decode M_Ref_is.2.1 72 = .ok (.ireturn, 1) := by decide +kernel
theorem d_Ref_is_73 : decode M_Ref_is.2.1 73 = .ok (.aload_n 0, 1) := by decide +kernel
theorem d_Ref_is_74 : decode M_Ref_is.2.1 74 = .ok (.getfield 195, 3) := by decide +kernel
theorem d_Ref_is_77 : decode M_Ref_is.2.1 77 = .ok (.ireturn, 1) := by decide +kernel
theorem d_Ref_is_78 : decode M_Ref_is.2.1 78 = .ok (.aload_n 0, 1) := by decide +kernel
theorem d_Ref_is_79 : decode M_Ref_is.2.1 79 = .ok (.invokevirtual 176, 3) := by decide +kernel
theorem d_Ref_is_82 : decode M_Ref_is.2.1 82 = .ok (.ireturn, 1) := by decide +kernel
theorem d_Ref_is_83 : decode M_Ref_is.2.1 83 = .ok (.aload_n 0, 1) := by decide +kernel
theorem d_Ref_is_84 : decode M_Ref_is.2.1 84 = .ok (.getfield 167, 3) := by decide +kernel
theorem d_Ref_is_87 : decode M_Ref_is.2.1 87 = .ok (.ireturn, 1) := by decide +kernel
theorem d_Ref_is_88 : decode M_Ref_is.2.1 88 = .ok (.aload_n 0, 1) := by decide +kernel
theorem d_Ref_is_89 : decode M_Ref_is.2.1 89 = .ok (.iconst (-1), 1) := by decide +kernel
theorem d_Ref_is_90 : decode M_Ref_is.2.1 90 = .ok (.invokevirtual 230, 3) := by decide +kernel
theorem d_Ref_is_93 : decode M_Ref_is.2.1 93 = .ok (.ireturn, 1) := by decide +kernel
theorem d_Ref_is_94 : decode M_Ref_is.2.1 94 = .ok (.aload_n 0, 1) := by decide +kernel
theorem d_Ref_is_95 : decode M_Ref_is.2.1 95 = .ok (.invokevirtual 89, 3) := by decide +kernel
theorem d_Ref_is_98 : decode M_Ref_is.2.1 98 = .ok (.ireturn, 1) := by decide +kernel
theorem d_Ref_is_99 : decode M_Ref_is.2.1 99 = .ok (.aload_n 0, 1) := by decide +kernel
theorem d_Ref_is_100 : decode M_Ref_is.2.1 100 = .ok (.getfield 167, 3) := by decide +kernel
theorem d_Ref_is_103 : decode M_Ref_is.2.1 103 = .ok (.ifCond .ne 7, 3) := by decide +kernel
theorem d_Ref_is_106 : decode M_Ref_is.2.1 106 = .ok (.iconst 0, 1) := by decide +kernel
theorem d_Ref_is_107 : decode M_Ref_is.2.1 107 = .ok (.goto 17, 3) := by decide +kernel
theorem d_Ref_is_110 : decode M_Ref_is.2.1 110 = .ok (.aload_n 0, 1) := by decide +kernel
theorem d_Ref_is_111 : decode M_Ref_is.2.1 111 = .ok (.getfield 28, 3) := by decide +kernel
theorem d_Ref_is_114 : decode M_Ref_is.2.1 114 = .ok (.aload_n 0, 1) := by decide +kernel
theorem d_Ref_is_115 : decode M_Ref_is.2.1 115 = .ok (.getfield 167, 3) := by decide +kernel
theorem d_Ref_is_118 : decode M_Ref_is.2.1 118 = .ok (.iconst 1, 1) := by decide +kernel
theorem d_Ref_is_119 : decode M_Ref_is.2.1 119 = .ok (.isub, 1) := by decide +kernel
theorem d_Ref_is_120 : decode M_Ref_is.2.1 120 = .ok (.iaload, 1) := by decide +kernel
theorem d_Ref_is_121 : decode M_Ref_is.2.1 121 = .ok (.invokestatic 105, 3) := by decide +kernel
theorem d_Ref_is_124 : decode M_Ref_is.2.1 124 = .ok (.ireturn, 1) := by decide +kernel
theorem d_Ref_is_125 : decode M_Ref_is.2.1 125 = .ok (.aload_n 0, 1) := by decide +kernel
theorem d_Ref_is_126 : decode M_Ref_is.2.1 126 = .ok (.invokevirtual 233, 3) := by decide +kernel
theorem d_Ref_is_129 : decode M_Ref_is.2.1 129 = .ok (.ireturn, 1) := by decide +kernel
theorem d_Ref_is_130 : decode M_Ref_is.2.1 130 = .ok (.aload_n 0, 1) := by decide +kernel
theorem d_Ref_is_131 : decode M_Ref_is.2.1 131 = .ok (.invokevirtual 236, 3) := by decide +kernel
theorem d_Ref_is_134 : decode M_Ref_is.2.1 134 = .ok (.ireturn, 1) := by decide +kernel
theorem d_Ref_is_135 : decode M_Ref_is.2.1 135 = .ok (.aload_n 0, 1) := by decide +kernel
theorem d_Ref_is_136 : decode M_Ref_is.2.1 136 = .ok (.invokevirtual 239, 3) := by decide +kernel
theorem d_Ref_is_139 : decode M_Ref_is.2.1 139 = .ok (.ireturn, 1) := by decide +kernel
theorem d_Ref_is_140 : decode M_Ref_is.2.1 140 = .ok (.iconst (-1), 1) := by decide +kernel
theorem d_Ref_is_141 : decode M_Ref_is.2.1 141 = .ok (.ireturn, 1) := by decide +kernel
theorem d_Ref_negatives_0 : decode M_Ref_negatives.2.1 0 = .ok (.iconst 0, 1) := by decide +kernel
theorem d_Ref_negatives_1 : decode M_Ref_negatives.2.1 1 = .ok (.istore_n 1, 1) := by decide +kernel
theorem d_Ref_negatives_2 : decode M_Ref_negatives.2.1 2 = .ok (.iconst 0, 1) := by decide +kernel
theorem d_Ref_negatives_3 : decode M_Ref_negatives.2.1 3 = .ok (.istore_n 2, 1) := by decide +kernel
theorem d_Ref_negatives_4 : decode M_Ref_negatives.2.1 4 = .ok (.iload_n 2, 1) := by decide +kernel
theorem d_Ref_negatives_5 : decode M_Ref_negatives.2.1 5 = .ok (.aload_n 0, 1) := by decide +kernel
theorem d_Ref_negatives_6 : decode M_Ref_negatives.2.1 6 = .ok (.getfield 195, 3) := by decide +kernel
theorem d_Ref_negatives_9 : decode M_Ref_negatives.2.1 9 = .ok (.if_icmp .ge 25, 3) := by decide +kernel
theorem d_Ref_negatives_12 : decode M_Ref_negatives.2.1 12 = .ok (.iload_n 1, 1) := by decide +kernel
theorem d_Ref_negatives_13 : decode M_Ref_negatives.2.1 13 = .ok (.aload_n 0, 1) := by decide +kernel
theorem d_Ref_negatives_14 : decode M_Ref_negatives.2.1 14 = .ok (.iload_n 2, 1) := by decide +kernel
theorem d_Ref_negatives_15 : decode M_Ref_negatives.2.1 15 = .ok (.invokevirtual 160, 3) := by decide +kernel
theorem d_Ref_negatives_18 : decode M_Ref_negatives.2.1 18 = .ok (.ifCond .eq 7, 3) := by decide +kernel
theorem d_Ref_negatives_21 : decode M_Ref_negatives.2.1 21 = .ok (.iconst 1, 1) := by decide +kernel
theorem d_Ref_negatives_22 : decode M_Ref_negatives.2.1 22 = .ok (.goto 4, 3) := by decide +kernel
theorem d_Ref_negatives_25 : decode M_Ref_negatives.2.1 25 = .ok (.iconst 0, 1) := by decide +kernel
theorem d_Ref_negatives_26 : decode M_Ref_negatives.2.1 26 = .ok (.iadd, 1) := by decide +kernel
theorem d_Ref_negatives_27 : decode M_Ref_negatives.2.1 27 = .ok (.istore_n 1, 1) := by decide +kernel
theorem d_Ref_negatives_28 : decode M_Ref_negatives.2.1 28 = .ok (.iinc 2 1, 3) := by decide +kernel
theorem d_Ref_negatives_31 : decode M_Ref_negatives.2.1 31 = .ok (.goto (-27), 3) := by decide +kernel
theorem d_Ref_negatives_34 : decode M_Ref_negatives.2.1 34 = .ok (.iload_n 1, 1) := by decide +kernel
theorem d_Ref_negatives_35 : decode M_Ref_negatives.2.1 35 = .ok (.ireturn, 1) := by decide +kernel
theorem d_Ref_withPairs_0 : decode M_Ref_withPairs.2.1 0 = .ok (.iconst 0, 1) := by decide +kernel
theorem d_Ref_withPairs_1 : decode M_Ref_withPairs.2.1 1 = .ok (.istore_n 1, 1) := by decide +kernel
theorem d_Ref_withPairs_2 : decode M_Ref_withPairs.2.1 2 = .ok (.iconst 0, 1) := by decide +kernel
theorem d_Ref_withPairs_3 : decode M_Ref_withPairs.2.1 3 = .ok (.istore_n 2, 1) := by decide +kernel
theorem d_Ref_withPairs_4 : decode M_Ref_withPairs.2.1 4 = .ok (.iload_n 2, 1) := by decide +kernel
theorem d_Ref_withPairs_5 : decode M_Ref_withPairs.2.1 5 = .ok (.aload_n 0, 1) := by decide +kernel
theorem d_Ref_withPairs_6 : decode M_Ref_withPairs.2.1 6 = .ok (.getfield 195, 3) := by decide +kernel
theorem d_Ref_withPairs_9 : decode M_Ref_withPairs.2.1 9 = .ok (.if_icmp .ge 26, 3) := by decide +kernel
theorem d_Ref_withPairs_12 : decode M_Ref_withPairs.2.1 12 = .ok (.iload_n 1, 1) := by decide +kernel
theorem d_Ref_withPairs_13 : decode M_Ref_withPairs.2.1 13 = .ok (.aload_n 0, 1) := by decide +kernel
theorem d_Ref_withPairs_14 : decode M_Ref_withPairs.2.1 14 = .ok (.getfield 25, 3) := by decide +kernel
theorem d_Ref_withPairs_17 : decode M_Ref_withPairs.2.1 17 = .ok (.iload_n 2, 1) := by decide +kernel
theorem d_Ref_withPairs_18 : decode M_Ref_withPairs.2.1 18 = .ok (.iaload, 1) := by decide +kernel
theorem d_Ref_withPairs_19 : decode M_Ref_withPairs.2.1 19 = .ok (.ifCond .ne 7, 3) := by decide +kernel
theorem d_Ref_withPairs_22 : decode M_Ref_withPairs.2.1 22 = .ok (.iconst 0, 1) := by decide +kernel
theorem d_Ref_withPairs_23 : decode M_Ref_withPairs.2.1 23 = .ok (.goto 4, 3) := by decide +kernel
theorem d_Ref_withPairs_26 : decode M_Ref_withPairs.2.1 26 = .ok (.iconst 1, 1) := by decide +kernel
theorem d_Ref_withPairs_27 : decode M_Ref_withPairs.2.1 27 = .ok (.iadd, 1) := by decide +kernel
theorem d_Ref_withPairs_28 : decode M_Ref_withPairs.2.1 28 = .ok (.istore_n 1, 1) := by decide +kernel
theorem d_Ref_withPairs_29 : decode M_Ref_withPairs.2.1 29 = .ok (.iinc 2 1, 3) := by decide +kernel
theorem d_Ref_withPairs_32 : decode M_Ref_withPairs.2.1 32 = .ok (.goto (-28), 3) := by decide +kernel
theorem d_Ref_withPairs_35 : decode M_Ref_withPairs.2.1 35 = .ok (.iload_n 1, 1) := by decide +kernel
theorem d_Ref_withPairs_36 : decode M_Ref_withPairs.2.1 36 = .ok (.ireturn, 1) := by decide +kernel
theorem d_Ref_rounds_0 : decode M_Ref_rounds.2.1 0 = .ok (.iconst 0, 1) := by decide +kernel
theorem d_Ref_rounds_1 : decode M_Ref_rounds.2.1 1 = .ok (.istore_n 1, 1) := by decide +kernel
theorem d_Ref_rounds_2 : decode M_Ref_rounds.2.1 2 = .ok (.iconst 0, 1) := by decide +kernel
theorem d_Ref_rounds_3 : decode M_Ref_rounds.2.1 3 = .ok (.istore_n 2, 1) := by decide +kernel
theorem d_Ref_rounds_4 : decode M_Ref_rounds.2.1 4 = .ok (.iload_n 2, 1) := by decide +kernel
theorem d_Ref_rounds_5 : decode M_Ref_rounds.2.1 5 = .ok (.aload_n 0, 1) := by decide +kernel
theorem d_Ref_rounds_6 : decode M_Ref_rounds.2.1 6 = .ok (.getfield 195, 3) := by decide +kernel
theorem d_Ref_rounds_9 : decode M_Ref_rounds.2.1 9 = .ok (.if_icmp .ge 18, 3) := by decide +kernel
theorem d_Ref_rounds_12 : decode M_Ref_rounds.2.1 12 = .ok (.iload_n 1, 1) := by decide +kernel
theorem d_Ref_rounds_13 : decode M_Ref_rounds.2.1 13 = .ok (.aload_n 0, 1) := by decide +kernel
theorem d_Ref_rounds_14 : decode M_Ref_rounds.2.1 14 = .ok (.getfield 22, 3) := by decide +kernel
theorem d_Ref_rounds_17 : decode M_Ref_rounds.2.1 17 = .ok (.iload_n 2, 1) := by decide +kernel
theorem d_Ref_rounds_18 : decode M_Ref_rounds.2.1 18 = .ok (.iaload, 1) := by decide +kernel
theorem d_Ref_rounds_19 : decode M_Ref_rounds.2.1 19 = .ok (.iadd, 1) := by decide +kernel
theorem d_Ref_rounds_20 : decode M_Ref_rounds.2.1 20 = .ok (.istore_n 1, 1) := by decide +kernel
theorem d_Ref_rounds_21 : decode M_Ref_rounds.2.1 21 = .ok (.iinc 2 1, 3) := by decide +kernel
theorem d_Ref_rounds_24 : decode M_Ref_rounds.2.1 24 = .ok (.goto (-20), 3) := by decide +kernel
theorem d_Ref_rounds_27 : decode M_Ref_rounds.2.1 27 = .ok (.iload_n 1, 1) := by decide +kernel
theorem d_Ref_rounds_28 : decode M_Ref_rounds.2.1 28 = .ok (.ireturn, 1) := by decide +kernel
theorem d_Ref_of_0 : decode M_Ref_of.2.1 0 = .ok (.aload_n 0, 1) := by decide +kernel
theorem d_Ref_of_1 : decode M_Ref_of.2.1 1 = .ok (.iload_n 1, 1) := by decide +kernel
theorem d_Ref_of_2 : decode M_Ref_of.2.1 2 = .ok (.invokevirtual 242, 3) := by decide +kernel
theorem d_Ref_of_5 : decode M_Ref_of.2.1 5 = .ok (.ifCond .ne 5, 3) := by decide +kernel
theorem d_Ref_of_8 : decode M_Ref_of.2.1 8 = .ok (.iconst (-1), 1) := by decide +kernel
theorem d_Ref_of_9 : decode M_Ref_of.2.1 9 = .ok (.ireturn, 1) := by decide +kernel
theorem d_Ref_of_10 : decode M_Ref_of.2.1 10 = .ok (.iload_n 2, 1) := by decide +kernel
theorem d_Ref_of_11 : decode M_Ref_of.2.1 11 = .ok (.tableswitch 125 0 8 #[49, 56, 62, 69, 76, 90, 100, 108, 118], 49) := by decide +kernel
theorem d_Ref_of_60 : decode M_Ref_of.2.1 60 = .ok (.aload_n 0, 1) := by decide +kernel
theorem d_Ref_of_61 : decode M_Ref_of.2.1 61 = .ok (.getfield 16, 3) := by decide +kernel
theorem d_Ref_of_64 : decode M_Ref_of.2.1 64 = .ok (.iload_n 1, 1) := by decide +kernel
theorem d_Ref_of_65 : decode M_Ref_of.2.1 65 = .ok (.iaload, 1) := by decide +kernel
theorem d_Ref_of_66 : decode M_Ref_of.2.1 66 = .ok (.ireturn, 1) := by decide +kernel
theorem d_Ref_of_67 : decode M_Ref_of.2.1 67 = .ok (.aload_n 0, 1) := by decide +kernel
theorem d_Ref_of_68 : decode M_Ref_of.2.1 68 = .ok (.iload_n 1, 1) := by decide +kernel
theorem d_Ref_of_69 : decode M_Ref_of.2.1 69 = .ok (.invokevirtual 128, 3) := by decide +kernel
theorem d_Ref_of_72 : decode M_Ref_of.2.1 72 = .ok (.ireturn, 1) := by decide +kernel
theorem d_Ref_of_73 : decode M_Ref_of.2.1 73 = .ok (.aload_n 0, 1) := by decide +kernel
theorem d_Ref_of_74 : decode M_Ref_of.2.1 74 = .ok (.getfield 19, 3) := by decide +kernel
theorem d_Ref_of_77 : decode M_Ref_of.2.1 77 = .ok (.iload_n 1, 1) := by decide +kernel
theorem d_Ref_of_78 : decode M_Ref_of.2.1 78 = .ok (.iaload, 1) := by decide +kernel
theorem d_Ref_of_79 : decode M_Ref_of.2.1 79 = .ok (.ireturn, 1) := by decide +kernel
theorem d_Ref_of_80 : decode M_Ref_of.2.1 80 = .ok (.aload_n 0, 1) := by decide +kernel
theorem d_Ref_of_81 : decode M_Ref_of.2.1 81 = .ok (.getfield 22, 3) := by decide +kernel
theorem d_Ref_of_84 : decode M_Ref_of.2.1 84 = .ok (.iload_n 1, 1) := by decide +kernel
theorem d_Ref_of_85 : decode M_Ref_of.2.1 85 = .ok (.iaload, 1) := by decide +kernel
theorem d_Ref_of_86 : decode M_Ref_of.2.1 86 = .ok (.ireturn, 1) := by decide +kernel
theorem d_Ref_of_87 : decode M_Ref_of.2.1 87 = .ok (.aload_n 0, 1) := by decide +kernel
theorem d_Ref_of_88 : decode M_Ref_of.2.1 88 = .ok (.iload_n 1, 1) := by decide +kernel
theorem d_Ref_of_89 : decode M_Ref_of.2.1 89 = .ok (.invokevirtual 160, 3) := by decide +kernel
theorem d_Ref_of_92 : decode M_Ref_of.2.1 92 = .ok (.ifCond .eq 7, 3) := by decide +kernel
theorem d_Ref_of_95 : decode M_Ref_of.2.1 95 = .ok (.iconst 1, 1) := by decide +kernel
theorem d_Ref_of_96 : decode M_Ref_of.2.1 96 = .ok (.goto 4, 3) := by decide +kernel
theorem d_Ref_of_99 : decode M_Ref_of.2.1 99 = .ok (.iconst 0, 1) := by decide +kernel
theorem d_Ref_of_100 : decode M_Ref_of.2.1 100 = .ok (.ireturn, 1) := by decide +kernel
theorem d_Ref_of_101 : decode M_Ref_of.2.1 101 = .ok (.aload_n 0, 1) := by decide +kernel
theorem d_Ref_of_102 : decode M_Ref_of.2.1 102 = .ok (.getfield 25, 3) := by decide +kernel
theorem d_Ref_of_105 : decode M_Ref_of.2.1 105 = .ok (.iload_n 1, 1) := by decide +kernel
theorem d_Ref_of_106 : decode M_Ref_of.2.1 106 = .ok (.iaload, 1) := by decide +kernel
theorem d_Ref_of_107 : decode M_Ref_of.2.1 107 = .ok (.invokestatic 206, 3) := by decide +kernel
theorem d_Ref_of_110 : decode M_Ref_of.2.1 110 = .ok (.ireturn, 1) := by decide +kernel
theorem d_Ref_of_111 : decode M_Ref_of.2.1 111 = .ok (.aload_n 0, 1) := by decide +kernel
theorem d_Ref_of_112 : decode M_Ref_of.2.1 112 = .ok (.iconst 2, 1) := by decide +kernel
theorem d_Ref_of_113 : decode M_Ref_of.2.1 113 = .ok (.iload_n 1, 1) := by decide +kernel
theorem d_Ref_of_114 : decode M_Ref_of.2.1 114 = .ok (.imul, 1) := by decide +kernel
theorem d_Ref_of_115 : decode M_Ref_of.2.1 115 = .ok (.invokevirtual 108, 3) := by decide +kernel
theorem d_Ref_of_118 : decode M_Ref_of.2.1 118 = .ok (.ireturn, 1) := by decide +kernel
theorem d_Ref_of_119 : decode M_Ref_of.2.1 119 = .ok (.aload_n 0, 1) := by decide +kernel
theorem d_Ref_of_120 : decode M_Ref_of.2.1 120 = .ok (.iconst 2, 1) := by decide +kernel
theorem d_Ref_of_121 : decode M_Ref_of.2.1 121 = .ok (.iload_n 1, 1) := by decide +kernel
theorem d_Ref_of_122 : decode M_Ref_of.2.1 122 = .ok (.imul, 1) := by decide +kernel
theorem d_Ref_of_123 : decode M_Ref_of.2.1 123 = .ok (.iconst 1, 1) := by decide +kernel
theorem d_Ref_of_124 : decode M_Ref_of.2.1 124 = .ok (.iadd, 1) := by decide +kernel
theorem d_Ref_of_125 : decode M_Ref_of.2.1 125 = .ok (.invokevirtual 108, 3) := by decide +kernel
theorem d_Ref_of_128 : decode M_Ref_of.2.1 128 = .ok (.ireturn, 1) := by decide +kernel
theorem d_Ref_of_129 : decode M_Ref_of.2.1 129 = .ok (.aload_n 0, 1) := by decide +kernel
theorem d_Ref_of_130 : decode M_Ref_of.2.1 130 = .ok (.getfield 25, 3) := by decide +kernel
theorem d_Ref_of_133 : decode M_Ref_of.2.1 133 = .ok (.iload_n 1, 1) := by decide +kernel
theorem d_Ref_of_134 : decode M_Ref_of.2.1 134 = .ok (.iaload, 1) := by decide +kernel
theorem d_Ref_of_135 : decode M_Ref_of.2.1 135 = .ok (.ireturn, 1) := by decide +kernel
theorem d_Ref_of_136 : decode M_Ref_of.2.1 136 = .ok (.iconst (-1), 1) := by decide +kernel
theorem d_Ref_of_137 : decode M_Ref_of.2.1 137 = .ok (.ireturn, 1) := by decide +kernel
theorem d_Ref_isClass_0 : decode M_Ref_isClass.2.1 0 = .ok (.iload_n 1, 1) := by decide +kernel
theorem d_Ref_isClass_1 : decode M_Ref_isClass.2.1 1 = .ok (.i2l, 1) := by decide +kernel
theorem d_Ref_isClass_2 : decode M_Ref_isClass.2.1 2 = .ok (.lconst 0, 1) := by decide +kernel
theorem d_Ref_isClass_3 : decode M_Ref_isClass.2.1 3 = .ok (.aload_n 0, 1) := by decide +kernel
theorem d_Ref_isClass_4 : decode M_Ref_isClass.2.1 4 = .ok (.getfield 195, 3) := by decide +kernel
theorem d_Ref_isClass_7 : decode M_Ref_isClass.2.1 7 = .ok (.iconst 1, 1) := by decide +kernel
theorem d_Ref_isClass_8 : decode M_Ref_isClass.2.1 8 = .ok (.isub, 1) := by decide +kernel
theorem d_Ref_isClass_9 : decode M_Ref_isClass.2.1 9 = .ok (.i2l, 1) := by decide +kernel
theorem d_Ref_isClass_10 : decode M_Ref_isClass.2.1 10 = .ok (.invokestatic 111, 3) := by decide +kernel
theorem d_Ref_isClass_13 : decode M_Ref_isClass.2.1 13 = .ok (.ireturn, 1) := by decide +kernel
theorem d_Ref_step_0 : decode M_Ref_step.2.1 0 = .ok (.aload_n 0, 1) := by decide +kernel
theorem d_Ref_step_1 : decode M_Ref_step.2.1 1 = .ok (.iload_n 1, 1) := by decide +kernel
theorem d_Ref_step_2 : decode M_Ref_step.2.1 2 = .ok (.iload_n 2, 1) := by decide +kernel
theorem d_Ref_step_3 : decode M_Ref_step.2.1 3 = .ok (.invokevirtual 245, 3) := by decide +kernel
theorem d_Ref_step_6 : decode M_Ref_step.2.1 6 = .ok (.ifCond .ne 5, 3) := by decide +kernel
theorem d_Ref_step_9 : decode M_Ref_step.2.1 9 = .ok (.iconst (-1), 1) := by decide +kernel
theorem d_Ref_step_10 : decode M_Ref_step.2.1 10 = .ok (.ireturn, 1) := by decide +kernel
theorem d_Ref_step_11 : decode M_Ref_step.2.1 11 = .ok (.aload_n 0, 1) := by decide +kernel
theorem d_Ref_step_12 : decode M_Ref_step.2.1 12 = .ok (.iload_n 1, 1) := by decide +kernel
theorem d_Ref_step_13 : decode M_Ref_step.2.1 13 = .ok (.iload_n 2, 1) := by decide +kernel
theorem d_Ref_step_14 : decode M_Ref_step.2.1 14 = .ok (.invokevirtual 248, 3) := by decide +kernel
theorem d_Ref_step_17 : decode M_Ref_step.2.1 17 = .ok (.aload_n 0, 1) := by decide +kernel
theorem d_Ref_step_18 : decode M_Ref_step.2.1 18 = .ok (.getfield 125, 3) := by decide +kernel
theorem d_Ref_step_21 : decode M_Ref_step.2.1 21 = .ok (.ireturn, 1) := by decide +kernel
theorem d_Ref_isStep_0 : decode M_Ref_isStep.2.1 0 = .ok (.aload_n 0, 1) := by decide +kernel
theorem d_Ref_isStep_1 : decode M_Ref_isStep.2.1 1 = .ok (.iload_n 1, 1) := by decide +kernel
theorem d_Ref_isStep_2 : decode M_Ref_isStep.2.1 2 = .ok (.invokevirtual 242, 3) := by decide +kernel
theorem d_Ref_isStep_5 : decode M_Ref_isStep.2.1 5 = .ok (.ifCond .eq 25, 3) := by decide +kernel
theorem d_Ref_isStep_8 : decode M_Ref_isStep.2.1 8 = .ok (.iload_n 2, 1) := by decide +kernel
theorem d_Ref_isStep_9 : decode M_Ref_isStep.2.1 9 = .ok (.i2l, 1) := by decide +kernel
theorem d_Ref_isStep_10 : decode M_Ref_isStep.2.1 10 = .ok (.lconst 0, 1) := by decide +kernel
theorem d_Ref_isStep_11 : decode M_Ref_isStep.2.1 11 = .ok (.iconst 2, 1) := by decide +kernel
theorem d_Ref_isStep_12 : decode M_Ref_isStep.2.1 12 = .ok (.aload_n 0, 1) := by decide +kernel
theorem d_Ref_isStep_13 : decode M_Ref_isStep.2.1 13 = .ok (.getfield 22, 3) := by decide +kernel
theorem d_Ref_isStep_16 : decode M_Ref_isStep.2.1 16 = .ok (.iload_n 1, 1) := by decide +kernel
theorem d_Ref_isStep_17 : decode M_Ref_isStep.2.1 17 = .ok (.iaload, 1) := by decide +kernel
theorem d_Ref_isStep_18 : decode M_Ref_isStep.2.1 18 = .ok (.imul, 1) := by decide +kernel
theorem d_Ref_isStep_19 : decode M_Ref_isStep.2.1 19 = .ok (.i2l, 1) := by decide +kernel
theorem d_Ref_isStep_20 : decode M_Ref_isStep.2.1 20 = .ok (.invokestatic 111, 3) := by decide +kernel
theorem d_Ref_isStep_23 : decode M_Ref_isStep.2.1 23 = .ok (.ifCond .eq 7, 3) := by decide +kernel
theorem d_Ref_isStep_26 : decode M_Ref_isStep.2.1 26 = .ok (.iconst 1, 1) := by decide +kernel
theorem d_Ref_isStep_27 : decode M_Ref_isStep.2.1 27 = .ok (.goto 4, 3) := by decide +kernel
theorem d_Ref_isStep_30 : decode M_Ref_isStep.2.1 30 = .ok (.iconst 0, 1) := by decide +kernel
theorem d_Ref_isStep_31 : decode M_Ref_isStep.2.1 31 = .ok (.ireturn, 1) := by decide +kernel
theorem d_Ref_goSteps_0 : decode M_Ref_goSteps.2.1 0 = .ok (.aload_n 0, 1) := by decide +kernel
theorem d_Ref_goSteps_1 : decode M_Ref_goSteps.2.1 1 = .ok (.iload_n 1, 1) := by decide +kernel
theorem d_Ref_goSteps_2 : decode M_Ref_goSteps.2.1 2 = .ok (.invokevirtual 131, 3) := by decide +kernel
theorem d_Ref_goSteps_5 : decode M_Ref_goSteps.2.1 5 = .ok (.iconst 0, 1) := by decide +kernel
theorem d_Ref_goSteps_6 : decode M_Ref_goSteps.2.1 6 = .ok (.istore_n 3, 1) := by decide +kernel
theorem d_Ref_goSteps_7 : decode M_Ref_goSteps.2.1 7 = .ok (.iload_n 3, 1) := by decide +kernel
theorem d_Ref_goSteps_8 : decode M_Ref_goSteps.2.1 8 = .ok (.iload_n 2, 1) := by decide +kernel
theorem d_Ref_goSteps_9 : decode M_Ref_goSteps.2.1 9 = .ok (.if_icmp .ge 14, 3) := by decide +kernel
theorem d_Ref_goSteps_12 : decode M_Ref_goSteps.2.1 12 = .ok (.aload_n 0, 1) := by decide +kernel
theorem d_Ref_goSteps_13 : decode M_Ref_goSteps.2.1 13 = .ok (.iload_n 1, 1) := by decide +kernel
theorem d_Ref_goSteps_14 : decode M_Ref_goSteps.2.1 14 = .ok (.invokevirtual 134, 3) := by decide +kernel
theorem d_Ref_goSteps_17 : decode M_Ref_goSteps.2.1 17 = .ok (.iinc 3 1, 3) := by decide +kernel
theorem d_Ref_goSteps_20 : decode M_Ref_goSteps.2.1 20 = .ok (.goto (-13), 3) := by decide +kernel
theorem d_Ref_goSteps_23 : decode M_Ref_goSteps.2.1 23 = .ok (.return_, 1) := by decide +kernel
theorem d_Ref_unit_0 : decode M_Ref_unit.2.1 0 = .ok (.aload_n 0, 1) := by decide +kernel
theorem d_Ref_unit_1 : decode M_Ref_unit.2.1 1 = .ok (.iload_n 1, 1) := by decide +kernel
theorem d_Ref_unit_2 : decode M_Ref_unit.2.1 2 = .ok (.invokevirtual 242, 3) := by decide +kernel
theorem d_Ref_unit_5 : decode M_Ref_unit.2.1 5 = .ok (.ifCond .eq 26, 3) := by decide +kernel
theorem d_Ref_unit_8 : decode M_Ref_unit.2.1 8 = .ok (.iload_n 2, 1) := by decide +kernel
theorem d_Ref_unit_9 : decode M_Ref_unit.2.1 9 = .ok (.i2l, 1) := by decide +kernel
theorem d_Ref_unit_10 : decode M_Ref_unit.2.1 10 = .ok (.lconst 0, 1) := by decide +kernel
theorem d_Ref_unit_11 : decode M_Ref_unit.2.1 11 = .ok (.lconst 1, 1) := by decide +kernel
theorem d_Ref_unit_12 : decode M_Ref_unit.2.1 12 = .ok (.invokestatic 111, 3) := by decide +kernel
theorem d_Ref_unit_15 : decode M_Ref_unit.2.1 15 = .ok (.ifCond .eq 16, 3) := by decide +kernel
theorem d_Ref_unit_18 : decode M_Ref_unit.2.1 18 = .ok (.aload_n 0, 1) := by decide +kernel
theorem d_Ref_unit_19 : decode M_Ref_unit.2.1 19 = .ok (.iconst 2, 1) := by decide +kernel
theorem d_Ref_unit_20 : decode M_Ref_unit.2.1 20 = .ok (.iload_n 1, 1) := by decide +kernel
theorem d_Ref_unit_21 : decode M_Ref_unit.2.1 21 = .ok (.imul, 1) := by decide +kernel
theorem d_Ref_unit_22 : decode M_Ref_unit.2.1 22 = .ok (.iload_n 2, 1) := by decide +kernel
theorem d_Ref_unit_23 : decode M_Ref_unit.2.1 23 = .ok (.iadd, 1) := by decide +kernel
theorem d_Ref_unit_24 : decode M_Ref_unit.2.1 24 = .ok (.iload_n 3, 1) := by decide +kernel
theorem d_Ref_unit_25 : decode M_Ref_unit.2.1 25 = .ok (.invokevirtual 251, 3) := by decide +kernel
theorem d_Ref_unit_28 : decode M_Ref_unit.2.1 28 = .ok (.goto 4, 3) := by decide +kernel
theorem d_Ref_unit_31 : decode M_Ref_unit.2.1 31 = .ok (.iconst (-1), 1) := by decide +kernel
theorem d_Ref_unit_32 : decode M_Ref_unit.2.1 32 = .ok (.ireturn, 1) := by decide +kernel
theorem d_Ref_digitAt_0 : decode M_Ref_digitAt.2.1 0 = .ok (.iload_n 2, 1) := by decide +kernel
theorem d_Ref_digitAt_1 : decode M_Ref_digitAt.2.1 1 = .ok (.i2l, 1) := by decide +kernel
theorem d_Ref_digitAt_2 : decode M_Ref_digitAt.2.1 2 = .ok (.lconst 0, 1) := by decide +kernel
theorem d_Ref_digitAt_3 : decode M_Ref_digitAt.2.1 3 = .ok (.aload_n 0, 1) := by decide +kernel
theorem d_Ref_digitAt_4 : decode M_Ref_digitAt.2.1 4 = .ok (.iload_n 1, 1) := by decide +kernel
theorem d_Ref_digitAt_5 : decode M_Ref_digitAt.2.1 5 = .ok (.invokevirtual 108, 3) := by decide +kernel
theorem d_Ref_digitAt_8 : decode M_Ref_digitAt.2.1 8 = .ok (.iconst 1, 1) := by decide +kernel
theorem d_Ref_digitAt_9 : decode M_Ref_digitAt.2.1 9 = .ok (.isub, 1) := by decide +kernel
theorem d_Ref_digitAt_10 : decode M_Ref_digitAt.2.1 10 = .ok (.i2l, 1) := by decide +kernel
theorem d_Ref_digitAt_11 : decode M_Ref_digitAt.2.1 11 = .ok (.invokestatic 111, 3) := by decide +kernel
theorem d_Ref_digitAt_14 : decode M_Ref_digitAt.2.1 14 = .ok (.ifCond .eq 20, 3) := by decide +kernel
theorem d_Ref_digitAt_17 : decode M_Ref_digitAt.2.1 17 = .ok (.aload_n 0, 1) := by decide +kernel
theorem d_Ref_digitAt_18 : decode M_Ref_digitAt.2.1 18 = .ok (.iload_n 1, 1) := by decide +kernel
theorem d_Ref_digitAt_19 : decode M_Ref_digitAt.2.1 19 = .ok (.iload_n 2, 1) := by decide +kernel
theorem d_Ref_digitAt_20 : decode M_Ref_digitAt.2.1 20 = .ok (.iconst 4, 1) := by decide +kernel
theorem d_Ref_digitAt_21 : decode M_Ref_digitAt.2.1 21 = .ok (.idiv, 1) := by decide +kernel
theorem d_Ref_digitAt_22 : decode M_Ref_digitAt.2.1 22 = .ok (.invokevirtual 96, 3) := by decide +kernel
theorem d_Ref_digitAt_25 : decode M_Ref_digitAt.2.1 25 = .ok (.iload_n 2, 1) := by decide +kernel
theorem d_Ref_digitAt_26 : decode M_Ref_digitAt.2.1 26 = .ok (.iconst 4, 1) := by decide +kernel
theorem d_Ref_digitAt_27 : decode M_Ref_digitAt.2.1 27 = .ok (.irem, 1) := by decide +kernel
theorem d_Ref_digitAt_28 : decode M_Ref_digitAt.2.1 28 = .ok (.invokestatic 115, 3) := by decide +kernel
theorem d_Ref_digitAt_31 : decode M_Ref_digitAt.2.1 31 = .ok (.goto 4, 3) := by decide +kernel
theorem d_Ref_digitAt_34 : decode M_Ref_digitAt.2.1 34 = .ok (.iconst (-1), 1) := by decide +kernel
theorem d_Ref_digitAt_35 : decode M_Ref_digitAt.2.1 35 = .ok (.ireturn, 1) := by decide +kernel
theorem d_Ref_digitIn_0 : decode M_Ref_digitIn.2.1 0 = .ok (.iload_n 0, 1) := by decide +kernel
theorem d_Ref_digitIn_1 : decode M_Ref_digitIn.2.1 1 = .ok (.istore_n 2, 1) := by decide +kernel
theorem d_Ref_digitIn_2 : decode M_Ref_digitIn.2.1 2 = .ok (.iconst 0, 1) := by decide +kernel
theorem d_Ref_digitIn_3 : decode M_Ref_digitIn.2.1 3 = .ok (.istore_n 3, 1) := by decide +kernel
theorem d_Ref_digitIn_4 : decode M_Ref_digitIn.2.1 4 = .ok (.iload_n 3, 1) := by decide +kernel
theorem d_Ref_digitIn_5 : decode M_Ref_digitIn.2.1 5 = .ok (.iload_n 1, 1) := by decide +kernel
theorem d_Ref_digitIn_6 : decode M_Ref_digitIn.2.1 6 = .ok (.if_icmp .ge 14, 3) := by decide +kernel
theorem d_Ref_digitIn_9 : decode M_Ref_digitIn.2.1 9 = .ok (.iload_n 2, 1) := by decide +kernel
theorem d_Ref_digitIn_10 : decode M_Ref_digitIn.2.1 10 = .ok (.bipush 10, 2) := by decide +kernel
theorem d_Ref_digitIn_12 : decode M_Ref_digitIn.2.1 12 = .ok (.idiv, 1) := by decide +kernel
theorem d_Ref_digitIn_13 : decode M_Ref_digitIn.2.1 13 = .ok (.istore_n 2, 1) := by decide +kernel
theorem d_Ref_digitIn_14 : decode M_Ref_digitIn.2.1 14 = .ok (.iinc 3 1, 3) := by decide +kernel
theorem d_Ref_digitIn_17 : decode M_Ref_digitIn.2.1 17 = .ok (.goto (-13), 3) := by decide +kernel
theorem d_Ref_digitIn_20 : decode M_Ref_digitIn.2.1 20 = .ok (.iload_n 2, 1) := by decide +kernel
theorem d_Ref_digitIn_21 : decode M_Ref_digitIn.2.1 21 = .ok (.bipush 10, 2) := by decide +kernel
theorem d_Ref_digitIn_23 : decode M_Ref_digitIn.2.1 23 = .ok (.irem, 1) := by decide +kernel
theorem d_Ref_digitIn_24 : decode M_Ref_digitIn.2.1 24 = .ok (.ireturn, 1) := by decide +kernel
theorem d_Ref_power_0 : decode M_Ref_power.2.1 0 = .ok (.aload_n 0, 1) := by decide +kernel
theorem d_Ref_power_1 : decode M_Ref_power.2.1 1 = .ok (.iload_n 1, 1) := by decide +kernel
theorem d_Ref_power_2 : decode M_Ref_power.2.1 2 = .ok (.invokevirtual 242, 3) := by decide +kernel
theorem d_Ref_power_5 : decode M_Ref_power.2.1 5 = .ok (.ifCond .eq 39, 3) := by decide +kernel
theorem d_Ref_power_8 : decode M_Ref_power.2.1 8 = .ok (.iload_n 2, 1) := by decide +kernel
theorem d_Ref_power_9 : decode M_Ref_power.2.1 9 = .ok (.i2l, 1) := by decide +kernel
theorem d_Ref_power_10 : decode M_Ref_power.2.1 10 = .ok (.lconst 0, 1) := by decide +kernel
theorem d_Ref_power_11 : decode M_Ref_power.2.1 11 = .ok (.ldc2_w 257, 3) := by decide +kernel
theorem d_Ref_power_14 : decode M_Ref_power.2.1 14 = .ok (.invokestatic 111, 3) := by decide +kernel
theorem d_Ref_power_17 : decode M_Ref_power.2.1 17 = .ok (.ifCond .eq 27, 3) := by decide +kernel
theorem d_Ref_power_20 : decode M_Ref_power.2.1 20 = .ok (.iload_n 3, 1) := by decide +kernel
theorem d_Ref_power_21 : decode M_Ref_power.2.1 21 = .ok (.i2l, 1) := by decide +kernel
theorem d_Ref_power_22 : decode M_Ref_power.2.1 22 = .ok (.ldc2_w 181, 3) := by decide +kernel
theorem d_Ref_power_25 : decode M_Ref_power.2.1 25 = .ok (.ldc2_w 103, 3) := by decide +kernel
theorem d_Ref_power_28 : decode M_Ref_power.2.1 28 = .ok (.invokestatic 111, 3) := by decide +kernel
theorem d_Ref_power_31 : decode M_Ref_power.2.1 31 = .ok (.ifCond .eq 13, 3) := by decide +kernel
theorem d_Ref_power_34 : decode M_Ref_power.2.1 34 = .ok (.aload_n 0, 1) := by decide +kernel
theorem d_Ref_power_35 : decode M_Ref_power.2.1 35 = .ok (.iload_n 1, 1) := by decide +kernel
theorem d_Ref_power_36 : decode M_Ref_power.2.1 36 = .ok (.iload_n 2, 1) := by decide +kernel
theorem d_Ref_power_37 : decode M_Ref_power.2.1 37 = .ok (.iload_n 3, 1) := by decide +kernel
theorem d_Ref_power_38 : decode M_Ref_power.2.1 38 = .ok (.invokevirtual 259, 3) := by decide +kernel
theorem d_Ref_power_41 : decode M_Ref_power.2.1 41 = .ok (.goto 4, 3) := by decide +kernel
theorem d_Ref_power_44 : decode M_Ref_power.2.1 44 = .ok (.iconst (-1), 1) := by decide +kernel
theorem d_Ref_power_45 : decode M_Ref_power.2.1 45 = .ok (.ireturn, 1) := by decide +kernel
theorem d_Ref_powerMod_0 : decode M_Ref_powerMod.2.1 0 = .ok (.aload_n 0, 1) := by decide +kernel
theorem d_Ref_powerMod_1 : decode M_Ref_powerMod.2.1 1 = .ok (.iconst 2, 1) := by decide +kernel
theorem d_Ref_powerMod_2 : decode M_Ref_powerMod.2.1 2 = .ok (.iload_n 1, 1) := by decide +kernel
theorem d_Ref_powerMod_3 : decode M_Ref_powerMod.2.1 3 = .ok (.imul, 1) := by decide +kernel
theorem d_Ref_powerMod_4 : decode M_Ref_powerMod.2.1 4 = .ok (.iload_n 3, 1) := by decide +kernel
theorem d_Ref_powerMod_5 : decode M_Ref_powerMod.2.1 5 = .ok (.invokevirtual 254, 3) := by decide +kernel
theorem d_Ref_powerMod_8 : decode M_Ref_powerMod.2.1 8 = .ok (.istore 4, 2) := by decide +kernel
theorem d_Ref_powerMod_10 : decode M_Ref_powerMod.2.1 10 = .ok (.iload 4, 2) := by decide +kernel
theorem d_Ref_powerMod_12 : decode M_Ref_powerMod.2.1 12 = .ok (.istore 5, 2) := by decide +kernel
theorem d_Ref_powerMod_14 : decode M_Ref_powerMod.2.1 14 = .ok (.iconst 1, 1) := by decide +kernel
theorem d_Ref_powerMod_15 : decode M_Ref_powerMod.2.1 15 = .ok (.iload_n 3, 1) := by decide +kernel
theorem d_Ref_powerMod_16 : decode M_Ref_powerMod.2.1 16 = .ok (.irem, 1) := by decide +kernel
theorem d_Ref_powerMod_17 : decode M_Ref_powerMod.2.1 17 = .ok (.istore 6, 2) := by decide +kernel
theorem d_Ref_powerMod_19 : decode M_Ref_powerMod.2.1 19 = .ok (.iconst 0, 1) := by decide +kernel
theorem d_Ref_powerMod_20 : decode M_Ref_powerMod.2.1 20 = .ok (.istore 7, 2) := by decide +kernel
theorem d_Ref_powerMod_22 : decode M_Ref_powerMod.2.1 22 = .ok (.iload 7, 2) := by decide +kernel
theorem d_Ref_powerMod_24 : decode M_Ref_powerMod.2.1 24 = .ok (.iload_n 2, 1) := by decide +kernel
theorem d_Ref_powerMod_25 : decode M_Ref_powerMod.2.1 25 = .ok (.if_icmp .ge 50, 3) := by decide +kernel
theorem d_Ref_powerMod_28 : decode M_Ref_powerMod.2.1 28 = .ok (.ldc2_w 181, 3) := by decide +kernel
theorem d_Ref_powerMod_31 : decode M_Ref_powerMod.2.1 31 = .ok (.iload 4, 2) := by decide +kernel
theorem d_Ref_powerMod_33 : decode M_Ref_powerMod.2.1 33 = .ok (.i2l, 1) := by decide +kernel
theorem d_Ref_powerMod_34 : decode M_Ref_powerMod.2.1 34 = .ok (.lmul, 1) := by decide +kernel
theorem d_Ref_powerMod_35 : decode M_Ref_powerMod.2.1 35 = .ok (.iload 6, 2) := by decide +kernel
theorem d_Ref_powerMod_37 : decode M_Ref_powerMod.2.1 37 = .ok (.i2l, 1) := by decide +kernel
theorem d_Ref_powerMod_38 : decode M_Ref_powerMod.2.1 38 = .ok (.lmul, 1) := by decide +kernel
theorem d_Ref_powerMod_39 : decode M_Ref_powerMod.2.1 39 = .ok (.iload 5, 2) := by decide +kernel
theorem d_Ref_powerMod_41 : decode M_Ref_powerMod.2.1 41 = .ok (.i2l, 1) := by decide +kernel
theorem d_Ref_powerMod_42 : decode M_Ref_powerMod.2.1 42 = .ok (.lsub, 1) := by decide +kernel
theorem d_Ref_powerMod_43 : decode M_Ref_powerMod.2.1 43 = .ok (.iload_n 3, 1) := by decide +kernel
theorem d_Ref_powerMod_44 : decode M_Ref_powerMod.2.1 44 = .ok (.i2l, 1) := by decide +kernel
theorem d_Ref_powerMod_45 : decode M_Ref_powerMod.2.1 45 = .ok (.lrem, 1) := by decide +kernel
theorem d_Ref_powerMod_46 : decode M_Ref_powerMod.2.1 46 = .ok (.l2i, 1) := by decide +kernel
theorem d_Ref_powerMod_47 : decode M_Ref_powerMod.2.1 47 = .ok (.istore 8, 2) := by decide +kernel
theorem d_Ref_powerMod_49 : decode M_Ref_powerMod.2.1 49 = .ok (.iload 6, 2) := by decide +kernel
theorem d_Ref_powerMod_51 : decode M_Ref_powerMod.2.1 51 = .ok (.istore 5, 2) := by decide +kernel
theorem d_Ref_powerMod_53 : decode M_Ref_powerMod.2.1 53 = .ok (.iload 8, 2) := by decide +kernel
theorem d_Ref_powerMod_55 : decode M_Ref_powerMod.2.1 55 = .ok (.ifCond .ge 10, 3) := by decide +kernel
theorem d_Ref_powerMod_58 : decode M_Ref_powerMod.2.1 58 = .ok (.iload 8, 2) := by decide +kernel
theorem d_Ref_powerMod_60 : decode M_Ref_powerMod.2.1 60 = .ok (.iload_n 3, 1) := by decide +kernel
theorem d_Ref_powerMod_61 : decode M_Ref_powerMod.2.1 61 = .ok (.iadd, 1) := by decide +kernel
theorem d_Ref_powerMod_62 : decode M_Ref_powerMod.2.1 62 = .ok (.goto 5, 3) := by decide +kernel
theorem d_Ref_powerMod_65 : decode M_Ref_powerMod.2.1 65 = .ok (.iload 8, 2) := by decide +kernel
theorem d_Ref_powerMod_67 : decode M_Ref_powerMod.2.1 67 = .ok (.istore 6, 2) := by decide +kernel
theorem d_Ref_powerMod_69 : decode M_Ref_powerMod.2.1 69 = .ok (.iinc 7 1, 3) := by decide +kernel
theorem d_Ref_powerMod_72 : decode M_Ref_powerMod.2.1 72 = .ok (.goto (-50), 3) := by decide +kernel
theorem d_Ref_powerMod_75 : decode M_Ref_powerMod.2.1 75 = .ok (.iload 6, 2) := by decide +kernel
theorem d_Ref_powerMod_77 : decode M_Ref_powerMod.2.1 77 = .ok (.ireturn, 1) := by decide +kernel
theorem d_Ref_modOf_0 : decode M_Ref_modOf.2.1 0 = .ok (.lconst 0, 1) := by decide +kernel
theorem d_Ref_modOf_1 : decode M_Ref_modOf.2.1 1 = .ok (.lstore_n 3, 1) := by decide +kernel
theorem d_Ref_modOf_2 : decode M_Ref_modOf.2.1 2 = .ok (.aload_n 0, 1) := by decide +kernel
theorem d_Ref_modOf_3 : decode M_Ref_modOf.2.1 3 = .ok (.iload_n 1, 1) := by decide +kernel
theorem d_Ref_modOf_4 : decode M_Ref_modOf.2.1 4 = .ok (.invokevirtual 93, 3) := by decide +kernel
theorem d_Ref_modOf_7 : decode M_Ref_modOf.2.1 7 = .ok (.iconst 1, 1) := by decide +kernel
theorem d_Ref_modOf_8 : decode M_Ref_modOf.2.1 8 = .ok (.isub, 1) := by decide +kernel
theorem d_Ref_modOf_9 : decode M_Ref_modOf.2.1 9 = .ok (.istore 5, 2) := by decide +kernel
theorem d_Ref_modOf_11 : decode M_Ref_modOf.2.1 11 = .ok (.iload 5, 2) := by decide +kernel
theorem d_Ref_modOf_13 : decode M_Ref_modOf.2.1 13 = .ok (.ifCond .lt 27, 3) := by decide +kernel
theorem d_Ref_modOf_16 : decode M_Ref_modOf.2.1 16 = .ok (.lload_n 3, 1) := by decide +kernel
theorem d_Ref_modOf_17 : decode M_Ref_modOf.2.1 17 = .ok (.ldc2_w 103, 3) := by decide +kernel
theorem d_Ref_modOf_20 : decode M_Ref_modOf.2.1 20 = .ok (.lmul, 1) := by decide +kernel
theorem d_Ref_modOf_21 : decode M_Ref_modOf.2.1 21 = .ok (.aload_n 0, 1) := by decide +kernel
theorem d_Ref_modOf_22 : decode M_Ref_modOf.2.1 22 = .ok (.iload_n 1, 1) := by decide +kernel
theorem d_Ref_modOf_23 : decode M_Ref_modOf.2.1 23 = .ok (.iload 5, 2) := by decide +kernel
theorem d_Ref_modOf_25 : decode M_Ref_modOf.2.1 25 = .ok (.invokevirtual 96, 3) := by decide +kernel
theorem d_Ref_modOf_28 : decode M_Ref_modOf.2.1 28 = .ok (.i2l, 1) := by decide +kernel
theorem d_Ref_modOf_29 : decode M_Ref_modOf.2.1 29 = .ok (.ladd, 1) := by decide +kernel
theorem d_Ref_modOf_30 : decode M_Ref_modOf.2.1 30 = .ok (.iload_n 2, 1) := by decide +kernel
theorem d_Ref_modOf_31 : decode M_Ref_modOf.2.1 31 = .ok (.i2l, 1) := by decide +kernel
theorem d_Ref_modOf_32 : decode M_Ref_modOf.2.1 32 = .ok (.lrem, 1) := by decide +kernel
theorem d_Ref_modOf_33 : decode M_Ref_modOf.2.1 33 = .ok (.lstore_n 3, 1) := by decide +kernel
theorem d_Ref_modOf_34 : decode M_Ref_modOf.2.1 34 = .ok (.iinc 5 (-1), 3) := by decide +kernel
theorem d_Ref_modOf_37 : decode M_Ref_modOf.2.1 37 = .ok (.goto (-26), 3) := by decide +kernel
theorem d_Ref_modOf_40 : decode M_Ref_modOf.2.1 40 = .ok (.lload_n 3, 1) := by decide +kernel
theorem d_Ref_modOf_41 : decode M_Ref_modOf.2.1 41 = .ok (.l2i, 1) := by decide +kernel
theorem d_Ref_modOf_42 : decode M_Ref_modOf.2.1 42 = .ok (.ireturn, 1) := by decide +kernel
theorem d_Ref_powerLong_0 : decode M_Ref_powerLong.2.1 0 = .ok (.aload_n 0, 1) := by decide +kernel
theorem d_Ref_powerLong_1 : decode M_Ref_powerLong.2.1 1 = .ok (.iload_n 1, 1) := by decide +kernel
theorem d_Ref_powerLong_2 : decode M_Ref_powerLong.2.1 2 = .ok (.invokevirtual 242, 3) := by decide +kernel
theorem d_Ref_powerLong_5 : decode M_Ref_powerLong.2.1 5 = .ok (.ifCond .eq 30, 3) := by decide +kernel
theorem d_Ref_powerLong_8 : decode M_Ref_powerLong.2.1 8 = .ok (.iload_n 2, 1) := by decide +kernel
theorem d_Ref_powerLong_9 : decode M_Ref_powerLong.2.1 9 = .ok (.i2l, 1) := by decide +kernel
theorem d_Ref_powerLong_10 : decode M_Ref_powerLong.2.1 10 = .ok (.lconst 0, 1) := by decide +kernel
theorem d_Ref_powerLong_11 : decode M_Ref_powerLong.2.1 11 = .ok (.aload_n 0, 1) := by decide +kernel
theorem d_Ref_powerLong_12 : decode M_Ref_powerLong.2.1 12 = .ok (.invokevirtual 176, 3) := by decide +kernel
theorem d_Ref_powerLong_15 : decode M_Ref_powerLong.2.1 15 = .ok (.i2l, 1) := by decide +kernel
theorem d_Ref_powerLong_16 : decode M_Ref_powerLong.2.1 16 = .ok (.invokestatic 111, 3) := by decide +kernel
theorem d_Ref_powerLong_19 : decode M_Ref_powerLong.2.1 19 = .ok (.ifCond .eq 16, 3) := by decide +kernel
theorem d_Ref_powerLong_22 : decode M_Ref_powerLong.2.1 22 = .ok (.aload_n 0, 1) := by decide +kernel
theorem d_Ref_powerLong_23 : decode M_Ref_powerLong.2.1 23 = .ok (.aload_n 0, 1) := by decide +kernel
theorem d_Ref_powerLong_24 : decode M_Ref_powerLong.2.1 24 = .ok (.iload_n 1, 1) := by decide +kernel
theorem d_Ref_powerLong_25 : decode M_Ref_powerLong.2.1 25 = .ok (.iload_n 2, 1) := by decide +kernel
theorem d_Ref_powerLong_26 : decode M_Ref_powerLong.2.1 26 = .ok (.invokevirtual 266, 3) := by decide +kernel
theorem d_Ref_powerLong_29 : decode M_Ref_powerLong.2.1 29 = .ok (.invokevirtual 108, 3) := by decide +kernel
theorem d_Ref_powerLong_32 : decode M_Ref_powerLong.2.1 32 = .ok (.goto 4, 3) := by decide +kernel
theorem d_Ref_powerLong_35 : decode M_Ref_powerLong.2.1 35 = .ok (.iconst (-1), 1) := by decide +kernel
theorem d_Ref_powerLong_36 : decode M_Ref_powerLong.2.1 36 = .ok (.ireturn, 1) := by decide +kernel
theorem d_Ref_layPower_0 : decode M_Ref_layPower.2.1 0 = .ok (.aload_n 0, 1) := by decide +kernel
theorem d_Ref_layPower_1 : decode M_Ref_layPower.2.1 1 = .ok (.bipush 126, 2) := by decide +kernel
theorem d_Ref_layPower_3 : decode M_Ref_layPower.2.1 3 = .ok (.iconst 1, 1) := by decide +kernel
theorem d_Ref_layPower_4 : decode M_Ref_layPower.2.1 4 = .ok (.invokevirtual 69, 3) := by decide +kernel
theorem d_Ref_layPower_7 : decode M_Ref_layPower.2.1 7 = .ok (.aload_n 0, 1) := by decide +kernel
theorem d_Ref_layPower_8 : decode M_Ref_layPower.2.1 8 = .ok (.iconst 2, 1) := by decide +kernel
theorem d_Ref_layPower_9 : decode M_Ref_layPower.2.1 9 = .ok (.iload_n 1, 1) := by decide +kernel
theorem d_Ref_layPower_10 : decode M_Ref_layPower.2.1 10 = .ok (.imul, 1) := by decide +kernel
theorem d_Ref_layPower_11 : decode M_Ref_layPower.2.1 11 = .ok (.bipush 127, 2) := by decide +kernel
theorem d_Ref_layPower_13 : decode M_Ref_layPower.2.1 13 = .ok (.invokevirtual 153, 3) := by decide +kernel
theorem d_Ref_layPower_16 : decode M_Ref_layPower.2.1 16 = .ok (.aload_n 0, 1) := by decide +kernel
theorem d_Ref_layPower_17 : decode M_Ref_layPower.2.1 17 = .ok (.sipush 129, 3) := by decide +kernel
theorem d_Ref_layPower_20 : decode M_Ref_layPower.2.1 20 = .ok (.iconst 0, 1) := by decide +kernel
theorem d_Ref_layPower_21 : decode M_Ref_layPower.2.1 21 = .ok (.invokevirtual 69, 3) := by decide +kernel
theorem d_Ref_layPower_24 : decode M_Ref_layPower.2.1 24 = .ok (.iconst 1, 1) := by decide +kernel
theorem d_Ref_layPower_25 : decode M_Ref_layPower.2.1 25 = .ok (.istore_n 3, 1) := by decide +kernel
theorem d_Ref_layPower_26 : decode M_Ref_layPower.2.1 26 = .ok (.iload_n 3, 1) := by decide +kernel
theorem d_Ref_layPower_27 : decode M_Ref_layPower.2.1 27 = .ok (.iload_n 2, 1) := by decide +kernel
theorem d_Ref_layPower_28 : decode M_Ref_layPower.2.1 28 = .ok (.if_icmp .ge 61, 3) := by decide +kernel
theorem d_Ref_layPower_31 : decode M_Ref_layPower.2.1 31 = .ok (.aload_n 0, 1) := by decide +kernel
theorem d_Ref_layPower_32 : decode M_Ref_layPower.2.1 32 = .ok (.bipush 127, 2) := by decide +kernel
theorem d_Ref_layPower_34 : decode M_Ref_layPower.2.1 34 = .ok (.iconst 2, 1) := by decide +kernel
theorem d_Ref_layPower_35 : decode M_Ref_layPower.2.1 35 = .ok (.iload_n 1, 1) := by decide +kernel
theorem d_Ref_layPower_36 : decode M_Ref_layPower.2.1 36 = .ok (.imul, 1) := by decide +kernel
theorem d_Ref_layPower_37 : decode M_Ref_layPower.2.1 37 = .ok (.sipush 128, 3) := by decide +kernel
theorem d_Ref_layPower_40 : decode M_Ref_layPower.2.1 40 = .ok (.invokevirtual 164, 3) := by decide +kernel
theorem d_Ref_layPower_43 : decode M_Ref_layPower.2.1 43 = .ok (.aload_n 0, 1) := by decide +kernel
theorem d_Ref_layPower_44 : decode M_Ref_layPower.2.1 44 = .ok (.sipush 128, 3) := by decide +kernel
theorem d_Ref_layPower_47 : decode M_Ref_layPower.2.1 47 = .ok (.iconst 2, 1) := by decide +kernel
theorem d_Ref_layPower_48 : decode M_Ref_layPower.2.1 48 = .ok (.sipush 129, 3) := by decide +kernel
theorem d_Ref_layPower_51 : decode M_Ref_layPower.2.1 51 = .ok (.sipush 130, 3) := by decide +kernel
theorem d_Ref_layPower_54 : decode M_Ref_layPower.2.1 54 = .ok (.invokevirtual 149, 3) := by decide +kernel
theorem d_Ref_layPower_57 : decode M_Ref_layPower.2.1 57 = .ok (.aload_n 0, 1) := by decide +kernel
theorem d_Ref_layPower_58 : decode M_Ref_layPower.2.1 58 = .ok (.sipush 130, 3) := by decide +kernel
theorem d_Ref_layPower_61 : decode M_Ref_layPower.2.1 61 = .ok (.bipush 126, 2) := by decide +kernel
theorem d_Ref_layPower_63 : decode M_Ref_layPower.2.1 63 = .ok (.invokevirtual 263, 3) := by decide +kernel
theorem d_Ref_layPower_66 : decode M_Ref_layPower.2.1 66 = .ok (.aload_n 0, 1) := by decide +kernel
theorem d_Ref_layPower_67 : decode M_Ref_layPower.2.1 67 = .ok (.bipush 127, 2) := by decide +kernel
theorem d_Ref_layPower_69 : decode M_Ref_layPower.2.1 69 = .ok (.bipush 126, 2) := by decide +kernel
theorem d_Ref_layPower_71 : decode M_Ref_layPower.2.1 71 = .ok (.invokevirtual 153, 3) := by decide +kernel
theorem d_Ref_layPower_74 : decode M_Ref_layPower.2.1 74 = .ok (.aload_n 0, 1) := by decide +kernel
theorem d_Ref_layPower_75 : decode M_Ref_layPower.2.1 75 = .ok (.sipush 130, 3) := by decide +kernel
theorem d_Ref_layPower_78 : decode M_Ref_layPower.2.1 78 = .ok (.bipush 127, 2) := by decide +kernel
theorem d_Ref_layPower_80 : decode M_Ref_layPower.2.1 80 = .ok (.invokevirtual 153, 3) := by decide +kernel
theorem d_Ref_layPower_83 : decode M_Ref_layPower.2.1 83 = .ok (.iinc 3 1, 3) := by decide +kernel
theorem d_Ref_layPower_86 : decode M_Ref_layPower.2.1 86 = .ok (.goto (-60), 3) := by decide +kernel
theorem d_Ref_layPower_89 : decode M_Ref_layPower.2.1 89 = .ok (.iload_n 2, 1) := by decide +kernel
theorem d_Ref_layPower_90 : decode M_Ref_layPower.2.1 90 = .ok (.ifCond .ne 8, 3) := by decide +kernel
theorem d_Ref_layPower_93 : decode M_Ref_layPower.2.1 93 = .ok (.bipush 126, 2) := by decide +kernel
theorem d_Ref_layPower_95 : decode M_Ref_layPower.2.1 95 = .ok (.goto 5, 3) := by decide +kernel
theorem d_Ref_layPower_98 : decode M_Ref_layPower.2.1 98 = .ok (.bipush 127, 2) := by decide +kernel
theorem d_Ref_layPower_100 : decode M_Ref_layPower.2.1 100 = .ok (.ireturn, 1) := by decide +kernel
theorem d_Ref_less_0 : decode M_Ref_less.2.1 0 = .ok (.iconst 0, 1) := by decide +kernel
theorem d_Ref_less_1 : decode M_Ref_less.2.1 1 = .ok (.istore_n 3, 1) := by decide +kernel
theorem d_Ref_less_2 : decode M_Ref_less.2.1 2 = .ok (.aload_n 0, 1) := by decide +kernel
theorem d_Ref_less_3 : decode M_Ref_less.2.1 3 = .ok (.iload_n 1, 1) := by decide +kernel
theorem d_Ref_less_4 : decode M_Ref_less.2.1 4 = .ok (.invokevirtual 93, 3) := by decide +kernel
theorem d_Ref_less_7 : decode M_Ref_less.2.1 7 = .ok (.istore 4, 2) := by decide +kernel
theorem d_Ref_less_9 : decode M_Ref_less.2.1 9 = .ok (.iconst 0, 1) := by decide +kernel
theorem d_Ref_less_10 : decode M_Ref_less.2.1 10 = .ok (.istore 5, 2) := by decide +kernel
theorem d_Ref_less_12 : decode M_Ref_less.2.1 12 = .ok (.iload 5, 2) := by decide +kernel
theorem d_Ref_less_14 : decode M_Ref_less.2.1 14 = .ok (.iload 4, 2) := by decide +kernel
theorem d_Ref_less_16 : decode M_Ref_less.2.1 16 = .ok (.if_icmp .ge 62, 3) := by decide +kernel
theorem d_Ref_less_19 : decode M_Ref_less.2.1 19 = .ok (.aload_n 0, 1) := by decide +kernel
theorem d_Ref_less_20 : decode M_Ref_less.2.1 20 = .ok (.iload_n 1, 1) := by decide +kernel
theorem d_Ref_less_21 : decode M_Ref_less.2.1 21 = .ok (.iload 5, 2) := by decide +kernel
theorem d_Ref_less_23 : decode M_Ref_less.2.1 23 = .ok (.invokevirtual 96, 3) := by decide +kernel
theorem d_Ref_less_26 : decode M_Ref_less.2.1 26 = .ok (.aload_n 0, 1) := by decide +kernel
theorem d_Ref_less_27 : decode M_Ref_less.2.1 27 = .ok (.iload_n 2, 1) := by decide +kernel
theorem d_Ref_less_28 : decode M_Ref_less.2.1 28 = .ok (.iload 5, 2) := by decide +kernel
theorem d_Ref_less_30 : decode M_Ref_less.2.1 30 = .ok (.invokevirtual 96, 3) := by decide +kernel
theorem d_Ref_less_33 : decode M_Ref_less.2.1 33 = .ok (.isub, 1) := by decide +kernel
theorem d_Ref_less_34 : decode M_Ref_less.2.1 34 = .ok (.iload_n 3, 1) := by decide +kernel
theorem d_Ref_less_35 : decode M_Ref_less.2.1 35 = .ok (.isub, 1) := by decide +kernel
theorem d_Ref_less_36 : decode M_Ref_less.2.1 36 = .ok (.istore 6, 2) := by decide +kernel
theorem d_Ref_less_38 : decode M_Ref_less.2.1 38 = .ok (.iload 6, 2) := by decide +kernel
theorem d_Ref_less_40 : decode M_Ref_less.2.1 40 = .ok (.ifCond .ge 7, 3) := by decide +kernel
theorem d_Ref_less_43 : decode M_Ref_less.2.1 43 = .ok (.iconst 1, 1) := by decide +kernel
theorem d_Ref_less_44 : decode M_Ref_less.2.1 44 = .ok (.goto 4, 3) := by decide +kernel
theorem d_Ref_less_47 : decode M_Ref_less.2.1 47 = .ok (.iconst 0, 1) := by decide +kernel
theorem d_Ref_less_48 : decode M_Ref_less.2.1 48 = .ok (.istore_n 3, 1) := by decide +kernel
theorem d_Ref_less_49 : decode M_Ref_less.2.1 49 = .ok (.aload_n 0, 1) := by decide +kernel
theorem d_Ref_less_50 : decode M_Ref_less.2.1 50 = .ok (.getfield 13, 3) := by decide +kernel
theorem d_Ref_less_53 : decode M_Ref_less.2.1 53 = .ok (.sipush 130, 3) := by decide +kernel
theorem d_Ref_less_56 : decode M_Ref_less.2.1 56 = .ok (.iload_n 1, 1) := by decide +kernel
theorem d_Ref_less_57 : decode M_Ref_less.2.1 57 = .ok (.imul, 1) := by decide +kernel
theorem d_Ref_less_58 : decode M_Ref_less.2.1 58 = .ok (.iconst 1, 1) := by decide +kernel
theorem d_Ref_less_59 : decode M_Ref_less.2.1 59 = .ok (.iadd, 1) := by decide +kernel
theorem d_Ref_less_60 : decode M_Ref_less.2.1 60 = .ok (.iload 5, 2) := by decide +kernel
theorem d_Ref_less_62 : decode M_Ref_less.2.1 62 = .ok (.iadd, 1) := by decide +kernel
theorem d_Ref_less_63 : decode M_Ref_less.2.1 63 = .ok (.iload 6, 2) := by decide +kernel
theorem d_Ref_less_65 : decode M_Ref_less.2.1 65 = .ok (.iload_n 3, 1) := by decide +kernel
theorem d_Ref_less_66 : decode M_Ref_less.2.1 66 = .ok (.sipush 10000, 3) := by decide +kernel
theorem d_Ref_less_69 : decode M_Ref_less.2.1 69 = .ok (.imul, 1) := by decide +kernel
theorem d_Ref_less_70 : decode M_Ref_less.2.1 70 = .ok (.iadd, 1) := by decide +kernel
theorem d_Ref_less_71 : decode M_Ref_less.2.1 71 = .ok (.iastore, 1) := by decide +kernel
theorem d_Ref_less_72 : decode M_Ref_less.2.1 72 = .ok (.iinc 5 1, 3) := by decide +kernel
theorem d_Ref_less_75 : decode M_Ref_less.2.1 75 = .ok (.goto (-63), 3) := by decide +kernel
theorem d_Ref_less_78 : decode M_Ref_less.2.1 78 = .ok (.aload_n 0, 1) := by decide +kernel
theorem d_Ref_less_79 : decode M_Ref_less.2.1 79 = .ok (.iload_n 1, 1) := by decide +kernel
theorem d_Ref_less_80 : decode M_Ref_less.2.1 80 = .ok (.iload 4, 2) := by decide +kernel
theorem d_Ref_less_82 : decode M_Ref_less.2.1 82 = .ok (.invokevirtual 100, 3) := by decide +kernel
theorem d_Ref_less_85 : decode M_Ref_less.2.1 85 = .ok (.return_, 1) := by decide +kernel
theorem d_Ref_digit_0 : decode M_Ref_digit.2.1 0 = .ok (.aload_n 0, 1) := by decide +kernel
theorem d_Ref_digit_1 : decode M_Ref_digit.2.1 1 = .ok (.iload_n 1, 1) := by decide +kernel
theorem d_Ref_digit_2 : decode M_Ref_digit.2.1 2 = .ok (.invokevirtual 269, 3) := by decide +kernel
theorem d_Ref_digit_5 : decode M_Ref_digit.2.1 5 = .ok (.ifCond .eq 37, 3) := by decide +kernel
theorem d_Ref_digit_8 : decode M_Ref_digit.2.1 8 = .ok (.iload_n 2, 1) := by decide +kernel
theorem d_Ref_digit_9 : decode M_Ref_digit.2.1 9 = .ok (.i2l, 1) := by decide +kernel
theorem d_Ref_digit_10 : decode M_Ref_digit.2.1 10 = .ok (.lconst 0, 1) := by decide +kernel
theorem d_Ref_digit_11 : decode M_Ref_digit.2.1 11 = .ok (.aload_n 0, 1) := by decide +kernel
theorem d_Ref_digit_12 : decode M_Ref_digit.2.1 12 = .ok (.getfield 28, 3) := by decide +kernel
theorem d_Ref_digit_15 : decode M_Ref_digit.2.1 15 = .ok (.iload_n 1, 1) := by decide +kernel
theorem d_Ref_digit_16 : decode M_Ref_digit.2.1 16 = .ok (.iaload, 1) := by decide +kernel
theorem d_Ref_digit_17 : decode M_Ref_digit.2.1 17 = .ok (.invokestatic 105, 3) := by decide +kernel
theorem d_Ref_digit_20 : decode M_Ref_digit.2.1 20 = .ok (.iconst 1, 1) := by decide +kernel
theorem d_Ref_digit_21 : decode M_Ref_digit.2.1 21 = .ok (.isub, 1) := by decide +kernel
theorem d_Ref_digit_22 : decode M_Ref_digit.2.1 22 = .ok (.i2l, 1) := by decide +kernel
theorem d_Ref_digit_23 : decode M_Ref_digit.2.1 23 = .ok (.invokestatic 111, 3) := by decide +kernel
theorem d_Ref_digit_26 : decode M_Ref_digit.2.1 26 = .ok (.ifCond .eq 16, 3) := by decide +kernel
theorem d_Ref_digit_29 : decode M_Ref_digit.2.1 29 = .ok (.aload_n 0, 1) := by decide +kernel
theorem d_Ref_digit_30 : decode M_Ref_digit.2.1 30 = .ok (.getfield 28, 3) := by decide +kernel
theorem d_Ref_digit_33 : decode M_Ref_digit.2.1 33 = .ok (.iload_n 1, 1) := by decide +kernel
theorem d_Ref_digit_34 : decode M_Ref_digit.2.1 34 = .ok (.iaload, 1) := by decide +kernel
theorem d_Ref_digit_35 : decode M_Ref_digit.2.1 35 = .ok (.iload_n 2, 1) := by decide +kernel
theorem d_Ref_digit_36 : decode M_Ref_digit.2.1 36 = .ok (.invokestatic 115, 3) := by decide +kernel
theorem d_Ref_digit_39 : decode M_Ref_digit.2.1 39 = .ok (.goto 4, 3) := by decide +kernel
theorem d_Ref_digit_42 : decode M_Ref_digit.2.1 42 = .ok (.iconst (-1), 1) := by decide +kernel
theorem d_Ref_digit_43 : decode M_Ref_digit.2.1 43 = .ok (.ireturn, 1) := by decide +kernel
theorem d_Ref_isPair_0 : decode M_Ref_isPair.2.1 0 = .ok (.iload_n 1, 1) := by decide +kernel
theorem d_Ref_isPair_1 : decode M_Ref_isPair.2.1 1 = .ok (.i2l, 1) := by decide +kernel
theorem d_Ref_isPair_2 : decode M_Ref_isPair.2.1 2 = .ok (.lconst 0, 1) := by decide +kernel
theorem d_Ref_isPair_3 : decode M_Ref_isPair.2.1 3 = .ok (.aload_n 0, 1) := by decide +kernel
theorem d_Ref_isPair_4 : decode M_Ref_isPair.2.1 4 = .ok (.getfield 167, 3) := by decide +kernel
theorem d_Ref_isPair_7 : decode M_Ref_isPair.2.1 7 = .ok (.iconst 1, 1) := by decide +kernel
theorem d_Ref_isPair_8 : decode M_Ref_isPair.2.1 8 = .ok (.isub, 1) := by decide +kernel
theorem d_Ref_isPair_9 : decode M_Ref_isPair.2.1 9 = .ok (.i2l, 1) := by decide +kernel
theorem d_Ref_isPair_10 : decode M_Ref_isPair.2.1 10 = .ok (.invokestatic 111, 3) := by decide +kernel
theorem d_Ref_isPair_13 : decode M_Ref_isPair.2.1 13 = .ok (.ireturn, 1) := by decide +kernel
theorem d_Ref_left_0 : decode M_Ref_left.2.1 0 = .ok (.aload_n 0, 1) := by decide +kernel
theorem d_Ref_left_1 : decode M_Ref_left.2.1 1 = .ok (.iload_n 1, 1) := by decide +kernel
theorem d_Ref_left_2 : decode M_Ref_left.2.1 2 = .ok (.invokevirtual 269, 3) := by decide +kernel
theorem d_Ref_left_5 : decode M_Ref_left.2.1 5 = .ok (.ifCond .eq 28, 3) := by decide +kernel
theorem d_Ref_left_8 : decode M_Ref_left.2.1 8 = .ok (.iload_n 2, 1) := by decide +kernel
theorem d_Ref_left_9 : decode M_Ref_left.2.1 9 = .ok (.i2l, 1) := by decide +kernel
theorem d_Ref_left_10 : decode M_Ref_left.2.1 10 = .ok (.ldc2_w 181, 3) := by decide +kernel
theorem d_Ref_left_13 : decode M_Ref_left.2.1 13 = .ok (.ldc2_w 103, 3) := by decide +kernel
theorem d_Ref_left_16 : decode M_Ref_left.2.1 16 = .ok (.invokestatic 111, 3) := by decide +kernel
theorem d_Ref_left_19 : decode M_Ref_left.2.1 19 = .ok (.ifCond .eq 14, 3) := by decide +kernel
theorem d_Ref_left_22 : decode M_Ref_left.2.1 22 = .ok (.aload_n 0, 1) := by decide +kernel
theorem d_Ref_left_23 : decode M_Ref_left.2.1 23 = .ok (.getfield 28, 3) := by decide +kernel
theorem d_Ref_left_26 : decode M_Ref_left.2.1 26 = .ok (.iload_n 1, 1) := by decide +kernel
theorem d_Ref_left_27 : decode M_Ref_left.2.1 27 = .ok (.iaload, 1) := by decide +kernel
theorem d_Ref_left_28 : decode M_Ref_left.2.1 28 = .ok (.iload_n 2, 1) := by decide +kernel
theorem d_Ref_left_29 : decode M_Ref_left.2.1 29 = .ok (.irem, 1) := by decide +kernel
theorem d_Ref_left_30 : decode M_Ref_left.2.1 30 = .ok (.goto 4, 3) := by decide +kernel
theorem d_Ref_left_33 : decode M_Ref_left.2.1 33 = .ok (.iconst (-1), 1) := by decide +kernel
theorem d_Ref_left_34 : decode M_Ref_left.2.1 34 = .ok (.ireturn, 1) := by decide +kernel
theorem d_Ref_small_0 : decode M_Ref_small.2.1 0 = .ok (.aload_n 0, 1) := by decide +kernel
theorem d_Ref_small_1 : decode M_Ref_small.2.1 1 = .ok (.iload_n 1, 1) := by decide +kernel
theorem d_Ref_small_2 : decode M_Ref_small.2.1 2 = .ok (.invokevirtual 269, 3) := by decide +kernel
theorem d_Ref_small_5 : decode M_Ref_small.2.1 5 = .ok (.ifCond .eq 24, 3) := by decide +kernel
theorem d_Ref_small_8 : decode M_Ref_small.2.1 8 = .ok (.aload_n 0, 1) := by decide +kernel
theorem d_Ref_small_9 : decode M_Ref_small.2.1 9 = .ok (.getfield 28, 3) := by decide +kernel
theorem d_Ref_small_12 : decode M_Ref_small.2.1 12 = .ok (.iload_n 1, 1) := by decide +kernel
theorem d_Ref_small_13 : decode M_Ref_small.2.1 13 = .ok (.iaload, 1) := by decide +kernel
theorem d_Ref_small_14 : decode M_Ref_small.2.1 14 = .ok (.ldc_w 272, 3) := by decide +kernel
theorem d_Ref_small_17 : decode M_Ref_small.2.1 17 = .ok (.if_icmp .ge 12, 3) := by decide +kernel
theorem d_Ref_small_20 : decode M_Ref_small.2.1 20 = .ok (.aload_n 0, 1) := by decide +kernel
theorem d_Ref_small_21 : decode M_Ref_small.2.1 21 = .ok (.getfield 28, 3) := by decide +kernel
theorem d_Ref_small_24 : decode M_Ref_small.2.1 24 = .ok (.iload_n 1, 1) := by decide +kernel
theorem d_Ref_small_25 : decode M_Ref_small.2.1 25 = .ok (.iaload, 1) := by decide +kernel
theorem d_Ref_small_26 : decode M_Ref_small.2.1 26 = .ok (.goto 4, 3) := by decide +kernel
theorem d_Ref_small_29 : decode M_Ref_small.2.1 29 = .ok (.iconst (-1), 1) := by decide +kernel
theorem d_Ref_small_30 : decode M_Ref_small.2.1 30 = .ok (.ireturn, 1) := by decide +kernel
theorem d_Ref_measure_0 : decode M_Ref_measure.2.1 0 = .ok (.aload_n 0, 1) := by decide +kernel
theorem d_Ref_measure_1 : decode M_Ref_measure.2.1 1 = .ok (.iload_n 1, 1) := by decide +kernel
theorem d_Ref_measure_2 : decode M_Ref_measure.2.1 2 = .ok (.invokevirtual 269, 3) := by decide +kernel
theorem d_Ref_measure_5 : decode M_Ref_measure.2.1 5 = .ok (.ifCond .eq 19, 3) := by decide +kernel
theorem d_Ref_measure_8 : decode M_Ref_measure.2.1 8 = .ok (.iload_n 2, 1) := by decide +kernel
theorem d_Ref_measure_9 : decode M_Ref_measure.2.1 9 = .ok (.invokestatic 290, 3) := by decide +kernel
theorem d_Ref_measure_12 : decode M_Ref_measure.2.1 12 = .ok (.ifCond .eq 12, 3) := by decide +kernel
theorem d_Ref_measure_15 : decode M_Ref_measure.2.1 15 = .ok (.aload_n 0, 1) := by decide +kernel
theorem d_Ref_measure_16 : decode M_Ref_measure.2.1 16 = .ok (.iload_n 1, 1) := by decide +kernel
theorem d_Ref_measure_17 : decode M_Ref_measure.2.1 17 = .ok (.iload_n 2, 1) := by decide +kernel
theorem d_Ref_measure_18 : decode M_Ref_measure.2.1 18 = .ok (.invokevirtual 293, 3) := by decide +kernel
theorem d_Ref_measure_21 : decode M_Ref_measure.2.1 21 = .ok (.goto 5, 3) := by decide +kernel
theorem d_Ref_measure_24 : decode M_Ref_measure.2.1 24 = .ok (.bipush (-100), 2) := by decide +kernel
theorem d_Ref_measure_26 : decode M_Ref_measure.2.1 26 = .ok (.ireturn, 1) := by decide +kernel
theorem d_Ref_isMeasure_0 : decode M_Ref_isMeasure.2.1 0 = .ok (.iload_n 0, 1) := by decide +kernel
theorem d_Ref_isMeasure_1 : decode M_Ref_isMeasure.2.1 1 = .ok (.i2l, 1) := by decide +kernel
theorem d_Ref_isMeasure_2 : decode M_Ref_isMeasure.2.1 2 = .ok (.lconst 0, 1) := by decide +kernel
theorem d_Ref_isMeasure_3 : decode M_Ref_isMeasure.2.1 3 = .ok (.ldc2_w 279, 3) := by decide +kernel
theorem d_Ref_isMeasure_6 : decode M_Ref_isMeasure.2.1 6 = .ok (.invokestatic 111, 3) := by decide +kernel
theorem d_Ref_isMeasure_9 : decode M_Ref_isMeasure.2.1 9 = .ok (.ireturn, 1) := by decide +kernel
theorem d_Ref_measureOf_0 : decode M_Ref_measureOf.2.1 0 = .ok (.aload_n 0, 1) := by decide +kernel
theorem d_Ref_measureOf_1 : decode M_Ref_measureOf.2.1 1 = .ok (.getfield 28, 3) := by decide +kernel
theorem d_Ref_measureOf_4 : decode M_Ref_measureOf.2.1 4 = .ok (.iload_n 1, 1) := by decide +kernel
theorem d_Ref_measureOf_5 : decode M_Ref_measureOf.2.1 5 = .ok (.iaload, 1) := by decide +kernel
theorem d_Ref_measureOf_6 : decode M_Ref_measureOf.2.1 6 = .ok (.istore_n 3, 1) := by decide +kernel
theorem d_Ref_measureOf_7 : decode M_Ref_measureOf.2.1 7 = .ok (.iload_n 2, 1) := by decide +kernel
theorem d_Ref_measureOf_8 : decode M_Ref_measureOf.2.1 8 = .ok (.tableswitch 109 0 7 #[48, 50, 55, 62, 69, 83, 93, 103], 48) := by decide +kernel
theorem d_Ref_measureOf_56 : decode M_Ref_measureOf.2.1 56 = .ok (.iload_n 1, 1) := by decide +kernel
theorem d_Ref_measureOf_57 : decode M_Ref_measureOf.2.1 57 = .ok (.ireturn, 1) := by decide +kernel
theorem d_Ref_measureOf_58 : decode M_Ref_measureOf.2.1 58 = .ok (.iload_n 3, 1) := by decide +kernel
theorem d_Ref_measureOf_59 : decode M_Ref_measureOf.2.1 59 = .ok (.invokestatic 105, 3) := by decide +kernel
theorem d_Ref_measureOf_62 : decode M_Ref_measureOf.2.1 62 = .ok (.ireturn, 1) := by decide +kernel
theorem d_Ref_measureOf_63 : decode M_Ref_measureOf.2.1 63 = .ok (.aload_n 0, 1) := by decide +kernel
theorem d_Ref_measureOf_64 : decode M_Ref_measureOf.2.1 64 = .ok (.getfield 31, 3) := by decide +kernel
theorem d_Ref_measureOf_67 : decode M_Ref_measureOf.2.1 67 = .ok (.iload_n 1, 1) := by decide +kernel
theorem d_Ref_measureOf_68 : decode M_Ref_measureOf.2.1 68 = .ok (.iaload, 1) := by decide +kernel
theorem d_Ref_measureOf_69 : decode M_Ref_measureOf.2.1 69 = .ok (.ireturn, 1) := by decide +kernel
theorem d_Ref_measureOf_70 : decode M_Ref_measureOf.2.1 70 = .ok (.aload_n 0, 1) := by decide +kernel
theorem d_Ref_measureOf_71 : decode M_Ref_measureOf.2.1 71 = .ok (.getfield 34, 3) := by decide +kernel
