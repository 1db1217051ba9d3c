theorem d_Ref_measureOf_74 : decode M_Ref_measureOf.2.1 74 = .ok (.iload_n 1, 1) := by decide +kernel
theorem d_Ref_measureOf_75 : decode M_Ref_measureOf.2.1 75 = .ok (.iaload, 1) := by decide +kernel
theorem d_Ref_measureOf_76 : decode M_Ref_measureOf.2.1 76 = .ok (.ireturn, 1) := by decide +kernel
theorem d_Ref_measureOf_77 : decode M_Ref_measureOf.2.1 77 = .ok (.aload_n 0, 1) := by decide +kernel
theorem d_Ref_measureOf_78 : decode M_Ref_measureOf.2.1 78 = .ok (.iload_n 3, 1) := by decide +kernel
theorem d_Ref_measureOf_79 : decode M_Ref_measureOf.2.1 79 = .ok (.invokevirtual 281, 3) := by decide +kernel
theorem d_Ref_measureOf_82 : decode M_Ref_measureOf.2.1 82 = .ok (.aload_n 0, 1) := by decide +kernel
theorem d_Ref_measureOf_83 : decode M_Ref_measureOf.2.1 83 = .ok (.iload_n 3, 1) := by decide +kernel
theorem d_Ref_measureOf_84 : decode M_Ref_measureOf.2.1 84 = .ok (.iconst 1, 1) := by decide +kernel
theorem d_Ref_measureOf_85 : decode M_Ref_measureOf.2.1 85 = .ok (.iadd, 1) := by decide +kernel
theorem d_Ref_measureOf_86 : decode M_Ref_measureOf.2.1 86 = .ok (.invokevirtual 281, 3) := by decide +kernel
theorem d_Ref_measureOf_89 : decode M_Ref_measureOf.2.1 89 = .ok (.iadd, 1) := by decide +kernel
theorem d_Ref_measureOf_90 : decode M_Ref_measureOf.2.1 90 = .ok (.ireturn, 1) := by decide +kernel
theorem d_Ref_measureOf_91 : decode M_Ref_measureOf.2.1 91 = .ok (.aload_n 0, 1) := by decide +kernel
theorem d_Ref_measureOf_92 : decode M_Ref_measureOf.2.1 92 = .ok (.aload_n 0, 1) := by decide +kernel
theorem d_Ref_measureOf_93 : decode M_Ref_measureOf.2.1 93 = .ok (.iload_n 1, 1) := by decide +kernel
theorem d_Ref_measureOf_94 : decode M_Ref_measureOf.2.1 94 = .ok (.invokevirtual 284, 3) := by decide +kernel
theorem d_Ref_measureOf_97 : decode M_Ref_measureOf.2.1 97 = .ok (.invokevirtual 287, 3) := by decide +kernel
theorem d_Ref_measureOf_100 : decode M_Ref_measureOf.2.1 100 = .ok (.ireturn, 1) := by decide +kernel
theorem d_Ref_measureOf_101 : decode M_Ref_measureOf.2.1 101 = .ok (.aload_n 0, 1) := by decide +kernel
theorem d_Ref_measureOf_102 : decode M_Ref_measureOf.2.1 102 = .ok (.aload_n 0, 1) := by decide +kernel
theorem d_Ref_measureOf_103 : decode M_Ref_measureOf.2.1 103 = .ok (.iload_n 1, 1) := by decide +kernel
theorem d_Ref_measureOf_104 : decode M_Ref_measureOf.2.1 104 = .ok (.invokevirtual 284, 3) := by decide +kernel
theorem d_Ref_measureOf_107 : decode M_Ref_measureOf.2.1 107 = .ok (.invokevirtual 137, 3) := by decide +kernel
theorem d_Ref_measureOf_110 : decode M_Ref_measureOf.2.1 110 = .ok (.ireturn, 1) := by decide +kernel
theorem d_Ref_measureOf_111 : decode M_Ref_measureOf.2.1 111 = .ok (.iload_n 3, 1) := by decide +kernel
theorem d_Ref_measureOf_112 : decode M_Ref_measureOf.2.1 112 = .ok (.sipush 10000, 3) := by decide +kernel
theorem d_Ref_measureOf_115 : decode M_Ref_measureOf.2.1 115 = .ok (.irem, 1) := by decide +kernel
theorem d_Ref_measureOf_116 : decode M_Ref_measureOf.2.1 116 = .ok (.ireturn, 1) := by decide +kernel
theorem d_Ref_measureOf_117 : decode M_Ref_measureOf.2.1 117 = .ok (.aload_n 0, 1) := by decide +kernel
theorem d_Ref_measureOf_118 : decode M_Ref_measureOf.2.1 118 = .ok (.iload_n 3, 1) := by decide +kernel
theorem d_Ref_measureOf_119 : decode M_Ref_measureOf.2.1 119 = .ok (.invokevirtual 276, 3) := by decide +kernel
theorem d_Ref_measureOf_122 : decode M_Ref_measureOf.2.1 122 = .ok (.invokestatic 206, 3) := by decide +kernel
theorem d_Ref_measureOf_125 : decode M_Ref_measureOf.2.1 125 = .ok (.aload_n 0, 1) := by decide +kernel
theorem d_Ref_measureOf_126 : decode M_Ref_measureOf.2.1 126 = .ok (.iload_n 3, 1) := by decide +kernel
theorem d_Ref_measureOf_127 : decode M_Ref_measureOf.2.1 127 = .ok (.iconst 1, 1) := by decide +kernel
theorem d_Ref_measureOf_128 : decode M_Ref_measureOf.2.1 128 = .ok (.iadd, 1) := by decide +kernel
theorem d_Ref_measureOf_129 : decode M_Ref_measureOf.2.1 129 = .ok (.invokevirtual 276, 3) := by decide +kernel
theorem d_Ref_measureOf_132 : decode M_Ref_measureOf.2.1 132 = .ok (.invokestatic 206, 3) := by decide +kernel
theorem d_Ref_measureOf_135 : decode M_Ref_measureOf.2.1 135 = .ok (.isub, 1) := by decide +kernel
theorem d_Ref_measureOf_136 : decode M_Ref_measureOf.2.1 136 = .ok (.ireturn, 1) := by decide +kernel
theorem d_Ref_weightOf_0 : decode M_Ref_weightOf.2.1 0 = .ok (.iconst 0, 1) := by decide +kernel
theorem d_Ref_weightOf_1 : decode M_Ref_weightOf.2.1 1 = .ok (.istore_n 2, 1) := by decide +kernel
theorem d_Ref_weightOf_2 : decode M_Ref_weightOf.2.1 2 = .ok (.iconst 0, 1) := by decide +kernel
theorem d_Ref_weightOf_3 : decode M_Ref_weightOf.2.1 3 = .ok (.istore_n 3, 1) := by decide +kernel
theorem d_Ref_weightOf_4 : decode M_Ref_weightOf.2.1 4 = .ok (.iload_n 3, 1) := by decide +kernel
theorem d_Ref_weightOf_5 : decode M_Ref_weightOf.2.1 5 = .ok (.bipush 7, 2) := by decide +kernel
theorem d_Ref_weightOf_7 : decode M_Ref_weightOf.2.1 7 = .ok (.if_icmp .ge 22, 3) := by decide +kernel
theorem d_Ref_weightOf_10 : decode M_Ref_weightOf.2.1 10 = .ok (.iload_n 2, 1) := by decide +kernel
theorem d_Ref_weightOf_11 : decode M_Ref_weightOf.2.1 11 = .ok (.iload_n 1, 1) := by decide +kernel
theorem d_Ref_weightOf_12 : decode M_Ref_weightOf.2.1 12 = .ok (.aload_n 0, 1) := by decide +kernel
theorem d_Ref_weightOf_13 : decode M_Ref_weightOf.2.1 13 = .ok (.getfield 9, 3) := by decide +kernel
theorem d_Ref_weightOf_16 : decode M_Ref_weightOf.2.1 16 = .ok (.iload_n 3, 1) := by decide +kernel
theorem d_Ref_weightOf_17 : decode M_Ref_weightOf.2.1 17 = .ok (.iaload, 1) := by decide +kernel
theorem d_Ref_weightOf_18 : decode M_Ref_weightOf.2.1 18 = .ok (.invokestatic 273, 3) := by decide +kernel
theorem d_Ref_weightOf_21 : decode M_Ref_weightOf.2.1 21 = .ok (.iadd, 1) := by decide +kernel
theorem d_Ref_weightOf_22 : decode M_Ref_weightOf.2.1 22 = .ok (.istore_n 2, 1) := by decide +kernel
theorem d_Ref_weightOf_23 : decode M_Ref_weightOf.2.1 23 = .ok (.iinc 3 1, 3) := by decide +kernel
theorem d_Ref_weightOf_26 : decode M_Ref_weightOf.2.1 26 = .ok (.goto (-22), 3) := by decide +kernel
theorem d_Ref_weightOf_29 : decode M_Ref_weightOf.2.1 29 = .ok (.iload_n 2, 1) := by decide +kernel
theorem d_Ref_weightOf_30 : decode M_Ref_weightOf.2.1 30 = .ok (.ireturn, 1) := by decide +kernel
theorem d_Ref_powerIn_0 : decode M_Ref_powerIn.2.1 0 = .ok (.iconst 0, 1) := by decide +kernel
theorem d_Ref_powerIn_1 : decode M_Ref_powerIn.2.1 1 = .ok (.istore_n 2, 1) := by decide +kernel
theorem d_Ref_powerIn_2 : decode M_Ref_powerIn.2.1 2 = .ok (.iload_n 0, 1) := by decide +kernel
theorem d_Ref_powerIn_3 : decode M_Ref_powerIn.2.1 3 = .ok (.istore_n 3, 1) := by decide +kernel
theorem d_Ref_powerIn_4 : decode M_Ref_powerIn.2.1 4 = .ok (.iload_n 3, 1) := by decide +kernel
theorem d_Ref_powerIn_5 : decode M_Ref_powerIn.2.1 5 = .ok (.iload_n 1, 1) := by decide +kernel
theorem d_Ref_powerIn_6 : decode M_Ref_powerIn.2.1 6 = .ok (.irem, 1) := by decide +kernel
theorem d_Ref_powerIn_7 : decode M_Ref_powerIn.2.1 7 = .ok (.ifCond .ne 13, 3) := by decide +kernel
theorem d_Ref_powerIn_10 : decode M_Ref_powerIn.2.1 10 = .ok (.iinc 2 1, 3) := by decide +kernel
theorem d_Ref_powerIn_13 : decode M_Ref_powerIn.2.1 13 = .ok (.iload_n 3, 1) := by decide +kernel
theorem d_Ref_powerIn_14 : decode M_Ref_powerIn.2.1 14 = .ok (.iload_n 1, 1) := by decide +kernel
theorem d_Ref_powerIn_15 : decode M_Ref_powerIn.2.1 15 = .ok (.idiv, 1) := by decide +kernel
theorem d_Ref_powerIn_16 : decode M_Ref_powerIn.2.1 16 = .ok (.istore_n 3, 1) := by decide +kernel
theorem d_Ref_powerIn_17 : decode M_Ref_powerIn.2.1 17 = .ok (.goto (-13), 3) := by decide +kernel
theorem d_Ref_powerIn_20 : decode M_Ref_powerIn.2.1 20 = .ok (.iload_n 2, 1) := by decide +kernel
theorem d_Ref_powerIn_21 : decode M_Ref_powerIn.2.1 21 = .ok (.ireturn, 1) := by decide +kernel
theorem d_Ref_bitsOf_0 : decode M_Ref_bitsOf.2.1 0 = .ok (.aload_n 0, 1) := by decide +kernel
theorem d_Ref_bitsOf_1 : decode M_Ref_bitsOf.2.1 1 = .ok (.aload_n 0, 1) := by decide +kernel
theorem d_Ref_bitsOf_2 : decode M_Ref_bitsOf.2.1 2 = .ok (.getfield 28, 3) := by decide +kernel
theorem d_Ref_bitsOf_5 : decode M_Ref_bitsOf.2.1 5 = .ok (.iload_n 1, 1) := by decide +kernel
theorem d_Ref_bitsOf_6 : decode M_Ref_bitsOf.2.1 6 = .ok (.iaload, 1) := by decide +kernel
theorem d_Ref_bitsOf_7 : decode M_Ref_bitsOf.2.1 7 = .ok (.invokevirtual 276, 3) := by decide +kernel
theorem d_Ref_bitsOf_10 : decode M_Ref_bitsOf.2.1 10 = .ok (.aload_n 0, 1) := by decide +kernel
theorem d_Ref_bitsOf_11 : decode M_Ref_bitsOf.2.1 11 = .ok (.aload_n 0, 1) := by decide +kernel
theorem d_Ref_bitsOf_12 : decode M_Ref_bitsOf.2.1 12 = .ok (.getfield 28, 3) := by decide +kernel
theorem d_Ref_bitsOf_15 : decode M_Ref_bitsOf.2.1 15 = .ok (.iload_n 1, 1) := by decide +kernel
theorem d_Ref_bitsOf_16 : decode M_Ref_bitsOf.2.1 16 = .ok (.iaload, 1) := by decide +kernel
theorem d_Ref_bitsOf_17 : decode M_Ref_bitsOf.2.1 17 = .ok (.iconst 1, 1) := by decide +kernel
theorem d_Ref_bitsOf_18 : decode M_Ref_bitsOf.2.1 18 = .ok (.iadd, 1) := by decide +kernel
theorem d_Ref_bitsOf_19 : decode M_Ref_bitsOf.2.1 19 = .ok (.invokevirtual 276, 3) := by decide +kernel
theorem d_Ref_bitsOf_22 : decode M_Ref_bitsOf.2.1 22 = .ok (.ior, 1) := by decide +kernel
theorem d_Ref_bitsOf_23 : decode M_Ref_bitsOf.2.1 23 = .ok (.ireturn, 1) := by decide +kernel
theorem d_Ref_madeBits_0 : decode M_Ref_madeBits.2.1 0 = .ok (.iconst 0, 1) := by decide +kernel
theorem d_Ref_madeBits_1 : decode M_Ref_madeBits.2.1 1 = .ok (.istore_n 2, 1) := by decide +kernel
theorem d_Ref_madeBits_2 : decode M_Ref_madeBits.2.1 2 = .ok (.iconst 0, 1) := by decide +kernel
theorem d_Ref_madeBits_3 : decode M_Ref_madeBits.2.1 3 = .ok (.istore_n 3, 1) := by decide +kernel
theorem d_Ref_madeBits_4 : decode M_Ref_madeBits.2.1 4 = .ok (.iload_n 3, 1) := by decide +kernel
theorem d_Ref_madeBits_5 : decode M_Ref_madeBits.2.1 5 = .ok (.bipush 7, 2) := by decide +kernel
theorem d_Ref_madeBits_7 : decode M_Ref_madeBits.2.1 7 = .ok (.if_icmp .ge 26, 3) := by decide +kernel
theorem d_Ref_madeBits_10 : decode M_Ref_madeBits.2.1 10 = .ok (.iload_n 1, 1) := by decide +kernel
theorem d_Ref_madeBits_11 : decode M_Ref_madeBits.2.1 11 = .ok (.aload_n 0, 1) := by decide +kernel
theorem d_Ref_madeBits_12 : decode M_Ref_madeBits.2.1 12 = .ok (.getfield 9, 3) := by decide +kernel
theorem d_Ref_madeBits_15 : decode M_Ref_madeBits.2.1 15 = .ok (.iload_n 3, 1) := by decide +kernel
theorem d_Ref_madeBits_16 : decode M_Ref_madeBits.2.1 16 = .ok (.iaload, 1) := by decide +kernel
theorem d_Ref_madeBits_17 : decode M_Ref_madeBits.2.1 17 = .ok (.irem, 1) := by decide +kernel
theorem d_Ref_madeBits_18 : decode M_Ref_madeBits.2.1 18 = .ok (.ifCond .ne 9, 3) := by decide +kernel
theorem d_Ref_madeBits_21 : decode M_Ref_madeBits.2.1 21 = .ok (.iload_n 2, 1) := by decide +kernel
theorem d_Ref_madeBits_22 : decode M_Ref_madeBits.2.1 22 = .ok (.iconst 1, 1) := by decide +kernel
theorem d_Ref_madeBits_23 : decode M_Ref_madeBits.2.1 23 = .ok (.iload_n 3, 1) := by decide +kernel
theorem d_Ref_madeBits_24 : decode M_Ref_madeBits.2.1 24 = .ok (.ishl, 1) := by decide +kernel
theorem d_Ref_madeBits_25 : decode M_Ref_madeBits.2.1 25 = .ok (.ior, 1) := by decide +kernel
theorem d_Ref_madeBits_26 : decode M_Ref_madeBits.2.1 26 = .ok (.istore_n 2, 1) := by decide +kernel
theorem d_Ref_madeBits_27 : decode M_Ref_madeBits.2.1 27 = .ok (.iinc 3 1, 3) := by decide +kernel
theorem d_Ref_madeBits_30 : decode M_Ref_madeBits.2.1 30 = .ok (.goto (-26), 3) := by decide +kernel
theorem d_Ref_madeBits_33 : decode M_Ref_madeBits.2.1 33 = .ok (.iload_n 2, 1) := by decide +kernel
theorem d_Ref_madeBits_34 : decode M_Ref_madeBits.2.1 34 = .ok (.ireturn, 1) := by decide +kernel
theorem d_Ref_greatestOf_0 : decode M_Ref_greatestOf.2.1 0 = .ok (.iconst 0, 1) := by decide +kernel
theorem d_Ref_greatestOf_1 : decode M_Ref_greatestOf.2.1 1 = .ok (.istore_n 2, 1) := by decide +kernel
theorem d_Ref_greatestOf_2 : decode M_Ref_greatestOf.2.1 2 = .ok (.iconst 0, 1) := by decide +kernel
theorem d_Ref_greatestOf_3 : decode M_Ref_greatestOf.2.1 3 = .ok (.istore_n 3, 1) := by decide +kernel
theorem d_Ref_greatestOf_4 : decode M_Ref_greatestOf.2.1 4 = .ok (.iload_n 3, 1) := by decide +kernel
theorem d_Ref_greatestOf_5 : decode M_Ref_greatestOf.2.1 5 = .ok (.bipush 7, 2) := by decide +kernel
theorem d_Ref_greatestOf_7 : decode M_Ref_greatestOf.2.1 7 = .ok (.if_icmp .ge 24, 3) := by decide +kernel
theorem d_Ref_greatestOf_10 : decode M_Ref_greatestOf.2.1 10 = .ok (.iload_n 1, 1) := by decide +kernel
theorem d_Ref_greatestOf_11 : decode M_Ref_greatestOf.2.1 11 = .ok (.iload_n 3, 1) := by decide +kernel
theorem d_Ref_greatestOf_12 : decode M_Ref_greatestOf.2.1 12 = .ok (.invokestatic 85, 3) := by decide +kernel
theorem d_Ref_greatestOf_15 : decode M_Ref_greatestOf.2.1 15 = .ok (.ifCond .eq 10, 3) := by decide +kernel
theorem d_Ref_greatestOf_18 : decode M_Ref_greatestOf.2.1 18 = .ok (.aload_n 0, 1) := by decide +kernel
theorem d_Ref_greatestOf_19 : decode M_Ref_greatestOf.2.1 19 = .ok (.getfield 9, 3) := by decide +kernel
theorem d_Ref_greatestOf_22 : decode M_Ref_greatestOf.2.1 22 = .ok (.iload_n 3, 1) := by decide +kernel
theorem d_Ref_greatestOf_23 : decode M_Ref_greatestOf.2.1 23 = .ok (.iaload, 1) := by decide +kernel
theorem d_Ref_greatestOf_24 : decode M_Ref_greatestOf.2.1 24 = .ok (.istore_n 2, 1) := by decide +kernel
theorem d_Ref_greatestOf_25 : decode M_Ref_greatestOf.2.1 25 = .ok (.iinc 3 1, 3) := by decide +kernel
theorem d_Ref_greatestOf_28 : decode M_Ref_greatestOf.2.1 28 = .ok (.goto (-24), 3) := by decide +kernel
theorem d_Ref_greatestOf_31 : decode M_Ref_greatestOf.2.1 31 = .ok (.iload_n 2, 1) := by decide +kernel
theorem d_Ref_greatestOf_32 : decode M_Ref_greatestOf.2.1 32 = .ok (.ireturn, 1) := by decide +kernel
theorem d_Ref_inPair_0 : decode M_Ref_inPair.2.1 0 = .ok (.aload_n 0, 1) := by decide +kernel
theorem d_Ref_inPair_1 : decode M_Ref_inPair.2.1 1 = .ok (.iload_n 1, 1) := by decide +kernel
theorem d_Ref_inPair_2 : decode M_Ref_inPair.2.1 2 = .ok (.invokevirtual 269, 3) := by decide +kernel
theorem d_Ref_inPair_5 : decode M_Ref_inPair.2.1 5 = .ok (.ifCond .eq 36, 3) := by decide +kernel
theorem d_Ref_inPair_8 : decode M_Ref_inPair.2.1 8 = .ok (.aload_n 0, 1) := by decide +kernel
theorem d_Ref_inPair_9 : decode M_Ref_inPair.2.1 9 = .ok (.iload_n 2, 1) := by decide +kernel
theorem d_Ref_inPair_10 : decode M_Ref_inPair.2.1 10 = .ok (.invokevirtual 209, 3) := by decide +kernel
theorem d_Ref_inPair_13 : decode M_Ref_inPair.2.1 13 = .ok (.ifCond .eq 28, 3) := by decide +kernel
theorem d_Ref_inPair_16 : decode M_Ref_inPair.2.1 16 = .ok (.iload_n 3, 1) := by decide +kernel
theorem d_Ref_inPair_17 : decode M_Ref_inPair.2.1 17 = .ok (.i2l, 1) := by decide +kernel
theorem d_Ref_inPair_18 : decode M_Ref_inPair.2.1 18 = .ok (.lconst 0, 1) := by decide +kernel
theorem d_Ref_inPair_19 : decode M_Ref_inPair.2.1 19 = .ok (.lconst 1, 1) := by decide +kernel
theorem d_Ref_inPair_20 : decode M_Ref_inPair.2.1 20 = .ok (.invokestatic 111, 3) := by decide +kernel
theorem d_Ref_inPair_23 : decode M_Ref_inPair.2.1 23 = .ok (.ifCond .eq 18, 3) := by decide +kernel
theorem d_Ref_inPair_26 : decode M_Ref_inPair.2.1 26 = .ok (.aload_n 0, 1) := by decide +kernel
theorem d_Ref_inPair_27 : decode M_Ref_inPair.2.1 27 = .ok (.getfield 28, 3) := by decide +kernel
theorem d_Ref_inPair_30 : decode M_Ref_inPair.2.1 30 = .ok (.iload_n 1, 1) := by decide +kernel
theorem d_Ref_inPair_31 : decode M_Ref_inPair.2.1 31 = .ok (.iaload, 1) := by decide +kernel
theorem d_Ref_inPair_32 : decode M_Ref_inPair.2.1 32 = .ok (.iload_n 3, 1) := by decide +kernel
theorem d_Ref_inPair_33 : decode M_Ref_inPair.2.1 33 = .ok (.iadd, 1) := by decide +kernel
theorem d_Ref_inPair_34 : decode M_Ref_inPair.2.1 34 = .ok (.iload_n 2, 1) := by decide +kernel
theorem d_Ref_inPair_35 : decode M_Ref_inPair.2.1 35 = .ok (.invokestatic 273, 3) := by decide +kernel
theorem d_Ref_inPair_38 : decode M_Ref_inPair.2.1 38 = .ok (.goto 4, 3) := by decide +kernel
theorem d_Ref_inPair_41 : decode M_Ref_inPair.2.1 41 = .ok (.iconst (-1), 1) := by decide +kernel
theorem d_Ref_inPair_42 : decode M_Ref_inPair.2.1 42 = .ok (.ireturn, 1) := by decide +kernel
theorem d_Ref_order_0 : decode M_Ref_order.2.1 0 = .ok (.iload_n 1, 1) := by decide +kernel
theorem d_Ref_order_1 : decode M_Ref_order.2.1 1 = .ok (.invokestatic 290, 3) := by decide +kernel
theorem d_Ref_order_4 : decode M_Ref_order.2.1 4 = .ok (.ifCond .eq 18, 3) := by decide +kernel
theorem d_Ref_order_7 : decode M_Ref_order.2.1 7 = .ok (.iload_n 2, 1) := by decide +kernel
theorem d_Ref_order_8 : decode M_Ref_order.2.1 8 = .ok (.invokestatic 290, 3) := by decide +kernel
theorem d_Ref_order_11 : decode M_Ref_order.2.1 11 = .ok (.ifCond .eq 11, 3) := by decide +kernel
theorem d_Ref_order_14 : decode M_Ref_order.2.1 14 = .ok (.aload_n 0, 1) := by decide +kernel
theorem d_Ref_order_15 : decode M_Ref_order.2.1 15 = .ok (.iload_n 3, 1) := by decide +kernel
theorem d_Ref_order_16 : decode M_Ref_order.2.1 16 = .ok (.invokevirtual 269, 3) := by decide +kernel
theorem d_Ref_order_19 : decode M_Ref_order.2.1 19 = .ok (.ifCond .ne 5, 3) := by decide +kernel
theorem d_Ref_order_22 : decode M_Ref_order.2.1 22 = .ok (.iconst (-1), 1) := by decide +kernel
theorem d_Ref_order_23 : decode M_Ref_order.2.1 23 = .ok (.ireturn, 1) := by decide +kernel
theorem d_Ref_order_24 : decode M_Ref_order.2.1 24 = .ok (.iconst 0, 1) := by decide +kernel
theorem d_Ref_order_25 : decode M_Ref_order.2.1 25 = .ok (.istore 4, 2) := by decide +kernel
theorem d_Ref_order_27 : decode M_Ref_order.2.1 27 = .ok (.iload 4, 2) := by decide +kernel
theorem d_Ref_order_29 : decode M_Ref_order.2.1 29 = .ok (.aload_n 0, 1) := by decide +kernel
theorem d_Ref_order_30 : decode M_Ref_order.2.1 30 = .ok (.getfield 167, 3) := by decide +kernel
theorem d_Ref_order_33 : decode M_Ref_order.2.1 33 = .ok (.if_icmp .ge 62, 3) := by decide +kernel
theorem d_Ref_order_36 : decode M_Ref_order.2.1 36 = .ok (.iconst 0, 1) := by decide +kernel
theorem d_Ref_order_37 : decode M_Ref_order.2.1 37 = .ok (.istore 5, 2) := by decide +kernel
theorem d_Ref_order_39 : decode M_Ref_order.2.1 39 = .ok (.iconst 0, 1) := by decide +kernel
theorem d_Ref_order_40 : decode M_Ref_order.2.1 40 = .ok (.istore 6, 2) := by decide +kernel
theorem d_Ref_order_42 : decode M_Ref_order.2.1 42 = .ok (.iload 6, 2) := by decide +kernel
theorem d_Ref_order_44 : decode M_Ref_order.2.1 44 = .ok (.aload_n 0, 1) := by decide +kernel
theorem d_Ref_order_45 : decode M_Ref_order.2.1 45 = .ok (.getfield 167, 3) := by decide +kernel
theorem d_Ref_order_48 : decode M_Ref_order.2.1 48 = .ok (.if_icmp .ge 32, 3) := by decide +kernel
theorem d_Ref_order_51 : decode M_Ref_order.2.1 51 = .ok (.iload 5, 2) := by decide +kernel
theorem d_Ref_order_53 : decode M_Ref_order.2.1 53 = .ok (.aload_n 0, 1) := by decide +kernel
theorem d_Ref_order_54 : decode M_Ref_order.2.1 54 = .ok (.iload 6, 2) := by decide +kernel
theorem d_Ref_order_56 : decode M_Ref_order.2.1 56 = .ok (.iload 4, 2) := by decide +kernel
theorem d_Ref_order_58 : decode M_Ref_order.2.1 58 = .ok (.iload_n 1, 1) := by decide +kernel
theorem d_Ref_order_59 : decode M_Ref_order.2.1 59 = .ok (.iload_n 2, 1) := by decide +kernel
theorem d_Ref_order_60 : decode M_Ref_order.2.1 60 = .ok (.invokevirtual 296, 3) := by decide +kernel
theorem d_Ref_order_63 : decode M_Ref_order.2.1 63 = .ok (.ifCond .eq 7, 3) := by decide +kernel
theorem d_Ref_order_66 : decode M_Ref_order.2.1 66 = .ok (.iconst 1, 1) := by decide +kernel
theorem d_Ref_order_67 : decode M_Ref_order.2.1 67 = .ok (.goto 4, 3) := by decide +kernel
theorem d_Ref_order_70 : decode M_Ref_order.2.1 70 = .ok (.iconst 0, 1) := by decide +kernel
theorem d_Ref_order_71 : decode M_Ref_order.2.1 71 = .ok (.iadd, 1) := by decide +kernel
theorem d_Ref_order_72 : decode M_Ref_order.2.1 72 = .ok (.istore 5, 2) := by decide +kernel
theorem d_Ref_order_74 : decode M_Ref_order.2.1 74 = .ok (.iinc 6 1, 3) := by decide +kernel
theorem d_Ref_order_77 : decode M_Ref_order.2.1 77 = .ok (.goto (-35), 3) := by decide +kernel
theorem d_Ref_order_80 : decode M_Ref_order.2.1 80 = .ok (.iload 5, 2) := by decide +kernel
theorem d_Ref_order_82 : decode M_Ref_order.2.1 82 = .ok (.iload_n 3, 1) := by decide +kernel
theorem d_Ref_order_83 : decode M_Ref_order.2.1 83 = .ok (.if_icmp .ne 6, 3) := by decide +kernel
theorem d_Ref_order_86 : decode M_Ref_order.2.1 86 = .ok (.iload 4, 2) := by decide +kernel
theorem d_Ref_order_88 : decode M_Ref_order.2.1 88 = .ok (.ireturn, 1) := by decide +kernel
theorem d_Ref_order_89 : decode M_Ref_order.2.1 89 = .ok (.iinc 4 1, 3) := by decide +kernel
theorem d_Ref_order_92 : decode M_Ref_order.2.1 92 = .ok (.goto (-65), 3) := by decide +kernel
theorem d_Ref_order_95 : decode M_Ref_order.2.1 95 = .ok (.iconst (-1), 1) := by decide +kernel
theorem d_Ref_order_96 : decode M_Ref_order.2.1 96 = .ok (.ireturn, 1) := by decide +kernel
theorem d_Ref_isAhead_0 : decode M_Ref_isAhead.2.1 0 = .ok (.aload_n 0, 1) := by decide +kernel
theorem d_Ref_isAhead_1 : decode M_Ref_isAhead.2.1 1 = .ok (.iload_n 1, 1) := by decide +kernel
theorem d_Ref_isAhead_2 : decode M_Ref_isAhead.2.1 2 = .ok (.iload_n 3, 1) := by decide +kernel
theorem d_Ref_isAhead_3 : decode M_Ref_isAhead.2.1 3 = .ok (.invokevirtual 293, 3) := by decide +kernel
theorem d_Ref_isAhead_6 : decode M_Ref_isAhead.2.1 6 = .ok (.aload_n 0, 1) := by decide +kernel
theorem d_Ref_isAhead_7 : decode M_Ref_isAhead.2.1 7 = .ok (.iload_n 2, 1) := by decide +kernel
theorem d_Ref_isAhead_8 : decode M_Ref_isAhead.2.1 8 = .ok (.iload_n 3, 1) := by decide +kernel
theorem d_Ref_isAhead_9 : decode M_Ref_isAhead.2.1 9 = .ok (.invokevirtual 293, 3) := by decide +kernel
theorem d_Ref_isAhead_12 : decode M_Ref_isAhead.2.1 12 = .ok (.isub, 1) := by decide +kernel
theorem d_Ref_isAhead_13 : decode M_Ref_isAhead.2.1 13 = .ok (.istore 5, 2) := by decide +kernel
theorem d_Ref_isAhead_15 : decode M_Ref_isAhead.2.1 15 = .ok (.iload 5, 2) := by decide +kernel
theorem d_Ref_isAhead_17 : decode M_Ref_isAhead.2.1 17 = .ok (.ifCond .ne 20, 3) := by decide +kernel
theorem d_Ref_isAhead_20 : decode M_Ref_isAhead.2.1 20 = .ok (.aload_n 0, 1) := by decide +kernel
theorem d_Ref_isAhead_21 : decode M_Ref_isAhead.2.1 21 = .ok (.iload_n 1, 1) := by decide +kernel
theorem d_Ref_isAhead_22 : decode M_Ref_isAhead.2.1 22 = .ok (.iload 4, 2) := by decide +kernel
theorem d_Ref_isAhead_24 : decode M_Ref_isAhead.2.1 24 = .ok (.invokevirtual 293, 3) := by decide +kernel
theorem d_Ref_isAhead_27 : decode M_Ref_isAhead.2.1 27 = .ok (.aload_n 0, 1) := by decide +kernel
theorem d_Ref_isAhead_28 : decode M_Ref_isAhead.2.1 28 = .ok (.iload_n 2, 1) := by decide +kernel
theorem d_Ref_isAhead_29 : decode M_Ref_isAhead.2.1 29 = .ok (.iload 4, 2) := by decide +kernel
theorem d_Ref_isAhead_31 : decode M_Ref_isAhead.2.1 31 = .ok (.invokevirtual 293, 3) := by decide +kernel
theorem d_Ref_isAhead_34 : decode M_Ref_isAhead.2.1 34 = .ok (.isub, 1) := by decide +kernel
theorem d_Ref_isAhead_35 : decode M_Ref_isAhead.2.1 35 = .ok (.istore 5, 2) := by decide +kernel
theorem d_Ref_isAhead_37 : decode M_Ref_isAhead.2.1 37 = .ok (.iload 5, 2) := by decide +kernel
theorem d_Ref_isAhead_39 : decode M_Ref_isAhead.2.1 39 = .ok (.ifCond .eq 16, 3) := by decide +kernel
theorem d_Ref_isAhead_42 : decode M_Ref_isAhead.2.1 42 = .ok (.iload 5, 2) := by decide +kernel
theorem d_Ref_isAhead_44 : decode M_Ref_isAhead.2.1 44 = .ok (.ifCond .ge 7, 3) := by decide +kernel
theorem d_Ref_isAhead_47 : decode M_Ref_isAhead.2.1 47 = .ok (.iconst 1, 1) := by decide +kernel
theorem d_Ref_isAhead_48 : decode M_Ref_isAhead.2.1 48 = .ok (.goto 17, 3) := by decide +kernel
theorem d_Ref_isAhead_51 : decode M_Ref_isAhead.2.1 51 = .ok (.iconst 0, 1) := by decide +kernel
theorem d_Ref_isAhead_52 : decode M_Ref_isAhead.2.1 52 = .ok (.goto 13, 3) := by decide +kernel
theorem d_Ref_isAhead_55 : decode M_Ref_isAhead.2.1 55 = .ok (.iload_n 1, 1) := by decide +kernel
theorem d_Ref_isAhead_56 : decode M_Ref_isAhead.2.1 56 = .ok (.iload_n 2, 1) := by decide +kernel
theorem d_Ref_isAhead_57 : decode M_Ref_isAhead.2.1 57 = .ok (.if_icmp .ge 7, 3) := by decide +kernel
theorem d_Ref_isAhead_60 : decode M_Ref_isAhead.2.1 60 = .ok (.iconst 1, 1) := by decide +kernel
theorem d_Ref_isAhead_61 : decode M_Ref_isAhead.2.1 61 = .ok (.goto 4, 3) := by decide +kernel
theorem d_Ref_isAhead_64 : decode M_Ref_isAhead.2.1 64 = .ok (.iconst 0, 1) := by decide +kernel
theorem d_Ref_isAhead_65 : decode M_Ref_isAhead.2.1 65 = .ok (.ireturn, 1) := by decide +kernel
theorem d_Ref_count_0 : decode M_Ref_count.2.1 0 = .ok (.iload_n 1, 1) := by decide +kernel
theorem d_Ref_count_1 : decode M_Ref_count.2.1 1 = .ok (.invokestatic 290, 3) := by decide +kernel
theorem d_Ref_count_4 : decode M_Ref_count.2.1 4 = .ok (.ifCond .ne 5, 3) := by decide +kernel
theorem d_Ref_count_7 : decode M_Ref_count.2.1 7 = .ok (.iconst (-1), 1) := by decide +kernel
theorem d_Ref_count_8 : decode M_Ref_count.2.1 8 = .ok (.ireturn, 1) := by decide +kernel
theorem d_Ref_count_9 : decode M_Ref_count.2.1 9 = .ok (.iconst 0, 1) := by decide +kernel
theorem d_Ref_count_10 : decode M_Ref_count.2.1 10 = .ok (.istore 4, 2) := by decide +kernel
theorem d_Ref_count_12 : decode M_Ref_count.2.1 12 = .ok (.iconst 0, 1) := by decide +kernel
theorem d_Ref_count_13 : decode M_Ref_count.2.1 13 = .ok (.istore 5, 2) := by decide +kernel
theorem d_Ref_count_15 : decode M_Ref_count.2.1 15 = .ok (.iload 5, 2) := by decide +kernel
theorem d_Ref_count_17 : decode M_Ref_count.2.1 17 = .ok (.aload_n 0, 1) := by decide +kernel
theorem d_Ref_count_18 : decode M_Ref_count.2.1 18 = .ok (.getfield 167, 3) := by decide +kernel
theorem d_Ref_count_21 : decode M_Ref_count.2.1 21 = .ok (.if_icmp .ge 37, 3) := by decide +kernel
theorem d_Ref_count_24 : decode M_Ref_count.2.1 24 = .ok (.iload 4, 2) := by decide +kernel
theorem d_Ref_count_26 : decode M_Ref_count.2.1 26 = .ok (.aload_n 0, 1) := by decide +kernel
theorem d_Ref_count_27 : decode M_Ref_count.2.1 27 = .ok (.iload 5, 2) := by decide +kernel
theorem d_Ref_count_29 : decode M_Ref_count.2.1 29 = .ok (.iload_n 1, 1) := by decide +kernel
theorem d_Ref_count_30 : decode M_Ref_count.2.1 30 = .ok (.invokevirtual 293, 3) := by decide +kernel
theorem d_Ref_count_33 : decode M_Ref_count.2.1 33 = .ok (.i2l, 1) := by decide +kernel
theorem d_Ref_count_34 : decode M_Ref_count.2.1 34 = .ok (.iload_n 2, 1) := by decide +kernel
theorem d_Ref_count_35 : decode M_Ref_count.2.1 35 = .ok (.i2l, 1) := by decide +kernel
theorem d_Ref_count_36 : decode M_Ref_count.2.1 36 = .ok (.iload_n 3, 1) := by decide +kernel
theorem d_Ref_count_37 : decode M_Ref_count.2.1 37 = .ok (.i2l, 1) := by decide +kernel
theorem d_Ref_count_38 : decode M_Ref_count.2.1 38 = .ok (.invokestatic 111, 3) := by decide +kernel
theorem d_Ref_count_41 : decode M_Ref_count.2.1 41 = .ok (.ifCond .eq 7, 3) := by decide +kernel
theorem d_Ref_count_44 : decode M_Ref_count.2.1 44 = .ok (.iconst 1, 1) := by decide +kernel
theorem d_Ref_count_45 : decode M_Ref_count.2.1 45 = .ok (.goto 4, 3) := by decide +kernel
theorem d_Ref_count_48 : decode M_Ref_count.2.1 48 = .ok (.iconst 0, 1) := by decide +kernel
theorem d_Ref_count_49 : decode M_Ref_count.2.1 49 = .ok (.iadd, 1) := by decide +kernel
theorem d_Ref_count_50 : decode M_Ref_count.2.1 50 = .ok (.istore 4, 2) := by decide +kernel
theorem d_Ref_count_52 : decode M_Ref_count.2.1 52 = .ok (.iinc 5 1, 3) := by decide +kernel
theorem d_Ref_count_55 : decode M_Ref_count.2.1 55 = .ok (.goto (-40), 3) := by decide +kernel
theorem d_Ref_count_58 : decode M_Ref_count.2.1 58 = .ok (.iload 4, 2) := by decide +kernel
theorem d_Ref_count_60 : decode M_Ref_count.2.1 60 = .ok (.ireturn, 1) := by decide +kernel
theorem d_Ref_top_0 : decode M_Ref_top.2.1 0 = .ok (.iload_n 1, 1) := by decide +kernel
theorem d_Ref_top_1 : decode M_Ref_top.2.1 1 = .ok (.invokestatic 290, 3) := by decide +kernel
theorem d_Ref_top_4 : decode M_Ref_top.2.1 4 = .ok (.ifCond .ne 5, 3) := by decide +kernel
theorem d_Ref_top_7 : decode M_Ref_top.2.1 7 = .ok (.iconst (-1), 1) := by decide +kernel
theorem d_Ref_top_8 : decode M_Ref_top.2.1 8 = .ok (.ireturn, 1) := by decide +kernel
theorem d_Ref_top_9 : decode M_Ref_top.2.1 9 = .ok (.iconst (-1), 1) := by decide +kernel
theorem d_Ref_top_10 : decode M_Ref_top.2.1 10 = .ok (.istore_n 2, 1) := by decide +kernel
theorem d_Ref_top_11 : decode M_Ref_top.2.1 11 = .ok (.iconst 0, 1) := by decide +kernel
theorem d_Ref_top_12 : decode M_Ref_top.2.1 12 = .ok (.istore_n 3, 1) := by decide +kernel
theorem d_Ref_top_13 : decode M_Ref_top.2.1 13 = .ok (.iload_n 3, 1) := by decide +kernel
theorem d_Ref_top_14 : decode M_Ref_top.2.1 14 = .ok (.aload_n 0, 1) := by decide +kernel
theorem d_Ref_top_15 : decode M_Ref_top.2.1 15 = .ok (.getfield 167, 3) := by decide +kernel
theorem d_Ref_top_18 : decode M_Ref_top.2.1 18 = .ok (.if_icmp .ge 31, 3) := by decide +kernel
theorem d_Ref_top_21 : decode M_Ref_top.2.1 21 = .ok (.iload_n 2, 1) := by decide +kernel
theorem d_Ref_top_22 : decode M_Ref_top.2.1 22 = .ok (.iconst (-1), 1) := by decide +kernel
theorem d_Ref_top_23 : decode M_Ref_top.2.1 23 = .ok (.if_icmp .eq 18, 3) := by decide +kernel
theorem d_Ref_top_26 : decode M_Ref_top.2.1 26 = .ok (.aload_n 0, 1) := by decide +kernel
theorem d_Ref_top_27 : decode M_Ref_top.2.1 27 = .ok (.iload_n 3, 1) := by decide +kernel
theorem d_Ref_top_28 : decode M_Ref_top.2.1 28 = .ok (.iload_n 1, 1) := by decide +kernel
theorem d_Ref_top_29 : decode M_Ref_top.2.1 29 = .ok (.invokevirtual 293, 3) := by decide +kernel
theorem d_Ref_top_32 : decode M_Ref_top.2.1 32 = .ok (.aload_n 0, 1) := by decide +kernel
theorem d_Ref_top_33 : decode M_Ref_top.2.1 33 = .ok (.iload_n 2, 1) := by decide +kernel
theorem d_Ref_top_34 : decode M_Ref_top.2.1 34 = .ok (.iload_n 1, 1) := by decide +kernel
theorem d_Ref_top_35 : decode M_Ref_top.2.1 35 = .ok (.invokevirtual 293, 3) := by decide +kernel
theorem d_Ref_top_38 : decode M_Ref_top.2.1 38 = .ok (.if_icmp .le 5, 3) := by decide +kernel
theorem d_Ref_top_41 : decode M_Ref_top.2.1 41 = .ok (.iload_n 3, 1) := by decide +kernel
theorem d_Ref_top_42 : decode M_Ref_top.2.1 42 = .ok (.istore_n 2, 1) := by decide +kernel
theorem d_Ref_top_43 : decode M_Ref_top.2.1 43 = .ok (.iinc 3 1, 3) := by decide +kernel
theorem d_Ref_top_46 : decode M_Ref_top.2.1 46 = .ok (.goto (-33), 3) := by decide +kernel
theorem d_Ref_top_49 : decode M_Ref_top.2.1 49 = .ok (.iload_n 2, 1) := by decide +kernel
theorem d_Ref_top_50 : decode M_Ref_top.2.1 50 = .ok (.ireturn, 1) := by decide +kernel
theorem d_Ref_below_0 : decode M_Ref_below.2.1 0 = .ok (.iload_n 1, 1) := by decide +kernel
theorem d_Ref_below_1 : decode M_Ref_below.2.1 1 = .ok (.i2l, 1) := by decide +kernel
theorem d_Ref_below_2 : decode M_Ref_below.2.1 2 = .ok (.lconst 0, 1) := by decide +kernel
theorem d_Ref_below_3 : decode M_Ref_below.2.1 3 = .ok (.ldc2_w 300, 3) := by decide +kernel
theorem d_Ref_below_6 : decode M_Ref_below.2.1 6 = .ok (.invokestatic 111, 3) := by decide +kernel
theorem d_Ref_below_9 : decode M_Ref_below.2.1 9 = .ok (.ifCond .ne 5, 3) := by decide +kernel
theorem d_Ref_below_12 : decode M_Ref_below.2.1 12 = .ok (.iconst (-1), 1) := by decide +kernel
theorem d_Ref_below_13 : decode M_Ref_below.2.1 13 = .ok (.ireturn, 1) := by decide +kernel
theorem d_Ref_below_14 : decode M_Ref_below.2.1 14 = .ok (.iconst 0, 1) := by decide +kernel
theorem d_Ref_below_15 : decode M_Ref_below.2.1 15 = .ok (.istore_n 2, 1) := by decide +kernel
theorem d_Ref_below_16 : decode M_Ref_below.2.1 16 = .ok (.iconst 0, 1) := by decide +kernel
theorem d_Ref_below_17 : decode M_Ref_below.2.1 17 = .ok (.istore_n 3, 1) := by decide +kernel
theorem d_Ref_below_18 : decode M_Ref_below.2.1 18 = .ok (.iload_n 3, 1) := by decide +kernel
theorem d_Ref_below_19 : decode M_Ref_below.2.1 19 = .ok (.aload_n 0, 1) := by decide +kernel
theorem d_Ref_below_20 : decode M_Ref_below.2.1 20 = .ok (.getfield 167, 3) := by decide +kernel
theorem d_Ref_below_23 : decode M_Ref_below.2.1 23 = .ok (.if_icmp .ge 30, 3) := by decide +kernel
theorem d_Ref_below_26 : decode M_Ref_below.2.1 26 = .ok (.iload_n 2, 1) := by decide +kernel
theorem d_Ref_below_27 : decode M_Ref_below.2.1 27 = .ok (.aload_n 0, 1) := by decide +kernel
theorem d_Ref_below_28 : decode M_Ref_below.2.1 28 = .ok (.getfield 28, 3) := by decide +kernel
theorem d_Ref_below_31 : decode M_Ref_below.2.1 31 = .ok (.iload_n 3, 1) := by decide +kernel
theorem d_Ref_below_32 : decode M_Ref_below.2.1 32 = .ok (.iaload, 1) := by decide +kernel
theorem d_Ref_below_33 : decode M_Ref_below.2.1 33 = .ok (.invokestatic 105, 3) := by decide +kernel
theorem d_Ref_below_36 : decode M_Ref_below.2.1 36 = .ok (.iload_n 1, 1) := by decide +kernel
theorem d_Ref_below_37 : decode M_Ref_below.2.1 37 = .ok (.if_icmp .gt 7, 3) := by decide +kernel
theorem d_Ref_below_40 : decode M_Ref_below.2.1 40 = .ok (.iconst 1, 1) := by decide +kernel
theorem d_Ref_below_41 : decode M_Ref_below.2.1 41 = .ok (.goto 4, 3) := by decide +kernel
theorem d_Ref_below_44 : decode M_Ref_below.2.1 44 = .ok (.iconst 0, 1) := by decide +kernel
theorem d_Ref_below_45 : decode M_Ref_below.2.1 45 = .ok (.iadd, 1) := by decide +kernel
theorem d_Ref_below_46 : decode M_Ref_below.2.1 46 = .ok (.istore_n 2, 1) := by decide +kernel
theorem d_Ref_below_47 : decode M_Ref_below.2.1 47 = .ok (.iinc 3 1, 3) := by decide +kernel
theorem d_Ref_below_50 : decode M_Ref_below.2.1 50 = .ok (.goto (-32), 3) := by decide +kernel
theorem d_Ref_below_53 : decode M_Ref_below.2.1 53 = .ok (.iload_n 2, 1) := by decide +kernel
theorem d_Ref_below_54 : decode M_Ref_below.2.1 54 = .ok (.ireturn, 1) := by decide +kernel
theorem d_Ref_madeOf_0 : decode M_Ref_madeOf.2.1 0 = .ok (.aload_n 0, 1) := by decide +kernel
theorem d_Ref_madeOf_1 : decode M_Ref_madeOf.2.1 1 = .ok (.iload_n 1, 1) := by decide +kernel
theorem d_Ref_madeOf_2 : decode M_Ref_madeOf.2.1 2 = .ok (.invokevirtual 269, 3) := by decide +kernel
theorem d_Ref_madeOf_5 : decode M_Ref_madeOf.2.1 5 = .ok (.ifCond .eq 11, 3) := by decide +kernel
theorem d_Ref_madeOf_8 : decode M_Ref_madeOf.2.1 8 = .ok (.aload_n 0, 1) := by decide +kernel
theorem d_Ref_madeOf_9 : decode M_Ref_madeOf.2.1 9 = .ok (.iload_n 1, 1) := by decide +kernel
theorem d_Ref_madeOf_10 : decode M_Ref_madeOf.2.1 10 = .ok (.invokevirtual 284, 3) := by decide +kernel
theorem d_Ref_madeOf_13 : decode M_Ref_madeOf.2.1 13 = .ok (.goto 4, 3) := by decide +kernel
theorem d_Ref_madeOf_16 : decode M_Ref_madeOf.2.1 16 = .ok (.iconst (-1), 1) := by decide +kernel
theorem d_Ref_madeOf_17 : decode M_Ref_madeOf.2.1 17 = .ok (.ireturn, 1) := by decide +kernel
theorem d_Ref_madeBy_0 : decode M_Ref_madeBy.2.1 0 = .ok (.iconst 0, 1) := by decide +kernel
theorem d_Ref_madeBy_1 : decode M_Ref_madeBy.2.1 1 = .ok (.istore_n 2, 1) := by decide +kernel
theorem d_Ref_madeBy_2 : decode M_Ref_madeBy.2.1 2 = .ok (.iconst 0, 1) := by decide +kernel
theorem d_Ref_madeBy_3 : decode M_Ref_madeBy.2.1 3 = .ok (.istore_n 3, 1) := by decide +kernel
theorem d_Ref_madeBy_4 : decode M_Ref_madeBy.2.1 4 = .ok (.iload_n 3, 1) := by decide +kernel
theorem d_Ref_madeBy_5 : decode M_Ref_madeBy.2.1 5 = .ok (.aload_n 0, 1) := by decide +kernel
theorem d_Ref_madeBy_6 : decode M_Ref_madeBy.2.1 6 = .ok (.getfield 167, 3) := by decide +kernel
theorem d_Ref_madeBy_9 : decode M_Ref_madeBy.2.1 9 = .ok (.if_icmp .ge 26, 3) := by decide +kernel
theorem d_Ref_madeBy_12 : decode M_Ref_madeBy.2.1 12 = .ok (.iload_n 2, 1) := by decide +kernel
theorem d_Ref_madeBy_13 : decode M_Ref_madeBy.2.1 13 = .ok (.aload_n 0, 1) := by decide +kernel
theorem d_Ref_madeBy_14 : decode M_Ref_madeBy.2.1 14 = .ok (.iload_n 3, 1) := by decide +kernel
theorem d_Ref_madeBy_15 : decode M_Ref_madeBy.2.1 15 = .ok (.invokevirtual 284, 3) := by decide +kernel
theorem d_Ref_madeBy_18 : decode M_Ref_madeBy.2.1 18 = .ok (.iload_n 1, 1) := by decide +kernel
theorem d_Ref_madeBy_19 : decode M_Ref_madeBy.2.1 19 = .ok (.if_icmp .ne 7, 3) := by decide +kernel
theorem d_Ref_madeBy_22 : decode M_Ref_madeBy.2.1 22 = .ok (.iconst 1, 1) := by decide +kernel
theorem d_Ref_madeBy_23 : decode M_Ref_madeBy.2.1 23 = .ok (.goto 4, 3) := by decide +kernel
theorem d_Ref_madeBy_26 : decode M_Ref_madeBy.2.1 26 = .ok (.iconst 0, 1) := by decide +kernel
theorem d_Ref_madeBy_27 : decode M_Ref_madeBy.2.1 27 = .ok (.iadd, 1) := by decide +kernel
theorem d_Ref_madeBy_28 : decode M_Ref_madeBy.2.1 28 = .ok (.istore_n 2, 1) := by decide +kernel
theorem d_Ref_madeBy_29 : decode M_Ref_madeBy.2.1 29 = .ok (.iinc 3 1, 3) := by decide +kernel
theorem d_Ref_madeBy_32 : decode M_Ref_madeBy.2.1 32 = .ok (.goto (-28), 3) := by decide +kernel
theorem d_Ref_madeBy_35 : decode M_Ref_madeBy.2.1 35 = .ok (.iload_n 2, 1) := by decide +kernel
theorem d_Ref_madeBy_36 : decode M_Ref_madeBy.2.1 36 = .ok (.ireturn, 1) := by decide +kernel
theorem d_Ref_share_0 : decode M_Ref_share.2.1 0 = .ok (.aload_n 0, 1) := by decide +kernel
theorem d_Ref_share_1 : decode M_Ref_share.2.1 1 = .ok (.iload_n 1, 1) := by decide +kernel
theorem d_Ref_share_2 : decode M_Ref_share.2.1 2 = .ok (.invokevirtual 209, 3) := by decide +kernel
theorem d_Ref_share_5 : decode M_Ref_share.2.1 5 = .ok (.ifCond .ne 5, 3) := by decide +kernel
theorem d_Ref_share_8 : decode M_Ref_share.2.1 8 = .ok (.iconst (-1), 1) := by decide +kernel
theorem d_Ref_share_9 : decode M_Ref_share.2.1 9 = .ok (.ireturn, 1) := by decide +kernel
theorem d_Ref_share_10 : decode M_Ref_share.2.1 10 = .ok (.iconst 0, 1) := by decide +kernel
theorem d_Ref_share_11 : decode M_Ref_share.2.1 11 = .ok (.istore_n 2, 1) := by decide +kernel
theorem d_Ref_share_12 : decode M_Ref_share.2.1 12 = .ok (.iconst 0, 1) := by decide +kernel
theorem d_Ref_share_13 : decode M_Ref_share.2.1 13 = .ok (.istore_n 3, 1) := by decide +kernel
theorem d_Ref_share_14 : decode M_Ref_share.2.1 14 = .ok (.iload_n 3, 1) := by decide +kernel
theorem d_Ref_share_15 : decode M_Ref_share.2.1 15 = .ok (.aload_n 0, 1) := by decide +kernel
theorem d_Ref_share_16 : decode M_Ref_share.2.1 16 = .ok (.getfield 167, 3) := by decide +kernel
theorem d_Ref_share_19 : decode M_Ref_share.2.1 19 = .ok (.if_icmp .ge 33, 3) := by decide +kernel
theorem d_Ref_share_22 : decode M_Ref_share.2.1 22 = .ok (.iload_n 2, 1) := by decide +kernel
theorem d_Ref_share_23 : decode M_Ref_share.2.1 23 = .ok (.aload_n 0, 1) := by decide +kernel
theorem d_Ref_share_24 : decode M_Ref_share.2.1 24 = .ok (.iload_n 3, 1) := by decide +kernel
theorem d_Ref_share_25 : decode M_Ref_share.2.1 25 = .ok (.invokevirtual 284, 3) := by decide +kernel
theorem d_Ref_share_28 : decode M_Ref_share.2.1 28 = .ok (.aload_n 0, 1) := by decide +kernel
theorem d_Ref_share_29 : decode M_Ref_share.2.1 29 = .ok (.iload_n 1, 1) := by decide +kernel
theorem d_Ref_share_30 : decode M_Ref_share.2.1 30 = .ok (.invokevirtual 77, 3) := by decide +kernel
theorem d_Ref_share_33 : decode M_Ref_share.2.1 33 = .ok (.invokestatic 85, 3) := by decide +kernel
theorem d_Ref_share_36 : decode M_Ref_share.2.1 36 = .ok (.ifCond .eq 7, 3) := by decide +kernel
theorem d_Ref_share_39 : decode M_Ref_share.2.1 39 = .ok (.iconst 1, 1) := by decide +kernel
theorem d_Ref_share_40 : decode M_Ref_share.2.1 40 = .ok (.goto 4, 3) := by decide +kernel
theorem d_Ref_share_43 : decode M_Ref_share.2.1 43 = .ok (.iconst 0, 1) := by decide +kernel
theorem d_Ref_share_44 : decode M_Ref_share.2.1 44 = .ok (.iadd, 1) := by decide +kernel
theorem d_Ref_share_45 : decode M_Ref_share.2.1 45 = .ok (.istore_n 2, 1) := by decide +kernel
theorem d_Ref_share_46 : decode M_Ref_share.2.1 46 = .ok (.iinc 3 1, 3) := by decide +kernel
theorem d_Ref_share_49 : decode M_Ref_share.2.1 49 = .ok (.goto (-35), 3) := by decide +kernel
theorem d_Ref_share_52 : decode M_Ref_share.2.1 52 = .ok (.iload_n 2, 1) := by decide +kernel
theorem d_Ref_share_53 : decode M_Ref_share.2.1 53 = .ok (.ireturn, 1) := by decide +kernel
theorem d_Ref_rank_0 : decode M_Ref_rank.2.1 0 = .ok (.iload_n 1, 1) := by decide +kernel
theorem d_Ref_rank_1 : decode M_Ref_rank.2.1 1 = .ok (.i2l, 1) := by decide +kernel
theorem d_Ref_rank_2 : decode M_Ref_rank.2.1 2 = .ok (.lconst 0, 1) := by decide +kernel
theorem d_Ref_rank_3 : decode M_Ref_rank.2.1 3 = .ok (.aload_n 0, 1) := by decide +kernel
theorem d_Ref_rank_4 : decode M_Ref_rank.2.1 4 = .ok (.getfield 167, 3) := by decide +kernel
theorem d_Ref_rank_7 : decode M_Ref_rank.2.1 7 = .ok (.i2l, 1) := by decide +kernel
theorem d_Ref_rank_8 : decode M_Ref_rank.2.1 8 = .ok (.invokestatic 111, 3) := by decide +kernel
theorem d_Ref_rank_11 : decode M_Ref_rank.2.1 11 = .ok (.ifCond .ne 5, 3) := by decide +kernel
theorem d_Ref_rank_14 : decode M_Ref_rank.2.1 14 = .ok (.iconst (-1), 1) := by decide +kernel
theorem d_Ref_rank_15 : decode M_Ref_rank.2.1 15 = .ok (.ireturn, 1) := by decide +kernel
theorem d_Ref_rank_16 : decode M_Ref_rank.2.1 16 = .ok (.iconst 0, 1) := by decide +kernel
theorem d_Ref_rank_17 : decode M_Ref_rank.2.1 17 = .ok (.istore_n 2, 1) := by decide +kernel
theorem d_Ref_rank_18 : decode M_Ref_rank.2.1 18 = .ok (.iload_n 2, 1) := by decide +kernel
theorem d_Ref_rank_19 : decode M_Ref_rank.2.1 19 = .ok (.iload_n 1, 1) := by decide +kernel
theorem d_Ref_rank_20 : decode M_Ref_rank.2.1 20 = .ok (.if_icmp .ge 75, 3) := by decide +kernel
theorem d_Ref_rank_23 : decode M_Ref_rank.2.1 23 = .ok (.iconst 0, 1) := by decide +kernel
theorem d_Ref_rank_24 : decode M_Ref_rank.2.1 24 = .ok (.istore_n 3, 1) := by decide +kernel
theorem d_Ref_rank_25 : decode M_Ref_rank.2.1 25 = .ok (.iload_n 3, 1) := by decide +kernel
theorem d_Ref_rank_26 : decode M_Ref_rank.2.1 26 = .ok (.bipush 7, 2) := by decide +kernel
theorem d_Ref_rank_28 : decode M_Ref_rank.2.1 28 = .ok (.if_icmp .ge 61, 3) := by decide +kernel
theorem d_Ref_rank_31 : decode M_Ref_rank.2.1 31 = .ok (.aload_n 0, 1) := by decide +kernel
theorem d_Ref_rank_32 : decode M_Ref_rank.2.1 32 = .ok (.getfield 46, 3) := by decide +kernel
theorem d_Ref_rank_35 : decode M_Ref_rank.2.1 35 = .ok (.bipush 7, 2) := by decide +kernel
theorem d_Ref_rank_37 : decode M_Ref_rank.2.1 37 = .ok (.iload_n 2, 1) := by decide +kernel
theorem d_Ref_rank_38 : decode M_Ref_rank.2.1 38 = .ok (.imul, 1) := by decide +kernel
theorem d_Ref_rank_39 : decode M_Ref_rank.2.1 39 = .ok (.iload_n 3, 1) := by decide +kernel
theorem d_Ref_rank_40 : decode M_Ref_rank.2.1 40 = .ok (.iadd, 1) := by decide +kernel
theorem d_Ref_rank_41 : decode M_Ref_rank.2.1 41 = .ok (.aload_n 0, 1) := by decide +kernel
theorem d_Ref_rank_42 : decode M_Ref_rank.2.1 42 = .ok (.getfield 28, 3) := by decide +kernel
theorem d_Ref_rank_45 : decode M_Ref_rank.2.1 45 = .ok (.iload_n 2, 1) := by decide +kernel
theorem d_Ref_rank_46 : decode M_Ref_rank.2.1 46 = .ok (.iaload, 1) := by decide +kernel
theorem d_Ref_rank_47 : decode M_Ref_rank.2.1 47 = .ok (.iconst 1, 1) := by decide +kernel
theorem d_Ref_rank_48 : decode M_Ref_rank.2.1 48 = .ok (.iadd, 1) := by decide +kernel
theorem d_Ref_rank_49 : decode M_Ref_rank.2.1 49 = .ok (.aload_n 0, 1) := by decide +kernel
theorem d_Ref_rank_50 : decode M_Ref_rank.2.1 50 = .ok (.getfield 9, 3) := by decide +kernel
theorem d_Ref_rank_53 : decode M_Ref_rank.2.1 53 = .ok (.iload_n 3, 1) := by decide +kernel
theorem d_Ref_rank_54 : decode M_Ref_rank.2.1 54 = .ok (.iaload, 1) := by decide +kernel
theorem d_Ref_rank_55 : decode M_Ref_rank.2.1 55 = .ok (.invokestatic 273, 3) := by decide +kernel
theorem d_Ref_rank_58 : decode M_Ref_rank.2.1 58 = .ok (.aload_n 0, 1) := by decide +kernel
theorem d_Ref_rank_59 : decode M_Ref_rank.2.1 59 = .ok (.getfield 28, 3) := by decide +kernel
theorem d_Ref_rank_62 : decode M_Ref_rank.2.1 62 = .ok (.iload_n 2, 1) := by decide +kernel
theorem d_Ref_rank_63 : decode M_Ref_rank.2.1 63 = .ok (.iaload, 1) := by decide +kernel
theorem d_Ref_rank_64 : decode M_Ref_rank.2.1 64 = .ok (.aload_n 0, 1) := by decide +kernel
theorem d_Ref_rank_65 : decode M_Ref_rank.2.1 65 = .ok (.getfield 9, 3) := by decide +kernel
theorem d_Ref_rank_68 : decode M_Ref_rank.2.1 68 = .ok (.iload_n 3, 1) := by decide +kernel
theorem d_Ref_rank_69 : decode M_Ref_rank.2.1 69 = .ok (.iaload, 1) := by decide +kernel
theorem d_Ref_rank_70 : decode M_Ref_rank.2.1 70 = .ok (.invokestatic 273, 3) := by decide +kernel
theorem d_Ref_rank_73 : decode M_Ref_rank.2.1 73 = .ok (.isub, 1) := by decide +kernel
theorem d_Ref_rank_74 : decode M_Ref_rank.2.1 74 = .ok (.sipush 10007, 3) := by decide +kernel
theorem d_Ref_rank_77 : decode M_Ref_rank.2.1 77 = .ok (.iadd, 1) := by decide +kernel
theorem d_Ref_rank_78 : decode M_Ref_rank.2.1 78 = .ok (.sipush 10007, 3) := by decide +kernel
theorem d_Ref_rank_81 : decode M_Ref_rank.2.1 81 = .ok (.irem, 1) := by decide +kernel
theorem d_Ref_rank_82 : decode M_Ref_rank.2.1 82 = .ok (.iastore, 1) := by decide +kernel
theorem d_Ref_rank_83 : decode M_Ref_rank.2.1 83 = .ok (.iinc 3 1, 3) := by decide +kernel
theorem d_Ref_rank_86 : decode M_Ref_rank.2.1 86 = .ok (.goto (-61), 3) := by decide +kernel
theorem d_Ref_rank_89 : decode M_Ref_rank.2.1 89 = .ok (.iinc 2 1, 3) := by decide +kernel
theorem d_Ref_rank_92 : decode M_Ref_rank.2.1 92 = .ok (.goto (-74), 3) := by decide +kernel
theorem d_Ref_rank_95 : decode M_Ref_rank.2.1 95 = .ok (.iconst 0, 1) := by decide +kernel
theorem d_Ref_rank_96 : decode M_Ref_rank.2.1 96 = .ok (.istore_n 2, 1) := by decide +kernel
theorem d_Ref_rank_97 : decode M_Ref_rank.2.1 97 = .ok (.iconst 0, 1) := by decide +kernel
theorem d_Ref_rank_98 : decode M_Ref_rank.2.1 98 = .ok (.istore_n 3, 1) := by decide +kernel
theorem d_Ref_rank_99 : decode M_Ref_rank.2.1 99 = .ok (.iload_n 3, 1) := by decide +kernel
theorem d_Ref_rank_100 : decode M_Ref_rank.2.1 100 = .ok (.bipush 7, 2) := by decide +kernel
theorem d_Ref_rank_102 : decode M_Ref_rank.2.1 102 = .ok (.if_icmp .ge 117, 3) := by decide +kernel
theorem d_Ref_rank_105 : decode M_Ref_rank.2.1 105 = .ok (.iload_n 2, 1) := by decide +kernel
theorem d_Ref_rank_106 : decode M_Ref_rank.2.1 106 = .ok (.istore 4, 2) := by decide +kernel
theorem d_Ref_rank_108 : decode M_Ref_rank.2.1 108 = .ok (.iload 4, 2) := by decide +kernel
theorem d_Ref_rank_110 : decode M_Ref_rank.2.1 110 = .ok (.iload_n 1, 1) := by decide +kernel
theorem d_Ref_rank_111 : decode M_Ref_rank.2.1 111 = .ok (.if_icmp .ge 24, 3) := by decide +kernel
theorem d_Ref_rank_114 : decode M_Ref_rank.2.1 114 = .ok (.aload_n 0, 1) := by decide +kernel
theorem d_Ref_rank_115 : decode M_Ref_rank.2.1 115 = .ok (.getfield 46, 3) := by decide +kernel
theorem d_Ref_rank_118 : decode M_Ref_rank.2.1 118 = .ok (.bipush 7, 2) := by decide +kernel
theorem d_Ref_rank_120 : decode M_Ref_rank.2.1 120 = .ok (.iload 4, 2) := by decide +kernel
theorem d_Ref_rank_122 : decode M_Ref_rank.2.1 122 = .ok (.imul, 1) := by decide +kernel
theorem d_Ref_rank_123 : decode M_Ref_rank.2.1 123 = .ok (.iload_n 3, 1) := by decide +kernel
theorem d_Ref_rank_124 : decode M_Ref_rank.2.1 124 = .ok (.iadd, 1) := by decide +kernel
theorem d_Ref_rank_125 : decode M_Ref_rank.2.1 125 = .ok (.iaload, 1) := by decide +kernel
theorem d_Ref_rank_126 : decode M_Ref_rank.2.1 126 = .ok (.ifCond .ne 9, 3) := by decide +kernel
theorem d_Ref_rank_129 : decode M_Ref_rank.2.1 129 = .ok (.iinc 4 1, 3) := by decide +kernel
theorem d_Ref_rank_132 : decode M_Ref_rank.2.1 132 = .ok (.goto (-24), 3) := by decide +kernel
theorem d_Ref_rank_135 : decode M_Ref_rank.2.1 135 = .ok (.iload 4, 2) := by decide +kernel
theorem d_Ref_rank_137 : decode M_Ref_rank.2.1 137 = .ok (.iload_n 1, 1) := by decide +kernel
theorem d_Ref_rank_138 : decode M_Ref_rank.2.1 138 = .ok (.if_icmp .ne 6, 3) := by decide +kernel
theorem d_Ref_rank_141 : decode M_Ref_rank.2.1 141 = .ok (.goto 72, 3) := by decide +kernel
theorem d_Ref_rank_144 : decode M_Ref_rank.2.1 144 = .ok (.aload_n 0, 1) := by decide +kernel
theorem d_Ref_rank_145 : decode M_Ref_rank.2.1 145 = .ok (.iload 4, 2) := by decide +kernel
theorem d_Ref_rank_147 : decode M_Ref_rank.2.1 147 = .ok (.iload_n 2, 1) := by decide +kernel
theorem d_Ref_rank_148 : decode M_Ref_rank.2.1 148 = .ok (.invokevirtual 302, 3) := by decide +kernel
theorem d_Ref_rank_151 : decode M_Ref_rank.2.1 151 = .ok (.aload_n 0, 1) := by decide +kernel
theorem d_Ref_rank_152 : decode M_Ref_rank.2.1 152 = .ok (.getfield 46, 3) := by decide +kernel
theorem d_Ref_rank_155 : decode M_Ref_rank.2.1 155 = .ok (.bipush 7, 2) := by decide +kernel
theorem d_Ref_rank_157 : decode M_Ref_rank.2.1 157 = .ok (.iload_n 2, 1) := by decide +kernel
theorem d_Ref_rank_158 : decode M_Ref_rank.2.1 158 = .ok (.imul, 1) := by decide +kernel
theorem d_Ref_rank_159 : decode M_Ref_rank.2.1 159 = .ok (.iload_n 3, 1) := by decide +kernel
theorem d_Ref_rank_160 : decode M_Ref_rank.2.1 160 = .ok (.iadd, 1) := by decide +kernel
theorem d_Ref_rank_161 : decode M_Ref_rank.2.1 161 = .ok (.iaload, 1) := by decide +kernel
theorem d_Ref_rank_162 : decode M_Ref_rank.2.1 162 = .ok (.invokestatic 305, 3) := by decide +kernel
theorem d_Ref_rank_165 : decode M_Ref_rank.2.1 165 = .ok (.istore 5, 2) := by decide +kernel
theorem d_Ref_rank_167 : decode M_Ref_rank.2.1 167 = .ok (.iload_n 2, 1) := by decide +kernel
theorem d_Ref_rank_168 : decode M_Ref_rank.2.1 168 = .ok (.iconst 1, 1) := by decide +kernel
theorem d_Ref_rank_169 : decode M_Ref_rank.2.1 169 = .ok (.iadd, 1) := by decide +kernel
theorem d_Ref_rank_170 : decode M_Ref_rank.2.1 170 = .ok (.istore 6, 2) := by decide +kernel
theorem d_Ref_rank_172 : decode M_Ref_rank.2.1 172 = .ok (.iload 6, 2) := by decide +kernel
theorem d_Ref_rank_174 : decode M_Ref_rank.2.1 174 = .ok (.iload_n 1, 1) := by decide +kernel
theorem d_Ref_rank_175 : decode M_Ref_rank.2.1 175 = .ok (.if_icmp .ge 35, 3) := by decide +kernel
theorem d_Ref_rank_178 : decode M_Ref_rank.2.1 178 = .ok (.aload_n 0, 1) := by decide +kernel
theorem d_Ref_rank_179 : decode M_Ref_rank.2.1 179 = .ok (.iload 6, 2) := by decide +kernel
theorem d_Ref_rank_181 : decode M_Ref_rank.2.1 181 = .ok (.iload_n 2, 1) := by decide +kernel
theorem d_Ref_rank_182 : decode M_Ref_rank.2.1 182 = .ok (.aload_n 0, 1) := by decide +kernel
theorem d_Ref_rank_183 : decode M_Ref_rank.2.1 183 = .ok (.getfield 46, 3) := by decide +kernel
theorem d_Ref_rank_186 : decode M_Ref_rank.2.1 186 = .ok (.bipush 7, 2) := by decide +kernel
theorem d_Ref_rank_188 : decode M_Ref_rank.2.1 188 = .ok (.iload 6, 2) := by decide +kernel
theorem d_Ref_rank_190 : decode M_Ref_rank.2.1 190 = .ok (.imul, 1) := by decide +kernel
theorem d_Ref_rank_191 : decode M_Ref_rank.2.1 191 = .ok (.iload_n 3, 1) := by decide +kernel
theorem d_Ref_rank_192 : decode M_Ref_rank.2.1 192 = .ok (.iadd, 1) := by decide +kernel
theorem d_Ref_rank_193 : decode M_Ref_rank.2.1 193 = .ok (.iaload, 1) := by decide +kernel
theorem d_Ref_rank_194 : decode M_Ref_rank.2.1 194 = .ok (.iload 5, 2) := by decide +kernel
theorem d_Ref_rank_196 : decode M_Ref_rank.2.1 196 = .ok (.imul, 1) := by decide +kernel
theorem d_Ref_rank_197 : decode M_Ref_rank.2.1 197 = .ok (.sipush 10007, 3) := by decide +kernel
theorem d_Ref_rank_200 : decode M_Ref_rank.2.1 200 = .ok (.irem, 1) := by decide +kernel
theorem d_Ref_rank_201 : decode M_Ref_rank.2.1 201 = .ok (.invokevirtual 308, 3) := by decide +kernel
theorem d_Ref_rank_204 : decode M_Ref_rank.2.1 204 = .ok (.iinc 6 1, 3) := by decide +kernel
theorem d_Ref_rank_207 : decode M_Ref_rank.2.1 207 = .ok (.goto (-35), 3) := by decide +kernel
theorem d_Ref_rank_210 : decode M_Ref_rank.2.1 210 = .ok (.iinc 2 1, 3) := by decide +kernel
theorem d_Ref_rank_213 : decode M_Ref_rank.2.1 213 = .ok (.iinc 3 1, 3) := by decide +kernel
theorem d_Ref_rank_216 : decode M_Ref_rank.2.1 216 = .ok (.goto (-117), 3) := by decide +kernel
theorem d_Ref_rank_219 : decode M_Ref_rank.2.1 219 = .ok (.iload_n 2, 1) := by decide +kernel
theorem d_Ref_rank_220 : decode M_Ref_rank.2.1 220 = .ok (.ireturn, 1) := by decide +kernel
theorem d_Ref_swap_0 : decode M_Ref_swap.2.1 0 = .ok (.iconst 0, 1) := by decide +kernel
theorem d_Ref_swap_1 : decode M_Ref_swap.2.1 1 = .ok (.istore_n 3, 1) := by decide +kernel
theorem d_Ref_swap_2 : decode M_Ref_swap.2.1 2 = .ok (.iload_n 3, 1) := by decide +kernel
theorem d_Ref_swap_3 : decode M_Ref_swap.2.1 3 = .ok (.bipush 7, 2) := by decide +kernel
theorem d_Ref_swap_5 : decode M_Ref_swap.2.1 5 = .ok (.if_icmp .ge 57, 3) := by decide +kernel
theorem d_Ref_swap_8 : decode M_Ref_swap.2.1 8 = .ok (.aload_n 0, 1) := by decide +kernel
theorem d_Ref_swap_9 : decode M_Ref_swap.2.1 9 = .ok (.getfield 46, 3) := by decide +kernel
theorem d_Ref_swap_12 : decode M_Ref_swap.2.1 12 = .ok (.bipush 7, 2) := by decide +kernel
theorem d_Ref_swap_14 : decode M_Ref_swap.2.1 14 = .ok (.iload_n 1, 1) := by decide +kernel
theorem d_Ref_swap_15 : decode M_Ref_swap.2.1 15 = .ok (.imul, 1) := by decide +kernel
theorem d_Ref_swap_16 : decode M_Ref_swap.2.1 16 = .ok (.iload_n 3, 1) := by decide +kernel
theorem d_Ref_swap_17 : decode M_Ref_swap.2.1 17 = .ok (.iadd, 1) := by decide +kernel
theorem d_Ref_swap_18 : decode M_Ref_swap.2.1 18 = .ok (.iaload, 1) := by decide +kernel
theorem d_Ref_swap_19 : decode M_Ref_swap.2.1 19 = .ok (.istore 4, 2) := by decide +kernel
theorem d_Ref_swap_21 : decode M_Ref_swap.2.1 21 = .ok (.aload_n 0, 1) := by decide +kernel
theorem d_Ref_swap_22 : decode M_Ref_swap.2.1 22 = .ok (.getfield 46, 3) := by decide +kernel
theorem d_Ref_swap_25 : decode M_Ref_swap.2.1 25 = .ok (.bipush 7, 2) := by decide +kernel
theorem d_Ref_swap_27 : decode M_Ref_swap.2.1 27 = .ok (.iload_n 1, 1) := by decide +kernel
theorem d_Ref_swap_28 : decode M_Ref_swap.2.1 28 = .ok (.imul, 1) := by decide +kernel
theorem d_Ref_swap_29 : decode M_Ref_swap.2.1 29 = .ok (.iload_n 3, 1) := by decide +kernel
theorem d_Ref_swap_30 : decode M_Ref_swap.2.1 30 = .ok (.iadd, 1) := by decide +kernel
theorem d_Ref_swap_31 : decode M_Ref_swap.2.1 31 = .ok (.aload_n 0, 1) := by decide +kernel
theorem d_Ref_swap_32 : decode M_Ref_swap.2.1 32 = .ok (.getfield 46, 3) := by decide +kernel
theorem d_Ref_swap_35 : decode M_Ref_swap.2.1 35 = .ok (.bipush 7, 2) := by decide +kernel
theorem d_Ref_swap_37 : decode M_Ref_swap.2.1 37 = .ok (.iload_n 2, 1) := by decide +kernel
theorem d_Ref_swap_38 : decode M_Ref_swap.2.1 38 = .ok (.imul, 1) := by decide +kernel
theorem d_Ref_swap_39 : decode M_Ref_swap.2.1 39 = .ok (.iload_n 3, 1) := by decide +kernel
theorem d_Ref_swap_40 : decode M_Ref_swap.2.1 40 = .ok (.iadd, 1) := by decide +kernel
theorem d_Ref_swap_41 : decode M_Ref_swap.2.1 41 = .ok (.iaload, 1) := by decide +kernel
theorem d_Ref_swap_42 : decode M_Ref_swap.2.1 42 = .ok (.iastore, 1) := by decide +kernel
theorem d_Ref_swap_43 : decode M_Ref_swap.2.1 43 = .ok (.aload_n 0, 1) := by decide +kernel
theorem d_Ref_swap_44 : decode M_Ref_swap.2.1 44 = .ok (.getfield 46, 3) := by decide +kernel
theorem d_Ref_swap_47 : decode M_Ref_swap.2.1 47 = .ok (.bipush 7, 2) := by decide +kernel
theorem d_Ref_swap_49 : decode M_Ref_swap.2.1 49 = .ok (.iload_n 2, 1) := by decide +kernel
theorem d_Ref_swap_50 : decode M_Ref_swap.2.1 50 = .ok (.imul, 1) := by decide +kernel
theorem d_Ref_swap_51 : decode M_Ref_swap.2.1 51 = .ok (.iload_n 3, 1) := by decide +kernel
theorem d_Ref_swap_52 : decode M_Ref_swap.2.1 52 = .ok (.iadd, 1) := by decide +kernel
theorem d_Ref_swap_53 : decode M_Ref_swap.2.1 53 = .ok (.iload 4, 2) := by decide +kernel
theorem d_Ref_swap_55 : decode M_Ref_swap.2.1 55 = .ok (.iastore, 1) := by decide +kernel
theorem d_Ref_swap_56 : decode M_Ref_swap.2.1 56 = .ok (.iinc 3 1, 3) := by decide +kernel
theorem d_Ref_swap_59 : decode M_Ref_swap.2.1 59 = .ok (.goto (-57), 3) := by decide +kernel
theorem d_Ref_swap_62 : decode M_Ref_swap.2.1 62 = .ok (.return_, 1) := by decide +kernel
theorem d_Ref_inverse_0 : decode M_Ref_inverse.2.1 0 = .ok (.iconst 1, 1) := by decide +kernel
theorem d_Ref_inverse_1 : decode M_Ref_inverse.2.1 1 = .ok (.istore_n 1, 1) := by decide +kernel
theorem d_Ref_inverse_2 : decode M_Ref_inverse.2.1 2 = .ok (.iload_n 0, 1) := by decide +kernel
theorem d_Ref_inverse_3 : decode M_Ref_inverse.2.1 3 = .ok (.istore_n 2, 1) := by decide +kernel
theorem d_Ref_inverse_4 : decode M_Ref_inverse.2.1 4 = .ok (.sipush 10005, 3) := by decide +kernel
theorem d_Ref_inverse_7 : decode M_Ref_inverse.2.1 7 = .ok (.istore_n 3, 1) := by decide +kernel
theorem d_Ref_inverse_8 : decode M_Ref_inverse.2.1 8 = .ok (.iload_n 3, 1) := by decide +kernel
theorem d_Ref_inverse_9 : decode M_Ref_inverse.2.1 9 = .ok (.ifCond .le 33, 3) := by decide +kernel
theorem d_Ref_inverse_12 : decode M_Ref_inverse.2.1 12 = .ok (.iload_n 3, 1) := by decide +kernel
theorem d_Ref_inverse_13 : decode M_Ref_inverse.2.1 13 = .ok (.iconst 2, 1) := by decide +kernel
theorem d_Ref_inverse_14 : decode M_Ref_inverse.2.1 14 = .ok (.irem, 1) := by decide +kernel
theorem d_Ref_inverse_15 : decode M_Ref_inverse.2.1 15 = .ok (.iconst 1, 1) := by decide +kernel
theorem d_Ref_inverse_16 : decode M_Ref_inverse.2.1 16 = .ok (.if_icmp .ne 11, 3) := by decide +kernel
theorem d_Ref_inverse_19 : decode M_Ref_inverse.2.1 19 = .ok (.iload_n 1, 1) := by decide +kernel
theorem d_Ref_inverse_20 : decode M_Ref_inverse.2.1 20 = .ok (.iload_n 2, 1) := by decide +kernel
theorem d_Ref_inverse_21 : decode M_Ref_inverse.2.1 21 = .ok (.imul, 1) := by decide +kernel
theorem d_Ref_inverse_22 : decode M_Ref_inverse.2.1 22 = .ok (.sipush 10007, 3) := by decide +kernel
theorem d_Ref_inverse_25 : decode M_Ref_inverse.2.1 25 = .ok (.irem, 1) := by decide +kernel
theorem d_Ref_inverse_26 : decode M_Ref_inverse.2.1 26 = .ok (.istore_n 1, 1) := by decide +kernel
theorem d_Ref_inverse_27 : decode M_Ref_inverse.2.1 27 = .ok (.iload_n 2, 1) := by decide +kernel
theorem d_Ref_inverse_28 : decode M_Ref_inverse.2.1 28 = .ok (.iload_n 2, 1) := by decide +kernel
theorem d_Ref_inverse_29 : decode M_Ref_inverse.2.1 29 = .ok (.imul, 1) := by decide +kernel
theorem d_Ref_inverse_30 : decode M_Ref_inverse.2.1 30 = .ok (.sipush 10007, 3) := by decide +kernel
theorem d_Ref_inverse_33 : decode M_Ref_inverse.2.1 33 = .ok (.irem, 1) := by decide +kernel
theorem d_Ref_inverse_34 : decode M_Ref_inverse.2.1 34 = .ok (.istore_n 2, 1) := by decide +kernel
theorem d_Ref_inverse_35 : decode M_Ref_inverse.2.1 35 = .ok (.iload_n 3, 1) := by decide +kernel
theorem d_Ref_inverse_36 : decode M_Ref_inverse.2.1 36 = .ok (.iconst 2, 1) := by decide +kernel
theorem d_Ref_inverse_37 : decode M_Ref_inverse.2.1 37 = .ok (.idiv, 1) := by decide +kernel
theorem d_Ref_inverse_38 : decode M_Ref_inverse.2.1 38 = .ok (.istore_n 3, 1) := by decide +kernel
theorem d_Ref_inverse_39 : decode M_Ref_inverse.2.1 39 = .ok (.goto (-31), 3) := by decide +kernel
theorem d_Ref_inverse_42 : decode M_Ref_inverse.2.1 42 = .ok (.iload_n 1, 1) := by decide +kernel
theorem d_Ref_inverse_43 : decode M_Ref_inverse.2.1 43 = .ok (.ireturn, 1) := by decide +kernel
theorem d_Ref_takeOff_0 : decode M_Ref_takeOff.2.1 0 = .ok (.iconst 0, 1) := by decide +kernel
theorem d_Ref_takeOff_1 : decode M_Ref_takeOff.2.1 1 = .ok (.istore 4, 2) := by decide +kernel
theorem d_Ref_takeOff_3 : decode M_Ref_takeOff.2.1 3 = .ok (.iload 4, 2) := by decide +kernel
theorem d_Ref_takeOff_5 : decode M_Ref_takeOff.2.1 5 = .ok (.bipush 7, 2) := by decide +kernel
theorem d_Ref_takeOff_7 : decode M_Ref_takeOff.2.1 7 = .ok (.if_icmp .ge 70, 3) := by decide +kernel
theorem d_Ref_takeOff_10 : decode M_Ref_takeOff.2.1 10 = .ok (.aload_n 0, 1) := by decide +kernel
theorem d_Ref_takeOff_11 : decode M_Ref_takeOff.2.1 11 = .ok (.getfield 46, 3) := by decide +kernel
theorem d_Ref_takeOff_14 : decode M_Ref_takeOff.2.1 14 = .ok (.bipush 7, 2) := by decide +kernel
theorem d_Ref_takeOff_16 : decode M_Ref_takeOff.2.1 16 = .ok (.iload_n 1, 1) := by decide +kernel
theorem d_Ref_takeOff_17 : decode M_Ref_takeOff.2.1 17 = .ok (.imul, 1) := by decide +kernel
theorem d_Ref_takeOff_18 : decode M_Ref_takeOff.2.1 18 = .ok (.iload 4, 2) := by decide +kernel
theorem d_Ref_takeOff_20 : decode M_Ref_takeOff.2.1 20 = .ok (.iadd, 1) := by decide +kernel
theorem d_Ref_takeOff_21 : decode M_Ref_takeOff.2.1 21 = .ok (.iaload, 1) := by decide +kernel
theorem d_Ref_takeOff_22 : decode M_Ref_takeOff.2.1 22 = .ok (.iload_n 3, 1) := by decide +kernel
theorem d_Ref_takeOff_23 : decode M_Ref_takeOff.2.1 23 = .ok (.aload_n 0, 1) := by decide +kernel
theorem d_Ref_takeOff_24 : decode M_Ref_takeOff.2.1 24 = .ok (.getfield 46, 3) := by decide +kernel
theorem d_Ref_takeOff_27 : decode M_Ref_takeOff.2.1 27 = .ok (.bipush 7, 2) := by decide +kernel
theorem d_Ref_takeOff_29 : decode M_Ref_takeOff.2.1 29 = .ok (.iload_n 2, 1) := by decide +kernel
theorem d_Ref_takeOff_30 : decode M_Ref_takeOff.2.1 30 = .ok (.imul, 1) := by decide +kernel
theorem d_Ref_takeOff_31 : decode M_Ref_takeOff.2.1 31 = .ok (.iload 4, 2) := by decide +kernel
theorem d_Ref_takeOff_33 : decode M_Ref_takeOff.2.1 33 = .ok (.iadd, 1) := by decide +kernel
theorem d_Ref_takeOff_34 : decode M_Ref_takeOff.2.1 34 = .ok (.iaload, 1) := by decide +kernel
theorem d_Ref_takeOff_35 : decode M_Ref_takeOff.2.1 35 = .ok (.imul, 1) := by decide +kernel
theorem d_Ref_takeOff_36 : decode M_Ref_takeOff.2.1 36 = .ok (.isub, 1) := by decide +kernel
theorem d_Ref_takeOff_37 : decode M_Ref_takeOff.2.1 37 = .ok (.sipush 10007, 3) := by decide +kernel
theorem d_Ref_takeOff_40 : decode M_Ref_takeOff.2.1 40 = .ok (.irem, 1) := by decide +kernel
theorem d_Ref_takeOff_41 : decode M_Ref_takeOff.2.1 41 = .ok (.istore 5, 2) := by decide +kernel
theorem d_Ref_takeOff_43 : decode M_Ref_takeOff.2.1 43 = .ok (.aload_n 0, 1) := by decide +kernel
theorem d_Ref_takeOff_44 : decode M_Ref_takeOff.2.1 44 = .ok (.getfield 46, 3) := by decide +kernel
theorem d_Ref_takeOff_47 : decode M_Ref_takeOff.2.1 47 = .ok (.bipush 7, 2) := by decide +kernel
theorem d_Ref_takeOff_49 : decode M_Ref_takeOff.2.1 49 = .ok (.iload_n 1, 1) := by decide +kernel
theorem d_Ref_takeOff_50 : decode M_Ref_takeOff.2.1 50 = .ok (.imul, 1) := by decide +kernel
theorem d_Ref_takeOff_51 : decode M_Ref_takeOff.2.1 51 = .ok (.iload 4, 2) := by decide +kernel
theorem d_Ref_takeOff_53 : decode M_Ref_takeOff.2.1 53 = .ok (.iadd, 1) := by decide +kernel
theorem d_Ref_takeOff_54 : decode M_Ref_takeOff.2.1 54 = .ok (.iload 5, 2) := by decide +kernel
theorem d_Ref_takeOff_56 : decode M_Ref_takeOff.2.1 56 = .ok (.ifCond .ge 12, 3) := by decide +kernel
theorem d_Ref_takeOff_59 : decode M_Ref_takeOff.2.1 59 = .ok (.iload 5, 2) := by decide +kernel
theorem d_Ref_takeOff_61 : decode M_Ref_takeOff.2.1 61 = .ok (.sipush 10007, 3) := by decide +kernel
theorem d_Ref_takeOff_64 : decode M_Ref_takeOff.2.1 64 = .ok (.iadd, 1) := by decide +kernel
theorem d_Ref_takeOff_65 : decode M_Ref_takeOff.2.1 65 = .ok (.goto 5, 3) := by decide +kernel
theorem d_Ref_takeOff_68 : decode M_Ref_takeOff.2.1 68 = .ok (.iload 5, 2) := by decide +kernel
theorem d_Ref_takeOff_70 : decode M_Ref_takeOff.2.1 70 = .ok (.iastore, 1) := by decide +kernel
theorem d_Ref_takeOff_71 : decode M_Ref_takeOff.2.1 71 = .ok (.iinc 4 1, 3) := by decide +kernel
theorem d_Ref_takeOff_74 : decode M_Ref_takeOff.2.1 74 = .ok (.goto (-71), 3) := by decide +kernel
theorem d_Ref_takeOff_77 : decode M_Ref_takeOff.2.1 77 = .ok (.return_, 1) := by decide +kernel
theorem d_Ref_smooth_0 : decode M_Ref_smooth.2.1 0 = .ok (.iload_n 1, 1) := by decide +kernel
theorem d_Ref_smooth_1 : decode M_Ref_smooth.2.1 1 = .ok (.ifCond .le 15, 3) := by decide +kernel
theorem d_Ref_smooth_4 : decode M_Ref_smooth.2.1 4 = .ok (.aload_n 0, 1) := by decide +kernel
theorem d_Ref_smooth_5 : decode M_Ref_smooth.2.1 5 = .ok (.iload_n 1, 1) := by decide +kernel
theorem d_Ref_smooth_6 : decode M_Ref_smooth.2.1 6 = .ok (.invokevirtual 183, 3) := by decide +kernel
theorem d_Ref_smooth_9 : decode M_Ref_smooth.2.1 9 = .ok (.ifCond .eq 7, 3) := by decide +kernel
theorem d_Ref_smooth_12 : decode M_Ref_smooth.2.1 12 = .ok (.iconst 1, 1) := by decide +kernel
theorem d_Ref_smooth_13 : decode M_Ref_smooth.2.1 13 = .ok (.goto 4, 3) := by decide +kernel
theorem d_Ref_smooth_16 : decode M_Ref_smooth.2.1 16 = .ok (.iconst 0, 1) := by decide +kernel
theorem d_Ref_smooth_17 : decode M_Ref_smooth.2.1 17 = .ok (.ireturn, 1) := by decide +kernel
theorem d_Ref_smoothUpTo_0 : decode M_Ref_smoothUpTo.2.1 0 = .ok (.iload_n 1, 1) := by decide +kernel
theorem d_Ref_smoothUpTo_1 : decode M_Ref_smoothUpTo.2.1 1 = .ok (.i2l, 1) := by decide +kernel
theorem d_Ref_smoothUpTo_2 : decode M_Ref_smoothUpTo.2.1 2 = .ok (.lconst 0, 1) := by decide +kernel
theorem d_Ref_smoothUpTo_3 : decode M_Ref_smoothUpTo.2.1 3 = .ok (.ldc2_w 311, 3) := by decide +kernel
theorem d_Ref_smoothUpTo_6 : decode M_Ref_smoothUpTo.2.1 6 = .ok (.invokestatic 111, 3) := by decide +kernel
theorem d_Ref_smoothUpTo_9 : decode M_Ref_smoothUpTo.2.1 9 = .ok (.ifCond .eq 11, 3) := by decide +kernel
theorem d_Ref_smoothUpTo_12 : decode M_Ref_smoothUpTo.2.1 12 = .ok (.aload_n 0, 1) := by decide +kernel
theorem d_Ref_smoothUpTo_13 : decode M_Ref_smoothUpTo.2.1 13 = .ok (.iload_n 1, 1) := by decide +kernel
theorem d_Ref_smoothUpTo_14 : decode M_Ref_smoothUpTo.2.1 14 = .ok (.invokevirtual 313, 3) := by decide +kernel
theorem d_Ref_smoothUpTo_17 : decode M_Ref_smoothUpTo.2.1 17 = .ok (.goto 4, 3) := by decide +kernel
theorem d_Ref_smoothUpTo_20 : decode M_Ref_smoothUpTo.2.1 20 = .ok (.iconst (-1), 1) := by decide +kernel
theorem d_Ref_smoothUpTo_21 : decode M_Ref_smoothUpTo.2.1 21 = .ok (.ireturn, 1) := by decide +kernel
theorem d_Ref_smoothMany_0 : decode M_Ref_smoothMany.2.1 0 = .ok (.iconst 0, 1) := by decide +kernel
theorem d_Ref_smoothMany_1 : decode M_Ref_smoothMany.2.1 1 = .ok (.istore_n 2, 1) := by decide +kernel
theorem d_Ref_smoothMany_2 : decode M_Ref_smoothMany.2.1 2 = .ok (.iconst 1, 1) := by decide +kernel
theorem d_Ref_smoothMany_3 : decode M_Ref_smoothMany.2.1 3 = .ok (.istore_n 3, 1) := by decide +kernel
theorem d_Ref_smoothMany_4 : decode M_Ref_smoothMany.2.1 4 = .ok (.iload_n 3, 1) := by decide +kernel
theorem d_Ref_smoothMany_5 : decode M_Ref_smoothMany.2.1 5 = .ok (.iload_n 1, 1) := by decide +kernel
theorem d_Ref_smoothMany_6 : decode M_Ref_smoothMany.2.1 6 = .ok (.if_icmp .gt 25, 3) := by decide +kernel
theorem d_Ref_smoothMany_9 : decode M_Ref_smoothMany.2.1 9 = .ok (.iload_n 2, 1) := by decide +kernel
theorem d_Ref_smoothMany_10 : decode M_Ref_smoothMany.2.1 10 = .ok (.aload_n 0, 1) := by decide +kernel
theorem d_Ref_smoothMany_11 : decode M_Ref_smoothMany.2.1 11 = .ok (.iload_n 3, 1) := by decide +kernel
theorem d_Ref_smoothMany_12 : decode M_Ref_smoothMany.2.1 12 = .ok (.invokevirtual 183, 3) := by decide +kernel
theorem d_Ref_smoothMany_15 : decode M_Ref_smoothMany.2.1 15 = .ok (.ifCond .eq 7, 3) := by decide +kernel
theorem d_Ref_smoothMany_18 : decode M_Ref_smoothMany.2.1 18 = .ok (.iconst 1, 1) := by decide +kernel
theorem d_Ref_smoothMany_19 : decode M_Ref_smoothMany.2.1 19 = .ok (.goto 4, 3) := by decide +kernel
theorem d_Ref_smoothMany_22 : decode M_Ref_smoothMany.2.1 22 = .ok (.iconst 0, 1) := by decide +kernel
theorem d_Ref_smoothMany_23 : decode M_Ref_smoothMany.2.1 23 = .ok (.iadd, 1) := by decide +kernel
theorem d_Ref_smoothMany_24 : decode M_Ref_smoothMany.2.1 24 = .ok (.istore_n 2, 1) := by decide +kernel
theorem d_Ref_smoothMany_25 : decode M_Ref_smoothMany.2.1 25 = .ok (.iinc 3 1, 3) := by decide +kernel
theorem d_Ref_smoothMany_28 : decode M_Ref_smoothMany.2.1 28 = .ok (.goto (-24), 3) := by decide +kernel
theorem d_Ref_smoothMany_31 : decode M_Ref_smoothMany.2.1 31 = .ok (.iload_n 2, 1) := by decide +kernel
theorem d_Ref_smoothMany_32 : decode M_Ref_smoothMany.2.1 32 = .ok (.ireturn, 1) := by decide +kernel
theorem d_Ref_smoothAt_0 : decode M_Ref_smoothAt.2.1 0 = .ok (.iload_n 1, 1) := by decide +kernel
theorem d_Ref_smoothAt_1 : decode M_Ref_smoothAt.2.1 1 = .ok (.ifCond .ge 5, 3) := by decide +kernel
theorem d_Ref_smoothAt_4 : decode M_Ref_smoothAt.2.1 4 = .ok (.iconst (-1), 1) := by decide +kernel
theorem d_Ref_smoothAt_5 : decode M_Ref_smoothAt.2.1 5 = .ok (.ireturn, 1) := by decide +kernel
theorem d_Ref_smoothAt_6 : decode M_Ref_smoothAt.2.1 6 = .ok (.iload_n 1, 1) := by decide +kernel
theorem d_Ref_smoothAt_7 : decode M_Ref_smoothAt.2.1 7 = .ok (.istore_n 2, 1) := by decide +kernel
theorem d_Ref_smoothAt_8 : decode M_Ref_smoothAt.2.1 8 = .ok (.iconst 1, 1) := by decide +kernel
theorem d_Ref_smoothAt_9 : decode M_Ref_smoothAt.2.1 9 = .ok (.istore_n 3, 1) := by decide +kernel
theorem d_Ref_smoothAt_10 : decode M_Ref_smoothAt.2.1 10 = .ok (.iload_n 3, 1) := by decide +kernel
theorem d_Ref_smoothAt_11 : decode M_Ref_smoothAt.2.1 11 = .ok (.ldc_w 316, 3) := by decide +kernel
theorem d_Ref_smoothAt_14 : decode M_Ref_smoothAt.2.1 14 = .ok (.if_icmp .gt 29, 3) := by decide +kernel
theorem d_Ref_smoothAt_17 : decode M_Ref_smoothAt.2.1 17 = .ok (.aload_n 0, 1) := by decide +kernel
theorem d_Ref_smoothAt_18 : decode M_Ref_smoothAt.2.1 18 = .ok (.iload_n 3, 1) := by decide +kernel
theorem d_Ref_smoothAt_19 : decode M_Ref_smoothAt.2.1 19 = .ok (.invokevirtual 183, 3) := by decide +kernel
theorem d_Ref_smoothAt_22 : decode M_Ref_smoothAt.2.1 22 = .ok (.ifCond .ne 6, 3) := by decide +kernel
theorem d_Ref_smoothAt_25 : decode M_Ref_smoothAt.2.1 25 = .ok (.goto 12, 3) := by decide +kernel
theorem d_Ref_smoothAt_28 : decode M_Ref_smoothAt.2.1 28 = .ok (.iload_n 2, 1) := by decide +kernel
theorem d_Ref_smoothAt_29 : decode M_Ref_smoothAt.2.1 29 = .ok (.ifCond .ne 5, 3) := by decide +kernel
theorem d_Ref_smoothAt_32 : decode M_Ref_smoothAt.2.1 32 = .ok (.iload_n 3, 1) := by decide +kernel
theorem d_Ref_smoothAt_33 : decode M_Ref_smoothAt.2.1 33 = .ok (.ireturn, 1) := by decide +kernel
theorem d_Ref_smoothAt_34 : decode M_Ref_smoothAt.2.1 34 = .ok (.iinc 2 (-1), 3) := by decide +kernel
theorem d_Ref_smoothAt_37 : decode M_Ref_smoothAt.2.1 37 = .ok (.iinc 3 1, 3) := by decide +kernel
theorem d_Ref_smoothAt_40 : decode M_Ref_smoothAt.2.1 40 = .ok (.goto (-30), 3) := by decide +kernel
theorem d_Ref_smoothAt_43 : decode M_Ref_smoothAt.2.1 43 = .ok (.iconst (-1), 1) := by decide +kernel
theorem d_Ref_smoothAt_44 : decode M_Ref_smoothAt.2.1 44 = .ok (.ireturn, 1) := by decide +kernel
theorem d_Ref_next_0 : decode M_Ref_next.2.1 0 = .ok (.iload_n 1, 1) := by decide +kernel
theorem d_Ref_next_1 : decode M_Ref_next.2.1 1 = .ok (.ifCond .ge 5, 3) := by decide +kernel
theorem d_Ref_next_4 : decode M_Ref_next.2.1 4 = .ok (.iconst (-1), 1) := by decide +kernel
theorem d_Ref_next_5 : decode M_Ref_next.2.1 5 = .ok (.ireturn, 1) := by decide +kernel
theorem d_Ref_next_6 : decode M_Ref_next.2.1 6 = .ok (.iload_n 1, 1) := by decide +kernel
theorem d_Ref_next_7 : decode M_Ref_next.2.1 7 = .ok (.ldc_w 316, 3) := by decide +kernel
theorem d_Ref_next_10 : decode M_Ref_next.2.1 10 = .ok (.if_icmp .ge 9, 3) := by decide +kernel
theorem d_Ref_next_13 : decode M_Ref_next.2.1 13 = .ok (.iload_n 1, 1) := by decide +kernel
theorem d_Ref_next_14 : decode M_Ref_next.2.1 14 = .ok (.iconst 1, 1) := by decide +kernel
theorem d_Ref_next_15 : decode M_Ref_next.2.1 15 = .ok (.iadd, 1) := by decide +kernel
theorem d_Ref_next_16 : decode M_Ref_next.2.1 16 = .ok (.goto 6, 3) := by decide +kernel
theorem d_Ref_next_19 : decode M_Ref_next.2.1 19 = .ok (.ldc_w 317, 3) := by decide +kernel
theorem d_Ref_next_22 : decode M_Ref_next.2.1 22 = .ok (.istore_n 2, 1) := by decide +kernel
theorem d_Ref_next_23 : decode M_Ref_next.2.1 23 = .ok (.iload_n 2, 1) := by decide +kernel
theorem d_Ref_next_24 : decode M_Ref_next.2.1 24 = .ok (.ldc_w 316, 3) := by decide +kernel
theorem d_Ref_next_27 : decode M_Ref_next.2.1 27 = .ok (.if_icmp .gt 19, 3) := by decide +kernel
theorem d_Ref_next_30 : decode M_Ref_next.2.1 30 = .ok (.aload_n 0, 1) := by decide +kernel
theorem d_Ref_next_31 : decode M_Ref_next.2.1 31 = .ok (.iload_n 2, 1) := by decide +kernel
theorem d_Ref_next_32 : decode M_Ref_next.2.1 32 = .ok (.invokevirtual 183, 3) := by decide +kernel
theorem d_Ref_next_35 : decode M_Ref_next.2.1 35 = .ok (.ifCond .eq 5, 3) := by decide +kernel
theorem d_Ref_next_38 : decode M_Ref_next.2.1 38 = .ok (.iload_n 2, 1) := by decide +kernel
theorem d_Ref_next_39 : decode M_Ref_next.2.1 39 = .ok (.ireturn, 1) := by decide +kernel
theorem d_Ref_next_40 : decode M_Ref_next.2.1 40 = .ok (.iinc 2 1, 3) := by decide +kernel
theorem d_Ref_next_43 : decode M_Ref_next.2.1 43 = .ok (.goto (-20), 3) := by decide +kernel
theorem d_Ref_next_46 : decode M_Ref_next.2.1 46 = .ok (.iconst (-1), 1) := by decide +kernel
theorem d_Ref_next_47 : decode M_Ref_next.2.1 47 = .ok (.ireturn, 1) := by decide +kernel
theorem d_Ref_sieved_0 : decode M_Ref_sieved.2.1 0 = .ok (.iload_n 1, 1) := by decide +kernel
theorem d_Ref_sieved_1 : decode M_Ref_sieved.2.1 1 = .ok (.i2l, 1) := by decide +kernel
theorem d_Ref_sieved_2 : decode M_Ref_sieved.2.1 2 = .ok (.lconst 0, 1) := by decide +kernel
theorem d_Ref_sieved_3 : decode M_Ref_sieved.2.1 3 = .ok (.ldc2_w 311, 3) := by decide +kernel
theorem d_Ref_sieved_6 : decode M_Ref_sieved.2.1 6 = .ok (.invokestatic 111, 3) := by decide +kernel
theorem d_Ref_sieved_9 : decode M_Ref_sieved.2.1 9 = .ok (.ifCond .ne 5, 3) := by decide +kernel
theorem d_Ref_sieved_12 : decode M_Ref_sieved.2.1 12 = .ok (.iconst (-1), 1) := by decide +kernel
theorem d_Ref_sieved_13 : decode M_Ref_sieved.2.1 13 = .ok (.ireturn, 1) := by decide +kernel
theorem d_Ref_sieved_14 : decode M_Ref_sieved.2.1 14 = .ok (.iconst 0, 1) := by decide +kernel
theorem d_Ref_sieved_15 : decode M_Ref_sieved.2.1 15 = .ok (.istore_n 2, 1) := by decide +kernel
theorem d_Ref_sieved_16 : decode M_Ref_sieved.2.1 16 = .ok (.iconst 1, 1) := by decide +kernel
theorem d_Ref_sieved_17 : decode M_Ref_sieved.2.1 17 = .ok (.istore_n 3, 1) := by decide +kernel
theorem d_Ref_sieved_18 : decode M_Ref_sieved.2.1 18 = .ok (.iload_n 3, 1) := by decide +kernel
theorem d_Ref_sieved_19 : decode M_Ref_sieved.2.1 19 = .ok (.iload_n 1, 1) := by decide +kernel
theorem d_Ref_sieved_20 : decode M_Ref_sieved.2.1 20 = .ok (.if_icmp .ge 35, 3) := by decide +kernel
theorem d_Ref_sieved_23 : decode M_Ref_sieved.2.1 23 = .ok (.iload_n 2, 1) := by decide +kernel
theorem d_Ref_sieved_24 : decode M_Ref_sieved.2.1 24 = .ok (.aload_n 0, 1) := by decide +kernel
theorem d_Ref_sieved_25 : decode M_Ref_sieved.2.1 25 = .ok (.iload_n 3, 1) := by decide +kernel
theorem d_Ref_sieved_26 : decode M_Ref_sieved.2.1 26 = .ok (.invokevirtual 183, 3) := by decide +kernel
theorem d_Ref_sieved_29 : decode M_Ref_sieved.2.1 29 = .ok (.ifCond .eq 17, 3) := by decide +kernel
theorem d_Ref_sieved_32 : decode M_Ref_sieved.2.1 32 = .ok (.aload_n 0, 1) := by decide +kernel
theorem d_Ref_sieved_33 : decode M_Ref_sieved.2.1 33 = .ok (.iload_n 3, 1) := by decide +kernel
theorem d_Ref_sieved_34 : decode M_Ref_sieved.2.1 34 = .ok (.iconst 1, 1) := by decide +kernel
theorem d_Ref_sieved_35 : decode M_Ref_sieved.2.1 35 = .ok (.iadd, 1) := by decide +kernel
theorem d_Ref_sieved_36 : decode M_Ref_sieved.2.1 36 = .ok (.invokevirtual 183, 3) := by decide +kernel
theorem d_Ref_sieved_39 : decode M_Ref_sieved.2.1 39 = .ok (.ifCond .eq 7, 3) := by decide +kernel
theorem d_Ref_sieved_42 : decode M_Ref_sieved.2.1 42 = .ok (.iconst 1, 1) := by decide +kernel
theorem d_Ref_sieved_43 : decode M_Ref_sieved.2.1 43 = .ok (.goto 4, 3) := by decide +kernel
theorem d_Ref_sieved_46 : decode M_Ref_sieved.2.1 46 = .ok (.iconst 0, 1) := by decide +kernel
theorem d_Ref_sieved_47 : decode M_Ref_sieved.2.1 47 = .ok (.iadd, 1) := by decide +kernel
theorem d_Ref_sieved_48 : decode M_Ref_sieved.2.1 48 = .ok (.istore_n 2, 1) := by decide +kernel
theorem d_Ref_sieved_49 : decode M_Ref_sieved.2.1 49 = .ok (.iinc 3 1, 3) := by decide +kernel
theorem d_Ref_sieved_52 : decode M_Ref_sieved.2.1 52 = .ok (.goto (-34), 3) := by decide +kernel
theorem d_Ref_sieved_55 : decode M_Ref_sieved.2.1 55 = .ok (.iload_n 2, 1) := by decide +kernel
theorem d_Ref_sieved_56 : decode M_Ref_sieved.2.1 56 = .ok (.ireturn, 1) := by decide +kernel
theorem d_Ref_agrees_0 : decode M_Ref_agrees.2.1 0 = .ok (.iload_n 1, 1) := by decide +kernel
theorem d_Ref_agrees_1 : decode M_Ref_agrees.2.1 1 = .ok (.i2l, 1) := by decide +kernel
theorem d_Ref_agrees_2 : decode M_Ref_agrees.2.1 2 = .ok (.lconst 0, 1) := by decide +kernel
theorem d_Ref_agrees_3 : decode M_Ref_agrees.2.1 3 = .ok (.ldc2_w 311, 3) := by decide +kernel
theorem d_Ref_agrees_6 : decode M_Ref_agrees.2.1 6 = .ok (.invokestatic 111, 3) := by decide +kernel
theorem d_Ref_agrees_9 : decode M_Ref_agrees.2.1 9 = .ok (.ifCond .ne 5, 3) := by decide +kernel
theorem d_Ref_agrees_12 : decode M_Ref_agrees.2.1 12 = .ok (.iconst 0, 1) := by decide +kernel
theorem d_Ref_agrees_13 : decode M_Ref_agrees.2.1 13 = .ok (.ireturn, 1) := by decide +kernel
theorem d_Ref_agrees_14 : decode M_Ref_agrees.2.1 14 = .ok (.iconst 0, 1) := by decide +kernel
theorem d_Ref_agrees_15 : decode M_Ref_agrees.2.1 15 = .ok (.istore_n 2, 1) := by decide +kernel
theorem d_Ref_agrees_16 : decode M_Ref_agrees.2.1 16 = .ok (.iconst 1, 1) := by decide +kernel
theorem d_Ref_agrees_17 : decode M_Ref_agrees.2.1 17 = .ok (.istore_n 3, 1) := by decide +kernel
theorem d_Ref_agrees_18 : decode M_Ref_agrees.2.1 18 = .ok (.iload_n 3, 1) := by decide +kernel
theorem d_Ref_agrees_19 : decode M_Ref_agrees.2.1 19 = .ok (.iload_n 1, 1) := by decide +kernel
theorem d_Ref_agrees_20 : decode M_Ref_agrees.2.1 20 = .ok (.if_icmp .ge 53, 3) := by decide +kernel
theorem d_Ref_agrees_23 : decode M_Ref_agrees.2.1 23 = .ok (.aload_n 0, 1) := by decide +kernel
theorem d_Ref_agrees_24 : decode M_Ref_agrees.2.1 24 = .ok (.iload_n 3, 1) := by decide +kernel
theorem d_Ref_agrees_25 : decode M_Ref_agrees.2.1 25 = .ok (.invokevirtual 183, 3) := by decide +kernel
theorem d_Ref_agrees_28 : decode M_Ref_agrees.2.1 28 = .ok (.ifCond .eq 39, 3) := by decide +kernel
theorem d_Ref_agrees_31 : decode M_Ref_agrees.2.1 31 = .ok (.aload_n 0, 1) := by decide +kernel
theorem d_Ref_agrees_32 : decode M_Ref_agrees.2.1 32 = .ok (.iload_n 3, 1) := by decide +kernel
theorem d_Ref_agrees_33 : decode M_Ref_agrees.2.1 33 = .ok (.iconst 1, 1) := by decide +kernel
theorem d_Ref_agrees_34 : decode M_Ref_agrees.2.1 34 = .ok (.iadd, 1) := by decide +kernel
theorem d_Ref_agrees_35 : decode M_Ref_agrees.2.1 35 = .ok (.invokevirtual 183, 3) := by decide +kernel
theorem d_Ref_agrees_38 : decode M_Ref_agrees.2.1 38 = .ok (.ifCond .ne 6, 3) := by decide +kernel
theorem d_Ref_agrees_41 : decode M_Ref_agrees.2.1 41 = .ok (.goto 26, 3) := by decide +kernel
theorem d_Ref_agrees_44 : decode M_Ref_agrees.2.1 44 = .ok (.iload_n 2, 1) := by decide +kernel
theorem d_Ref_agrees_45 : decode M_Ref_agrees.2.1 45 = .ok (.aload_n 0, 1) := by decide +kernel
theorem d_Ref_agrees_46 : decode M_Ref_agrees.2.1 46 = .ok (.getfield 167, 3) := by decide +kernel
theorem d_Ref_agrees_49 : decode M_Ref_agrees.2.1 49 = .ok (.if_icmp .eq 13, 3) := by decide +kernel
theorem d_Ref_agrees_52 : decode M_Ref_agrees.2.1 52 = .ok (.aload_n 0, 1) := by decide +kernel
theorem d_Ref_agrees_53 : decode M_Ref_agrees.2.1 53 = .ok (.getfield 28, 3) := by decide +kernel
theorem d_Ref_agrees_56 : decode M_Ref_agrees.2.1 56 = .ok (.iload_n 2, 1) := by decide +kernel
theorem d_Ref_agrees_57 : decode M_Ref_agrees.2.1 57 = .ok (.iaload, 1) := by decide +kernel
theorem d_Ref_agrees_58 : decode M_Ref_agrees.2.1 58 = .ok (.iload_n 3, 1) := by decide +kernel
theorem d_Ref_agrees_59 : decode M_Ref_agrees.2.1 59 = .ok (.if_icmp .eq 5, 3) := by decide +kernel
theorem d_Ref_agrees_62 : decode M_Ref_agrees.2.1 62 = .ok (.iconst 0, 1) := by decide +kernel
theorem d_Ref_agrees_63 : decode M_Ref_agrees.2.1 63 = .ok (.ireturn, 1) := by decide +kernel
theorem d_Ref_agrees_64 : decode M_Ref_agrees.2.1 64 = .ok (.iinc 2 1, 3) := by decide +kernel
theorem d_Ref_agrees_67 : decode M_Ref_agrees.2.1 67 = .ok (.iinc 3 1, 3) := by decide +kernel
theorem d_Ref_agrees_70 : decode M_Ref_agrees.2.1 70 = .ok (.goto (-52), 3) := by decide +kernel
theorem d_Ref_agrees_73 : decode M_Ref_agrees.2.1 73 = .ok (.iload_n 2, 1) := by decide +kernel
theorem d_Ref_agrees_74 : decode M_Ref_agrees.2.1 74 = .ok (.aload_n 0, 1) := by decide +kernel
theorem d_Ref_agrees_75 : decode M_Ref_agrees.2.1 75 = .ok (.getfield 167, 3) := by decide +kernel
theorem d_Ref_agrees_78 : decode M_Ref_agrees.2.1 78 = .ok (.if_icmp .eq 13, 3) := by decide +kernel
theorem d_Ref_agrees_81 : decode M_Ref_agrees.2.1 81 = .ok (.aload_n 0, 1) := by decide +kernel
theorem d_Ref_agrees_82 : decode M_Ref_agrees.2.1 82 = .ok (.getfield 28, 3) := by decide +kernel
theorem d_Ref_agrees_85 : decode M_Ref_agrees.2.1 85 = .ok (.iload_n 2, 1) := by decide +kernel
theorem d_Ref_agrees_86 : decode M_Ref_agrees.2.1 86 = .ok (.iaload, 1) := by decide +kernel
theorem d_Ref_agrees_87 : decode M_Ref_agrees.2.1 87 = .ok (.iload_n 1, 1) := by decide +kernel
theorem d_Ref_agrees_88 : decode M_Ref_agrees.2.1 88 = .ok (.if_icmp .lt 7, 3) := by decide +kernel
theorem d_Ref_agrees_91 : decode M_Ref_agrees.2.1 91 = .ok (.iconst 1, 1) := by decide +kernel
theorem d_Ref_agrees_92 : decode M_Ref_agrees.2.1 92 = .ok (.goto 4, 3) := by decide +kernel
theorem d_Ref_agrees_95 : decode M_Ref_agrees.2.1 95 = .ok (.iconst 0, 1) := by decide +kernel
theorem d_Ref_agrees_96 : decode M_Ref_agrees.2.1 96 = .ok (.ireturn, 1) := by decide +kernel
theorem d_Ref_gap_0 : decode M_Ref_gap.2.1 0 = .ok (.iload_n 1, 1) := by decide +kernel
theorem d_Ref_gap_1 : decode M_Ref_gap.2.1 1 = .ok (.i2l, 1) := by decide +kernel
theorem d_Ref_gap_2 : decode M_Ref_gap.2.1 2 = .ok (.lconst 0, 1) := by decide +kernel
theorem d_Ref_gap_3 : decode M_Ref_gap.2.1 3 = .ok (.ldc2_w 311, 3) := by decide +kernel
theorem d_Ref_gap_6 : decode M_Ref_gap.2.1 6 = .ok (.invokestatic 111, 3) := by decide +kernel
theorem d_Ref_gap_9 : decode M_Ref_gap.2.1 9 = .ok (.ifCond .eq 13, 3) := by decide +kernel
theorem d_Ref_gap_12 : decode M_Ref_gap.2.1 12 = .ok (.iload_n 2, 1) := by decide +kernel
theorem d_Ref_gap_13 : decode M_Ref_gap.2.1 13 = .ok (.i2l, 1) := by decide +kernel
theorem d_Ref_gap_14 : decode M_Ref_gap.2.1 14 = .ok (.lconst 0, 1) := by decide +kernel
theorem d_Ref_gap_15 : decode M_Ref_gap.2.1 15 = .ok (.lconst 1, 1) := by decide +kernel
theorem d_Ref_gap_16 : decode M_Ref_gap.2.1 16 = .ok (.invokestatic 111, 3) := by decide +kernel
theorem d_Ref_gap_19 : decode M_Ref_gap.2.1 19 = .ok (.ifCond .ne 5, 3) := by decide +kernel
theorem d_Ref_gap_22 : decode M_Ref_gap.2.1 22 = .ok (.iconst (-1), 1) := by decide +kernel
theorem d_Ref_gap_23 : decode M_Ref_gap.2.1 23 = .ok (.ireturn, 1) := by decide +kernel
theorem d_Ref_gap_24 : decode M_Ref_gap.2.1 24 = .ok (.iconst 1, 1) := by decide +kernel
theorem d_Ref_gap_25 : decode M_Ref_gap.2.1 25 = .ok (.istore_n 3, 1) := by decide +kernel
theorem d_Ref_gap_26 : decode M_Ref_gap.2.1 26 = .ok (.iconst (-1), 1) := by decide +kernel
theorem d_Ref_gap_27 : decode M_Ref_gap.2.1 27 = .ok (.istore 4, 2) := by decide +kernel
theorem d_Ref_gap_29 : decode M_Ref_gap.2.1 29 = .ok (.iconst (-1), 1) := by decide +kernel
theorem d_Ref_gap_30 : decode M_Ref_gap.2.1 30 = .ok (.istore 5, 2) := by decide +kernel
theorem d_Ref_gap_32 : decode M_Ref_gap.2.1 32 = .ok (.iconst 2, 1) := by decide +kernel
theorem d_Ref_gap_33 : decode M_Ref_gap.2.1 33 = .ok (.istore 6, 2) := by decide +kernel
theorem d_Ref_gap_35 : decode M_Ref_gap.2.1 35 = .ok (.iload 6, 2) := by decide +kernel
theorem d_Ref_gap_37 : decode M_Ref_gap.2.1 37 = .ok (.iload_n 1, 1) := by decide +kernel
theorem d_Ref_gap_38 : decode M_Ref_gap.2.1 38 = .ok (.if_icmp .gt 42, 3) := by decide +kernel
theorem d_Ref_gap_41 : decode M_Ref_gap.2.1 41 = .ok (.aload_n 0, 1) := by decide +kernel
theorem d_Ref_gap_42 : decode M_Ref_gap.2.1 42 = .ok (.iload 6, 2) := by decide +kernel
theorem d_Ref_gap_44 : decode M_Ref_gap.2.1 44 = .ok (.invokevirtual 183, 3) := by decide +kernel
theorem d_Ref_gap_47 : decode M_Ref_gap.2.1 47 = .ok (.ifCond .ne 6, 3) := by decide +kernel
theorem d_Ref_gap_50 : decode M_Ref_gap.2.1 50 = .ok (.goto 24, 3) := by decide +kernel
theorem d_Ref_gap_53 : decode M_Ref_gap.2.1 53 = .ok (.iload 6, 2) := by decide +kernel
theorem d_Ref_gap_55 : decode M_Ref_gap.2.1 55 = .ok (.iload_n 3, 1) := by decide +kernel
theorem d_Ref_gap_56 : decode M_Ref_gap.2.1 56 = .ok (.isub, 1) := by decide +kernel
theorem d_Ref_gap_57 : decode M_Ref_gap.2.1 57 = .ok (.iload 4, 2) := by decide +kernel
theorem d_Ref_gap_59 : decode M_Ref_gap.2.1 59 = .ok (.if_icmp .le 12, 3) := by decide +kernel
theorem d_Ref_gap_62 : decode M_Ref_gap.2.1 62 = .ok (.iload 6, 2) := by decide +kernel
theorem d_Ref_gap_64 : decode M_Ref_gap.2.1 64 = .ok (.iload_n 3, 1) := by decide +kernel
theorem d_Ref_gap_65 : decode M_Ref_gap.2.1 65 = .ok (.isub, 1) := by decide +kernel
theorem d_Ref_gap_66 : decode M_Ref_gap.2.1 66 = .ok (.istore 4, 2) := by decide +kernel
theorem d_Ref_gap_68 : decode M_Ref_gap.2.1 68 = .ok (.iload_n 3, 1) := by decide +kernel
theorem d_Ref_gap_69 : decode M_Ref_gap.2.1 69 = .ok (.istore 5, 2) := by decide +kernel
theorem d_Ref_gap_71 : decode M_Ref_gap.2.1 71 = .ok (.iload 6, 2) := by decide +kernel
theorem d_Ref_gap_73 : decode M_Ref_gap.2.1 73 = .ok (.istore_n 3, 1) := by decide +kernel
theorem d_Ref_gap_74 : decode M_Ref_gap.2.1 74 = .ok (.iinc 6 1, 3) := by decide +kernel
theorem d_Ref_gap_77 : decode M_Ref_gap.2.1 77 = .ok (.goto (-42), 3) := by decide +kernel
theorem d_Ref_gap_80 : decode M_Ref_gap.2.1 80 = .ok (.iload_n 2, 1) := by decide +kernel
theorem d_Ref_gap_81 : decode M_Ref_gap.2.1 81 = .ok (.ifCond .ne 8, 3) := by decide +kernel
theorem d_Ref_gap_84 : decode M_Ref_gap.2.1 84 = .ok (.iload 4, 2) := by decide +kernel
theorem d_Ref_gap_86 : decode M_Ref_gap.2.1 86 = .ok (.goto 5, 3) := by decide +kernel
theorem d_Ref_gap_89 : decode M_Ref_gap.2.1 89 = .ok (.iload 5, 2) := by decide +kernel
theorem d_Ref_gap_91 : decode M_Ref_gap.2.1 91 = .ok (.ireturn, 1) := by decide +kernel
theorem d_Ref_apart_0 : decode M_Ref_apart.2.1 0 = .ok (.iload_n 1, 1) := by decide +kernel
theorem d_Ref_apart_1 : decode M_Ref_apart.2.1 1 = .ok (.i2l, 1) := by decide +kernel
theorem d_Ref_apart_2 : decode M_Ref_apart.2.1 2 = .ok (.lconst 1, 1) := by decide +kernel
theorem d_Ref_apart_3 : decode M_Ref_apart.2.1 3 = .ok (.ldc2_w 318, 3) := by decide +kernel
theorem d_Ref_apart_6 : decode M_Ref_apart.2.1 6 = .ok (.invokestatic 111, 3) := by decide +kernel
theorem d_Ref_apart_9 : decode M_Ref_apart.2.1 9 = .ok (.ifCond .eq 15, 3) := by decide +kernel
theorem d_Ref_apart_12 : decode M_Ref_apart.2.1 12 = .ok (.iload_n 2, 1) := by decide +kernel
theorem d_Ref_apart_13 : decode M_Ref_apart.2.1 13 = .ok (.i2l, 1) := by decide +kernel
theorem d_Ref_apart_14 : decode M_Ref_apart.2.1 14 = .ok (.lconst 0, 1) := by decide +kernel
theorem d_Ref_apart_15 : decode M_Ref_apart.2.1 15 = .ok (.ldc2_w 311, 3) := by decide +kernel
theorem d_Ref_apart_18 : decode M_Ref_apart.2.1 18 = .ok (.invokestatic 111, 3) := by decide +kernel
theorem d_Ref_apart_21 : decode M_Ref_apart.2.1 21 = .ok (.ifCond .ne 5, 3) := by decide +kernel
theorem d_Ref_apart_24 : decode M_Ref_apart.2.1 24 = .ok (.iconst (-1), 1) := by decide +kernel
theorem d_Ref_apart_25 : decode M_Ref_apart.2.1 25 = .ok (.ireturn, 1) := by decide +kernel
theorem d_Ref_apart_26 : decode M_Ref_apart.2.1 26 = .ok (.iconst 0, 1) := by decide +kernel
theorem d_Ref_apart_27 : decode M_Ref_apart.2.1 27 = .ok (.istore_n 3, 1) := by decide +kernel
theorem d_Ref_apart_28 : decode M_Ref_apart.2.1 28 = .ok (.iconst 1, 1) := by decide +kernel
theorem d_Ref_apart_29 : decode M_Ref_apart.2.1 29 = .ok (.istore 4, 2) := by decide +kernel
theorem d_Ref_apart_31 : decode M_Ref_apart.2.1 31 = .ok (.iload 4, 2) := by decide +kernel
theorem d_Ref_apart_33 : decode M_Ref_apart.2.1 33 = .ok (.iload_n 1, 1) := by decide +kernel
theorem d_Ref_apart_34 : decode M_Ref_apart.2.1 34 = .ok (.iadd, 1) := by decide +kernel
theorem d_Ref_apart_35 : decode M_Ref_apart.2.1 35 = .ok (.iload_n 2, 1) := by decide +kernel
theorem d_Ref_apart_36 : decode M_Ref_apart.2.1 36 = .ok (.if_icmp .gt 37, 3) := by decide +kernel
theorem d_Ref_apart_39 : decode M_Ref_apart.2.1 39 = .ok (.iload_n 3, 1) := by decide +kernel
theorem d_Ref_apart_40 : decode M_Ref_apart.2.1 40 = .ok (.aload_n 0, 1) := by decide +kernel
theorem d_Ref_apart_41 : decode M_Ref_apart.2.1 41 = .ok (.iload 4, 2) := by decide +kernel
theorem d_Ref_apart_43 : decode M_Ref_apart.2.1 43 = .ok (.invokevirtual 183, 3) := by decide +kernel
theorem d_Ref_apart_46 : decode M_Ref_apart.2.1 46 = .ok (.ifCond .eq 18, 3) := by decide +kernel
theorem d_Ref_apart_49 : decode M_Ref_apart.2.1 49 = .ok (.aload_n 0, 1) := by decide +kernel
theorem d_Ref_apart_50 : decode M_Ref_apart.2.1 50 = .ok (.iload 4, 2) := by decide +kernel
theorem d_Ref_apart_52 : decode M_Ref_apart.2.1 52 = .ok (.iload_n 1, 1) := by decide +kernel
theorem d_Ref_apart_53 : decode M_Ref_apart.2.1 53 = .ok (.iadd, 1) := by decide +kernel
theorem d_Ref_apart_54 : decode M_Ref_apart.2.1 54 = .ok (.invokevirtual 183, 3) := by decide +kernel
theorem d_Ref_apart_57 : decode M_Ref_apart.2.1 57 = .ok (.ifCond .eq 7, 3) := by decide +kernel
theorem d_Ref_apart_60 : decode M_Ref_apart.2.1 60 = .ok (.iconst 1, 1) := by decide +kernel
theorem d_Ref_apart_61 : decode M_Ref_apart.2.1 61 = .ok (.goto 4, 3) := by decide +kernel
theorem d_Ref_apart_64 : decode M_Ref_apart.2.1 64 = .ok (.iconst 0, 1) := by decide +kernel
theorem d_Ref_apart_65 : decode M_Ref_apart.2.1 65 = .ok (.iadd, 1) := by decide +kernel
theorem d_Ref_apart_66 : decode M_Ref_apart.2.1 66 = .ok (.istore_n 3, 1) := by decide +kernel
theorem d_Ref_apart_67 : decode M_Ref_apart.2.1 67 = .ok (.iinc 4 1, 3) := by decide +kernel
theorem d_Ref_apart_70 : decode M_Ref_apart.2.1 70 = .ok (.goto (-39), 3) := by decide +kernel
theorem d_Ref_apart_73 : decode M_Ref_apart.2.1 73 = .ok (.iload_n 3, 1) := by decide +kernel
theorem d_Ref_apart_74 : decode M_Ref_apart.2.1 74 = .ok (.ireturn, 1) := by decide +kernel
theorem d_Ref_sums_0 : decode M_Ref_sums.2.1 0 = .ok (.iload_n 1, 1) := by decide +kernel
theorem d_Ref_sums_1 : decode M_Ref_sums.2.1 1 = .ok (.i2l, 1) := by decide +kernel
theorem d_Ref_sums_2 : decode M_Ref_sums.2.1 2 = .ok (.lconst 0, 1) := by decide +kernel
theorem d_Ref_sums_3 : decode M_Ref_sums.2.1 3 = .ok (.ldc2_w 320, 3) := by decide +kernel
theorem d_Ref_sums_6 : decode M_Ref_sums.2.1 6 = .ok (.invokestatic 111, 3) := by decide +kernel
theorem d_Ref_sums_9 : decode M_Ref_sums.2.1 9 = .ok (.ifCond .eq 13, 3) := by decide +kernel
theorem d_Ref_sums_12 : decode M_Ref_sums.2.1 12 = .ok (.iload_n 2, 1) := by decide +kernel
theorem d_Ref_sums_13 : decode M_Ref_sums.2.1 13 = .ok (.i2l, 1) := by decide +kernel
theorem d_Ref_sums_14 : decode M_Ref_sums.2.1 14 = .ok (.lconst 0, 1) := by decide +kernel
theorem d_Ref_sums_15 : decode M_Ref_sums.2.1 15 = .ok (.lconst 1, 1) := by decide +kernel
theorem d_Ref_sums_16 : decode M_Ref_sums.2.1 16 = .ok (.invokestatic 111, 3) := by decide +kernel
theorem d_Ref_sums_19 : decode M_Ref_sums.2.1 19 = .ok (.ifCond .ne 5, 3) := by decide +kernel
theorem d_Ref_sums_22 : decode M_Ref_sums.2.1 22 = .ok (.iconst (-1), 1) := by decide +kernel
theorem d_Ref_sums_23 : decode M_Ref_sums.2.1 23 = .ok (.ireturn, 1) := by decide +kernel
theorem d_Ref_sums_24 : decode M_Ref_sums.2.1 24 = .ok (.iconst 1, 1) := by decide +kernel
theorem d_Ref_sums_25 : decode M_Ref_sums.2.1 25 = .ok (.istore_n 3, 1) := by decide +kernel
theorem d_Ref_sums_26 : decode M_Ref_sums.2.1 26 = .ok (.iload_n 3, 1) := by decide +kernel
theorem d_Ref_sums_27 : decode M_Ref_sums.2.1 27 = .ok (.iload_n 1, 1) := by decide +kernel
theorem d_Ref_sums_28 : decode M_Ref_sums.2.1 28 = .ok (.if_icmp .gt 32, 3) := by decide +kernel
theorem d_Ref_sums_31 : decode M_Ref_sums.2.1 31 = .ok (.aload_n 0, 1) := by decide +kernel
theorem d_Ref_sums_32 : decode M_Ref_sums.2.1 32 = .ok (.getfield 49, 3) := by decide +kernel
theorem d_Ref_sums_35 : decode M_Ref_sums.2.1 35 = .ok (.iload_n 3, 1) := by decide +kernel
theorem d_Ref_sums_36 : decode M_Ref_sums.2.1 36 = .ok (.aload_n 0, 1) := by decide +kernel
theorem d_Ref_sums_37 : decode M_Ref_sums.2.1 37 = .ok (.iload_n 3, 1) := by decide +kernel
theorem d_Ref_sums_38 : decode M_Ref_sums.2.1 38 = .ok (.invokevirtual 183, 3) := by decide +kernel
theorem d_Ref_sums_41 : decode M_Ref_sums.2.1 41 = .ok (.ifCond .eq 11, 3) := by decide +kernel
theorem d_Ref_sums_44 : decode M_Ref_sums.2.1 44 = .ok (.aload_n 0, 1) := by decide +kernel
theorem d_Ref_sums_45 : decode M_Ref_sums.2.1 45 = .ok (.iload_n 3, 1) := by decide +kernel
theorem d_Ref_sums_46 : decode M_Ref_sums.2.1 46 = .ok (.invokevirtual 276, 3) := by decide +kernel
theorem d_Ref_sums_49 : decode M_Ref_sums.2.1 49 = .ok (.goto 4, 3) := by decide +kernel
theorem d_Ref_sums_52 : decode M_Ref_sums.2.1 52 = .ok (.iconst (-1), 1) := by decide +kernel
theorem d_Ref_sums_53 : decode M_Ref_sums.2.1 53 = .ok (.iastore, 1) := by decide +kernel
theorem d_Ref_sums_54 : decode M_Ref_sums.2.1 54 = .ok (.iinc 3 1, 3) := by decide +kernel
theorem d_Ref_sums_57 : decode M_Ref_sums.2.1 57 = .ok (.goto (-31), 3) := by decide +kernel
theorem d_Ref_sums_60 : decode M_Ref_sums.2.1 60 = .ok (.iconst 0, 1) := by decide +kernel
theorem d_Ref_sums_61 : decode M_Ref_sums.2.1 61 = .ok (.istore_n 3, 1) := by decide +kernel
theorem d_Ref_sums_62 : decode M_Ref_sums.2.1 62 = .ok (.iconst 1, 1) := by decide +kernel
theorem d_Ref_sums_63 : decode M_Ref_sums.2.1 63 = .ok (.istore 4, 2) := by decide +kernel
theorem d_Ref_sums_65 : decode M_Ref_sums.2.1 65 = .ok (.iload 4, 2) := by decide +kernel
theorem d_Ref_sums_67 : decode M_Ref_sums.2.1 67 = .ok (.iload_n 1, 1) := by decide +kernel
theorem d_Ref_sums_68 : decode M_Ref_sums.2.1 68 = .ok (.if_icmp .gt 141, 3) := by decide +kernel
theorem d_Ref_sums_71 : decode M_Ref_sums.2.1 71 = .ok (.iload 4, 2) := by decide +kernel
theorem d_Ref_sums_73 : decode M_Ref_sums.2.1 73 = .ok (.istore 5, 2) := by decide +kernel
theorem d_Ref_sums_75 : decode M_Ref_sums.2.1 75 = .ok (.iload 4, 2) := by decide +kernel
theorem d_Ref_sums_77 : decode M_Ref_sums.2.1 77 = .ok (.iload 5, 2) := by decide +kernel
theorem d_Ref_sums_79 : decode M_Ref_sums.2.1 79 = .ok (.iadd, 1) := by decide +kernel
theorem d_Ref_sums_80 : decode M_Ref_sums.2.1 80 = .ok (.iload_n 1, 1) := by decide +kernel
theorem d_Ref_sums_81 : decode M_Ref_sums.2.1 81 = .ok (.if_icmp .gt 122, 3) := by decide +kernel
theorem d_Ref_sums_84 : decode M_Ref_sums.2.1 84 = .ok (.aload_n 0, 1) := by decide +kernel
theorem d_Ref_sums_85 : decode M_Ref_sums.2.1 85 = .ok (.getfield 49, 3) := by decide +kernel
theorem d_Ref_sums_88 : decode M_Ref_sums.2.1 88 = .ok (.iload 4, 2) := by decide +kernel
theorem d_Ref_sums_90 : decode M_Ref_sums.2.1 90 = .ok (.iaload, 1) := by decide +kernel
theorem d_Ref_sums_91 : decode M_Ref_sums.2.1 91 = .ok (.iconst (-1), 1) := by decide +kernel
theorem d_Ref_sums_92 : decode M_Ref_sums.2.1 92 = .ok (.if_icmp .eq 111, 3) := by decide +kernel
theorem d_Ref_sums_95 : decode M_Ref_sums.2.1 95 = .ok (.iload 4, 2) := by decide +kernel
theorem d_Ref_sums_97 : decode M_Ref_sums.2.1 97 = .ok (.iload 5, 2) := by decide +kernel
theorem d_Ref_sums_99 : decode M_Ref_sums.2.1 99 = .ok (.iadd, 1) := by decide +kernel
theorem d_Ref_sums_100 : decode M_Ref_sums.2.1 100 = .ok (.istore 6, 2) := by decide +kernel
theorem d_Ref_sums_102 : decode M_Ref_sums.2.1 102 = .ok (.aload_n 0, 1) := by decide +kernel
theorem d_Ref_sums_103 : decode M_Ref_sums.2.1 103 = .ok (.getfield 49, 3) := by decide +kernel
theorem d_Ref_sums_106 : decode M_Ref_sums.2.1 106 = .ok (.iload 5, 2) := by decide +kernel
theorem d_Ref_sums_108 : decode M_Ref_sums.2.1 108 = .ok (.iaload, 1) := by decide +kernel
theorem d_Ref_sums_109 : decode M_Ref_sums.2.1 109 = .ok (.iconst (-1), 1) := by decide +kernel
theorem d_Ref_sums_110 : decode M_Ref_sums.2.1 110 = .ok (.if_icmp .eq 87, 3) := by decide +kernel
theorem d_Ref_sums_113 : decode M_Ref_sums.2.1 113 = .ok (.aload_n 0, 1) := by decide +kernel
theorem d_Ref_sums_114 : decode M_Ref_sums.2.1 114 = .ok (.getfield 49, 3) := by decide +kernel
theorem d_Ref_sums_117 : decode M_Ref_sums.2.1 117 = .ok (.iload 6, 2) := by decide +kernel
theorem d_Ref_sums_119 : decode M_Ref_sums.2.1 119 = .ok (.iaload, 1) := by decide +kernel
theorem d_Ref_sums_120 : decode M_Ref_sums.2.1 120 = .ok (.iconst (-1), 1) := by decide +kernel
theorem d_Ref_sums_121 : decode M_Ref_sums.2.1 121 = .ok (.if_icmp .eq 76, 3) := by decide +kernel
theorem d_Ref_sums_124 : decode M_Ref_sums.2.1 124 = .ok (.aload_n 0, 1) := by decide +kernel
theorem d_Ref_sums_125 : decode M_Ref_sums.2.1 125 = .ok (.getfield 49, 3) := by decide +kernel
theorem d_Ref_sums_128 : decode M_Ref_sums.2.1 128 = .ok (.iload 4, 2) := by decide +kernel
theorem d_Ref_sums_130 : decode M_Ref_sums.2.1 130 = .ok (.iaload, 1) := by decide +kernel
theorem d_Ref_sums_131 : decode M_Ref_sums.2.1 131 = .ok (.aload_n 0, 1) := by decide +kernel
theorem d_Ref_sums_132 : decode M_Ref_sums.2.1 132 = .ok (.getfield 49, 3) := by decide +kernel
theorem d_Ref_sums_135 : decode M_Ref_sums.2.1 135 = .ok (.iload 5, 2) := by decide +kernel
theorem d_Ref_sums_137 : decode M_Ref_sums.2.1 137 = .ok (.iaload, 1) := by decide +kernel
theorem d_Ref_sums_138 : decode M_Ref_sums.2.1 138 = .ok (.iand, 1) := by decide +kernel
theorem d_Ref_sums_139 : decode M_Ref_sums.2.1 139 = .ok (.aload_n 0, 1) := by decide +kernel
theorem d_Ref_sums_140 : decode M_Ref_sums.2.1 140 = .ok (.getfield 49, 3) := by decide +kernel
theorem d_Ref_sums_143 : decode M_Ref_sums.2.1 143 = .ok (.iload 6, 2) := by decide +kernel
theorem d_Ref_sums_145 : decode M_Ref_sums.2.1 145 = .ok (.iaload, 1) := by decide +kernel
theorem d_Ref_sums_146 : decode M_Ref_sums.2.1 146 = .ok (.iand, 1) := by decide +kernel
theorem d_Ref_sums_147 : decode M_Ref_sums.2.1 147 = .ok (.ifCond .eq 6, 3) := by decide +kernel
theorem d_Ref_sums_150 : decode M_Ref_sums.2.1 150 = .ok (.goto 47, 3) := by decide +kernel
theorem d_Ref_sums_153 : decode M_Ref_sums.2.1 153 = .ok (.iload_n 3, 1) := by decide +kernel
theorem d_Ref_sums_154 : decode M_Ref_sums.2.1 154 = .ok (.iload_n 2, 1) := by decide +kernel
theorem d_Ref_sums_155 : decode M_Ref_sums.2.1 155 = .ok (.ifCond .eq 35, 3) := by decide +kernel
theorem d_Ref_sums_158 : decode M_Ref_sums.2.1 158 = .ok (.iload 6, 2) := by decide +kernel
theorem d_Ref_sums_160 : decode M_Ref_sums.2.1 160 = .ok (.aload_n 0, 1) := by decide +kernel
theorem d_Ref_sums_161 : decode M_Ref_sums.2.1 161 = .ok (.aload_n 0, 1) := by decide +kernel
theorem d_Ref_sums_162 : decode M_Ref_sums.2.1 162 = .ok (.getfield 49, 3) := by decide +kernel
theorem d_Ref_sums_165 : decode M_Ref_sums.2.1 165 = .ok (.iload 4, 2) := by decide +kernel
theorem d_Ref_sums_167 : decode M_Ref_sums.2.1 167 = .ok (.iaload, 1) := by decide +kernel
theorem d_Ref_sums_168 : decode M_Ref_sums.2.1 168 = .ok (.aload_n 0, 1) := by decide +kernel
theorem d_Ref_sums_169 : decode M_Ref_sums.2.1 169 = .ok (.getfield 49, 3) := by decide +kernel
theorem d_Ref_sums_172 : decode M_Ref_sums.2.1 172 = .ok (.iload 5, 2) := by decide +kernel
theorem d_Ref_sums_174 : decode M_Ref_sums.2.1 174 = .ok (.iaload, 1) := by decide +kernel
theorem d_Ref_sums_175 : decode M_Ref_sums.2.1 175 = .ok (.ior, 1) := by decide +kernel
theorem d_Ref_sums_176 : decode M_Ref_sums.2.1 176 = .ok (.aload_n 0, 1) := by decide +kernel
theorem d_Ref_sums_177 : decode M_Ref_sums.2.1 177 = .ok (.getfield 49, 3) := by decide +kernel
theorem d_Ref_sums_180 : decode M_Ref_sums.2.1 180 = .ok (.iload 6, 2) := by decide +kernel
theorem d_Ref_sums_182 : decode M_Ref_sums.2.1 182 = .ok (.iaload, 1) := by decide +kernel
theorem d_Ref_sums_183 : decode M_Ref_sums.2.1 183 = .ok (.ior, 1) := by decide +kernel
theorem d_Ref_sums_184 : decode M_Ref_sums.2.1 184 = .ok (.invokevirtual 137, 3) := by decide +kernel
theorem d_Ref_sums_187 : decode M_Ref_sums.2.1 187 = .ok (.if_icmp .le 7, 3) := by decide +kernel
theorem d_Ref_sums_190 : decode M_Ref_sums.2.1 190 = .ok (.iconst 1, 1) := by decide +kernel
theorem d_Ref_sums_191 : decode M_Ref_sums.2.1 191 = .ok (.goto 4, 3) := by decide +kernel
theorem d_Ref_sums_194 : decode M_Ref_sums.2.1 194 = .ok (.iconst 0, 1) := by decide +kernel
theorem d_Ref_sums_195 : decode M_Ref_sums.2.1 195 = .ok (.iadd, 1) := by decide +kernel
theorem d_Ref_sums_196 : decode M_Ref_sums.2.1 196 = .ok (.istore_n 3, 1) := by decide +kernel
theorem d_Ref_sums_197 : decode M_Ref_sums.2.1 197 = .ok (.iinc 5 1, 3) := by decide +kernel
theorem d_Ref_sums_200 : decode M_Ref_sums.2.1 200 = .ok (.goto (-125), 3) := by decide +kernel
theorem d_Ref_sums_203 : decode M_Ref_sums.2.1 203 = .ok (.iinc 4 1, 3) := by decide +kernel
theorem d_Ref_sums_206 : decode M_Ref_sums.2.1 206 = .ok (.goto (-141), 3) := by decide +kernel
theorem d_Ref_sums_209 : decode M_Ref_sums.2.1 209 = .ok (.iload_n 3, 1) := by decide +kernel
theorem d_Ref_sums_210 : decode M_Ref_sums.2.1 210 = .ok (.ireturn, 1) := by decide +kernel
theorem d_Ref_witness_0 : decode M_Ref_witness.2.1 0 = .ok (.aload_n 0, 1) := by decide +kernel
theorem d_Ref_witness_1 : decode M_Ref_witness.2.1 1 = .ok (.iload_n 1, 1) := by decide +kernel
theorem d_Ref_witness_2 : decode M_Ref_witness.2.1 2 = .ok (.invokevirtual 242, 3) := by decide +kernel
theorem d_Ref_witness_5 : decode M_Ref_witness.2.1 5 = .ok (.ifCond .eq 26, 3) := by decide +kernel
theorem d_Ref_witness_8 : decode M_Ref_witness.2.1 8 = .ok (.iload_n 2, 1) := by decide +kernel
theorem d_Ref_witness_9 : decode M_Ref_witness.2.1 9 = .ok (.i2l, 1) := by decide +kernel
theorem d_Ref_witness_10 : decode M_Ref_witness.2.1 10 = .ok (.lconst 1, 1) := by decide +kernel
theorem d_Ref_witness_11 : decode M_Ref_witness.2.1 11 = .ok (.aload_n 0, 1) := by decide +kernel
theorem d_Ref_witness_12 : decode M_Ref_witness.2.1 12 = .ok (.invokevirtual 176, 3) := by decide +kernel
theorem d_Ref_witness_15 : decode M_Ref_witness.2.1 15 = .ok (.i2l, 1) := by decide +kernel
theorem d_Ref_witness_16 : decode M_Ref_witness.2.1 16 = .ok (.invokestatic 111, 3) := by decide +kernel
theorem d_Ref_witness_19 : decode M_Ref_witness.2.1 19 = .ok (.ifCond .eq 12, 3) := by decide +kernel
theorem d_Ref_witness_22 : decode M_Ref_witness.2.1 22 = .ok (.aload_n 0, 1) := by decide +kernel
theorem d_Ref_witness_23 : decode M_Ref_witness.2.1 23 = .ok (.iload_n 1, 1) := by decide +kernel
theorem d_Ref_witness_24 : decode M_Ref_witness.2.1 24 = .ok (.iload_n 2, 1) := by decide +kernel
theorem d_Ref_witness_25 : decode M_Ref_witness.2.1 25 = .ok (.invokevirtual 325, 3) := by decide +kernel
theorem d_Ref_witness_28 : decode M_Ref_witness.2.1 28 = .ok (.goto 4, 3) := by decide +kernel
theorem d_Ref_witness_31 : decode M_Ref_witness.2.1 31 = .ok (.iconst (-1), 1) := by decide +kernel
theorem d_Ref_witness_32 : decode M_Ref_witness.2.1 32 = .ok (.ireturn, 1) := by decide +kernel
theorem d_Ref_witnessOf_0 : decode M_Ref_witnessOf.2.1 0 = .ok (.aload_n 0, 1) := by decide +kernel
theorem d_Ref_witnessOf_1 : decode M_Ref_witnessOf.2.1 1 = .ok (.getfield 25, 3) := by decide +kernel
theorem d_Ref_witnessOf_4 : decode M_Ref_witnessOf.2.1 4 = .ok (.iload_n 1, 1) := by decide +kernel
theorem d_Ref_witnessOf_5 : decode M_Ref_witnessOf.2.1 5 = .ok (.iaload, 1) := by decide +kernel
theorem d_Ref_witnessOf_6 : decode M_Ref_witnessOf.2.1 6 = .ok (.iload_n 2, 1) := by decide +kernel
theorem d_Ref_witnessOf_7 : decode M_Ref_witnessOf.2.1 7 = .ok (.iconst 1, 1) := by decide +kernel
theorem d_Ref_witnessOf_8 : decode M_Ref_witnessOf.2.1 8 = .ok (.isub, 1) := by decide +kernel
theorem d_Ref_witnessOf_9 : decode M_Ref_witnessOf.2.1 9 = .ok (.invokestatic 85, 3) := by decide +kernel
theorem d_Ref_witnessOf_12 : decode M_Ref_witnessOf.2.1 12 = .ok (.ifCond .eq 5, 3) := by decide +kernel
theorem d_Ref_witnessOf_15 : decode M_Ref_witnessOf.2.1 15 = .ok (.iconst 0, 1) := by decide +kernel
theorem d_Ref_witnessOf_16 : decode M_Ref_witnessOf.2.1 16 = .ok (.ireturn, 1) := by decide +kernel
theorem d_Ref_witnessOf_17 : decode M_Ref_witnessOf.2.1 17 = .ok (.iconst 2, 1) := by decide +kernel
theorem d_Ref_witnessOf_18 : decode M_Ref_witnessOf.2.1 18 = .ok (.istore_n 3, 1) := by decide +kernel
theorem d_Ref_witnessOf_19 : decode M_Ref_witnessOf.2.1 19 = .ok (.iload_n 3, 1) := by decide +kernel
theorem d_Ref_witnessOf_20 : decode M_Ref_witnessOf.2.1 20 = .ok (.sipush 1000, 3) := by decide +kernel
theorem d_Ref_witnessOf_23 : decode M_Ref_witnessOf.2.1 23 = .ok (.if_icmp .ge 56, 3) := by decide +kernel
theorem d_Ref_witnessOf_26 : decode M_Ref_witnessOf.2.1 26 = .ok (.iload_n 3, 1) := by decide +kernel
theorem d_Ref_witnessOf_27 : decode M_Ref_witnessOf.2.1 27 = .ok (.invokestatic 322, 3) := by decide +kernel
theorem d_Ref_witnessOf_30 : decode M_Ref_witnessOf.2.1 30 = .ok (.ifCond .eq 43, 3) := by decide +kernel
theorem d_Ref_witnessOf_33 : decode M_Ref_witnessOf.2.1 33 = .ok (.aload_n 0, 1) := by decide +kernel
theorem d_Ref_witnessOf_34 : decode M_Ref_witnessOf.2.1 34 = .ok (.iload_n 3, 1) := by decide +kernel
theorem d_Ref_witnessOf_35 : decode M_Ref_witnessOf.2.1 35 = .ok (.invokevirtual 209, 3) := by decide +kernel
theorem d_Ref_witnessOf_38 : decode M_Ref_witnessOf.2.1 38 = .ok (.ifCond .eq 6, 3) := by decide +kernel
theorem d_Ref_witnessOf_41 : decode M_Ref_witnessOf.2.1 41 = .ok (.goto 32, 3) := by decide +kernel
theorem d_Ref_witnessOf_44 : decode M_Ref_witnessOf.2.1 44 = .ok (.aload_n 0, 1) := by decide +kernel
theorem d_Ref_witnessOf_45 : decode M_Ref_witnessOf.2.1 45 = .ok (.iload_n 1, 1) := by decide +kernel
theorem d_Ref_witnessOf_46 : decode M_Ref_witnessOf.2.1 46 = .ok (.iload_n 2, 1) := by decide +kernel
theorem d_Ref_witnessOf_47 : decode M_Ref_witnessOf.2.1 47 = .ok (.iconst 2, 1) := by decide +kernel
theorem d_Ref_witnessOf_48 : decode M_Ref_witnessOf.2.1 48 = .ok (.iload_n 3, 1) := by decide +kernel
theorem d_Ref_witnessOf_49 : decode M_Ref_witnessOf.2.1 49 = .ok (.imul, 1) := by decide +kernel
theorem d_Ref_witnessOf_50 : decode M_Ref_witnessOf.2.1 50 = .ok (.invokevirtual 259, 3) := by decide +kernel
theorem d_Ref_witnessOf_53 : decode M_Ref_witnessOf.2.1 53 = .ok (.istore 4, 2) := by decide +kernel
theorem d_Ref_witnessOf_55 : decode M_Ref_witnessOf.2.1 55 = .ok (.iload 4, 2) := by decide +kernel
theorem d_Ref_witnessOf_57 : decode M_Ref_witnessOf.2.1 57 = .ok (.iconst 1, 1) := by decide +kernel
theorem d_Ref_witnessOf_58 : decode M_Ref_witnessOf.2.1 58 = .ok (.if_icmp .eq 13, 3) := by decide +kernel
theorem d_Ref_witnessOf_61 : decode M_Ref_witnessOf.2.1 61 = .ok (.iload 4, 2) := by decide +kernel
theorem d_Ref_witnessOf_63 : decode M_Ref_witnessOf.2.1 63 = .ok (.iconst 2, 1) := by decide +kernel
theorem d_Ref_witnessOf_64 : decode M_Ref_witnessOf.2.1 64 = .ok (.iload_n 3, 1) := by decide +kernel
theorem d_Ref_witnessOf_65 : decode M_Ref_witnessOf.2.1 65 = .ok (.imul, 1) := by decide +kernel
theorem d_Ref_witnessOf_66 : decode M_Ref_witnessOf.2.1 66 = .ok (.iconst 1, 1) := by decide +kernel
theorem d_Ref_witnessOf_67 : decode M_Ref_witnessOf.2.1 67 = .ok (.isub, 1) := by decide +kernel
theorem d_Ref_witnessOf_68 : decode M_Ref_witnessOf.2.1 68 = .ok (.if_icmp .ne 5, 3) := by decide +kernel
theorem d_Ref_witnessOf_71 : decode M_Ref_witnessOf.2.1 71 = .ok (.iload_n 3, 1) := by decide +kernel
theorem d_Ref_witnessOf_72 : decode M_Ref_witnessOf.2.1 72 = .ok (.ireturn, 1) := by decide +kernel
theorem d_Ref_witnessOf_73 : decode M_Ref_witnessOf.2.1 73 = .ok (.iinc 3 1, 3) := by decide +kernel
theorem d_Ref_witnessOf_76 : decode M_Ref_witnessOf.2.1 76 = .ok (.goto (-57), 3) := by decide +kernel
theorem d_Ref_witnessOf_79 : decode M_Ref_witnessOf.2.1 79 = .ok (.bipush (-2), 2) := by decide +kernel
theorem d_Ref_witnessOf_81 : decode M_Ref_witnessOf.2.1 81 = .ok (.ireturn, 1) := by decide +kernel
theorem d_Ref_isPrime_0 : decode M_Ref_isPrime.2.1 0 = .ok (.iconst 2, 1) := by decide +kernel
theorem d_Ref_isPrime_1 : decode M_Ref_isPrime.2.1 1 = .ok (.istore_n 1, 1) := by decide +kernel
theorem d_Ref_isPrime_2 : decode M_Ref_isPrime.2.1 2 = .ok (.iload_n 1, 1) := by decide +kernel
theorem d_Ref_isPrime_3 : decode M_Ref_isPrime.2.1 3 = .ok (.iload_n 1, 1) := by decide +kernel
theorem d_Ref_isPrime_4 : decode M_Ref_isPrime.2.1 4 = .ok (.imul, 1) := by decide +kernel
theorem d_Ref_isPrime_5 : decode M_Ref_isPrime.2.1 5 = .ok (.iload_n 0, 1) := by decide +kernel
theorem d_Ref_isPrime_6 : decode M_Ref_isPrime.2.1 6 = .ok (.if_icmp .gt 17, 3) := by decide +kernel
theorem d_Ref_isPrime_9 : decode M_Ref_isPrime.2.1 9 = .ok (.iload_n 0, 1) := by decide +kernel
theorem d_Ref_isPrime_10 : decode M_Ref_isPrime.2.1 10 = .ok (.iload_n 1, 1) := by decide +kernel
theorem d_Ref_isPrime_11 : decode M_Ref_isPrime.2.1 11 = .ok (.irem, 1) := by decide +kernel
theorem d_Ref_isPrime_12 : decode M_Ref_isPrime.2.1 12 = .ok (.ifCond .ne 5, 3) := by decide +kernel
theorem d_Ref_isPrime_15 : decode M_Ref_isPrime.2.1 15 = .ok (.iconst 0, 1) := by decide +kernel
theorem d_Ref_isPrime_16 : decode M_Ref_isPrime.2.1 16 = .ok (.ireturn, 1) := by decide +kernel
theorem d_Ref_isPrime_17 : decode M_Ref_isPrime.2.1 17 = .ok (.iinc 1 1, 3) := by decide +kernel
theorem d_Ref_isPrime_20 : decode M_Ref_isPrime.2.1 20 = .ok (.goto (-18), 3) := by decide +kernel
theorem d_Ref_isPrime_23 : decode M_Ref_isPrime.2.1 23 = .ok (.iload_n 0, 1) := by decide +kernel
theorem d_Ref_isPrime_24 : decode M_Ref_isPrime.2.1 24 = .ok (.iconst 1, 1) := by decide +kernel
theorem d_Ref_isPrime_25 : decode M_Ref_isPrime.2.1 25 = .ok (.if_icmp .le 7, 3) := by decide +kernel
theorem d_Ref_isPrime_28 : decode M_Ref_isPrime.2.1 28 = .ok (.iconst 1, 1) := by decide +kernel
theorem d_Ref_isPrime_29 : decode M_Ref_isPrime.2.1 29 = .ok (.goto 4, 3) := by decide +kernel
theorem d_Ref_isPrime_32 : decode M_Ref_isPrime.2.1 32 = .ok (.iconst 0, 1) := by decide +kernel
theorem d_Ref_isPrime_33 : decode M_Ref_isPrime.2.1 33 = .ok (.ireturn, 1) := by decide +kernel
theorem d_Ref_entry_0 : decode M_Ref_entry.2.1 0 = .ok (.aload_n 0, 1) := by decide +kernel
theorem d_Ref_entry_1 : decode M_Ref_entry.2.1 1 = .ok (.iload_n 1, 1) := by decide +kernel
theorem d_Ref_entry_2 : decode M_Ref_entry.2.1 2 = .ok (.invokevirtual 242, 3) := by decide +kernel
theorem d_Ref_entry_5 : decode M_Ref_entry.2.1 5 = .ok (.ifCond .eq 24, 3) := by decide +kernel
theorem d_Ref_entry_8 : decode M_Ref_entry.2.1 8 = .ok (.iload_n 2, 1) := by decide +kernel
theorem d_Ref_entry_9 : decode M_Ref_entry.2.1 9 = .ok (.i2l, 1) := by decide +kernel
theorem d_Ref_entry_10 : decode M_Ref_entry.2.1 10 = .ok (.ldc2_w 181, 3) := by decide +kernel
theorem d_Ref_entry_13 : decode M_Ref_entry.2.1 13 = .ok (.ldc2_w 328, 3) := by decide +kernel
theorem d_Ref_entry_16 : decode M_Ref_entry.2.1 16 = .ok (.invokestatic 111, 3) := by decide +kernel
theorem d_Ref_entry_19 : decode M_Ref_entry.2.1 19 = .ok (.ifCond .eq 10, 3) := by decide +kernel
theorem d_Ref_entry_22 : decode M_Ref_entry.2.1 22 = .ok (.iload_n 2, 1) := by decide +kernel
theorem d_Ref_entry_23 : decode M_Ref_entry.2.1 23 = .ok (.invokestatic 322, 3) := by decide +kernel
theorem d_Ref_entry_26 : decode M_Ref_entry.2.1 26 = .ok (.ifCond .ne 5, 3) := by decide +kernel
theorem d_Ref_entry_29 : decode M_Ref_entry.2.1 29 = .ok (.iconst (-1), 1) := by decide +kernel
theorem d_Ref_entry_30 : decode M_Ref_entry.2.1 30 = .ok (.ireturn, 1) := by decide +kernel
theorem d_Ref_entry_31 : decode M_Ref_entry.2.1 31 = .ok (.aload_n 0, 1) := by decide +kernel
theorem d_Ref_entry_32 : decode M_Ref_entry.2.1 32 = .ok (.iconst 2, 1) := by decide +kernel
theorem d_Ref_entry_33 : decode M_Ref_entry.2.1 33 = .ok (.iload_n 1, 1) := by decide +kernel
theorem d_Ref_entry_34 : decode M_Ref_entry.2.1 34 = .ok (.imul, 1) := by decide +kernel
theorem d_Ref_entry_35 : decode M_Ref_entry.2.1 35 = .ok (.iload_n 2, 1) := by decide +kernel
theorem d_Ref_entry_36 : decode M_Ref_entry.2.1 36 = .ok (.invokevirtual 254, 3) := by decide +kernel
theorem d_Ref_entry_39 : decode M_Ref_entry.2.1 39 = .ok (.istore_n 3, 1) := by decide +kernel
theorem d_Ref_entry_40 : decode M_Ref_entry.2.1 40 = .ok (.iconst 0, 1) := by decide +kernel
theorem d_Ref_entry_41 : decode M_Ref_entry.2.1 41 = .ok (.istore 4, 2) := by decide +kernel
theorem d_Ref_entry_43 : decode M_Ref_entry.2.1 43 = .ok (.aload_n 0, 1) := by decide +kernel
theorem d_Ref_entry_44 : decode M_Ref_entry.2.1 44 = .ok (.iconst 2, 1) := by decide +kernel
theorem d_Ref_entry_45 : decode M_Ref_entry.2.1 45 = .ok (.iload_n 1, 1) := by decide +kernel
theorem d_Ref_entry_46 : decode M_Ref_entry.2.1 46 = .ok (.imul, 1) := by decide +kernel
theorem d_Ref_entry_47 : decode M_Ref_entry.2.1 47 = .ok (.iconst 1, 1) := by decide +kernel
theorem d_Ref_entry_48 : decode M_Ref_entry.2.1 48 = .ok (.iadd, 1) := by decide +kernel
theorem d_Ref_entry_49 : decode M_Ref_entry.2.1 49 = .ok (.iload_n 2, 1) := by decide +kernel
theorem d_Ref_entry_50 : decode M_Ref_entry.2.1 50 = .ok (.invokevirtual 254, 3) := by decide +kernel
theorem d_Ref_entry_53 : decode M_Ref_entry.2.1 53 = .ok (.istore 5, 2) := by decide +kernel
theorem d_Ref_entry_55 : decode M_Ref_entry.2.1 55 = .ok (.iconst 1, 1) := by decide +kernel
theorem d_Ref_entry_56 : decode M_Ref_entry.2.1 56 = .ok (.istore 6, 2) := by decide +kernel
theorem d_Ref_entry_58 : decode M_Ref_entry.2.1 58 = .ok (.iload 6, 2) := by decide +kernel
theorem d_Ref_entry_60 : decode M_Ref_entry.2.1 60 = .ok (.sipush 200, 3) := by decide +kernel
theorem d_Ref_entry_63 : decode M_Ref_entry.2.1 63 = .ok (.if_icmp .gt 50, 3) := by decide +kernel
theorem d_Ref_entry_66 : decode M_Ref_entry.2.1 66 = .ok (.iload 5, 2) := by decide +kernel
theorem d_Ref_entry_68 : decode M_Ref_entry.2.1 68 = .ok (.ifCond .ne 6, 3) := by decide +kernel
theorem d_Ref_entry_71 : decode M_Ref_entry.2.1 71 = .ok (.iload 6, 2) := by decide +kernel
theorem d_Ref_entry_73 : decode M_Ref_entry.2.1 73 = .ok (.ireturn, 1) := by decide +kernel
theorem d_Ref_entry_74 : decode M_Ref_entry.2.1 74 = .ok (.iconst 2, 1) := by decide +kernel
theorem d_Ref_entry_75 : decode M_Ref_entry.2.1 75 = .ok (.iload_n 3, 1) := by decide +kernel
theorem d_Ref_entry_76 : decode M_Ref_entry.2.1 76 = .ok (.imul, 1) := by decide +kernel
theorem d_Ref_entry_77 : decode M_Ref_entry.2.1 77 = .ok (.iload 5, 2) := by decide +kernel
theorem d_Ref_entry_79 : decode M_Ref_entry.2.1 79 = .ok (.imul, 1) := by decide +kernel
theorem d_Ref_entry_80 : decode M_Ref_entry.2.1 80 = .ok (.iload 4, 2) := by decide +kernel
theorem d_Ref_entry_82 : decode M_Ref_entry.2.1 82 = .ok (.isub, 1) := by decide +kernel
theorem d_Ref_entry_83 : decode M_Ref_entry.2.1 83 = .ok (.iload_n 2, 1) := by decide +kernel
theorem d_Ref_entry_84 : decode M_Ref_entry.2.1 84 = .ok (.irem, 1) := by decide +kernel
theorem d_Ref_entry_85 : decode M_Ref_entry.2.1 85 = .ok (.istore 7, 2) := by decide +kernel
theorem d_Ref_entry_87 : decode M_Ref_entry.2.1 87 = .ok (.iload 5, 2) := by decide +kernel
theorem d_Ref_entry_89 : decode M_Ref_entry.2.1 89 = .ok (.istore 4, 2) := by decide +kernel
theorem d_Ref_entry_91 : decode M_Ref_entry.2.1 91 = .ok (.iload 7, 2) := by decide +kernel
theorem d_Ref_entry_93 : decode M_Ref_entry.2.1 93 = .ok (.ifCond .ge 10, 3) := by decide +kernel
theorem d_Ref_entry_96 : decode M_Ref_entry.2.1 96 = .ok (.iload 7, 2) := by decide +kernel
theorem d_Ref_entry_98 : decode M_Ref_entry.2.1 98 = .ok (.iload_n 2, 1) := by decide +kernel
theorem d_Ref_entry_99 : decode M_Ref_entry.2.1 99 = .ok (.iadd, 1) := by decide +kernel
theorem d_Ref_entry_100 : decode M_Ref_entry.2.1 100 = .ok (.goto 5, 3) := by decide +kernel
theorem d_Ref_entry_103 : decode M_Ref_entry.2.1 103 = .ok (.iload 7, 2) := by decide +kernel
theorem d_Ref_entry_105 : decode M_Ref_entry.2.1 105 = .ok (.istore 5, 2) := by decide +kernel
theorem d_Ref_entry_107 : decode M_Ref_entry.2.1 107 = .ok (.iinc 6 1, 3) := by decide +kernel
theorem d_Ref_entry_110 : decode M_Ref_entry.2.1 110 = .ok (.goto (-52), 3) := by decide +kernel
theorem d_Ref_entry_113 : decode M_Ref_entry.2.1 113 = .ok (.iconst (-1), 1) := by decide +kernel
theorem d_Ref_entry_114 : decode M_Ref_entry.2.1 114 = .ok (.ireturn, 1) := by decide +kernel
theorem d_Ref_leaves_0 : decode M_Ref_leaves.2.1 0 = .ok (.aload_n 0, 1) := by decide +kernel
theorem d_Ref_leaves_1 : decode M_Ref_leaves.2.1 1 = .ok (.iload_n 1, 1) := by decide +kernel
theorem d_Ref_leaves_2 : decode M_Ref_leaves.2.1 2 = .ok (.iload_n 2, 1) := by decide +kernel
theorem d_Ref_leaves_3 : decode M_Ref_leaves.2.1 3 = .ok (.invokevirtual 245, 3) := by decide +kernel
theorem d_Ref_leaves_6 : decode M_Ref_leaves.2.1 6 = .ok (.ifCond .ne 7, 3) := by decide +kernel
theorem d_Ref_leaves_9 : decode M_Ref_leaves.2.1 9 = .ok (.ldc_w 330, 3) := by decide +kernel
theorem d_Ref_leaves_12 : decode M_Ref_leaves.2.1 12 = .ok (.ireturn, 1) := by decide +kernel
theorem d_Ref_leaves_13 : decode M_Ref_leaves.2.1 13 = .ok (.aload_n 0, 1) := by decide +kernel
theorem d_Ref_leaves_14 : decode M_Ref_leaves.2.1 14 = .ok (.iload_n 1, 1) := by decide +kernel
theorem d_Ref_leaves_15 : decode M_Ref_leaves.2.1 15 = .ok (.iload_n 2, 1) := by decide +kernel
theorem d_Ref_leaves_16 : decode M_Ref_leaves.2.1 16 = .ok (.iconst 1, 1) := by decide +kernel
theorem d_Ref_leaves_17 : decode M_Ref_leaves.2.1 17 = .ok (.iadd, 1) := by decide +kernel
theorem d_Ref_leaves_18 : decode M_Ref_leaves.2.1 18 = .ok (.invokevirtual 248, 3) := by decide +kernel
theorem d_Ref_leaves_21 : decode M_Ref_leaves.2.1 21 = .ok (.iload_n 2, 1) := by decide +kernel
theorem d_Ref_leaves_22 : decode M_Ref_leaves.2.1 22 = .ok (.iconst 2, 1) := by decide +kernel
theorem d_Ref_leaves_23 : decode M_Ref_leaves.2.1 23 = .ok (.irem, 1) := by decide +kernel
theorem d_Ref_leaves_24 : decode M_Ref_leaves.2.1 24 = .ok (.ifCond .ne 11, 3) := by decide +kernel
theorem d_Ref_leaves_27 : decode M_Ref_leaves.2.1 27 = .ok (.aload_n 0, 1) := by decide +kernel
theorem d_Ref_leaves_28 : decode M_Ref_leaves.2.1 28 = .ok (.getfield 122, 3) := by decide +kernel
theorem d_Ref_leaves_31 : decode M_Ref_leaves.2.1 31 = .ok (.ineg, 1) := by decide +kernel
theorem d_Ref_leaves_32 : decode M_Ref_leaves.2.1 32 = .ok (.goto 7, 3) := by decide +kernel
theorem d_Ref_leaves_35 : decode M_Ref_leaves.2.1 35 = .ok (.aload_n 0, 1) := by decide +kernel
theorem d_Ref_leaves_36 : decode M_Ref_leaves.2.1 36 = .ok (.getfield 122, 3) := by decide +kernel
theorem d_Ref_leaves_39 : decode M_Ref_leaves.2.1 39 = .ok (.ireturn, 1) := by decide +kernel
theorem d_Ref_nearing_0 : decode M_Ref_nearing.2.1 0 = .ok (.aload_n 0, 1) := by decide +kernel
theorem d_Ref_nearing_1 : decode M_Ref_nearing.2.1 1 = .ok (.iload_n 1, 1) := by decide +kernel
theorem d_Ref_nearing_2 : decode M_Ref_nearing.2.1 2 = .ok (.iload_n 2, 1) := by decide +kernel
theorem d_Ref_nearing_3 : decode M_Ref_nearing.2.1 3 = .ok (.invokevirtual 245, 3) := by decide +kernel
theorem d_Ref_nearing_6 : decode M_Ref_nearing.2.1 6 = .ok (.ifCond .eq 28, 3) := by decide +kernel
theorem d_Ref_nearing_9 : decode M_Ref_nearing.2.1 9 = .ok (.iload_n 3, 1) := by decide +kernel
theorem d_Ref_nearing_10 : decode M_Ref_nearing.2.1 10 = .ok (.i2l, 1) := by decide +kernel
theorem d_Ref_nearing_11 : decode M_Ref_nearing.2.1 11 = .ok (.lconst 0, 1) := by decide +kernel
theorem d_Ref_nearing_12 : decode M_Ref_nearing.2.1 12 = .ok (.lconst 1, 1) := by decide +kernel
theorem d_Ref_nearing_13 : decode M_Ref_nearing.2.1 13 = .ok (.invokestatic 111, 3) := by decide +kernel
theorem d_Ref_nearing_16 : decode M_Ref_nearing.2.1 16 = .ok (.ifCond .eq 18, 3) := by decide +kernel
theorem d_Ref_nearing_19 : decode M_Ref_nearing.2.1 19 = .ok (.iload 4, 2) := by decide +kernel
theorem d_Ref_nearing_21 : decode M_Ref_nearing.2.1 21 = .ok (.i2l, 1) := by decide +kernel
theorem d_Ref_nearing_22 : decode M_Ref_nearing.2.1 22 = .ok (.ldc2_w 181, 3) := by decide +kernel
theorem d_Ref_nearing_25 : decode M_Ref_nearing.2.1 25 = .ok (.ldc2_w 103, 3) := by decide +kernel
theorem d_Ref_nearing_28 : decode M_Ref_nearing.2.1 28 = .ok (.invokestatic 111, 3) := by decide +kernel
theorem d_Ref_nearing_31 : decode M_Ref_nearing.2.1 31 = .ok (.ifCond .ne 5, 3) := by decide +kernel
theorem d_Ref_nearing_34 : decode M_Ref_nearing.2.1 34 = .ok (.iconst (-1), 1) := by decide +kernel
theorem d_Ref_nearing_35 : decode M_Ref_nearing.2.1 35 = .ok (.ireturn, 1) := by decide +kernel
theorem d_Ref_nearing_36 : decode M_Ref_nearing.2.1 36 = .ok (.iload_n 3, 1) := by decide +kernel
theorem d_Ref_nearing_37 : decode M_Ref_nearing.2.1 37 = .ok (.ifCond .ne 7, 3) := by decide +kernel
theorem d_Ref_nearing_40 : decode M_Ref_nearing.2.1 40 = .ok (.iconst 1, 1) := by decide +kernel
theorem d_Ref_nearing_41 : decode M_Ref_nearing.2.1 41 = .ok (.goto 4, 3) := by decide +kernel
theorem d_Ref_nearing_44 : decode M_Ref_nearing.2.1 44 = .ok (.iconst 0, 1) := by decide +kernel
theorem d_Ref_nearing_45 : decode M_Ref_nearing.2.1 45 = .ok (.istore 5, 2) := by decide +kernel
theorem d_Ref_nearing_47 : decode M_Ref_nearing.2.1 47 = .ok (.iload_n 3, 1) := by decide +kernel
theorem d_Ref_nearing_48 : decode M_Ref_nearing.2.1 48 = .ok (.ifCond .ne 15, 3) := by decide +kernel
theorem d_Ref_nearing_51 : decode M_Ref_nearing.2.1 51 = .ok (.aload_n 0, 1) := by decide +kernel
theorem d_Ref_nearing_52 : decode M_Ref_nearing.2.1 52 = .ok (.getfield 19, 3) := by decide +kernel
theorem d_Ref_nearing_55 : decode M_Ref_nearing.2.1 55 = .ok (.iload_n 1, 1) := by decide +kernel
theorem d_Ref_nearing_56 : decode M_Ref_nearing.2.1 56 = .ok (.iaload, 1) := by decide +kernel
theorem d_Ref_nearing_57 : decode M_Ref_nearing.2.1 57 = .ok (.iload 4, 2) := by decide +kernel
theorem d_Ref_nearing_59 : decode M_Ref_nearing.2.1 59 = .ok (.irem, 1) := by decide +kernel
theorem d_Ref_nearing_60 : decode M_Ref_nearing.2.1 60 = .ok (.goto 4, 3) := by decide +kernel
theorem d_Ref_nearing_63 : decode M_Ref_nearing.2.1 63 = .ok (.iconst 1, 1) := by decide +kernel
theorem d_Ref_nearing_64 : decode M_Ref_nearing.2.1 64 = .ok (.istore 6, 2) := by decide +kernel
theorem d_Ref_nearing_66 : decode M_Ref_nearing.2.1 66 = .ok (.aload_n 0, 1) := by decide +kernel
theorem d_Ref_nearing_67 : decode M_Ref_nearing.2.1 67 = .ok (.iload_n 1, 1) := by decide +kernel
theorem d_Ref_nearing_68 : decode M_Ref_nearing.2.1 68 = .ok (.invokevirtual 131, 3) := by decide +kernel
theorem d_Ref_nearing_71 : decode M_Ref_nearing.2.1 71 = .ok (.iconst 0, 1) := by decide +kernel
theorem d_Ref_nearing_72 : decode M_Ref_nearing.2.1 72 = .ok (.istore 7, 2) := by decide +kernel
theorem d_Ref_nearing_74 : decode M_Ref_nearing.2.1 74 = .ok (.iload 7, 2) := by decide +kernel
theorem d_Ref_nearing_76 : decode M_Ref_nearing.2.1 76 = .ok (.iload_n 2, 1) := by decide +kernel
theorem d_Ref_nearing_77 : decode M_Ref_nearing.2.1 77 = .ok (.if_icmp .ge 37, 3) := by decide +kernel
theorem d_Ref_nearing_80 : decode M_Ref_nearing.2.1 80 = .ok (.aload_n 0, 1) := by decide +kernel
theorem d_Ref_nearing_81 : decode M_Ref_nearing.2.1 81 = .ok (.iload_n 1, 1) := by decide +kernel
theorem d_Ref_nearing_82 : decode M_Ref_nearing.2.1 82 = .ok (.invokevirtual 134, 3) := by decide +kernel
theorem d_Ref_nearing_85 : decode M_Ref_nearing.2.1 85 = .ok (.aload_n 0, 1) := by decide +kernel
theorem d_Ref_nearing_86 : decode M_Ref_nearing.2.1 86 = .ok (.getfield 125, 3) := by decide +kernel
theorem d_Ref_nearing_89 : decode M_Ref_nearing.2.1 89 = .ok (.iload 6, 2) := by decide +kernel
theorem d_Ref_nearing_91 : decode M_Ref_nearing.2.1 91 = .ok (.imul, 1) := by decide +kernel
theorem d_Ref_nearing_92 : decode M_Ref_nearing.2.1 92 = .ok (.iload 5, 2) := by decide +kernel
theorem d_Ref_nearing_94 : decode M_Ref_nearing.2.1 94 = .ok (.iadd, 1) := by decide +kernel
theorem d_Ref_nearing_95 : decode M_Ref_nearing.2.1 95 = .ok (.iload 4, 2) := by decide +kernel
theorem d_Ref_nearing_97 : decode M_Ref_nearing.2.1 97 = .ok (.irem, 1) := by decide +kernel
theorem d_Ref_nearing_98 : decode M_Ref_nearing.2.1 98 = .ok (.istore 8, 2) := by decide +kernel
theorem d_Ref_nearing_100 : decode M_Ref_nearing.2.1 100 = .ok (.iload 6, 2) := by decide +kernel
theorem d_Ref_nearing_102 : decode M_Ref_nearing.2.1 102 = .ok (.istore 5, 2) := by decide +kernel
theorem d_Ref_nearing_104 : decode M_Ref_nearing.2.1 104 = .ok (.iload 8, 2) := by decide +kernel
theorem d_Ref_nearing_106 : decode M_Ref_nearing.2.1 106 = .ok (.istore 6, 2) := by decide +kernel
theorem d_Ref_nearing_108 : decode M_Ref_nearing.2.1 108 = .ok (.iinc 7 1, 3) := by decide +kernel
theorem d_Ref_nearing_111 : decode M_Ref_nearing.2.1 111 = .ok (.goto (-37), 3) := by decide +kernel
theorem d_Ref_nearing_114 : decode M_Ref_nearing.2.1 114 = .ok (.iload 6, 2) := by decide +kernel
theorem d_Ref_nearing_116 : decode M_Ref_nearing.2.1 116 = .ok (.ireturn, 1) := by decide +kernel
theorem d_Ref_middle_0 : decode M_Ref_middle.2.1 0 = .ok (.aload_n 0, 1) := by decide +kernel
theorem d_Ref_middle_1 : decode M_Ref_middle.2.1 1 = .ok (.iload_n 1, 1) := by decide +kernel
theorem d_Ref_middle_2 : decode M_Ref_middle.2.1 2 = .ok (.invokevirtual 242, 3) := by decide +kernel
theorem d_Ref_middle_5 : decode M_Ref_middle.2.1 5 = .ok (.ifCond .eq 11, 3) := by decide +kernel
theorem d_Ref_middle_8 : decode M_Ref_middle.2.1 8 = .ok (.aload_n 0, 1) := by decide +kernel
theorem d_Ref_middle_9 : decode M_Ref_middle.2.1 9 = .ok (.iload_n 1, 1) := by decide +kernel
theorem d_Ref_middle_10 : decode M_Ref_middle.2.1 10 = .ok (.invokevirtual 160, 3) := by decide +kernel
theorem d_Ref_middle_13 : decode M_Ref_middle.2.1 13 = .ok (.ifCond .eq 5, 3) := by decide +kernel
theorem d_Ref_middle_16 : decode M_Ref_middle.2.1 16 = .ok (.iconst (-1), 1) := by decide +kernel
theorem d_Ref_middle_17 : decode M_Ref_middle.2.1 17 = .ok (.ireturn, 1) := by decide +kernel
theorem d_Ref_middle_18 : decode M_Ref_middle.2.1 18 = .ok (.aload_n 0, 1) := by decide +kernel
theorem d_Ref_middle_19 : decode M_Ref_middle.2.1 19 = .ok (.iload_n 1, 1) := by decide +kernel
theorem d_Ref_middle_20 : decode M_Ref_middle.2.1 20 = .ok (.aload_n 0, 1) := by decide +kernel
theorem d_Ref_middle_21 : decode M_Ref_middle.2.1 21 = .ok (.getfield 22, 3) := by decide +kernel
theorem d_Ref_middle_24 : decode M_Ref_middle.2.1 24 = .ok (.iload_n 1, 1) := by decide +kernel
theorem d_Ref_middle_25 : decode M_Ref_middle.2.1 25 = .ok (.iaload, 1) := by decide +kernel
theorem d_Ref_middle_26 : decode M_Ref_middle.2.1 26 = .ok (.iconst 2, 1) := by decide +kernel
theorem d_Ref_middle_27 : decode M_Ref_middle.2.1 27 = .ok (.idiv, 1) := by decide +kernel
theorem d_Ref_middle_28 : decode M_Ref_middle.2.1 28 = .ok (.invokevirtual 248, 3) := by decide +kernel
theorem d_Ref_middle_31 : decode M_Ref_middle.2.1 31 = .ok (.aload_n 0, 1) := by decide +kernel
theorem d_Ref_middle_32 : decode M_Ref_middle.2.1 32 = .ok (.getfield 122, 3) := by decide +kernel
theorem d_Ref_middle_35 : decode M_Ref_middle.2.1 35 = .ok (.ireturn, 1) := by decide +kernel
theorem d_Ref_least_0 : decode M_Ref_least.2.1 0 = .ok (.aload_n 0, 1) := by decide +kernel
theorem d_Ref_least_1 : decode M_Ref_least.2.1 1 = .ok (.iload_n 1, 1) := by decide +kernel
theorem d_Ref_least_2 : decode M_Ref_least.2.1 2 = .ok (.invokevirtual 242, 3) := by decide +kernel
theorem d_Ref_least_5 : decode M_Ref_least.2.1 5 = .ok (.ifCond .eq 17, 3) := by decide +kernel
theorem d_Ref_least_8 : decode M_Ref_least.2.1 8 = .ok (.iload_n 2, 1) := by decide +kernel
theorem d_Ref_least_9 : decode M_Ref_least.2.1 9 = .ok (.i2l, 1) := by decide +kernel
theorem d_Ref_least_10 : decode M_Ref_least.2.1 10 = .ok (.ldc2_w 333, 3) := by decide +kernel
theorem d_Ref_least_13 : decode M_Ref_least.2.1 13 = .ok (.ldc2_w 318, 3) := by decide +kernel
theorem d_Ref_least_16 : decode M_Ref_least.2.1 16 = .ok (.invokestatic 111, 3) := by decide +kernel
theorem d_Ref_least_19 : decode M_Ref_least.2.1 19 = .ok (.ifCond .ne 5, 3) := by decide +kernel
theorem d_Ref_least_22 : decode M_Ref_least.2.1 22 = .ok (.iconst (-1), 1) := by decide +kernel
theorem d_Ref_least_23 : decode M_Ref_least.2.1 23 = .ok (.ireturn, 1) := by decide +kernel
theorem d_Ref_least_24 : decode M_Ref_least.2.1 24 = .ok (.iconst 1, 1) := by decide +kernel
theorem d_Ref_least_25 : decode M_Ref_least.2.1 25 = .ok (.istore_n 3, 1) := by decide +kernel
theorem d_Ref_least_26 : decode M_Ref_least.2.1 26 = .ok (.iload_n 3, 1) := by decide +kernel
theorem d_Ref_least_27 : decode M_Ref_least.2.1 27 = .ok (.sipush 3000, 3) := by decide +kernel
theorem d_Ref_least_30 : decode M_Ref_least.2.1 30 = .ok (.if_icmp .gt 32, 3) := by decide +kernel
theorem d_Ref_least_33 : decode M_Ref_least.2.1 33 = .ok (.aload_n 0, 1) := by decide +kernel
theorem d_Ref_least_34 : decode M_Ref_least.2.1 34 = .ok (.iload_n 1, 1) := by decide +kernel
theorem d_Ref_least_35 : decode M_Ref_least.2.1 35 = .ok (.invokevirtual 128, 3) := by decide +kernel
theorem d_Ref_least_38 : decode M_Ref_least.2.1 38 = .ok (.i2l, 1) := by decide +kernel
theorem d_Ref_least_39 : decode M_Ref_least.2.1 39 = .ok (.iload_n 3, 1) := by decide +kernel
theorem d_Ref_least_40 : decode M_Ref_least.2.1 40 = .ok (.i2l, 1) := by decide +kernel
theorem d_Ref_least_41 : decode M_Ref_least.2.1 41 = .ok (.lmul, 1) := by decide +kernel
theorem d_Ref_least_42 : decode M_Ref_least.2.1 42 = .ok (.iload_n 3, 1) := by decide +kernel
theorem d_Ref_least_43 : decode M_Ref_least.2.1 43 = .ok (.i2l, 1) := by decide +kernel
theorem d_Ref_least_44 : decode M_Ref_least.2.1 44 = .ok (.lmul, 1) := by decide +kernel
theorem d_Ref_least_45 : decode M_Ref_least.2.1 45 = .ok (.iload_n 2, 1) := by decide +kernel
theorem d_Ref_least_46 : decode M_Ref_least.2.1 46 = .ok (.i2l, 1) := by decide +kernel
theorem d_Ref_least_47 : decode M_Ref_least.2.1 47 = .ok (.ladd, 1) := by decide +kernel
theorem d_Ref_least_48 : decode M_Ref_least.2.1 48 = .ok (.invokestatic 335, 3) := by decide +kernel
theorem d_Ref_least_51 : decode M_Ref_least.2.1 51 = .ok (.ifCond .eq 5, 3) := by decide +kernel
theorem d_Ref_least_54 : decode M_Ref_least.2.1 54 = .ok (.iload_n 3, 1) := by decide +kernel
theorem d_Ref_least_55 : decode M_Ref_least.2.1 55 = .ok (.ireturn, 1) := by decide +kernel
theorem d_Ref_least_56 : decode M_Ref_least.2.1 56 = .ok (.iinc 3 1, 3) := by decide +kernel
theorem d_Ref_least_59 : decode M_Ref_least.2.1 59 = .ok (.goto (-33), 3) := by decide +kernel
theorem d_Ref_least_62 : decode M_Ref_least.2.1 62 = .ok (.iconst (-1), 1) := by decide +kernel
theorem d_Ref_least_63 : decode M_Ref_least.2.1 63 = .ok (.ireturn, 1) := by decide +kernel
theorem d_Ref_isSquare_0 : decode M_Ref_isSquare.2.1 0 = .ok (.lconst 0, 1) := by decide +kernel
theorem d_Ref_isSquare_1 : decode M_Ref_isSquare.2.1 1 = .ok (.lstore_n 2, 1) := by decide +kernel
theorem d_Ref_isSquare_2 : decode M_Ref_isSquare.2.1 2 = .ok (.ldc2_w 331, 3) := by decide +kernel
theorem d_Ref_isSquare_5 : decode M_Ref_isSquare.2.1 5 = .ok (.lstore 4, 2) := by decide +kernel
theorem d_Ref_isSquare_7 : decode M_Ref_isSquare.2.1 7 = .ok (.lload_n 2, 1) := by decide +kernel
theorem d_Ref_isSquare_8 : decode M_Ref_isSquare.2.1 8 = .ok (.lload 4, 2) := by decide +kernel
theorem d_Ref_isSquare_10 : decode M_Ref_isSquare.2.1 10 = .ok (.lcmp, 1) := by decide +kernel
theorem d_Ref_isSquare_11 : decode M_Ref_isSquare.2.1 11 = .ok (.ifCond .ge 40, 3) := by decide +kernel
theorem d_Ref_isSquare_14 : decode M_Ref_isSquare.2.1 14 = .ok (.lload_n 2, 1) := by decide +kernel
theorem d_Ref_isSquare_15 : decode M_Ref_isSquare.2.1 15 = .ok (.lload 4, 2) := by decide +kernel
theorem d_Ref_isSquare_17 : decode M_Ref_isSquare.2.1 17 = .ok (.ladd, 1) := by decide +kernel
theorem d_Ref_isSquare_18 : decode M_Ref_isSquare.2.1 18 = .ok (.lconst 1, 1) := by decide +kernel
theorem d_Ref_isSquare_19 : decode M_Ref_isSquare.2.1 19 = .ok (.ladd, 1) := by decide +kernel
theorem d_Ref_isSquare_20 : decode M_Ref_isSquare.2.1 20 = .ok (.ldc2_w 181, 3) := by decide +kernel
theorem d_Ref_isSquare_23 : decode M_Ref_isSquare.2.1 23 = .ok (.ldiv, 1) := by decide +kernel
theorem d_Ref_isSquare_24 : decode M_Ref_isSquare.2.1 24 = .ok (.lstore 6, 2) := by decide +kernel
theorem d_Ref_isSquare_26 : decode M_Ref_isSquare.2.1 26 = .ok (.lload 6, 2) := by decide +kernel
theorem d_Ref_isSquare_28 : decode M_Ref_isSquare.2.1 28 = .ok (.lload 6, 2) := by decide +kernel
theorem d_Ref_isSquare_30 : decode M_Ref_isSquare.2.1 30 = .ok (.lmul, 1) := by decide +kernel
theorem d_Ref_isSquare_31 : decode M_Ref_isSquare.2.1 31 = .ok (.lload_n 0, 1) := by decide +kernel
theorem d_Ref_isSquare_32 : decode M_Ref_isSquare.2.1 32 = .ok (.lcmp, 1) := by decide +kernel
theorem d_Ref_isSquare_33 : decode M_Ref_isSquare.2.1 33 = .ok (.ifCond .gt 9, 3) := by decide +kernel
theorem d_Ref_isSquare_36 : decode M_Ref_isSquare.2.1 36 = .ok (.lload 6, 2) := by decide +kernel
theorem d_Ref_isSquare_38 : decode M_Ref_isSquare.2.1 38 = .ok (.lstore_n 2, 1) := by decide +kernel
theorem d_Ref_isSquare_39 : decode M_Ref_isSquare.2.1 39 = .ok (.goto 9, 3) := by decide +kernel
theorem d_Ref_isSquare_42 : decode M_Ref_isSquare.2.1 42 = .ok (.lload 6, 2) := by decide +kernel
theorem d_Ref_isSquare_44 : decode M_Ref_isSquare.2.1 44 = .ok (.lconst 1, 1) := by decide +kernel
theorem d_Ref_isSquare_45 : decode M_Ref_isSquare.2.1 45 = .ok (.lsub, 1) := by decide +kernel
theorem d_Ref_isSquare_46 : decode M_Ref_isSquare.2.1 46 = .ok (.lstore 4, 2) := by decide +kernel
theorem d_Ref_isSquare_48 : decode M_Ref_isSquare.2.1 48 = .ok (.goto (-41), 3) := by decide +kernel
theorem d_Ref_isSquare_51 : decode M_Ref_isSquare.2.1 51 = .ok (.lload_n 0, 1) := by decide +kernel
theorem d_Ref_isSquare_52 : decode M_Ref_isSquare.2.1 52 = .ok (.lconst 0, 1) := by decide +kernel
theorem d_Ref_isSquare_53 : decode M_Ref_isSquare.2.1 53 = .ok (.lcmp, 1) := by decide +kernel
theorem d_Ref_isSquare_54 : decode M_Ref_isSquare.2.1 54 = .ok (.ifCond .lt 15, 3) := by decide +kernel
theorem d_Ref_isSquare_57 : decode M_Ref_isSquare.2.1 57 = .ok (.lload_n 2, 1) := by decide +kernel
theorem d_Ref_isSquare_58 : decode M_Ref_isSquare.2.1 58 = .ok (.lload_n 2, 1) := by decide +kernel
theorem d_Ref_isSquare_59 : decode M_Ref_isSquare.2.1 59 = .ok (.lmul, 1) := by decide +kernel
theorem d_Ref_isSquare_60 : decode M_Ref_isSquare.2.1 60 = .ok (.lload_n 0, 1) := by decide +kernel
theorem d_Ref_isSquare_61 : decode M_Ref_isSquare.2.1 61 = .ok (.lcmp, 1) := by decide +kernel
theorem d_Ref_isSquare_62 : decode M_Ref_isSquare.2.1 62 = .ok (.ifCond .ne 7, 3) := by decide +kernel
theorem d_Ref_isSquare_65 : decode M_Ref_isSquare.2.1 65 = .ok (.iconst 1, 1) := by decide +kernel
theorem d_Ref_isSquare_66 : decode M_Ref_isSquare.2.1 66 = .ok (.goto 4, 3) := by decide +kernel
theorem d_Ref_isSquare_69 : decode M_Ref_isSquare.2.1 69 = .ok (.iconst 0, 1) := by decide +kernel
theorem d_Ref_isSquare_70 : decode M_Ref_isSquare.2.1 70 = .ok (.ireturn, 1) := by decide +kernel
theorem d_Ref_twos_0 : decode M_Ref_twos.2.1 0 = .ok (.aload_n 0, 1) := by decide +kernel
theorem d_Ref_twos_1 : decode M_Ref_twos.2.1 1 = .ok (.getfield 170, 3) := by decide +kernel
theorem d_Ref_twos_4 : decode M_Ref_twos.2.1 4 = .ok (.ireturn, 1) := by decide +kernel
theorem d_Ref_twoClasses_0 : decode M_Ref_twoClasses.2.1 0 = .ok (.aload_n 0, 1) := by decide +kernel
theorem d_Ref_twoClasses_1 : decode M_Ref_twoClasses.2.1 1 = .ok (.getfield 198, 3) := by decide +kernel
theorem d_Ref_twoClasses_4 : decode M_Ref_twoClasses.2.1 4 = .ok (.ireturn, 1) := by decide +kernel
theorem d_Ref_twoClass_0 : decode M_Ref_twoClass.2.1 0 = .ok (.iload_n 1, 1) := by decide +kernel
theorem d_Ref_twoClass_1 : decode M_Ref_twoClass.2.1 1 = .ok (.i2l, 1) := by decide +kernel
theorem d_Ref_twoClass_2 : decode M_Ref_twoClass.2.1 2 = .ok (.lconst 0, 1) := by decide +kernel
theorem d_Ref_twoClass_3 : decode M_Ref_twoClass.2.1 3 = .ok (.aload_n 0, 1) := by decide +kernel
theorem d_Ref_twoClass_4 : decode M_Ref_twoClass.2.1 4 = .ok (.getfield 198, 3) := by decide +kernel
theorem d_Ref_twoClass_7 : decode M_Ref_twoClass.2.1 7 = .ok (.iconst 1, 1) := by decide +kernel
theorem d_Ref_twoClass_8 : decode M_Ref_twoClass.2.1 8 = .ok (.isub, 1) := by decide +kernel
theorem d_Ref_twoClass_9 : decode M_Ref_twoClass.2.1 9 = .ok (.i2l, 1) := by decide +kernel
theorem d_Ref_twoClass_10 : decode M_Ref_twoClass.2.1 10 = .ok (.invokestatic 111, 3) := by decide +kernel
theorem d_Ref_twoClass_13 : decode M_Ref_twoClass.2.1 13 = .ok (.ifCond .ne 5, 3) := by decide +kernel
theorem d_Ref_twoClass_16 : decode M_Ref_twoClass.2.1 16 = .ok (.iconst (-1), 1) := by decide +kernel
theorem d_Ref_twoClass_17 : decode M_Ref_twoClass.2.1 17 = .ok (.ireturn, 1) := by decide +kernel
theorem d_Ref_twoClass_18 : decode M_Ref_twoClass.2.1 18 = .ok (.bipush 32, 2) := by decide +kernel
theorem d_Ref_twoClass_20 : decode M_Ref_twoClass.2.1 20 = .ok (.iload_n 1, 1) := by decide +kernel
theorem d_Ref_twoClass_21 : decode M_Ref_twoClass.2.1 21 = .ok (.iadd, 1) := by decide +kernel
theorem d_Ref_twoClass_22 : decode M_Ref_twoClass.2.1 22 = .ok (.istore_n 3, 1) := by decide +kernel
theorem d_Ref_twoClass_23 : decode M_Ref_twoClass.2.1 23 = .ok (.iload_n 2, 1) := by decide +kernel
theorem d_Ref_twoClass_24 : decode M_Ref_twoClass.2.1 24 = .ok (.tableswitch 89 0 5 #[40, 47, 54, 61, 69, 79], 40) := by decide +kernel
theorem d_Ref_twoClass_64 : decode M_Ref_twoClass.2.1 64 = .ok (.aload_n 0, 1) := by decide +kernel
theorem d_Ref_twoClass_65 : decode M_Ref_twoClass.2.1 65 = .ok (.getfield 16, 3) := by decide +kernel
theorem d_Ref_twoClass_68 : decode M_Ref_twoClass.2.1 68 = .ok (.iload_n 3, 1) := by decide +kernel
theorem d_Ref_twoClass_69 : decode M_Ref_twoClass.2.1 69 = .ok (.iaload, 1) := by decide +kernel
theorem d_Ref_twoClass_70 : decode M_Ref_twoClass.2.1 70 = .ok (.ireturn, 1) := by decide +kernel
theorem d_Ref_twoClass_71 : decode M_Ref_twoClass.2.1 71 = .ok (.aload_n 0, 1) := by decide +kernel
theorem d_Ref_twoClass_72 : decode M_Ref_twoClass.2.1 72 = .ok (.getfield 19, 3) := by decide +kernel
theorem d_Ref_twoClass_75 : decode M_Ref_twoClass.2.1 75 = .ok (.iload_n 3, 1) := by decide +kernel
theorem d_Ref_twoClass_76 : decode M_Ref_twoClass.2.1 76 = .ok (.iaload, 1) := by decide +kernel
theorem d_Ref_twoClass_77 : decode M_Ref_twoClass.2.1 77 = .ok (.ireturn, 1) := by decide +kernel
theorem d_Ref_twoClass_78 : decode M_Ref_twoClass.2.1 78 = .ok (.aload_n 0, 1) := by decide +kernel
theorem d_Ref_twoClass_79 : decode M_Ref_twoClass.2.1 79 = .ok (.getfield 22, 3) := by decide +kernel
theorem d_Ref_twoClass_82 : decode M_Ref_twoClass.2.1 82 = .ok (.iload_n 3, 1) := by decide +kernel
theorem d_Ref_twoClass_83 : decode M_Ref_twoClass.2.1 83 = .ok (.iaload, 1) := by decide +kernel
theorem d_Ref_twoClass_84 : decode M_Ref_twoClass.2.1 84 = .ok (.ireturn, 1) := by decide +kernel
theorem d_Ref_twoClass_85 : decode M_Ref_twoClass.2.1 85 = .ok (.aload_n 0, 1) := by decide +kernel
theorem d_Ref_twoClass_86 : decode M_Ref_twoClass.2.1 86 = .ok (.iconst 2, 1) := by decide +kernel
theorem d_Ref_twoClass_87 : decode M_Ref_twoClass.2.1 87 = .ok (.iload_n 3, 1) := by decide +kernel
theorem d_Ref_twoClass_88 : decode M_Ref_twoClass.2.1 88 = .ok (.imul, 1) := by decide +kernel
theorem d_Ref_twoClass_89 : decode M_Ref_twoClass.2.1 89 = .ok (.invokevirtual 108, 3) := by decide +kernel
theorem d_Ref_twoClass_92 : decode M_Ref_twoClass.2.1 92 = .ok (.ireturn, 1) := by decide +kernel
theorem d_Ref_twoClass_93 : decode M_Ref_twoClass.2.1 93 = .ok (.aload_n 0, 1) := by decide +kernel
theorem d_Ref_twoClass_94 : decode M_Ref_twoClass.2.1 94 = .ok (.iconst 2, 1) := by decide +kernel
theorem d_Ref_twoClass_95 : decode M_Ref_twoClass.2.1 95 = .ok (.iload_n 3, 1) := by decide +kernel
theorem d_Ref_twoClass_96 : decode M_Ref_twoClass.2.1 96 = .ok (.imul, 1) := by decide +kernel
theorem d_Ref_twoClass_97 : decode M_Ref_twoClass.2.1 97 = .ok (.iconst 1, 1) := by decide +kernel
theorem d_Ref_twoClass_98 : decode M_Ref_twoClass.2.1 98 = .ok (.iadd, 1) := by decide +kernel
theorem d_Ref_twoClass_99 : decode M_Ref_twoClass.2.1 99 = .ok (.invokevirtual 108, 3) := by decide +kernel
theorem d_Ref_twoClass_102 : decode M_Ref_twoClass.2.1 102 = .ok (.ireturn, 1) := by decide +kernel
theorem d_Ref_twoClass_103 : decode M_Ref_twoClass.2.1 103 = .ok (.aload_n 0, 1) := by decide +kernel
theorem d_Ref_twoClass_104 : decode M_Ref_twoClass.2.1 104 = .ok (.getfield 25, 3) := by decide +kernel
theorem d_Ref_twoClass_107 : decode M_Ref_twoClass.2.1 107 = .ok (.iload_n 3, 1) := by decide +kernel
theorem d_Ref_twoClass_108 : decode M_Ref_twoClass.2.1 108 = .ok (.iaload, 1) := by decide +kernel
theorem d_Ref_twoClass_109 : decode M_Ref_twoClass.2.1 109 = .ok (.invokestatic 206, 3) := by decide +kernel
theorem d_Ref_twoClass_112 : decode M_Ref_twoClass.2.1 112 = .ok (.ireturn, 1) := by decide +kernel
theorem d_Ref_twoClass_113 : decode M_Ref_twoClass.2.1 113 = .ok (.iconst (-1), 1) := by decide +kernel
theorem d_Ref_twoClass_114 : decode M_Ref_twoClass.2.1 114 = .ok (.ireturn, 1) := by decide +kernel
theorem d_Ref_two_0 : decode M_Ref_two.2.1 0 = .ok (.aload_n 0, 1) := by decide +kernel
theorem d_Ref_two_1 : decode M_Ref_two.2.1 1 = .ok (.iload_n 1, 1) := by decide +kernel
theorem d_Ref_two_2 : decode M_Ref_two.2.1 2 = .ok (.invokevirtual 339, 3) := by decide +kernel
theorem d_Ref_two_5 : decode M_Ref_two.2.1 5 = .ok (.ifCond .ne 5, 3) := by decide +kernel
theorem d_Ref_two_8 : decode M_Ref_two.2.1 8 = .ok (.iconst (-1), 1) := by decide +kernel
theorem d_Ref_two_9 : decode M_Ref_two.2.1 9 = .ok (.ireturn, 1) := by decide +kernel
theorem d_Ref_two_10 : decode M_Ref_two.2.1 10 = .ok (.iload_n 2, 1) := by decide +kernel
theorem d_Ref_two_11 : decode M_Ref_two.2.1 11 = .ok (.tableswitch 91 0 4 #[33, 43, 50, 57, 68], 33) := by decide +kernel
theorem d_Ref_two_44 : decode M_Ref_two.2.1 44 = .ok (.aload_n 0, 1) := by decide +kernel
theorem d_Ref_two_45 : decode M_Ref_two.2.1 45 = .ok (.getfield 37, 3) := by decide +kernel
theorem d_Ref_two_48 : decode M_Ref_two.2.1 48 = .ok (.iload_n 1, 1) := by decide +kernel
theorem d_Ref_two_49 : decode M_Ref_two.2.1 49 = .ok (.iaload, 1) := by decide +kernel
theorem d_Ref_two_50 : decode M_Ref_two.2.1 50 = .ok (.invokestatic 105, 3) := by decide +kernel
theorem d_Ref_two_53 : decode M_Ref_two.2.1 53 = .ok (.ireturn, 1) := by decide +kernel
theorem d_Ref_two_54 : decode M_Ref_two.2.1 54 = .ok (.aload_n 0, 1) := by decide +kernel
theorem d_Ref_two_55 : decode M_Ref_two.2.1 55 = .ok (.getfield 40, 3) := by decide +kernel
theorem d_Ref_two_58 : decode M_Ref_two.2.1 58 = .ok (.iload_n 1, 1) := by decide +kernel
theorem d_Ref_two_59 : decode M_Ref_two.2.1 59 = .ok (.iaload, 1) := by decide +kernel
theorem d_Ref_two_60 : decode M_Ref_two.2.1 60 = .ok (.ireturn, 1) := by decide +kernel
theorem d_Ref_two_61 : decode M_Ref_two.2.1 61 = .ok (.aload_n 0, 1) := by decide +kernel
theorem d_Ref_two_62 : decode M_Ref_two.2.1 62 = .ok (.getfield 43, 3) := by decide +kernel
theorem d_Ref_two_65 : decode M_Ref_two.2.1 65 = .ok (.iload_n 1, 1) := by decide +kernel
theorem d_Ref_two_66 : decode M_Ref_two.2.1 66 = .ok (.iaload, 1) := by decide +kernel
theorem d_Ref_two_67 : decode M_Ref_two.2.1 67 = .ok (.ireturn, 1) := by decide +kernel
theorem d_Ref_two_68 : decode M_Ref_two.2.1 68 = .ok (.aload_n 0, 1) := by decide +kernel
theorem d_Ref_two_69 : decode M_Ref_two.2.1 69 = .ok (.getfield 37, 3) := by decide +kernel
theorem d_Ref_two_72 : decode M_Ref_two.2.1 72 = .ok (.iload_n 1, 1) := by decide +kernel
theorem d_Ref_two_73 : decode M_Ref_two.2.1 73 = .ok (.iaload, 1) := by decide +kernel
theorem d_Ref_two_74 : decode M_Ref_two.2.1 74 = .ok (.sipush 10000, 3) := by decide +kernel
theorem d_Ref_two_77 : decode M_Ref_two.2.1 77 = .ok (.irem, 1) := by decide +kernel
theorem d_Ref_two_78 : decode M_Ref_two.2.1 78 = .ok (.ireturn, 1) := by decide +kernel
theorem d_Ref_two_79 : decode M_Ref_two.2.1 79 = .ok (.aload_n 0, 1) := by decide +kernel
theorem d_Ref_two_80 : decode M_Ref_two.2.1 80 = .ok (.getfield 37, 3) := by decide +kernel
theorem d_Ref_two_83 : decode M_Ref_two.2.1 83 = .ok (.iload_n 1, 1) := by decide +kernel
theorem d_Ref_two_84 : decode M_Ref_two.2.1 84 = .ok (.iaload, 1) := by decide +kernel
theorem d_Ref_two_85 : decode M_Ref_two.2.1 85 = .ok (.ldc_w 272, 3) := by decide +kernel
theorem d_Ref_two_88 : decode M_Ref_two.2.1 88 = .ok (.if_icmp .ge 12, 3) := by decide +kernel
theorem d_Ref_two_91 : decode M_Ref_two.2.1 91 = .ok (.aload_n 0, 1) := by decide +kernel
theorem d_Ref_two_92 : decode M_Ref_two.2.1 92 = .ok (.getfield 37, 3) := by decide +kernel
theorem d_Ref_two_95 : decode M_Ref_two.2.1 95 = .ok (.iload_n 1, 1) := by decide +kernel
theorem d_Ref_two_96 : decode M_Ref_two.2.1 96 = .ok (.iaload, 1) := by decide +kernel
theorem d_Ref_two_97 : decode M_Ref_two.2.1 97 = .ok (.goto 4, 3) := by decide +kernel
theorem d_Ref_two_100 : decode M_Ref_two.2.1 100 = .ok (.iconst (-1), 1) := by decide +kernel
theorem d_Ref_two_101 : decode M_Ref_two.2.1 101 = .ok (.ireturn, 1) := by decide +kernel
theorem d_Ref_two_102 : decode M_Ref_two.2.1 102 = .ok (.iconst (-1), 1) := by decide +kernel
theorem d_Ref_two_103 : decode M_Ref_two.2.1 103 = .ok (.ireturn, 1) := by decide +kernel
theorem d_Ref_isTwo_0 : decode M_Ref_isTwo.2.1 0 = .ok (.iload_n 1, 1) := by decide +kernel
theorem d_Ref_isTwo_1 : decode M_Ref_isTwo.2.1 1 = .ok (.i2l, 1) := by decide +kernel
theorem d_Ref_isTwo_2 : decode M_Ref_isTwo.2.1 2 = .ok (.lconst 0, 1) := by decide +kernel
theorem d_Ref_isTwo_3 : decode M_Ref_isTwo.2.1 3 = .ok (.aload_n 0, 1) := by decide +kernel
theorem d_Ref_isTwo_4 : decode M_Ref_isTwo.2.1 4 = .ok (.getfield 170, 3) := by decide +kernel
theorem d_Ref_isTwo_7 : decode M_Ref_isTwo.2.1 7 = .ok (.iconst 1, 1) := by decide +kernel
theorem d_Ref_isTwo_8 : decode M_Ref_isTwo.2.1 8 = .ok (.isub, 1) := by decide +kernel
theorem d_Ref_isTwo_9 : decode M_Ref_isTwo.2.1 9 = .ok (.i2l, 1) := by decide +kernel
theorem d_Ref_isTwo_10 : decode M_Ref_isTwo.2.1 10 = .ok (.invokestatic 111, 3) := by decide +kernel
theorem d_Ref_isTwo_13 : decode M_Ref_isTwo.2.1 13 = .ok (.ireturn, 1) := by decide +kernel
theorem d_Ref_twoDigit_0 : decode M_Ref_twoDigit.2.1 0 = .ok (.aload_n 0, 1) := by decide +kernel
theorem d_Ref_twoDigit_1 : decode M_Ref_twoDigit.2.1 1 = .ok (.iload_n 1, 1) := by decide +kernel
theorem d_Ref_twoDigit_2 : decode M_Ref_twoDigit.2.1 2 = .ok (.invokevirtual 339, 3) := by decide +kernel
theorem d_Ref_twoDigit_5 : decode M_Ref_twoDigit.2.1 5 = .ok (.ifCond .eq 37, 3) := by decide +kernel
theorem d_Ref_twoDigit_8 : decode M_Ref_twoDigit.2.1 8 = .ok (.iload_n 2, 1) := by decide +kernel
theorem d_Ref_twoDigit_9 : decode M_Ref_twoDigit.2.1 9 = .ok (.i2l, 1) := by decide +kernel
theorem d_Ref_twoDigit_10 : decode M_Ref_twoDigit.2.1 10 = .ok (.lconst 0, 1) := by decide +kernel
theorem d_Ref_twoDigit_11 : decode M_Ref_twoDigit.2.1 11 = .ok (.aload_n 0, 1) := by decide +kernel
theorem d_Ref_twoDigit_12 : decode M_Ref_twoDigit.2.1 12 = .ok (.getfield 37, 3) := by decide +kernel
theorem d_Ref_twoDigit_15 : decode M_Ref_twoDigit.2.1 15 = .ok (.iload_n 1, 1) := by decide +kernel
theorem d_Ref_twoDigit_16 : decode M_Ref_twoDigit.2.1 16 = .ok (.iaload, 1) := by decide +kernel
theorem d_Ref_twoDigit_17 : decode M_Ref_twoDigit.2.1 17 = .ok (.invokestatic 105, 3) := by decide +kernel
theorem d_Ref_twoDigit_20 : decode M_Ref_twoDigit.2.1 20 = .ok (.iconst 1, 1) := by decide +kernel
theorem d_Ref_twoDigit_21 : decode M_Ref_twoDigit.2.1 21 = .ok (.isub, 1) := by decide +kernel
theorem d_Ref_twoDigit_22 : decode M_Ref_twoDigit.2.1 22 = .ok (.i2l, 1) := by decide +kernel
theorem d_Ref_twoDigit_23 : decode M_Ref_twoDigit.2.1 23 = .ok (.invokestatic 111, 3) := by decide +kernel
theorem d_Ref_twoDigit_26 : decode M_Ref_twoDigit.2.1 26 = .ok (.ifCond .eq 16, 3) := by decide +kernel
theorem d_Ref_twoDigit_29 : decode M_Ref_twoDigit.2.1 29 = .ok (.aload_n 0, 1) := by decide +kernel
theorem d_Ref_twoDigit_30 : decode M_Ref_twoDigit.2.1 30 = .ok (.getfield 37, 3) := by decide +kernel
theorem d_Ref_twoDigit_33 : decode M_Ref_twoDigit.2.1 33 = .ok (.iload_n 1, 1) := by decide +kernel
theorem d_Ref_twoDigit_34 : decode M_Ref_twoDigit.2.1 34 = .ok (.iaload, 1) := by decide +kernel
theorem d_Ref_twoDigit_35 : decode M_Ref_twoDigit.2.1 35 = .ok (.iload_n 2, 1) := by decide +kernel
theorem d_Ref_twoDigit_36 : decode M_Ref_twoDigit.2.1 36 = .ok (.invokestatic 115, 3) := by decide +kernel
theorem d_Ref_twoDigit_39 : decode M_Ref_twoDigit.2.1 39 = .ok (.goto 4, 3) := by decide +kernel
theorem d_Ref_twoDigit_42 : decode M_Ref_twoDigit.2.1 42 = .ok (.iconst (-1), 1) := by decide +kernel
theorem d_Ref_twoDigit_43 : decode M_Ref_twoDigit.2.1 43 = .ok (.ireturn, 1) := by decide +kernel
theorem d_Ref_twosAgree_0 : decode M_Ref_twosAgree.2.1 0 = .ok (.iload_n 1, 1) := by decide +kernel
theorem d_Ref_twosAgree_1 : decode M_Ref_twosAgree.2.1 1 = .ok (.i2l, 1) := by decide +kernel
theorem d_Ref_twosAgree_2 : decode M_Ref_twosAgree.2.1 2 = .ok (.lconst 0, 1) := by decide +kernel
theorem d_Ref_twosAgree_3 : decode M_Ref_twosAgree.2.1 3 = .ok (.ldc2_w 311, 3) := by decide +kernel
theorem d_Ref_twosAgree_6 : decode M_Ref_twosAgree.2.1 6 = .ok (.invokestatic 111, 3) := by decide +kernel
theorem d_Ref_twosAgree_9 : decode M_Ref_twosAgree.2.1 9 = .ok (.ifCond .ne 5, 3) := by decide +kernel
theorem d_Ref_twosAgree_12 : decode M_Ref_twosAgree.2.1 12 = .ok (.iconst 0, 1) := by decide +kernel
theorem d_Ref_twosAgree_13 : decode M_Ref_twosAgree.2.1 13 = .ok (.ireturn, 1) := by decide +kernel
theorem d_Ref_twosAgree_14 : decode M_Ref_twosAgree.2.1 14 = .ok (.iconst 0, 1) := by decide +kernel
theorem d_Ref_twosAgree_15 : decode M_Ref_twosAgree.2.1 15 = .ok (.istore_n 2, 1) := by decide +kernel
theorem d_Ref_twosAgree_16 : decode M_Ref_twosAgree.2.1 16 = .ok (.iconst 1, 1) := by decide +kernel
theorem d_Ref_twosAgree_17 : decode M_Ref_twosAgree.2.1 17 = .ok (.istore_n 3, 1) := by decide +kernel
theorem d_Ref_twosAgree_18 : decode M_Ref_twosAgree.2.1 18 = .ok (.iload_n 3, 1) := by decide +kernel
theorem d_Ref_twosAgree_19 : decode M_Ref_twosAgree.2.1 19 = .ok (.iconst 2, 1) := by decide +kernel
theorem d_Ref_twosAgree_20 : decode M_Ref_twosAgree.2.1 20 = .ok (.iadd, 1) := by decide +kernel
theorem d_Ref_twosAgree_21 : decode M_Ref_twosAgree.2.1 21 = .ok (.iload_n 1, 1) := by decide +kernel
theorem d_Ref_twosAgree_22 : decode M_Ref_twosAgree.2.1 22 = .ok (.if_icmp .gt 53, 3) := by decide +kernel
theorem d_Ref_twosAgree_25 : decode M_Ref_twosAgree.2.1 25 = .ok (.aload_n 0, 1) := by decide +kernel
theorem d_Ref_twosAgree_26 : decode M_Ref_twosAgree.2.1 26 = .ok (.iload_n 3, 1) := by decide +kernel
theorem d_Ref_twosAgree_27 : decode M_Ref_twosAgree.2.1 27 = .ok (.invokevirtual 183, 3) := by decide +kernel
theorem d_Ref_twosAgree_30 : decode M_Ref_twosAgree.2.1 30 = .ok (.ifCond .eq 39, 3) := by decide +kernel
theorem d_Ref_twosAgree_33 : decode M_Ref_twosAgree.2.1 33 = .ok (.aload_n 0, 1) := by decide +kernel
theorem d_Ref_twosAgree_34 : decode M_Ref_twosAgree.2.1 34 = .ok (.iload_n 3, 1) := by decide +kernel
theorem d_Ref_twosAgree_35 : decode M_Ref_twosAgree.2.1 35 = .ok (.iconst 2, 1) := by decide +kernel
theorem d_Ref_twosAgree_36 : decode M_Ref_twosAgree.2.1 36 = .ok (.iadd, 1) := by decide +kernel
theorem d_Ref_twosAgree_37 : decode M_Ref_twosAgree.2.1 37 = .ok (.invokevirtual 183, 3) := by decide +kernel
theorem d_Ref_twosAgree_40 : decode M_Ref_twosAgree.2.1 40 = .ok (.ifCond .ne 6, 3) := by decide +kernel
theorem d_Ref_twosAgree_43 : decode M_Ref_twosAgree.2.1 43 = .ok (.goto 26, 3) := by decide +kernel
theorem d_Ref_twosAgree_46 : decode M_Ref_twosAgree.2.1 46 = .ok (.iload_n 2, 1) := by decide +kernel
theorem d_Ref_twosAgree_47 : decode M_Ref_twosAgree.2.1 47 = .ok (.aload_n 0, 1) := by decide +kernel
theorem d_Ref_twosAgree_48 : decode M_Ref_twosAgree.2.1 48 = .ok (.getfield 170, 3) := by decide +kernel
theorem d_Ref_twosAgree_51 : decode M_Ref_twosAgree.2.1 51 = .ok (.if_icmp .eq 13, 3) := by decide +kernel
theorem d_Ref_twosAgree_54 : decode M_Ref_twosAgree.2.1 54 = .ok (.aload_n 0, 1) := by decide +kernel
theorem d_Ref_twosAgree_55 : decode M_Ref_twosAgree.2.1 55 = .ok (.getfield 37, 3) := by decide +kernel
theorem d_Ref_twosAgree_58 : decode M_Ref_twosAgree.2.1 58 = .ok (.iload_n 2, 1) := by decide +kernel
theorem d_Ref_twosAgree_59 : decode M_Ref_twosAgree.2.1 59 = .ok (.iaload, 1) := by decide +kernel
theorem d_Ref_twosAgree_60 : decode M_Ref_twosAgree.2.1 60 = .ok (.iload_n 3, 1) := by decide +kernel
theorem d_Ref_twosAgree_61 : decode M_Ref_twosAgree.2.1 61 = .ok (.if_icmp .eq 5, 3) := by decide +kernel
theorem d_Ref_twosAgree_64 : decode M_Ref_twosAgree.2.1 64 = .ok (.iconst 0, 1) := by decide +kernel
theorem d_Ref_twosAgree_65 : decode M_Ref_twosAgree.2.1 65 = .ok (.ireturn, 1) := by decide +kernel
theorem d_Ref_twosAgree_66 : decode M_Ref_twosAgree.2.1 66 = .ok (.iinc 2 1, 3) := by decide +kernel
theorem d_Ref_twosAgree_69 : decode M_Ref_twosAgree.2.1 69 = .ok (.iinc 3 1, 3) := by decide +kernel
theorem d_Ref_twosAgree_72 : decode M_Ref_twosAgree.2.1 72 = .ok (.goto (-54), 3) := by decide +kernel
theorem d_Ref_twosAgree_75 : decode M_Ref_twosAgree.2.1 75 = .ok (.iload_n 2, 1) := by decide +kernel
theorem d_Ref_twosAgree_76 : decode M_Ref_twosAgree.2.1 76 = .ok (.aload_n 0, 1) := by decide +kernel
theorem d_Ref_twosAgree_77 : decode M_Ref_twosAgree.2.1 77 = .ok (.getfield 170, 3) := by decide +kernel
theorem d_Ref_twosAgree_80 : decode M_Ref_twosAgree.2.1 80 = .ok (.if_icmp .eq 15, 3) := by decide +kernel
theorem d_Ref_twosAgree_83 : decode M_Ref_twosAgree.2.1 83 = .ok (.aload_n 0, 1) := by decide +kernel
theorem d_Ref_twosAgree_84 : decode M_Ref_twosAgree.2.1 84 = .ok (.getfield 37, 3) := by decide +kernel
theorem d_Ref_twosAgree_87 : decode M_Ref_twosAgree.2.1 87 = .ok (.iload_n 2, 1) := by decide +kernel
theorem d_Ref_twosAgree_88 : decode M_Ref_twosAgree.2.1 88 = .ok (.iaload, 1) := by decide +kernel
theorem d_Ref_twosAgree_89 : decode M_Ref_twosAgree.2.1 89 = .ok (.iconst 2, 1) := by decide +kernel
theorem d_Ref_twosAgree_90 : decode M_Ref_twosAgree.2.1 90 = .ok (.iadd, 1) := by decide +kernel
theorem d_Ref_twosAgree_91 : decode M_Ref_twosAgree.2.1 91 = .ok (.iload_n 1, 1) := by decide +kernel
theorem d_Ref_twosAgree_92 : decode M_Ref_twosAgree.2.1 92 = .ok (.if_icmp .le 7, 3) := by decide +kernel
theorem d_Ref_twosAgree_95 : decode M_Ref_twosAgree.2.1 95 = .ok (.iconst 1, 1) := by decide +kernel
theorem d_Ref_twosAgree_96 : decode M_Ref_twosAgree.2.1 96 = .ok (.goto 4, 3) := by decide +kernel
theorem d_Ref_twosAgree_99 : decode M_Ref_twosAgree.2.1 99 = .ok (.iconst 0, 1) := by decide +kernel
theorem d_Ref_twosAgree_100 : decode M_Ref_twosAgree.2.1 100 = .ok (.ireturn, 1) := by decide +kernel
theorem d_Ref_threes_0 : decode M_Ref_threes.2.1 0 = .ok (.iconst 0, 1) := by decide +kernel
theorem d_Ref_threes_1 : decode M_Ref_threes.2.1 1 = .ok (.istore_n 1, 1) := by decide +kernel
theorem d_Ref_threes_2 : decode M_Ref_threes.2.1 2 = .ok (.iconst 0, 1) := by decide +kernel
theorem d_Ref_threes_3 : decode M_Ref_threes.2.1 3 = .ok (.istore_n 2, 1) := by decide +kernel
theorem d_Ref_threes_4 : decode M_Ref_threes.2.1 4 = .ok (.iload_n 2, 1) := by decide +kernel
theorem d_Ref_threes_5 : decode M_Ref_threes.2.1 5 = .ok (.iconst 1, 1) := by decide +kernel
theorem d_Ref_threes_6 : decode M_Ref_threes.2.1 6 = .ok (.iadd, 1) := by decide +kernel
theorem d_Ref_threes_7 : decode M_Ref_threes.2.1 7 = .ok (.aload_n 0, 1) := by decide +kernel
theorem d_Ref_threes_8 : decode M_Ref_threes.2.1 8 = .ok (.getfield 167, 3) := by decide +kernel
theorem d_Ref_threes_11 : decode M_Ref_threes.2.1 11 = .ok (.if_icmp .ge 36, 3) := by decide +kernel
theorem d_Ref_threes_14 : decode M_Ref_threes.2.1 14 = .ok (.iload_n 1, 1) := by decide +kernel
theorem d_Ref_threes_15 : decode M_Ref_threes.2.1 15 = .ok (.aload_n 0, 1) := by decide +kernel
theorem d_Ref_threes_16 : decode M_Ref_threes.2.1 16 = .ok (.getfield 28, 3) := by decide +kernel
theorem d_Ref_threes_19 : decode M_Ref_threes.2.1 19 = .ok (.iload_n 2, 1) := by decide +kernel
theorem d_Ref_threes_20 : decode M_Ref_threes.2.1 20 = .ok (.iconst 1, 1) := by decide +kernel
theorem d_Ref_threes_21 : decode M_Ref_threes.2.1 21 = .ok (.iadd, 1) := by decide +kernel
theorem d_Ref_threes_22 : decode M_Ref_threes.2.1 22 = .ok (.iaload, 1) := by decide +kernel
theorem d_Ref_threes_23 : decode M_Ref_threes.2.1 23 = .ok (.aload_n 0, 1) := by decide +kernel
theorem d_Ref_threes_24 : decode M_Ref_threes.2.1 24 = .ok (.getfield 28, 3) := by decide +kernel
theorem d_Ref_threes_27 : decode M_Ref_threes.2.1 27 = .ok (.iload_n 2, 1) := by decide +kernel
theorem d_Ref_threes_28 : decode M_Ref_threes.2.1 28 = .ok (.iaload, 1) := by decide +kernel
theorem d_Ref_threes_29 : decode M_Ref_threes.2.1 29 = .ok (.iconst 1, 1) := by decide +kernel
theorem d_Ref_threes_30 : decode M_Ref_threes.2.1 30 = .ok (.iadd, 1) := by decide +kernel
theorem d_Ref_threes_31 : decode M_Ref_threes.2.1 31 = .ok (.if_icmp .ne 7, 3) := by decide +kernel
theorem d_Ref_threes_34 : decode M_Ref_threes.2.1 34 = .ok (.iconst 1, 1) := by decide +kernel
theorem d_Ref_threes_35 : decode M_Ref_threes.2.1 35 = .ok (.goto 4, 3) := by decide +kernel
theorem d_Ref_threes_38 : decode M_Ref_threes.2.1 38 = .ok (.iconst 0, 1) := by decide +kernel
theorem d_Ref_threes_39 : decode M_Ref_threes.2.1 39 = .ok (.iadd, 1) := by decide +kernel
theorem d_Ref_threes_40 : decode M_Ref_threes.2.1 40 = .ok (.istore_n 1, 1) := by decide +kernel
theorem d_Ref_threes_41 : decode M_Ref_threes.2.1 41 = .ok (.iinc 2 1, 3) := by decide +kernel
theorem d_Ref_threes_44 : decode M_Ref_threes.2.1 44 = .ok (.goto (-40), 3) := by decide +kernel
theorem d_Ref_threes_47 : decode M_Ref_threes.2.1 47 = .ok (.iload_n 1, 1) := by decide +kernel
theorem d_Ref_threes_48 : decode M_Ref_threes.2.1 48 = .ok (.ireturn, 1) := by decide +kernel
theorem d_Ref_half_0 : decode M_Ref_half.2.1 0 = .ok (.aload_n 0, 1) := by decide +kernel
theorem d_Ref_half_1 : decode M_Ref_half.2.1 1 = .ok (.iload_n 1, 1) := by decide +kernel
theorem d_Ref_half_2 : decode M_Ref_half.2.1 2 = .ok (.invokevirtual 242, 3) := by decide +kernel
theorem d_Ref_half_5 : decode M_Ref_half.2.1 5 = .ok (.ifCond .eq 21, 3) := by decide +kernel
theorem d_Ref_half_8 : decode M_Ref_half.2.1 8 = .ok (.aload_n 0, 1) := by decide +kernel
theorem d_Ref_half_9 : decode M_Ref_half.2.1 9 = .ok (.iload_n 1, 1) := by decide +kernel
theorem d_Ref_half_10 : decode M_Ref_half.2.1 10 = .ok (.invokevirtual 160, 3) := by decide +kernel
theorem d_Ref_half_13 : decode M_Ref_half.2.1 13 = .ok (.ifCond .eq 13, 3) := by decide +kernel
theorem d_Ref_half_16 : decode M_Ref_half.2.1 16 = .ok (.iload_n 2, 1) := by decide +kernel
theorem d_Ref_half_17 : decode M_Ref_half.2.1 17 = .ok (.i2l, 1) := by decide +kernel
theorem d_Ref_half_18 : decode M_Ref_half.2.1 18 = .ok (.lconst 0, 1) := by decide +kernel
theorem d_Ref_half_19 : decode M_Ref_half.2.1 19 = .ok (.lconst 1, 1) := by decide +kernel
theorem d_Ref_half_20 : decode M_Ref_half.2.1 20 = .ok (.invokestatic 111, 3) := by decide +kernel
theorem d_Ref_half_23 : decode M_Ref_half.2.1 23 = .ok (.ifCond .ne 5, 3) := by decide +kernel
theorem d_Ref_half_26 : decode M_Ref_half.2.1 26 = .ok (.iconst (-1), 1) := by decide +kernel
theorem d_Ref_half_27 : decode M_Ref_half.2.1 27 = .ok (.ireturn, 1) := by decide +kernel
theorem d_Ref_half_28 : decode M_Ref_half.2.1 28 = .ok (.aload_n 0, 1) := by decide +kernel
theorem d_Ref_half_29 : decode M_Ref_half.2.1 29 = .ok (.iload_n 1, 1) := by decide +kernel
theorem d_Ref_half_30 : decode M_Ref_half.2.1 30 = .ok (.sipush 129, 3) := by decide +kernel
theorem d_Ref_half_33 : decode M_Ref_half.2.1 33 = .ok (.sipush 130, 3) := by decide +kernel
theorem d_Ref_half_36 : decode M_Ref_half.2.1 36 = .ok (.invokevirtual 156, 3) := by decide +kernel
theorem d_Ref_half_39 : decode M_Ref_half.2.1 39 = .ok (.aload_n 0, 1) := by decide +kernel
theorem d_Ref_half_40 : decode M_Ref_half.2.1 40 = .ok (.iload_n 2, 1) := by decide +kernel
theorem d_Ref_half_41 : decode M_Ref_half.2.1 41 = .ok (.ifCond .ne 9, 3) := by decide +kernel
theorem d_Ref_half_44 : decode M_Ref_half.2.1 44 = .ok (.sipush 129, 3) := by decide +kernel
theorem d_Ref_half_47 : decode M_Ref_half.2.1 47 = .ok (.goto 6, 3) := by decide +kernel
theorem d_Ref_half_50 : decode M_Ref_half.2.1 50 = .ok (.sipush 130, 3) := by decide +kernel
theorem d_Ref_half_53 : decode M_Ref_half.2.1 53 = .ok (.iload_n 3, 1) := by decide +kernel
theorem d_Ref_half_54 : decode M_Ref_half.2.1 54 = .ok (.invokevirtual 251, 3) := by decide +kernel
theorem d_Ref_half_57 : decode M_Ref_half.2.1 57 = .ok (.ireturn, 1) := by decide +kernel
theorem d_Ref_number_0 : decode M_Ref_number.2.1 0 = .ok (.aload_n 0, 1) := by decide +kernel
theorem d_Ref_number_1 : decode M_Ref_number.2.1 1 = .ok (.getfield 342, 3) := by decide +kernel
theorem d_Ref_number_4 : decode M_Ref_number.2.1 4 = .ok (.istore_n 1, 1) := by decide +kernel
theorem d_Ref_number_5 : decode M_Ref_number.2.1 5 = .ok (.aload_n 0, 1) := by decide +kernel
theorem d_Ref_number_6 : decode M_Ref_number.2.1 6 = .ok (.iconst 0, 1) := by decide +kernel
theorem d_Ref_number_7 : decode M_Ref_number.2.1 7 = .ok (.putfield 342, 3) := by decide +kernel
theorem d_Ref_number_10 : decode M_Ref_number.2.1 10 = .ok (.aload_n 0, 1) := by decide +kernel
theorem d_Ref_number_11 : decode M_Ref_number.2.1 11 = .ok (.iload_n 1, 1) := by decide +kernel
theorem d_Ref_number_12 : decode M_Ref_number.2.1 12 = .ok (.invokevirtual 345, 3) := by decide +kernel
theorem d_Ref_number_15 : decode M_Ref_number.2.1 15 = .ok (.ifCond .ne 5, 3) := by decide +kernel
theorem d_Ref_number_18 : decode M_Ref_number.2.1 18 = .ok (.iconst (-1), 1) := by decide +kernel
theorem d_Ref_number_19 : decode M_Ref_number.2.1 19 = .ok (.ireturn, 1) := by decide +kernel
theorem d_Ref_number_20 : decode M_Ref_number.2.1 20 = .ok (.aload_n 0, 1) := by decide +kernel
theorem d_Ref_number_21 : decode M_Ref_number.2.1 21 = .ok (.bipush 126, 2) := by decide +kernel
theorem d_Ref_number_23 : decode M_Ref_number.2.1 23 = .ok (.iconst 0, 1) := by decide +kernel
theorem d_Ref_number_24 : decode M_Ref_number.2.1 24 = .ok (.invokevirtual 69, 3) := by decide +kernel
theorem d_Ref_number_27 : decode M_Ref_number.2.1 27 = .ok (.iconst 0, 1) := by decide +kernel
theorem d_Ref_number_28 : decode M_Ref_number.2.1 28 = .ok (.istore_n 2, 1) := by decide +kernel
theorem d_Ref_number_29 : decode M_Ref_number.2.1 29 = .ok (.iload_n 2, 1) := by decide +kernel
theorem d_Ref_number_30 : decode M_Ref_number.2.1 30 = .ok (.iload_n 1, 1) := by decide +kernel
theorem d_Ref_number_31 : decode M_Ref_number.2.1 31 = .ok (.if_icmp .ge 46, 3) := by decide +kernel
theorem d_Ref_number_34 : decode M_Ref_number.2.1 34 = .ok (.aload_n 0, 1) := by decide +kernel
theorem d_Ref_number_35 : decode M_Ref_number.2.1 35 = .ok (.bipush 127, 2) := by decide +kernel
theorem d_Ref_number_37 : decode M_Ref_number.2.1 37 = .ok (.aload_n 0, 1) := by decide +kernel
theorem d_Ref_number_38 : decode M_Ref_number.2.1 38 = .ok (.getfield 66, 3) := by decide +kernel
theorem d_Ref_number_41 : decode M_Ref_number.2.1 41 = .ok (.iload_n 2, 1) := by decide +kernel
theorem d_Ref_number_42 : decode M_Ref_number.2.1 42 = .ok (.baload, 1) := by decide +kernel
theorem d_Ref_number_43 : decode M_Ref_number.2.1 43 = .ok (.bipush 48, 2) := by decide +kernel
theorem d_Ref_number_45 : decode M_Ref_number.2.1 45 = .ok (.isub, 1) := by decide +kernel
theorem d_Ref_number_46 : decode M_Ref_number.2.1 46 = .ok (.invokevirtual 69, 3) := by decide +kernel
theorem d_Ref_number_49 : decode M_Ref_number.2.1 49 = .ok (.aload_n 0, 1) := by decide +kernel
theorem d_Ref_number_50 : decode M_Ref_number.2.1 50 = .ok (.bipush 126, 2) := by decide +kernel
theorem d_Ref_number_52 : decode M_Ref_number.2.1 52 = .ok (.bipush 10, 2) := by decide +kernel
theorem d_Ref_number_54 : decode M_Ref_number.2.1 54 = .ok (.bipush 127, 2) := by decide +kernel
theorem d_Ref_number_56 : decode M_Ref_number.2.1 56 = .ok (.sipush 128, 3) := by decide +kernel
theorem d_Ref_number_59 : decode M_Ref_number.2.1 59 = .ok (.invokevirtual 149, 3) := by decide +kernel
theorem d_Ref_number_62 : decode M_Ref_number.2.1 62 = .ok (.aload_n 0, 1) := by decide +kernel
theorem d_Ref_number_63 : decode M_Ref_number.2.1 63 = .ok (.sipush 128, 3) := by decide +kernel
theorem d_Ref_number_66 : decode M_Ref_number.2.1 66 = .ok (.bipush 126, 2) := by decide +kernel
theorem d_Ref_number_68 : decode M_Ref_number.2.1 68 = .ok (.invokevirtual 153, 3) := by decide +kernel
theorem d_Ref_number_71 : decode M_Ref_number.2.1 71 = .ok (.iinc 2 1, 3) := by decide +kernel
theorem d_Ref_number_74 : decode M_Ref_number.2.1 74 = .ok (.goto (-45), 3) := by decide +kernel
theorem d_Ref_number_77 : decode M_Ref_number.2.1 77 = .ok (.aload_n 0, 1) := by decide +kernel
theorem d_Ref_number_78 : decode M_Ref_number.2.1 78 = .ok (.bipush 126, 2) := by decide +kernel
theorem d_Ref_number_80 : decode M_Ref_number.2.1 80 = .ok (.sipush 131, 3) := by decide +kernel
theorem d_Ref_number_83 : decode M_Ref_number.2.1 83 = .ok (.invokevirtual 153, 3) := by decide +kernel
theorem d_Ref_number_86 : decode M_Ref_number.2.1 86 = .ok (.iload_n 1, 1) := by decide +kernel
theorem d_Ref_number_87 : decode M_Ref_number.2.1 87 = .ok (.ireturn, 1) := by decide +kernel
theorem d_Ref_isNumber_0 : decode M_Ref_isNumber.2.1 0 = .ok (.iload_n 1, 1) := by decide +kernel
theorem d_Ref_isNumber_1 : decode M_Ref_isNumber.2.1 1 = .ok (.iconst 1, 1) := by decide +kernel
theorem d_Ref_isNumber_2 : decode M_Ref_isNumber.2.1 2 = .ok (.if_icmp .lt 21, 3) := by decide +kernel
theorem d_Ref_isNumber_5 : decode M_Ref_isNumber.2.1 5 = .ok (.iload_n 1, 1) := by decide +kernel
theorem d_Ref_isNumber_6 : decode M_Ref_isNumber.2.1 6 = .ok (.sipush 300, 3) := by decide +kernel
theorem d_Ref_isNumber_9 : decode M_Ref_isNumber.2.1 9 = .ok (.if_icmp .gt 14, 3) := by decide +kernel
theorem d_Ref_isNumber_12 : decode M_Ref_isNumber.2.1 12 = .ok (.aload_n 0, 1) := by decide +kernel
theorem d_Ref_isNumber_13 : decode M_Ref_isNumber.2.1 13 = .ok (.getfield 66, 3) := by decide +kernel
theorem d_Ref_isNumber_16 : decode M_Ref_isNumber.2.1 16 = .ok (.iconst 0, 1) := by decide +kernel
theorem d_Ref_isNumber_17 : decode M_Ref_isNumber.2.1 17 = .ok (.baload, 1) := by decide +kernel
theorem d_Ref_isNumber_18 : decode M_Ref_isNumber.2.1 18 = .ok (.bipush 48, 2) := by decide +kernel
theorem d_Ref_isNumber_20 : decode M_Ref_isNumber.2.1 20 = .ok (.if_icmp .ne 5, 3) := by decide +kernel
theorem d_Ref_isNumber_23 : decode M_Ref_isNumber.2.1 23 = .ok (.iconst 0, 1) := by decide +kernel
theorem d_Ref_isNumber_24 : decode M_Ref_isNumber.2.1 24 = .ok (.ireturn, 1) := by decide +kernel
theorem d_Ref_isNumber_25 : decode M_Ref_isNumber.2.1 25 = .ok (.iconst 0, 1) := by decide +kernel
theorem d_Ref_isNumber_26 : decode M_Ref_isNumber.2.1 26 = .ok (.istore_n 2, 1) := by decide +kernel
theorem d_Ref_isNumber_27 : decode M_Ref_isNumber.2.1 27 = .ok (.iload_n 2, 1) := by decide +kernel
theorem d_Ref_isNumber_28 : decode M_Ref_isNumber.2.1 28 = .ok (.iload_n 1, 1) := by decide +kernel
theorem d_Ref_isNumber_29 : decode M_Ref_isNumber.2.1 29 = .ok (.if_icmp .ge 33, 3) := by decide +kernel
theorem d_Ref_isNumber_32 : decode M_Ref_isNumber.2.1 32 = .ok (.aload_n 0, 1) := by decide +kernel
theorem d_Ref_isNumber_33 : decode M_Ref_isNumber.2.1 33 = .ok (.getfield 66, 3) := by decide +kernel
theorem d_Ref_isNumber_36 : decode M_Ref_isNumber.2.1 36 = .ok (.iload_n 2, 1) := by decide +kernel
theorem d_Ref_isNumber_37 : decode M_Ref_isNumber.2.1 37 = .ok (.baload, 1) := by decide +kernel
theorem d_Ref_isNumber_38 : decode M_Ref_isNumber.2.1 38 = .ok (.bipush 48, 2) := by decide +kernel
theorem d_Ref_isNumber_40 : decode M_Ref_isNumber.2.1 40 = .ok (.if_icmp .lt 14, 3) := by decide +kernel
theorem d_Ref_isNumber_43 : decode M_Ref_isNumber.2.1 43 = .ok (.aload_n 0, 1) := by decide +kernel
theorem d_Ref_isNumber_44 : decode M_Ref_isNumber.2.1 44 = .ok (.getfield 66, 3) := by decide +kernel
theorem d_Ref_isNumber_47 : decode M_Ref_isNumber.2.1 47 = .ok (.iload_n 2, 1) := by decide +kernel
theorem d_Ref_isNumber_48 : decode M_Ref_isNumber.2.1 48 = .ok (.baload, 1) := by decide +kernel
theorem d_Ref_isNumber_49 : decode M_Ref_isNumber.2.1 49 = .ok (.bipush 57, 2) := by decide +kernel
theorem d_Ref_isNumber_51 : decode M_Ref_isNumber.2.1 51 = .ok (.if_icmp .le 5, 3) := by decide +kernel
theorem d_Ref_isNumber_54 : decode M_Ref_isNumber.2.1 54 = .ok (.iconst 0, 1) := by decide +kernel
theorem d_Ref_isNumber_55 : decode M_Ref_isNumber.2.1 55 = .ok (.ireturn, 1) := by decide +kernel
theorem d_Ref_isNumber_56 : decode M_Ref_isNumber.2.1 56 = .ok (.iinc 2 1, 3) := by decide +kernel
theorem d_Ref_isNumber_59 : decode M_Ref_isNumber.2.1 59 = .ok (.goto (-32), 3) := by decide +kernel
theorem d_Ref_isNumber_62 : decode M_Ref_isNumber.2.1 62 = .ok (.iconst 1, 1) := by decide +kernel
theorem d_Ref_isNumber_63 : decode M_Ref_isNumber.2.1 63 = .ok (.ireturn, 1) := by decide +kernel
theorem d_Ref_inNumber_0 : decode M_Ref_inNumber.2.1 0 = .ok (.aload_n 0, 1) := by decide +kernel
theorem d_Ref_inNumber_1 : decode M_Ref_inNumber.2.1 1 = .ok (.iload_n 1, 1) := by decide +kernel
theorem d_Ref_inNumber_2 : decode M_Ref_inNumber.2.1 2 = .ok (.invokevirtual 77, 3) := by decide +kernel
theorem d_Ref_inNumber_5 : decode M_Ref_inNumber.2.1 5 = .ok (.iconst (-1), 1) := by decide +kernel
theorem d_Ref_inNumber_6 : decode M_Ref_inNumber.2.1 6 = .ok (.if_icmp .eq 13, 3) := by decide +kernel
theorem d_Ref_inNumber_9 : decode M_Ref_inNumber.2.1 9 = .ok (.iload_n 2, 1) := by decide +kernel
theorem d_Ref_inNumber_10 : decode M_Ref_inNumber.2.1 10 = .ok (.i2l, 1) := by decide +kernel
theorem d_Ref_inNumber_11 : decode M_Ref_inNumber.2.1 11 = .ok (.lconst 0, 1) := by decide +kernel
theorem d_Ref_inNumber_12 : decode M_Ref_inNumber.2.1 12 = .ok (.lconst 1, 1) := by decide +kernel
theorem d_Ref_inNumber_13 : decode M_Ref_inNumber.2.1 13 = .ok (.invokestatic 111, 3) := by decide +kernel
theorem d_Ref_inNumber_16 : decode M_Ref_inNumber.2.1 16 = .ok (.ifCond .ne 5, 3) := by decide +kernel
theorem d_Ref_inNumber_19 : decode M_Ref_inNumber.2.1 19 = .ok (.iconst (-1), 1) := by decide +kernel
theorem d_Ref_inNumber_20 : decode M_Ref_inNumber.2.1 20 = .ok (.ireturn, 1) := by decide +kernel
theorem d_Ref_inNumber_21 : decode M_Ref_inNumber.2.1 21 = .ok (.aload_n 0, 1) := by decide +kernel
theorem d_Ref_inNumber_22 : decode M_Ref_inNumber.2.1 22 = .ok (.iload_n 2, 1) := by decide +kernel
theorem d_Ref_inNumber_23 : decode M_Ref_inNumber.2.1 23 = .ok (.invokevirtual 348, 3) := by decide +kernel
theorem d_Ref_inNumber_26 : decode M_Ref_inNumber.2.1 26 = .ok (.iconst 0, 1) := by decide +kernel
theorem d_Ref_inNumber_27 : decode M_Ref_inNumber.2.1 27 = .ok (.istore_n 3, 1) := by decide +kernel
theorem d_Ref_inNumber_28 : decode M_Ref_inNumber.2.1 28 = .ok (.aload_n 0, 1) := by decide +kernel
theorem d_Ref_inNumber_29 : decode M_Ref_inNumber.2.1 29 = .ok (.bipush 126, 2) := by decide +kernel
theorem d_Ref_inNumber_31 : decode M_Ref_inNumber.2.1 31 = .ok (.iload_n 1, 1) := by decide +kernel
theorem d_Ref_inNumber_32 : decode M_Ref_inNumber.2.1 32 = .ok (.invokevirtual 351, 3) := by decide +kernel
theorem d_Ref_inNumber_35 : decode M_Ref_inNumber.2.1 35 = .ok (.ifCond .eq 9, 3) := by decide +kernel
theorem d_Ref_inNumber_38 : decode M_Ref_inNumber.2.1 38 = .ok (.iinc 3 1, 3) := by decide +kernel
theorem d_Ref_inNumber_41 : decode M_Ref_inNumber.2.1 41 = .ok (.goto (-13), 3) := by decide +kernel
theorem d_Ref_inNumber_44 : decode M_Ref_inNumber.2.1 44 = .ok (.iload_n 3, 1) := by decide +kernel
theorem d_Ref_inNumber_45 : decode M_Ref_inNumber.2.1 45 = .ok (.ireturn, 1) := by decide +kernel
theorem d_Ref_bringNumber_0 : decode M_Ref_bringNumber.2.1 0 = .ok (.aload_n 0, 1) := by decide +kernel
theorem d_Ref_bringNumber_1 : decode M_Ref_bringNumber.2.1 1 = .ok (.bipush 127, 2) := by decide +kernel
theorem d_Ref_bringNumber_3 : decode M_Ref_bringNumber.2.1 3 = .ok (.iload_n 1, 1) := by decide +kernel
theorem d_Ref_bringNumber_4 : decode M_Ref_bringNumber.2.1 4 = .ok (.invokevirtual 69, 3) := by decide +kernel
theorem d_Ref_bringNumber_7 : decode M_Ref_bringNumber.2.1 7 = .ok (.aload_n 0, 1) := by decide +kernel
theorem d_Ref_bringNumber_8 : decode M_Ref_bringNumber.2.1 8 = .ok (.sipush 131, 3) := by decide +kernel
theorem d_Ref_bringNumber_11 : decode M_Ref_bringNumber.2.1 11 = .ok (.iconst 1, 1) := by decide +kernel
theorem d_Ref_bringNumber_12 : decode M_Ref_bringNumber.2.1 12 = .ok (.bipush 127, 2) := by decide +kernel
theorem d_Ref_bringNumber_14 : decode M_Ref_bringNumber.2.1 14 = .ok (.bipush 126, 2) := by decide +kernel
theorem d_Ref_bringNumber_16 : decode M_Ref_bringNumber.2.1 16 = .ok (.invokevirtual 149, 3) := by decide +kernel
theorem d_Ref_bringNumber_19 : decode M_Ref_bringNumber.2.1 19 = .ok (.return_, 1) := by decide +kernel
theorem d_Ref_divides_0 : decode M_Ref_divides.2.1 0 = .ok (.aload_n 0, 1) := by decide +kernel
theorem d_Ref_divides_1 : decode M_Ref_divides.2.1 1 = .ok (.iload_n 1, 1) := by decide +kernel
theorem d_Ref_divides_2 : decode M_Ref_divides.2.1 2 = .ok (.iload_n 2, 1) := by decide +kernel
theorem d_Ref_divides_3 : decode M_Ref_divides.2.1 3 = .ok (.invokevirtual 254, 3) := by decide +kernel
theorem d_Ref_divides_6 : decode M_Ref_divides.2.1 6 = .ok (.ifCond .eq 5, 3) := by decide +kernel
theorem d_Ref_divides_9 : decode M_Ref_divides.2.1 9 = .ok (.iconst 0, 1) := by decide +kernel
theorem d_Ref_divides_10 : decode M_Ref_divides.2.1 10 = .ok (.ireturn, 1) := by decide +kernel
theorem d_Ref_divides_11 : decode M_Ref_divides.2.1 11 = .ok (.iconst 0, 1) := by decide +kernel
theorem d_Ref_divides_12 : decode M_Ref_divides.2.1 12 = .ok (.istore_n 3, 1) := by decide +kernel
theorem d_Ref_divides_13 : decode M_Ref_divides.2.1 13 = .ok (.aload_n 0, 1) := by decide +kernel
theorem d_Ref_divides_14 : decode M_Ref_divides.2.1 14 = .ok (.iload_n 1, 1) := by decide +kernel
theorem d_Ref_divides_15 : decode M_Ref_divides.2.1 15 = .ok (.invokevirtual 93, 3) := by decide +kernel
theorem d_Ref_divides_18 : decode M_Ref_divides.2.1 18 = .ok (.istore 4, 2) := by decide +kernel
theorem d_Ref_divides_20 : decode M_Ref_divides.2.1 20 = .ok (.iload 4, 2) := by decide +kernel
theorem d_Ref_divides_22 : decode M_Ref_divides.2.1 22 = .ok (.iconst 1, 1) := by decide +kernel
theorem d_Ref_divides_23 : decode M_Ref_divides.2.1 23 = .ok (.isub, 1) := by decide +kernel
theorem d_Ref_divides_24 : decode M_Ref_divides.2.1 24 = .ok (.istore 5, 2) := by decide +kernel
theorem d_Ref_divides_26 : decode M_Ref_divides.2.1 26 = .ok (.iload 5, 2) := by decide +kernel
theorem d_Ref_divides_28 : decode M_Ref_divides.2.1 28 = .ok (.ifCond .lt 48, 3) := by decide +kernel
theorem d_Ref_divides_31 : decode M_Ref_divides.2.1 31 = .ok (.iload_n 3, 1) := by decide +kernel
theorem d_Ref_divides_32 : decode M_Ref_divides.2.1 32 = .ok (.sipush 10000, 3) := by decide +kernel
theorem d_Ref_divides_35 : decode M_Ref_divides.2.1 35 = .ok (.imul, 1) := by decide +kernel
theorem d_Ref_divides_36 : decode M_Ref_divides.2.1 36 = .ok (.aload_n 0, 1) := by decide +kernel
theorem d_Ref_divides_37 : decode M_Ref_divides.2.1 37 = .ok (.iload_n 1, 1) := by decide +kernel
theorem d_Ref_divides_38 : decode M_Ref_divides.2.1 38 = .ok (.iload 5, 2) := by decide +kernel
theorem d_Ref_divides_40 : decode M_Ref_divides.2.1 40 = .ok (.invokevirtual 96, 3) := by decide +kernel
theorem d_Ref_divides_43 : decode M_Ref_divides.2.1 43 = .ok (.iadd, 1) := by decide +kernel
theorem d_Ref_divides_44 : decode M_Ref_divides.2.1 44 = .ok (.istore 6, 2) := by decide +kernel
theorem d_Ref_divides_46 : decode M_Ref_divides.2.1 46 = .ok (.aload_n 0, 1) := by decide +kernel
theorem d_Ref_divides_47 : decode M_Ref_divides.2.1 47 = .ok (.getfield 13, 3) := by decide +kernel
theorem d_Ref_divides_50 : decode M_Ref_divides.2.1 50 = .ok (.sipush 130, 3) := by decide +kernel
theorem d_Ref_divides_53 : decode M_Ref_divides.2.1 53 = .ok (.iload_n 1, 1) := by decide +kernel
theorem d_Ref_divides_54 : decode M_Ref_divides.2.1 54 = .ok (.imul, 1) := by decide +kernel
theorem d_Ref_divides_55 : decode M_Ref_divides.2.1 55 = .ok (.iconst 1, 1) := by decide +kernel
theorem d_Ref_divides_56 : decode M_Ref_divides.2.1 56 = .ok (.iadd, 1) := by decide +kernel
theorem d_Ref_divides_57 : decode M_Ref_divides.2.1 57 = .ok (.iload 5, 2) := by decide +kernel
theorem d_Ref_divides_59 : decode M_Ref_divides.2.1 59 = .ok (.iadd, 1) := by decide +kernel
theorem d_Ref_divides_60 : decode M_Ref_divides.2.1 60 = .ok (.iload 6, 2) := by decide +kernel
theorem d_Ref_divides_62 : decode M_Ref_divides.2.1 62 = .ok (.iload_n 2, 1) := by decide +kernel
theorem d_Ref_divides_63 : decode M_Ref_divides.2.1 63 = .ok (.idiv, 1) := by decide +kernel
theorem d_Ref_divides_64 : decode M_Ref_divides.2.1 64 = .ok (.iastore, 1) := by decide +kernel
theorem d_Ref_divides_65 : decode M_Ref_divides.2.1 65 = .ok (.iload 6, 2) := by decide +kernel
theorem d_Ref_divides_67 : decode M_Ref_divides.2.1 67 = .ok (.iload_n 2, 1) := by decide +kernel
theorem d_Ref_divides_68 : decode M_Ref_divides.2.1 68 = .ok (.irem, 1) := by decide +kernel
theorem d_Ref_divides_69 : decode M_Ref_divides.2.1 69 = .ok (.istore_n 3, 1) := by decide +kernel
theorem d_Ref_divides_70 : decode M_Ref_divides.2.1 70 = .ok (.iinc 5 (-1), 3) := by decide +kernel
theorem d_Ref_divides_73 : decode M_Ref_divides.2.1 73 = .ok (.goto (-47), 3) := by decide +kernel
theorem d_Ref_divides_76 : decode M_Ref_divides.2.1 76 = .ok (.aload_n 0, 1) := by decide +kernel
theorem d_Ref_divides_77 : decode M_Ref_divides.2.1 77 = .ok (.iload_n 1, 1) := by decide +kernel
theorem d_Ref_divides_78 : decode M_Ref_divides.2.1 78 = .ok (.iload 4, 2) := by decide +kernel
theorem d_Ref_divides_80 : decode M_Ref_divides.2.1 80 = .ok (.invokevirtual 100, 3) := by decide +kernel
theorem d_Ref_divides_83 : decode M_Ref_divides.2.1 83 = .ok (.iconst 1, 1) := by decide +kernel
theorem d_Ref_divides_84 : decode M_Ref_divides.2.1 84 = .ok (.ireturn, 1) := by decide +kernel
theorem d_Ref_ofNumber_0 : decode M_Ref_ofNumber.2.1 0 = .ok (.iload_n 1, 1) := by decide +kernel
theorem d_Ref_ofNumber_1 : decode M_Ref_ofNumber.2.1 1 = .ok (.tableswitch 95 0 5 #[39, 52, 61, 70, 75, 84], 39) := by decide +kernel
theorem d_Ref_ofNumber_40 : decode M_Ref_ofNumber.2.1 40 = .ok (.aload_n 0, 1) := by decide +kernel
theorem d_Ref_ofNumber_41 : decode M_Ref_ofNumber.2.1 41 = .ok (.invokevirtual 357, 3) := by decide +kernel
theorem d_Ref_ofNumber_44 : decode M_Ref_ofNumber.2.1 44 = .ok (.ifCond .eq 7, 3) := by decide +kernel
theorem d_Ref_ofNumber_47 : decode M_Ref_ofNumber.2.1 47 = .ok (.iconst 1, 1) := by decide +kernel
theorem d_Ref_ofNumber_48 : decode M_Ref_ofNumber.2.1 48 = .ok (.goto 4, 3) := by decide +kernel
theorem d_Ref_ofNumber_51 : decode M_Ref_ofNumber.2.1 51 = .ok (.iconst 0, 1) := by decide +kernel
theorem d_Ref_ofNumber_52 : decode M_Ref_ofNumber.2.1 52 = .ok (.ireturn, 1) := by decide +kernel
theorem d_Ref_ofNumber_53 : decode M_Ref_ofNumber.2.1 53 = .ok (.aload_n 0, 1) := by decide +kernel
theorem d_Ref_ofNumber_54 : decode M_Ref_ofNumber.2.1 54 = .ok (.aload_n 0, 1) := by decide +kernel
theorem d_Ref_ofNumber_55 : decode M_Ref_ofNumber.2.1 55 = .ok (.invokevirtual 361, 3) := by decide +kernel
theorem d_Ref_ofNumber_58 : decode M_Ref_ofNumber.2.1 58 = .ok (.invokevirtual 364, 3) := by decide +kernel
theorem d_Ref_ofNumber_61 : decode M_Ref_ofNumber.2.1 61 = .ok (.ireturn, 1) := by decide +kernel
theorem d_Ref_ofNumber_62 : decode M_Ref_ofNumber.2.1 62 = .ok (.aload_n 0, 1) := by decide +kernel
theorem d_Ref_ofNumber_63 : decode M_Ref_ofNumber.2.1 63 = .ok (.aload_n 0, 1) := by decide +kernel
theorem d_Ref_ofNumber_64 : decode M_Ref_ofNumber.2.1 64 = .ok (.invokevirtual 361, 3) := by decide +kernel
theorem d_Ref_ofNumber_67 : decode M_Ref_ofNumber.2.1 67 = .ok (.invokevirtual 367, 3) := by decide +kernel
theorem d_Ref_ofNumber_70 : decode M_Ref_ofNumber.2.1 70 = .ok (.ireturn, 1) := by decide +kernel
theorem d_Ref_ofNumber_71 : decode M_Ref_ofNumber.2.1 71 = .ok (.aload_n 0, 1) := by decide +kernel
theorem d_Ref_ofNumber_72 : decode M_Ref_ofNumber.2.1 72 = .ok (.invokevirtual 354, 3) := by decide +kernel
theorem d_Ref_ofNumber_75 : decode M_Ref_ofNumber.2.1 75 = .ok (.ireturn, 1) := by decide +kernel
theorem d_Ref_ofNumber_76 : decode M_Ref_ofNumber.2.1 76 = .ok (.aload_n 0, 1) := by decide +kernel
theorem d_Ref_ofNumber_77 : decode M_Ref_ofNumber.2.1 77 = .ok (.aload_n 0, 1) := by decide +kernel
theorem d_Ref_ofNumber_78 : decode M_Ref_ofNumber.2.1 78 = .ok (.invokevirtual 361, 3) := by decide +kernel
theorem d_Ref_ofNumber_81 : decode M_Ref_ofNumber.2.1 81 = .ok (.invokevirtual 370, 3) := by decide +kernel
theorem d_Ref_ofNumber_84 : decode M_Ref_ofNumber.2.1 84 = .ok (.ireturn, 1) := by decide +kernel
theorem d_Ref_ofNumber_85 : decode M_Ref_ofNumber.2.1 85 = .ok (.aload_n 0, 1) := by decide +kernel
theorem d_Ref_ofNumber_86 : decode M_Ref_ofNumber.2.1 86 = .ok (.sipush 131, 3) := by decide +kernel
theorem d_Ref_ofNumber_89 : decode M_Ref_ofNumber.2.1 89 = .ok (.sipush 9973, 3) := by decide +kernel
theorem d_Ref_ofNumber_92 : decode M_Ref_ofNumber.2.1 92 = .ok (.invokevirtual 254, 3) := by decide +kernel
theorem d_Ref_ofNumber_95 : decode M_Ref_ofNumber.2.1 95 = .ok (.ireturn, 1) := by decide +kernel
theorem d_Ref_ofNumber_96 : decode M_Ref_ofNumber.2.1 96 = .ok (.iconst (-1), 1) := by decide +kernel
theorem d_Ref_ofNumber_97 : decode M_Ref_ofNumber.2.1 97 = .ok (.ireturn, 1) := by decide +kernel
theorem d_Ref_isOneLeft_0 : decode M_Ref_isOneLeft.2.1 0 = .ok (.aload_n 0, 1) := by decide +kernel
theorem d_Ref_isOneLeft_1 : decode M_Ref_isOneLeft.2.1 1 = .ok (.invokevirtual 354, 3) := by decide +kernel
theorem d_Ref_isOneLeft_4 : decode M_Ref_isOneLeft.2.1 4 = .ok (.iconst 1, 1) := by decide +kernel
theorem d_Ref_isOneLeft_5 : decode M_Ref_isOneLeft.2.1 5 = .ok (.if_icmp .ne 18, 3) := by decide +kernel
theorem d_Ref_isOneLeft_8 : decode M_Ref_isOneLeft.2.1 8 = .ok (.aload_n 0, 1) := by decide +kernel
theorem d_Ref_isOneLeft_9 : decode M_Ref_isOneLeft.2.1 9 = .ok (.bipush 126, 2) := by decide +kernel
theorem d_Ref_isOneLeft_11 : decode M_Ref_isOneLeft.2.1 11 = .ok (.iconst 0, 1) := by decide +kernel
theorem d_Ref_isOneLeft_12 : decode M_Ref_isOneLeft.2.1 12 = .ok (.invokevirtual 96, 3) := by decide +kernel
theorem d_Ref_isOneLeft_15 : decode M_Ref_isOneLeft.2.1 15 = .ok (.iconst 1, 1) := by decide +kernel
theorem d_Ref_isOneLeft_16 : decode M_Ref_isOneLeft.2.1 16 = .ok (.if_icmp .ne 7, 3) := by decide +kernel
theorem d_Ref_isOneLeft_19 : decode M_Ref_isOneLeft.2.1 19 = .ok (.iconst 1, 1) := by decide +kernel
theorem d_Ref_isOneLeft_20 : decode M_Ref_isOneLeft.2.1 20 = .ok (.goto 4, 3) := by decide +kernel
theorem d_Ref_isOneLeft_23 : decode M_Ref_isOneLeft.2.1 23 = .ok (.iconst 0, 1) := by decide +kernel
theorem d_Ref_isOneLeft_24 : decode M_Ref_isOneLeft.2.1 24 = .ok (.ireturn, 1) := by decide +kernel
theorem d_Ref_longLeft_0 : decode M_Ref_longLeft.2.1 0 = .ok (.aload_n 0, 1) := by decide +kernel
theorem d_Ref_longLeft_1 : decode M_Ref_longLeft.2.1 1 = .ok (.iconst 0, 1) := by decide +kernel
theorem d_Ref_longLeft_2 : decode M_Ref_longLeft.2.1 2 = .ok (.invokevirtual 348, 3) := by decide +kernel
theorem d_Ref_longLeft_5 : decode M_Ref_longLeft.2.1 5 = .ok (.iconst 0, 1) := by decide +kernel
theorem d_Ref_longLeft_6 : decode M_Ref_longLeft.2.1 6 = .ok (.istore_n 1, 1) := by decide +kernel
theorem d_Ref_longLeft_7 : decode M_Ref_longLeft.2.1 7 = .ok (.iload_n 1, 1) := by decide +kernel
theorem d_Ref_longLeft_8 : decode M_Ref_longLeft.2.1 8 = .ok (.bipush 7, 2) := by decide +kernel
theorem d_Ref_longLeft_10 : decode M_Ref_longLeft.2.1 10 = .ok (.if_icmp .ge 38, 3) := by decide +kernel
theorem d_Ref_longLeft_13 : decode M_Ref_longLeft.2.1 13 = .ok (.aload_n 0, 1) := by decide +kernel
theorem d_Ref_longLeft_14 : decode M_Ref_longLeft.2.1 14 = .ok (.getfield 81, 3) := by decide +kernel
theorem d_Ref_longLeft_17 : decode M_Ref_longLeft.2.1 17 = .ok (.iload_n 1, 1) := by decide +kernel
theorem d_Ref_longLeft_18 : decode M_Ref_longLeft.2.1 18 = .ok (.invokestatic 85, 3) := by decide +kernel
theorem d_Ref_longLeft_21 : decode M_Ref_longLeft.2.1 21 = .ok (.istore_n 2, 1) := by decide +kernel
theorem d_Ref_longLeft_22 : decode M_Ref_longLeft.2.1 22 = .ok (.iload_n 2, 1) := by decide +kernel
theorem d_Ref_longLeft_23 : decode M_Ref_longLeft.2.1 23 = .ok (.ifCond .eq 19, 3) := by decide +kernel
theorem d_Ref_longLeft_26 : decode M_Ref_longLeft.2.1 26 = .ok (.aload_n 0, 1) := by decide +kernel
theorem d_Ref_longLeft_27 : decode M_Ref_longLeft.2.1 27 = .ok (.bipush 126, 2) := by decide +kernel
theorem d_Ref_longLeft_29 : decode M_Ref_longLeft.2.1 29 = .ok (.aload_n 0, 1) := by decide +kernel
theorem d_Ref_longLeft_30 : decode M_Ref_longLeft.2.1 30 = .ok (.getfield 9, 3) := by decide +kernel
theorem d_Ref_longLeft_33 : decode M_Ref_longLeft.2.1 33 = .ok (.iload_n 1, 1) := by decide +kernel
theorem d_Ref_longLeft_34 : decode M_Ref_longLeft.2.1 34 = .ok (.iaload, 1) := by decide +kernel
theorem d_Ref_longLeft_35 : decode M_Ref_longLeft.2.1 35 = .ok (.invokevirtual 351, 3) := by decide +kernel
theorem d_Ref_longLeft_38 : decode M_Ref_longLeft.2.1 38 = .ok (.istore_n 2, 1) := by decide +kernel
theorem d_Ref_longLeft_39 : decode M_Ref_longLeft.2.1 39 = .ok (.goto (-17), 3) := by decide +kernel
theorem d_Ref_longLeft_42 : decode M_Ref_longLeft.2.1 42 = .ok (.iinc 1 1, 3) := by decide +kernel
theorem d_Ref_longLeft_45 : decode M_Ref_longLeft.2.1 45 = .ok (.goto (-38), 3) := by decide +kernel
theorem d_Ref_longLeft_48 : decode M_Ref_longLeft.2.1 48 = .ok (.aload_n 0, 1) := by decide +kernel
theorem d_Ref_longLeft_49 : decode M_Ref_longLeft.2.1 49 = .ok (.bipush 126, 2) := by decide +kernel
theorem d_Ref_longLeft_51 : decode M_Ref_longLeft.2.1 51 = .ok (.invokevirtual 108, 3) := by decide +kernel
theorem d_Ref_longLeft_54 : decode M_Ref_longLeft.2.1 54 = .ok (.ireturn, 1) := by decide +kernel
theorem d_Ref_smallNumber_0 : decode M_Ref_smallNumber.2.1 0 = .ok (.aload_n 0, 1) := by decide +kernel
theorem d_Ref_smallNumber_1 : decode M_Ref_smallNumber.2.1 1 = .ok (.sipush 131, 3) := by decide +kernel
theorem d_Ref_smallNumber_4 : decode M_Ref_smallNumber.2.1 4 = .ok (.invokevirtual 108, 3) := by decide +kernel
theorem d_Ref_smallNumber_7 : decode M_Ref_smallNumber.2.1 7 = .ok (.bipush 9, 2) := by decide +kernel
theorem d_Ref_smallNumber_9 : decode M_Ref_smallNumber.2.1 9 = .ok (.if_icmp .le 9, 3) := by decide +kernel
theorem d_Ref_smallNumber_12 : decode M_Ref_smallNumber.2.1 12 = .ok (.ldc_w 272, 3) := by decide +kernel
theorem d_Ref_smallNumber_15 : decode M_Ref_smallNumber.2.1 15 = .ok (.goto 10, 3) := by decide +kernel
theorem d_Ref_smallNumber_18 : decode M_Ref_smallNumber.2.1 18 = .ok (.aload_n 0, 1) := by decide +kernel
theorem d_Ref_smallNumber_19 : decode M_Ref_smallNumber.2.1 19 = .ok (.sipush 131, 3) := by decide +kernel
theorem d_Ref_smallNumber_22 : decode M_Ref_smallNumber.2.1 22 = .ok (.invokevirtual 173, 3) := by decide +kernel
theorem d_Ref_smallNumber_25 : decode M_Ref_smallNumber.2.1 25 = .ok (.ireturn, 1) := by decide +kernel
theorem d_Ref_pairAt_0 : decode M_Ref_pairAt.2.1 0 = .ok (.iconst 0, 1) := by decide +kernel
theorem d_Ref_pairAt_1 : decode M_Ref_pairAt.2.1 1 = .ok (.istore_n 2, 1) := by decide +kernel
theorem d_Ref_pairAt_2 : decode M_Ref_pairAt.2.1 2 = .ok (.iload_n 2, 1) := by decide +kernel
theorem d_Ref_pairAt_3 : decode M_Ref_pairAt.2.1 3 = .ok (.aload_n 0, 1) := by decide +kernel
theorem d_Ref_pairAt_4 : decode M_Ref_pairAt.2.1 4 = .ok (.getfield 167, 3) := by decide +kernel
theorem d_Ref_pairAt_7 : decode M_Ref_pairAt.2.1 7 = .ok (.if_icmp .ge 21, 3) := by decide +kernel
theorem d_Ref_pairAt_10 : decode M_Ref_pairAt.2.1 10 = .ok (.aload_n 0, 1) := by decide +kernel
theorem d_Ref_pairAt_11 : decode M_Ref_pairAt.2.1 11 = .ok (.getfield 28, 3) := by decide +kernel
theorem d_Ref_pairAt_14 : decode M_Ref_pairAt.2.1 14 = .ok (.iload_n 2, 1) := by decide +kernel
theorem d_Ref_pairAt_15 : decode M_Ref_pairAt.2.1 15 = .ok (.iaload, 1) := by decide +kernel
theorem d_Ref_pairAt_16 : decode M_Ref_pairAt.2.1 16 = .ok (.iload_n 1, 1) := by decide +kernel
theorem d_Ref_pairAt_17 : decode M_Ref_pairAt.2.1 17 = .ok (.if_icmp .ne 5, 3) := by decide +kernel
theorem d_Ref_pairAt_20 : decode M_Ref_pairAt.2.1 20 = .ok (.iload_n 2, 1) := by decide +kernel
theorem d_Ref_pairAt_21 : decode M_Ref_pairAt.2.1 21 = .ok (.ireturn, 1) := by decide +kernel
theorem d_Ref_pairAt_22 : decode M_Ref_pairAt.2.1 22 = .ok (.iinc 2 1, 3) := by decide +kernel
theorem d_Ref_pairAt_25 : decode M_Ref_pairAt.2.1 25 = .ok (.goto (-23), 3) := by decide +kernel
theorem d_Ref_pairAt_28 : decode M_Ref_pairAt.2.1 28 = .ok (.iconst (-1), 1) := by decide +kernel
theorem d_Ref_pairAt_29 : decode M_Ref_pairAt.2.1 29 = .ok (.ireturn, 1) := by decide +kernel
theorem d_Ref_twoAt_0 : decode M_Ref_twoAt.2.1 0 = .ok (.iconst 0, 1) := by decide +kernel
theorem d_Ref_twoAt_1 : decode M_Ref_twoAt.2.1 1 = .ok (.istore_n 2, 1) := by decide +kernel
theorem d_Ref_twoAt_2 : decode M_Ref_twoAt.2.1 2 = .ok (.iload_n 2, 1) := by decide +kernel
theorem d_Ref_twoAt_3 : decode M_Ref_twoAt.2.1 3 = .ok (.aload_n 0, 1) := by decide +kernel
theorem d_Ref_twoAt_4 : decode M_Ref_twoAt.2.1 4 = .ok (.getfield 170, 3) := by decide +kernel
theorem d_Ref_twoAt_7 : decode M_Ref_twoAt.2.1 7 = .ok (.if_icmp .ge 21, 3) := by decide +kernel
theorem d_Ref_twoAt_10 : decode M_Ref_twoAt.2.1 10 = .ok (.aload_n 0, 1) := by decide +kernel
theorem d_Ref_twoAt_11 : decode M_Ref_twoAt.2.1 11 = .ok (.getfield 37, 3) := by decide +kernel
theorem d_Ref_twoAt_14 : decode M_Ref_twoAt.2.1 14 = .ok (.iload_n 2, 1) := by decide +kernel
theorem d_Ref_twoAt_15 : decode M_Ref_twoAt.2.1 15 = .ok (.iaload, 1) := by decide +kernel
theorem d_Ref_twoAt_16 : decode M_Ref_twoAt.2.1 16 = .ok (.iload_n 1, 1) := by decide +kernel
theorem d_Ref_twoAt_17 : decode M_Ref_twoAt.2.1 17 = .ok (.if_icmp .ne 5, 3) := by decide +kernel
theorem d_Ref_twoAt_20 : decode M_Ref_twoAt.2.1 20 = .ok (.iload_n 2, 1) := by decide +kernel
theorem d_Ref_twoAt_21 : decode M_Ref_twoAt.2.1 21 = .ok (.ireturn, 1) := by decide +kernel
theorem d_Ref_twoAt_22 : decode M_Ref_twoAt.2.1 22 = .ok (.iinc 2 1, 3) := by decide +kernel
theorem d_Ref_twoAt_25 : decode M_Ref_twoAt.2.1 25 = .ok (.goto (-23), 3) := by decide +kernel
theorem d_Ref_twoAt_28 : decode M_Ref_twoAt.2.1 28 = .ok (.iconst (-1), 1) := by decide +kernel
theorem d_Ref_twoAt_29 : decode M_Ref_twoAt.2.1 29 = .ok (.ireturn, 1) := by decide +kernel
theorem d_Ref_pairsBelow_0 : decode M_Ref_pairsBelow.2.1 0 = .ok (.iconst 0, 1) := by decide +kernel
theorem d_Ref_pairsBelow_1 : decode M_Ref_pairsBelow.2.1 1 = .ok (.istore_n 2, 1) := by decide +kernel
theorem d_Ref_pairsBelow_2 : decode M_Ref_pairsBelow.2.1 2 = .ok (.iconst 0, 1) := by decide +kernel
theorem d_Ref_pairsBelow_3 : decode M_Ref_pairsBelow.2.1 3 = .ok (.istore_n 3, 1) := by decide +kernel
theorem d_Ref_pairsBelow_4 : decode M_Ref_pairsBelow.2.1 4 = .ok (.iload_n 3, 1) := by decide +kernel
theorem d_Ref_pairsBelow_5 : decode M_Ref_pairsBelow.2.1 5 = .ok (.aload_n 0, 1) := by decide +kernel
theorem d_Ref_pairsBelow_6 : decode M_Ref_pairsBelow.2.1 6 = .ok (.getfield 167, 3) := by decide +kernel
theorem d_Ref_pairsBelow_9 : decode M_Ref_pairsBelow.2.1 9 = .ok (.if_icmp .ge 27, 3) := by decide +kernel
theorem d_Ref_pairsBelow_12 : decode M_Ref_pairsBelow.2.1 12 = .ok (.iload_n 2, 1) := by decide +kernel
theorem d_Ref_pairsBelow_13 : decode M_Ref_pairsBelow.2.1 13 = .ok (.aload_n 0, 1) := by decide +kernel
theorem d_Ref_pairsBelow_14 : decode M_Ref_pairsBelow.2.1 14 = .ok (.getfield 28, 3) := by decide +kernel
theorem d_Ref_pairsBelow_17 : decode M_Ref_pairsBelow.2.1 17 = .ok (.iload_n 3, 1) := by decide +kernel
theorem d_Ref_pairsBelow_18 : decode M_Ref_pairsBelow.2.1 18 = .ok (.iaload, 1) := by decide +kernel
theorem d_Ref_pairsBelow_19 : decode M_Ref_pairsBelow.2.1 19 = .ok (.iload_n 1, 1) := by decide +kernel
theorem d_Ref_pairsBelow_20 : decode M_Ref_pairsBelow.2.1 20 = .ok (.if_icmp .ge 7, 3) := by decide +kernel
theorem d_Ref_pairsBelow_23 : decode M_Ref_pairsBelow.2.1 23 = .ok (.iconst 1, 1) := by decide +kernel
theorem d_Ref_pairsBelow_24 : decode M_Ref_pairsBelow.2.1 24 = .ok (.goto 4, 3) := by decide +kernel
theorem d_Ref_pairsBelow_27 : decode M_Ref_pairsBelow.2.1 27 = .ok (.iconst 0, 1) := by decide +kernel
theorem d_Ref_pairsBelow_28 : decode M_Ref_pairsBelow.2.1 28 = .ok (.iadd, 1) := by decide +kernel
theorem d_Ref_pairsBelow_29 : decode M_Ref_pairsBelow.2.1 29 = .ok (.istore_n 2, 1) := by decide +kernel
theorem d_Ref_pairsBelow_30 : decode M_Ref_pairsBelow.2.1 30 = .ok (.iinc 3 1, 3) := by decide +kernel
theorem d_Ref_pairsBelow_33 : decode M_Ref_pairsBelow.2.1 33 = .ok (.goto (-29), 3) := by decide +kernel
theorem d_Ref_pairsBelow_36 : decode M_Ref_pairsBelow.2.1 36 = .ok (.iload_n 2, 1) := by decide +kernel
theorem d_Ref_pairsBelow_37 : decode M_Ref_pairsBelow.2.1 37 = .ok (.ireturn, 1) := by decide +kernel
theorem d_Ref_greatLong_0 : decode M_Ref_greatLong.2.1 0 = .ok (.iload_n 1, 1) := by decide +kernel
theorem d_Ref_greatLong_1 : decode M_Ref_greatLong.2.1 1 = .ok (.i2l, 1) := by decide +kernel
theorem d_Ref_greatLong_2 : decode M_Ref_greatLong.2.1 2 = .ok (.lconst 0, 1) := by decide +kernel
theorem d_Ref_greatLong_3 : decode M_Ref_greatLong.2.1 3 = .ok (.ldc2_w 300, 3) := by decide +kernel
theorem d_Ref_greatLong_6 : decode M_Ref_greatLong.2.1 6 = .ok (.invokestatic 111, 3) := by decide +kernel
theorem d_Ref_greatLong_9 : decode M_Ref_greatLong.2.1 9 = .ok (.ifCond .eq 20, 3) := by decide +kernel
theorem d_Ref_greatLong_12 : decode M_Ref_greatLong.2.1 12 = .ok (.aload_n 0, 1) := by decide +kernel
theorem d_Ref_greatLong_13 : decode M_Ref_greatLong.2.1 13 = .ok (.iload_n 1, 1) := by decide +kernel
theorem d_Ref_greatLong_14 : decode M_Ref_greatLong.2.1 14 = .ok (.invokevirtual 388, 3) := by decide +kernel
theorem d_Ref_greatLong_17 : decode M_Ref_greatLong.2.1 17 = .ok (.ifCond .eq 12, 3) := by decide +kernel
theorem d_Ref_greatLong_20 : decode M_Ref_greatLong.2.1 20 = .ok (.aload_n 0, 1) := by decide +kernel
theorem d_Ref_greatLong_21 : decode M_Ref_greatLong.2.1 21 = .ok (.bipush 126, 2) := by decide +kernel
theorem d_Ref_greatLong_23 : decode M_Ref_greatLong.2.1 23 = .ok (.invokevirtual 108, 3) := by decide +kernel
theorem d_Ref_greatLong_26 : decode M_Ref_greatLong.2.1 26 = .ok (.goto 4, 3) := by decide +kernel
theorem d_Ref_greatLong_29 : decode M_Ref_greatLong.2.1 29 = .ok (.iconst (-1), 1) := by decide +kernel
theorem d_Ref_greatLong_30 : decode M_Ref_greatLong.2.1 30 = .ok (.ireturn, 1) := by decide +kernel
theorem d_Ref_layGreat_0 : decode M_Ref_layGreat.2.1 0 = .ok (.aload_n 0, 1) := by decide +kernel
theorem d_Ref_layGreat_1 : decode M_Ref_layGreat.2.1 1 = .ok (.bipush 126, 2) := by decide +kernel
theorem d_Ref_layGreat_3 : decode M_Ref_layGreat.2.1 3 = .ok (.iconst 1, 1) := by decide +kernel
theorem d_Ref_layGreat_4 : decode M_Ref_layGreat.2.1 4 = .ok (.invokevirtual 69, 3) := by decide +kernel
theorem d_Ref_layGreat_7 : decode M_Ref_layGreat.2.1 7 = .ok (.iconst 0, 1) := by decide +kernel
theorem d_Ref_layGreat_8 : decode M_Ref_layGreat.2.1 8 = .ok (.istore_n 2, 1) := by decide +kernel
theorem d_Ref_layGreat_9 : decode M_Ref_layGreat.2.1 9 = .ok (.iload_n 2, 1) := by decide +kernel
theorem d_Ref_layGreat_10 : decode M_Ref_layGreat.2.1 10 = .ok (.bipush 7, 2) := by decide +kernel
theorem d_Ref_layGreat_12 : decode M_Ref_layGreat.2.1 12 = .ok (.if_icmp .ge 16, 3) := by decide +kernel
theorem d_Ref_layGreat_15 : decode M_Ref_layGreat.2.1 15 = .ok (.aload_n 0, 1) := by decide +kernel
theorem d_Ref_layGreat_16 : decode M_Ref_layGreat.2.1 16 = .ok (.getfield 56, 3) := by decide +kernel
theorem d_Ref_layGreat_19 : decode M_Ref_layGreat.2.1 19 = .ok (.iload_n 2, 1) := by decide +kernel
theorem d_Ref_layGreat_20 : decode M_Ref_layGreat.2.1 20 = .ok (.iconst 0, 1) := by decide +kernel
theorem d_Ref_layGreat_21 : decode M_Ref_layGreat.2.1 21 = .ok (.iastore, 1) := by decide +kernel
theorem d_Ref_layGreat_22 : decode M_Ref_layGreat.2.1 22 = .ok (.iinc 2 1, 3) := by decide +kernel
theorem d_Ref_layGreat_25 : decode M_Ref_layGreat.2.1 25 = .ok (.goto (-16), 3) := by decide +kernel
theorem d_Ref_layGreat_28 : decode M_Ref_layGreat.2.1 28 = .ok (.iconst 0, 1) := by decide +kernel
theorem d_Ref_layGreat_29 : decode M_Ref_layGreat.2.1 29 = .ok (.istore_n 2, 1) := by decide +kernel
theorem d_Ref_layGreat_30 : decode M_Ref_layGreat.2.1 30 = .ok (.iload_n 2, 1) := by decide +kernel
theorem d_Ref_layGreat_31 : decode M_Ref_layGreat.2.1 31 = .ok (.iload_n 1, 1) := by decide +kernel
theorem d_Ref_layGreat_32 : decode M_Ref_layGreat.2.1 32 = .ok (.if_icmp .gt 67, 3) := by decide +kernel
theorem d_Ref_layGreat_35 : decode M_Ref_layGreat.2.1 35 = .ok (.iload_n 2, 1) := by decide +kernel
theorem d_Ref_layGreat_36 : decode M_Ref_layGreat.2.1 36 = .ok (.ifCond .le 12, 3) := by decide +kernel
theorem d_Ref_layGreat_39 : decode M_Ref_layGreat.2.1 39 = .ok (.aload_n 0, 1) := by decide +kernel
theorem d_Ref_layGreat_40 : decode M_Ref_layGreat.2.1 40 = .ok (.getfield 81, 3) := by decide +kernel
theorem d_Ref_layGreat_43 : decode M_Ref_layGreat.2.1 43 = .ok (.ifCond .ne 5, 3) := by decide +kernel
theorem d_Ref_layGreat_46 : decode M_Ref_layGreat.2.1 46 = .ok (.iconst 0, 1) := by decide +kernel
theorem d_Ref_layGreat_47 : decode M_Ref_layGreat.2.1 47 = .ok (.ireturn, 1) := by decide +kernel
theorem d_Ref_layGreat_48 : decode M_Ref_layGreat.2.1 48 = .ok (.iload_n 2, 1) := by decide +kernel
theorem d_Ref_layGreat_49 : decode M_Ref_layGreat.2.1 49 = .ok (.ifCond .le 7, 3) := by decide +kernel
theorem d_Ref_layGreat_52 : decode M_Ref_layGreat.2.1 52 = .ok (.aload_n 0, 1) := by decide +kernel
theorem d_Ref_layGreat_53 : decode M_Ref_layGreat.2.1 53 = .ok (.invokevirtual 379, 3) := by decide +kernel
theorem d_Ref_layGreat_56 : decode M_Ref_layGreat.2.1 56 = .ok (.iconst 0, 1) := by decide +kernel
theorem d_Ref_layGreat_57 : decode M_Ref_layGreat.2.1 57 = .ok (.istore_n 3, 1) := by decide +kernel
theorem d_Ref_layGreat_58 : decode M_Ref_layGreat.2.1 58 = .ok (.iload_n 3, 1) := by decide +kernel
theorem d_Ref_layGreat_59 : decode M_Ref_layGreat.2.1 59 = .ok (.sipush 130, 3) := by decide +kernel
theorem d_Ref_layGreat_62 : decode M_Ref_layGreat.2.1 62 = .ok (.if_icmp .ge 31, 3) := by decide +kernel
theorem d_Ref_layGreat_65 : decode M_Ref_layGreat.2.1 65 = .ok (.aload_n 0, 1) := by decide +kernel
theorem d_Ref_layGreat_66 : decode M_Ref_layGreat.2.1 66 = .ok (.getfield 53, 3) := by decide +kernel
theorem d_Ref_layGreat_69 : decode M_Ref_layGreat.2.1 69 = .ok (.sipush 130, 3) := by decide +kernel
theorem d_Ref_layGreat_72 : decode M_Ref_layGreat.2.1 72 = .ok (.iload_n 2, 1) := by decide +kernel
theorem d_Ref_layGreat_73 : decode M_Ref_layGreat.2.1 73 = .ok (.imul, 1) := by decide +kernel
theorem d_Ref_layGreat_74 : decode M_Ref_layGreat.2.1 74 = .ok (.iload_n 3, 1) := by decide +kernel
theorem d_Ref_layGreat_75 : decode M_Ref_layGreat.2.1 75 = .ok (.iadd, 1) := by decide +kernel
theorem d_Ref_layGreat_76 : decode M_Ref_layGreat.2.1 76 = .ok (.aload_n 0, 1) := by decide +kernel
theorem d_Ref_layGreat_77 : decode M_Ref_layGreat.2.1 77 = .ok (.getfield 13, 3) := by decide +kernel
theorem d_Ref_layGreat_80 : decode M_Ref_layGreat.2.1 80 = .ok (.sipush 16380, 3) := by decide +kernel
theorem d_Ref_layGreat_83 : decode M_Ref_layGreat.2.1 83 = .ok (.iload_n 3, 1) := by decide +kernel
theorem d_Ref_layGreat_84 : decode M_Ref_layGreat.2.1 84 = .ok (.iadd, 1) := by decide +kernel
theorem d_Ref_layGreat_85 : decode M_Ref_layGreat.2.1 85 = .ok (.iaload, 1) := by decide +kernel
theorem d_Ref_layGreat_86 : decode M_Ref_layGreat.2.1 86 = .ok (.iastore, 1) := by decide +kernel
theorem d_Ref_layGreat_87 : decode M_Ref_layGreat.2.1 87 = .ok (.iinc 3 1, 3) := by decide +kernel
theorem d_Ref_layGreat_90 : decode M_Ref_layGreat.2.1 90 = .ok (.goto (-32), 3) := by decide +kernel
theorem d_Ref_layGreat_93 : decode M_Ref_layGreat.2.1 93 = .ok (.iinc 2 1, 3) := by decide +kernel
theorem d_Ref_layGreat_96 : decode M_Ref_layGreat.2.1 96 = .ok (.goto (-66), 3) := by decide +kernel
theorem d_Ref_layGreat_99 : decode M_Ref_layGreat.2.1 99 = .ok (.iconst 1, 1) := by decide +kernel
theorem d_Ref_layGreat_100 : decode M_Ref_layGreat.2.1 100 = .ok (.ireturn, 1) := by decide +kernel
theorem d_Ref_layLeast_0 : decode M_Ref_layLeast.2.1 0 = .ok (.iconst 0, 1) := by decide +kernel
theorem d_Ref_layLeast_1 : decode M_Ref_layLeast.2.1 1 = .ok (.istore_n 1, 1) := by decide +kernel
theorem d_Ref_layLeast_2 : decode M_Ref_layLeast.2.1 2 = .ok (.iconst 0, 1) := by decide +kernel
theorem d_Ref_layLeast_3 : decode M_Ref_layLeast.2.1 3 = .ok (.istore_n 2, 1) := by decide +kernel
theorem d_Ref_layLeast_4 : decode M_Ref_layLeast.2.1 4 = .ok (.iload_n 2, 1) := by decide +kernel
theorem d_Ref_layLeast_5 : decode M_Ref_layLeast.2.1 5 = .ok (.bipush 7, 2) := by decide +kernel
theorem d_Ref_layLeast_7 : decode M_Ref_layLeast.2.1 7 = .ok (.if_icmp .ge 58, 3) := by decide +kernel
theorem d_Ref_layLeast_10 : decode M_Ref_layLeast.2.1 10 = .ok (.aload_n 0, 1) := by decide +kernel
theorem d_Ref_layLeast_11 : decode M_Ref_layLeast.2.1 11 = .ok (.getfield 81, 3) := by decide +kernel
theorem d_Ref_layLeast_14 : decode M_Ref_layLeast.2.1 14 = .ok (.iload_n 2, 1) := by decide +kernel
theorem d_Ref_layLeast_15 : decode M_Ref_layLeast.2.1 15 = .ok (.invokestatic 85, 3) := by decide +kernel
theorem d_Ref_layLeast_18 : decode M_Ref_layLeast.2.1 18 = .ok (.ifCond .ne 6, 3) := by decide +kernel
theorem d_Ref_layLeast_21 : decode M_Ref_layLeast.2.1 21 = .ok (.goto 38, 3) := by decide +kernel
theorem d_Ref_layLeast_24 : decode M_Ref_layLeast.2.1 24 = .ok (.aload_n 0, 1) := by decide +kernel
theorem d_Ref_layLeast_25 : decode M_Ref_layLeast.2.1 25 = .ok (.iload_n 2, 1) := by decide +kernel
theorem d_Ref_layLeast_26 : decode M_Ref_layLeast.2.1 26 = .ok (.bipush 127, 2) := by decide +kernel
theorem d_Ref_layLeast_28 : decode M_Ref_layLeast.2.1 28 = .ok (.invokevirtual 382, 3) := by decide +kernel
theorem d_Ref_layLeast_31 : decode M_Ref_layLeast.2.1 31 = .ok (.iload_n 1, 1) := by decide +kernel
theorem d_Ref_layLeast_32 : decode M_Ref_layLeast.2.1 32 = .ok (.ifCond .eq 17, 3) := by decide +kernel
theorem d_Ref_layLeast_35 : decode M_Ref_layLeast.2.1 35 = .ok (.aload_n 0, 1) := by decide +kernel
theorem d_Ref_layLeast_36 : decode M_Ref_layLeast.2.1 36 = .ok (.bipush 127, 2) := by decide +kernel
theorem d_Ref_layLeast_38 : decode M_Ref_layLeast.2.1 38 = .ok (.bipush 126, 2) := by decide +kernel
theorem d_Ref_layLeast_40 : decode M_Ref_layLeast.2.1 40 = .ok (.invokevirtual 373, 3) := by decide +kernel
theorem d_Ref_layLeast_43 : decode M_Ref_layLeast.2.1 43 = .ok (.ifCond .ne 6, 3) := by decide +kernel
theorem d_Ref_layLeast_46 : decode M_Ref_layLeast.2.1 46 = .ok (.goto 13, 3) := by decide +kernel
theorem d_Ref_layLeast_49 : decode M_Ref_layLeast.2.1 49 = .ok (.aload_n 0, 1) := by decide +kernel
theorem d_Ref_layLeast_50 : decode M_Ref_layLeast.2.1 50 = .ok (.bipush 127, 2) := by decide +kernel
theorem d_Ref_layLeast_52 : decode M_Ref_layLeast.2.1 52 = .ok (.bipush 126, 2) := by decide +kernel
theorem d_Ref_layLeast_54 : decode M_Ref_layLeast.2.1 54 = .ok (.invokevirtual 153, 3) := by decide +kernel
theorem d_Ref_layLeast_57 : decode M_Ref_layLeast.2.1 57 = .ok (.iconst 1, 1) := by decide +kernel
theorem d_Ref_layLeast_58 : decode M_Ref_layLeast.2.1 58 = .ok (.istore_n 1, 1) := by decide +kernel
theorem d_Ref_layLeast_59 : decode M_Ref_layLeast.2.1 59 = .ok (.iinc 2 1, 3) := by decide +kernel
theorem d_Ref_layLeast_62 : decode M_Ref_layLeast.2.1 62 = .ok (.goto (-58), 3) := by decide +kernel
theorem d_Ref_layLeast_65 : decode M_Ref_layLeast.2.1 65 = .ok (.iconst 0, 1) := by decide +kernel
theorem d_Ref_layLeast_66 : decode M_Ref_layLeast.2.1 66 = .ok (.istore_n 2, 1) := by decide +kernel
theorem d_Ref_layLeast_67 : decode M_Ref_layLeast.2.1 67 = .ok (.iload_n 2, 1) := by decide +kernel
theorem d_Ref_layLeast_68 : decode M_Ref_layLeast.2.1 68 = .ok (.bipush 7, 2) := by decide +kernel
theorem d_Ref_layLeast_70 : decode M_Ref_layLeast.2.1 70 = .ok (.if_icmp .ge 51, 3) := by decide +kernel
theorem d_Ref_layLeast_73 : decode M_Ref_layLeast.2.1 73 = .ok (.aload_n 0, 1) := by decide +kernel
theorem d_Ref_layLeast_74 : decode M_Ref_layLeast.2.1 74 = .ok (.getfield 81, 3) := by decide +kernel
theorem d_Ref_layLeast_77 : decode M_Ref_layLeast.2.1 77 = .ok (.iload_n 2, 1) := by decide +kernel
theorem d_Ref_layLeast_78 : decode M_Ref_layLeast.2.1 78 = .ok (.invokestatic 85, 3) := by decide +kernel
theorem d_Ref_layLeast_81 : decode M_Ref_layLeast.2.1 81 = .ok (.ifCond .ne 6, 3) := by decide +kernel
theorem d_Ref_layLeast_84 : decode M_Ref_layLeast.2.1 84 = .ok (.goto 31, 3) := by decide +kernel
theorem d_Ref_layLeast_87 : decode M_Ref_layLeast.2.1 87 = .ok (.aload_n 0, 1) := by decide +kernel
theorem d_Ref_layLeast_88 : decode M_Ref_layLeast.2.1 88 = .ok (.iload_n 2, 1) := by decide +kernel
theorem d_Ref_layLeast_89 : decode M_Ref_layLeast.2.1 89 = .ok (.bipush 127, 2) := by decide +kernel
theorem d_Ref_layLeast_91 : decode M_Ref_layLeast.2.1 91 = .ok (.invokevirtual 382, 3) := by decide +kernel
theorem d_Ref_layLeast_94 : decode M_Ref_layLeast.2.1 94 = .ok (.aload_n 0, 1) := by decide +kernel
theorem d_Ref_layLeast_95 : decode M_Ref_layLeast.2.1 95 = .ok (.bipush 127, 2) := by decide +kernel
theorem d_Ref_layLeast_97 : decode M_Ref_layLeast.2.1 97 = .ok (.bipush 126, 2) := by decide +kernel
theorem d_Ref_layLeast_99 : decode M_Ref_layLeast.2.1 99 = .ok (.invokevirtual 385, 3) := by decide +kernel
theorem d_Ref_layLeast_102 : decode M_Ref_layLeast.2.1 102 = .ok (.ifCond .eq 13, 3) := by decide +kernel
theorem d_Ref_layLeast_105 : decode M_Ref_layLeast.2.1 105 = .ok (.aload_n 0, 1) := by decide +kernel
theorem d_Ref_layLeast_106 : decode M_Ref_layLeast.2.1 106 = .ok (.getfield 56, 3) := by decide +kernel
theorem d_Ref_layLeast_109 : decode M_Ref_layLeast.2.1 109 = .ok (.iload_n 2, 1) := by decide +kernel
theorem d_Ref_layLeast_110 : decode M_Ref_layLeast.2.1 110 = .ok (.dup2, 1) := by decide +kernel
theorem d_Ref_layLeast_111 : decode M_Ref_layLeast.2.1 111 = .ok (.iaload, 1) := by decide +kernel
theorem d_Ref_layLeast_112 : decode M_Ref_layLeast.2.1 112 = .ok (.iconst 1, 1) := by decide +kernel
theorem d_Ref_layLeast_113 : decode M_Ref_layLeast.2.1 113 = .ok (.iadd, 1) := by decide +kernel
theorem d_Ref_layLeast_114 : decode M_Ref_layLeast.2.1 114 = .ok (.iastore, 1) := by decide +kernel
theorem d_Ref_layLeast_115 : decode M_Ref_layLeast.2.1 115 = .ok (.iinc 2 1, 3) := by decide +kernel
theorem d_Ref_layLeast_118 : decode M_Ref_layLeast.2.1 118 = .ok (.goto (-51), 3) := by decide +kernel
theorem d_Ref_layLeast_121 : decode M_Ref_layLeast.2.1 121 = .ok (.return_, 1) := by decide +kernel
theorem d_Ref_layNext_0 : decode M_Ref_layNext.2.1 0 = .ok (.aload_n 0, 1) := by decide +kernel
theorem d_Ref_layNext_1 : decode M_Ref_layNext.2.1 1 = .ok (.aload_n 0, 1) := by decide +kernel
theorem d_Ref_layNext_2 : decode M_Ref_layNext.2.1 2 = .ok (.getfield 56, 3) := by decide +kernel
theorem d_Ref_layNext_5 : decode M_Ref_layNext.2.1 5 = .ok (.iload_n 1, 1) := by decide +kernel
theorem d_Ref_layNext_6 : decode M_Ref_layNext.2.1 6 = .ok (.iaload, 1) := by decide +kernel
theorem d_Ref_layNext_7 : decode M_Ref_layNext.2.1 7 = .ok (.sipush 130, 3) := by decide +kernel
theorem d_Ref_layNext_10 : decode M_Ref_layNext.2.1 10 = .ok (.invokevirtual 376, 3) := by decide +kernel
theorem d_Ref_layNext_13 : decode M_Ref_layNext.2.1 13 = .ok (.aload_n 0, 1) := by decide +kernel
theorem d_Ref_layNext_14 : decode M_Ref_layNext.2.1 14 = .ok (.sipush 129, 3) := by decide +kernel
theorem d_Ref_layNext_17 : decode M_Ref_layNext.2.1 17 = .ok (.iconst 0, 1) := by decide +kernel
theorem d_Ref_layNext_18 : decode M_Ref_layNext.2.1 18 = .ok (.invokevirtual 69, 3) := by decide +kernel
theorem d_Ref_layNext_21 : decode M_Ref_layNext.2.1 21 = .ok (.aload_n 0, 1) := by decide +kernel
theorem d_Ref_layNext_22 : decode M_Ref_layNext.2.1 22 = .ok (.sipush 130, 3) := by decide +kernel
theorem d_Ref_layNext_25 : decode M_Ref_layNext.2.1 25 = .ok (.aload_n 0, 1) := by decide +kernel
theorem d_Ref_layNext_26 : decode M_Ref_layNext.2.1 26 = .ok (.getfield 9, 3) := by decide +kernel
theorem d_Ref_layNext_29 : decode M_Ref_layNext.2.1 29 = .ok (.iload_n 1, 1) := by decide +kernel
theorem d_Ref_layNext_30 : decode M_Ref_layNext.2.1 30 = .ok (.iaload, 1) := by decide +kernel
theorem d_Ref_layNext_31 : decode M_Ref_layNext.2.1 31 = .ok (.sipush 129, 3) := by decide +kernel
theorem d_Ref_layNext_34 : decode M_Ref_layNext.2.1 34 = .ok (.iload_n 2, 1) := by decide +kernel
theorem d_Ref_layNext_35 : decode M_Ref_layNext.2.1 35 = .ok (.invokevirtual 149, 3) := by decide +kernel
theorem d_Ref_layNext_38 : decode M_Ref_layNext.2.1 38 = .ok (.return_, 1) := by decide +kernel
theorem d_Ref_bring_0 : decode M_Ref_bring.2.1 0 = .ok (.iconst 0, 1) := by decide +kernel
theorem d_Ref_bring_1 : decode M_Ref_bring.2.1 1 = .ok (.istore_n 3, 1) := by decide +kernel
theorem d_Ref_bring_2 : decode M_Ref_bring.2.1 2 = .ok (.iload_n 3, 1) := by decide +kernel
theorem d_Ref_bring_3 : decode M_Ref_bring.2.1 3 = .ok (.sipush 130, 3) := by decide +kernel
theorem d_Ref_bring_6 : decode M_Ref_bring.2.1 6 = .ok (.if_icmp .ge 33, 3) := by decide +kernel
theorem d_Ref_bring_9 : decode M_Ref_bring.2.1 9 = .ok (.aload_n 0, 1) := by decide +kernel
theorem d_Ref_bring_10 : decode M_Ref_bring.2.1 10 = .ok (.getfield 13, 3) := by decide +kernel
theorem d_Ref_bring_13 : decode M_Ref_bring.2.1 13 = .ok (.sipush 130, 3) := by decide +kernel
theorem d_Ref_bring_16 : decode M_Ref_bring.2.1 16 = .ok (.iload_n 2, 1) := by decide +kernel
theorem d_Ref_bring_17 : decode M_Ref_bring.2.1 17 = .ok (.imul, 1) := by decide +kernel
theorem d_Ref_bring_18 : decode M_Ref_bring.2.1 18 = .ok (.iload_n 3, 1) := by decide +kernel
theorem d_Ref_bring_19 : decode M_Ref_bring.2.1 19 = .ok (.iadd, 1) := by decide +kernel
theorem d_Ref_bring_20 : decode M_Ref_bring.2.1 20 = .ok (.aload_n 0, 1) := by decide +kernel
theorem d_Ref_bring_21 : decode M_Ref_bring.2.1 21 = .ok (.getfield 53, 3) := by decide +kernel
theorem d_Ref_bring_24 : decode M_Ref_bring.2.1 24 = .ok (.sipush 130, 3) := by decide +kernel
theorem d_Ref_bring_27 : decode M_Ref_bring.2.1 27 = .ok (.iload_n 1, 1) := by decide +kernel
theorem d_Ref_bring_28 : decode M_Ref_bring.2.1 28 = .ok (.imul, 1) := by decide +kernel
theorem d_Ref_bring_29 : decode M_Ref_bring.2.1 29 = .ok (.iload_n 3, 1) := by decide +kernel
theorem d_Ref_bring_30 : decode M_Ref_bring.2.1 30 = .ok (.iadd, 1) := by decide +kernel
theorem d_Ref_bring_31 : decode M_Ref_bring.2.1 31 = .ok (.iaload, 1) := by decide +kernel
theorem d_Ref_bring_32 : decode M_Ref_bring.2.1 32 = .ok (.iastore, 1) := by decide +kernel
theorem d_Ref_bring_33 : decode M_Ref_bring.2.1 33 = .ok (.iinc 3 1, 3) := by decide +kernel
theorem d_Ref_bring_36 : decode M_Ref_bring.2.1 36 = .ok (.goto (-34), 3) := by decide +kernel
theorem d_Ref_bring_39 : decode M_Ref_bring.2.1 39 = .ok (.return_, 1) := by decide +kernel
theorem d_Ref_isLess_0 : decode M_Ref_isLess.2.1 0 = .ok (.aload_n 0, 1) := by decide +kernel
theorem d_Ref_isLess_1 : decode M_Ref_isLess.2.1 1 = .ok (.iload_n 1, 1) := by decide +kernel
theorem d_Ref_isLess_2 : decode M_Ref_isLess.2.1 2 = .ok (.invokevirtual 93, 3) := by decide +kernel
theorem d_Ref_isLess_5 : decode M_Ref_isLess.2.1 5 = .ok (.aload_n 0, 1) := by decide +kernel
theorem d_Ref_isLess_6 : decode M_Ref_isLess.2.1 6 = .ok (.iload_n 2, 1) := by decide +kernel
theorem d_Ref_isLess_7 : decode M_Ref_isLess.2.1 7 = .ok (.invokevirtual 93, 3) := by decide +kernel
theorem d_Ref_isLess_10 : decode M_Ref_isLess.2.1 10 = .ok (.if_icmp .eq 22, 3) := by decide +kernel
theorem d_Ref_isLess_13 : decode M_Ref_isLess.2.1 13 = .ok (.aload_n 0, 1) := by decide +kernel
theorem d_Ref_isLess_14 : decode M_Ref_isLess.2.1 14 = .ok (.iload_n 1, 1) := by decide +kernel
theorem d_Ref_isLess_15 : decode M_Ref_isLess.2.1 15 = .ok (.invokevirtual 93, 3) := by decide +kernel
theorem d_Ref_isLess_18 : decode M_Ref_isLess.2.1 18 = .ok (.aload_n 0, 1) := by decide +kernel
theorem d_Ref_isLess_19 : decode M_Ref_isLess.2.1 19 = .ok (.iload_n 2, 1) := by decide +kernel
theorem d_Ref_isLess_20 : decode M_Ref_isLess.2.1 20 = .ok (.invokevirtual 93, 3) := by decide +kernel
theorem d_Ref_isLess_23 : decode M_Ref_isLess.2.1 23 = .ok (.if_icmp .ge 7, 3) := by decide +kernel
theorem d_Ref_isLess_26 : decode M_Ref_isLess.2.1 26 = .ok (.iconst 1, 1) := by decide +kernel
theorem d_Ref_isLess_27 : decode M_Ref_isLess.2.1 27 = .ok (.goto 4, 3) := by decide +kernel
theorem d_Ref_isLess_30 : decode M_Ref_isLess.2.1 30 = .ok (.iconst 0, 1) := by decide +kernel
theorem d_Ref_isLess_31 : decode M_Ref_isLess.2.1 31 = .ok (.ireturn, 1) := by decide +kernel
theorem d_Ref_isLess_32 : decode M_Ref_isLess.2.1 32 = .ok (.aload_n 0, 1) := by decide +kernel
theorem d_Ref_isLess_33 : decode M_Ref_isLess.2.1 33 = .ok (.iload_n 1, 1) := by decide +kernel
theorem d_Ref_isLess_34 : decode M_Ref_isLess.2.1 34 = .ok (.invokevirtual 93, 3) := by decide +kernel
theorem d_Ref_isLess_37 : decode M_Ref_isLess.2.1 37 = .ok (.iconst 1, 1) := by decide +kernel
theorem d_Ref_isLess_38 : decode M_Ref_isLess.2.1 38 = .ok (.isub, 1) := by decide +kernel
theorem d_Ref_isLess_39 : decode M_Ref_isLess.2.1 39 = .ok (.istore_n 3, 1) := by decide +kernel
theorem d_Ref_isLess_40 : decode M_Ref_isLess.2.1 40 = .ok (.iload_n 3, 1) := by decide +kernel
theorem d_Ref_isLess_41 : decode M_Ref_isLess.2.1 41 = .ok (.ifCond .lt 45, 3) := by decide +kernel
theorem d_Ref_isLess_44 : decode M_Ref_isLess.2.1 44 = .ok (.aload_n 0, 1) := by decide +kernel
theorem d_Ref_isLess_45 : decode M_Ref_isLess.2.1 45 = .ok (.iload_n 1, 1) := by decide +kernel
theorem d_Ref_isLess_46 : decode M_Ref_isLess.2.1 46 = .ok (.iload_n 3, 1) := by decide +kernel
theorem d_Ref_isLess_47 : decode M_Ref_isLess.2.1 47 = .ok (.invokevirtual 96, 3) := by decide +kernel
theorem d_Ref_isLess_50 : decode M_Ref_isLess.2.1 50 = .ok (.aload_n 0, 1) := by decide +kernel
theorem d_Ref_isLess_51 : decode M_Ref_isLess.2.1 51 = .ok (.iload_n 2, 1) := by decide +kernel
theorem d_Ref_isLess_52 : decode M_Ref_isLess.2.1 52 = .ok (.iload_n 3, 1) := by decide +kernel
theorem d_Ref_isLess_53 : decode M_Ref_isLess.2.1 53 = .ok (.invokevirtual 96, 3) := by decide +kernel
theorem d_Ref_isLess_56 : decode M_Ref_isLess.2.1 56 = .ok (.if_icmp .eq 24, 3) := by decide +kernel
theorem d_Ref_isLess_59 : decode M_Ref_isLess.2.1 59 = .ok (.aload_n 0, 1) := by decide +kernel
theorem d_Ref_isLess_60 : decode M_Ref_isLess.2.1 60 = .ok (.iload_n 1, 1) := by decide +kernel
theorem d_Ref_isLess_61 : decode M_Ref_isLess.2.1 61 = .ok (.iload_n 3, 1) := by decide +kernel
theorem d_Ref_isLess_62 : decode M_Ref_isLess.2.1 62 = .ok (.invokevirtual 96, 3) := by decide +kernel
theorem d_Ref_isLess_65 : decode M_Ref_isLess.2.1 65 = .ok (.aload_n 0, 1) := by decide +kernel
theorem d_Ref_isLess_66 : decode M_Ref_isLess.2.1 66 = .ok (.iload_n 2, 1) := by decide +kernel
theorem d_Ref_isLess_67 : decode M_Ref_isLess.2.1 67 = .ok (.iload_n 3, 1) := by decide +kernel
theorem d_Ref_isLess_68 : decode M_Ref_isLess.2.1 68 = .ok (.invokevirtual 96, 3) := by decide +kernel
theorem d_Ref_isLess_71 : decode M_Ref_isLess.2.1 71 = .ok (.if_icmp .ge 7, 3) := by decide +kernel
theorem d_Ref_isLess_74 : decode M_Ref_isLess.2.1 74 = .ok (.iconst 1, 1) := by decide +kernel
theorem d_Ref_isLess_75 : decode M_Ref_isLess.2.1 75 = .ok (.goto 4, 3) := by decide +kernel
theorem d_Ref_isLess_78 : decode M_Ref_isLess.2.1 78 = .ok (.iconst 0, 1) := by decide +kernel
theorem d_Ref_isLess_79 : decode M_Ref_isLess.2.1 79 = .ok (.ireturn, 1) := by decide +kernel
theorem d_Ref_isLess_80 : decode M_Ref_isLess.2.1 80 = .ok (.iinc 3 (-1), 3) := by decide +kernel
theorem d_Ref_isLess_83 : decode M_Ref_isLess.2.1 83 = .ok (.goto (-43), 3) := by decide +kernel
theorem d_Ref_isLess_86 : decode M_Ref_isLess.2.1 86 = .ok (.iconst 0, 1) := by decide +kernel
theorem d_Ref_isLess_87 : decode M_Ref_isLess.2.1 87 = .ok (.ireturn, 1) := by decide +kernel
theorem d_Ref_isSame_0 : decode M_Ref_isSame.2.1 0 = .ok (.aload_n 0, 1) := by decide +kernel
theorem d_Ref_isSame_1 : decode M_Ref_isSame.2.1 1 = .ok (.iload_n 1, 1) := by decide +kernel
theorem d_Ref_isSame_2 : decode M_Ref_isSame.2.1 2 = .ok (.iload_n 2, 1) := by decide +kernel
theorem d_Ref_isSame_3 : decode M_Ref_isSame.2.1 3 = .ok (.invokevirtual 373, 3) := by decide +kernel
theorem d_Ref_isSame_6 : decode M_Ref_isSame.2.1 6 = .ok (.ifCond .ne 16, 3) := by decide +kernel
theorem d_Ref_isSame_9 : decode M_Ref_isSame.2.1 9 = .ok (.aload_n 0, 1) := by decide +kernel
theorem d_Ref_isSame_10 : decode M_Ref_isSame.2.1 10 = .ok (.iload_n 2, 1) := by decide +kernel
theorem d_Ref_isSame_11 : decode M_Ref_isSame.2.1 11 = .ok (.iload_n 1, 1) := by decide +kernel
theorem d_Ref_isSame_12 : decode M_Ref_isSame.2.1 12 = .ok (.invokevirtual 373, 3) := by decide +kernel
theorem d_Ref_isSame_15 : decode M_Ref_isSame.2.1 15 = .ok (.ifCond .ne 7, 3) := by decide +kernel
theorem d_Ref_isSame_18 : decode M_Ref_isSame.2.1 18 = .ok (.iconst 1, 1) := by decide +kernel
theorem d_Ref_isSame_19 : decode M_Ref_isSame.2.1 19 = .ok (.goto 4, 3) := by decide +kernel
theorem d_Ref_isSame_22 : decode M_Ref_isSame.2.1 22 = .ok (.iconst 0, 1) := by decide +kernel
theorem d_Ref_isSame_23 : decode M_Ref_isSame.2.1 23 = .ok (.ireturn, 1) := by decide +kernel
theorem d_Ref_greatDigit_0 : decode M_Ref_greatDigit.2.1 0 = .ok (.iload_n 1, 1) := by decide +kernel
theorem d_Ref_greatDigit_1 : decode M_Ref_greatDigit.2.1 1 = .ok (.i2l, 1) := by decide +kernel
theorem d_Ref_greatDigit_2 : decode M_Ref_greatDigit.2.1 2 = .ok (.lconst 0, 1) := by decide +kernel
theorem d_Ref_greatDigit_3 : decode M_Ref_greatDigit.2.1 3 = .ok (.ldc2_w 300, 3) := by decide +kernel
theorem d_Ref_greatDigit_6 : decode M_Ref_greatDigit.2.1 6 = .ok (.invokestatic 111, 3) := by decide +kernel
theorem d_Ref_greatDigit_9 : decode M_Ref_greatDigit.2.1 9 = .ok (.ifCond .eq 21, 3) := by decide +kernel
theorem d_Ref_greatDigit_12 : decode M_Ref_greatDigit.2.1 12 = .ok (.aload_n 0, 1) := by decide +kernel
theorem d_Ref_greatDigit_13 : decode M_Ref_greatDigit.2.1 13 = .ok (.iload_n 1, 1) := by decide +kernel
theorem d_Ref_greatDigit_14 : decode M_Ref_greatDigit.2.1 14 = .ok (.invokevirtual 388, 3) := by decide +kernel
theorem d_Ref_greatDigit_17 : decode M_Ref_greatDigit.2.1 17 = .ok (.ifCond .eq 13, 3) := by decide +kernel
theorem d_Ref_greatDigit_20 : decode M_Ref_greatDigit.2.1 20 = .ok (.aload_n 0, 1) := by decide +kernel
theorem d_Ref_greatDigit_21 : decode M_Ref_greatDigit.2.1 21 = .ok (.bipush 126, 2) := by decide +kernel
theorem d_Ref_greatDigit_23 : decode M_Ref_greatDigit.2.1 23 = .ok (.iload_n 2, 1) := by decide +kernel
theorem d_Ref_greatDigit_24 : decode M_Ref_greatDigit.2.1 24 = .ok (.invokevirtual 251, 3) := by decide +kernel
theorem d_Ref_greatDigit_27 : decode M_Ref_greatDigit.2.1 27 = .ok (.goto 4, 3) := by decide +kernel
theorem d_Ref_greatDigit_30 : decode M_Ref_greatDigit.2.1 30 = .ok (.iconst (-1), 1) := by decide +kernel
theorem d_Ref_greatDigit_31 : decode M_Ref_greatDigit.2.1 31 = .ok (.ireturn, 1) := by decide +kernel
theorem d_Ref_proof_0 : decode M_Ref_proof.2.1 0 = .ok (.aload_n 0, 1) := by decide +kernel
theorem d_Ref_proof_1 : decode M_Ref_proof.2.1 1 = .ok (.invokevirtual 403, 3) := by decide +kernel
theorem d_Ref_proof_4 : decode M_Ref_proof.2.1 4 = .ok (.iconst 0, 1) := by decide +kernel
theorem d_Ref_proof_5 : decode M_Ref_proof.2.1 5 = .ok (.istore_n 1, 1) := by decide +kernel
theorem d_Ref_proof_6 : decode M_Ref_proof.2.1 6 = .ok (.iload_n 1, 1) := by decide +kernel
theorem d_Ref_proof_7 : decode M_Ref_proof.2.1 7 = .ok (.aload_n 0, 1) := by decide +kernel
theorem d_Ref_proof_8 : decode M_Ref_proof.2.1 8 = .ok (.getfield 391, 3) := by decide +kernel
theorem d_Ref_proof_11 : decode M_Ref_proof.2.1 11 = .ok (.if_icmp .ge 21, 3) := by decide +kernel
theorem d_Ref_proof_14 : decode M_Ref_proof.2.1 14 = .ok (.aload_n 0, 1) := by decide +kernel
theorem d_Ref_proof_15 : decode M_Ref_proof.2.1 15 = .ok (.getfield 63, 3) := by decide +kernel
theorem d_Ref_proof_18 : decode M_Ref_proof.2.1 18 = .ok (.iload_n 1, 1) := by decide +kernel
theorem d_Ref_proof_19 : decode M_Ref_proof.2.1 19 = .ok (.aload_n 0, 1) := by decide +kernel
theorem d_Ref_proof_20 : decode M_Ref_proof.2.1 20 = .ok (.getfield 59, 3) := by decide +kernel
theorem d_Ref_proof_23 : decode M_Ref_proof.2.1 23 = .ok (.iload_n 1, 1) := by decide +kernel
theorem d_Ref_proof_24 : decode M_Ref_proof.2.1 24 = .ok (.baload, 1) := by decide +kernel
theorem d_Ref_proof_25 : decode M_Ref_proof.2.1 25 = .ok (.bastore, 1) := by decide +kernel
theorem d_Ref_proof_26 : decode M_Ref_proof.2.1 26 = .ok (.iinc 1 1, 3) := by decide +kernel
theorem d_Ref_proof_29 : decode M_Ref_proof.2.1 29 = .ok (.goto (-23), 3) := by decide +kernel
theorem d_Ref_proof_32 : decode M_Ref_proof.2.1 32 = .ok (.aload_n 0, 1) := by decide +kernel
theorem d_Ref_proof_33 : decode M_Ref_proof.2.1 33 = .ok (.aload_n 0, 1) := by decide +kernel
theorem d_Ref_proof_34 : decode M_Ref_proof.2.1 34 = .ok (.getfield 391, 3) := by decide +kernel
theorem d_Ref_proof_37 : decode M_Ref_proof.2.1 37 = .ok (.putfield 406, 3) := by decide +kernel
theorem d_Ref_proof_40 : decode M_Ref_proof.2.1 40 = .ok (.aload_n 0, 1) := by decide +kernel
theorem d_Ref_proof_41 : decode M_Ref_proof.2.1 41 = .ok (.getfield 406, 3) := by decide +kernel
theorem d_Ref_proof_44 : decode M_Ref_proof.2.1 44 = .ok (.ireturn, 1) := by decide +kernel
theorem d_Ref_layProof_0 : decode M_Ref_layProof.2.1 0 = .ok (.aload_n 0, 1) := by decide +kernel
theorem d_Ref_layProof_1 : decode M_Ref_layProof.2.1 1 = .ok (.iconst 0, 1) := by decide +kernel
theorem d_Ref_layProof_2 : decode M_Ref_layProof.2.1 2 = .ok (.putfield 391, 3) := by decide +kernel
theorem d_Ref_layProof_5 : decode M_Ref_layProof.2.1 5 = .ok (.iconst 0, 1) := by decide +kernel
theorem d_Ref_layProof_6 : decode M_Ref_layProof.2.1 6 = .ok (.istore_n 1, 1) := by decide +kernel
theorem d_Ref_layProof_7 : decode M_Ref_layProof.2.1 7 = .ok (.iload_n 1, 1) := by decide +kernel
theorem d_Ref_layProof_8 : decode M_Ref_layProof.2.1 8 = .ok (.aload_n 0, 1) := by decide +kernel
theorem d_Ref_layProof_9 : decode M_Ref_layProof.2.1 9 = .ok (.getfield 195, 3) := by decide +kernel
theorem d_Ref_layProof_12 : decode M_Ref_layProof.2.1 12 = .ok (.if_icmp .ge 113, 3) := by decide +kernel
theorem d_Ref_layProof_15 : decode M_Ref_layProof.2.1 15 = .ok (.aload_n 0, 1) := by decide +kernel
theorem d_Ref_layProof_16 : decode M_Ref_layProof.2.1 16 = .ok (.aload_n 0, 1) := by decide +kernel
theorem d_Ref_layProof_17 : decode M_Ref_layProof.2.1 17 = .ok (.getfield 16, 3) := by decide +kernel
theorem d_Ref_layProof_20 : decode M_Ref_layProof.2.1 20 = .ok (.iload_n 1, 1) := by decide +kernel
theorem d_Ref_layProof_21 : decode M_Ref_layProof.2.1 21 = .ok (.iaload, 1) := by decide +kernel
theorem d_Ref_layProof_22 : decode M_Ref_layProof.2.1 22 = .ok (.invokevirtual 397, 3) := by decide +kernel
theorem d_Ref_layProof_25 : decode M_Ref_layProof.2.1 25 = .ok (.aload_n 0, 1) := by decide +kernel
theorem d_Ref_layProof_26 : decode M_Ref_layProof.2.1 26 = .ok (.bipush 58, 2) := by decide +kernel
theorem d_Ref_layProof_28 : decode M_Ref_layProof.2.1 28 = .ok (.invokevirtual 394, 3) := by decide +kernel
theorem d_Ref_layProof_31 : decode M_Ref_layProof.2.1 31 = .ok (.aload_n 0, 1) := by decide +kernel
theorem d_Ref_layProof_32 : decode M_Ref_layProof.2.1 32 = .ok (.iconst 2, 1) := by decide +kernel
theorem d_Ref_layProof_33 : decode M_Ref_layProof.2.1 33 = .ok (.iload_n 1, 1) := by decide +kernel
theorem d_Ref_layProof_34 : decode M_Ref_layProof.2.1 34 = .ok (.imul, 1) := by decide +kernel
theorem d_Ref_layProof_35 : decode M_Ref_layProof.2.1 35 = .ok (.invokevirtual 400, 3) := by decide +kernel
theorem d_Ref_layProof_38 : decode M_Ref_layProof.2.1 38 = .ok (.aload_n 0, 1) := by decide +kernel
theorem d_Ref_layProof_39 : decode M_Ref_layProof.2.1 39 = .ok (.bipush 44, 2) := by decide +kernel
theorem d_Ref_layProof_41 : decode M_Ref_layProof.2.1 41 = .ok (.invokevirtual 394, 3) := by decide +kernel
theorem d_Ref_layProof_44 : decode M_Ref_layProof.2.1 44 = .ok (.aload_n 0, 1) := by decide +kernel
theorem d_Ref_layProof_45 : decode M_Ref_layProof.2.1 45 = .ok (.iconst 2, 1) := by decide +kernel
theorem d_Ref_layProof_46 : decode M_Ref_layProof.2.1 46 = .ok (.iload_n 1, 1) := by decide +kernel
theorem d_Ref_layProof_47 : decode M_Ref_layProof.2.1 47 = .ok (.imul, 1) := by decide +kernel
theorem d_Ref_layProof_48 : decode M_Ref_layProof.2.1 48 = .ok (.iconst 1, 1) := by decide +kernel
theorem d_Ref_layProof_49 : decode M_Ref_layProof.2.1 49 = .ok (.iadd, 1) := by decide +kernel
theorem d_Ref_layProof_50 : decode M_Ref_layProof.2.1 50 = .ok (.invokevirtual 400, 3) := by decide +kernel
theorem d_Ref_layProof_53 : decode M_Ref_layProof.2.1 53 = .ok (.iconst 1, 1) := by decide +kernel
theorem d_Ref_layProof_54 : decode M_Ref_layProof.2.1 54 = .ok (.istore_n 2, 1) := by decide +kernel
theorem d_Ref_layProof_55 : decode M_Ref_layProof.2.1 55 = .ok (.iload_n 2, 1) := by decide +kernel
theorem d_Ref_layProof_56 : decode M_Ref_layProof.2.1 56 = .ok (.aload_n 0, 1) := by decide +kernel
theorem d_Ref_layProof_57 : decode M_Ref_layProof.2.1 57 = .ok (.invokevirtual 176, 3) := by decide +kernel
theorem d_Ref_layProof_60 : decode M_Ref_layProof.2.1 60 = .ok (.if_icmp .gt 53, 3) := by decide +kernel
theorem d_Ref_layProof_63 : decode M_Ref_layProof.2.1 63 = .ok (.aload_n 0, 1) := by decide +kernel
theorem d_Ref_layProof_64 : decode M_Ref_layProof.2.1 64 = .ok (.bipush 59, 2) := by decide +kernel
theorem d_Ref_layProof_66 : decode M_Ref_layProof.2.1 66 = .ok (.invokevirtual 394, 3) := by decide +kernel
theorem d_Ref_layProof_69 : decode M_Ref_layProof.2.1 69 = .ok (.aload_n 0, 1) := by decide +kernel
theorem d_Ref_layProof_70 : decode M_Ref_layProof.2.1 70 = .ok (.iload_n 1, 1) := by decide +kernel
theorem d_Ref_layProof_71 : decode M_Ref_layProof.2.1 71 = .ok (.iload_n 2, 1) := by decide +kernel
theorem d_Ref_layProof_72 : decode M_Ref_layProof.2.1 72 = .ok (.invokevirtual 325, 3) := by decide +kernel
theorem d_Ref_layProof_75 : decode M_Ref_layProof.2.1 75 = .ok (.istore_n 3, 1) := by decide +kernel
theorem d_Ref_layProof_76 : decode M_Ref_layProof.2.1 76 = .ok (.iload_n 3, 1) := by decide +kernel
theorem d_Ref_layProof_77 : decode M_Ref_layProof.2.1 77 = .ok (.ifCond .ne 12, 3) := by decide +kernel
theorem d_Ref_layProof_80 : decode M_Ref_layProof.2.1 80 = .ok (.aload_n 0, 1) := by decide +kernel
theorem d_Ref_layProof_81 : decode M_Ref_layProof.2.1 81 = .ok (.bipush 115, 2) := by decide +kernel
theorem d_Ref_layProof_83 : decode M_Ref_layProof.2.1 83 = .ok (.invokevirtual 394, 3) := by decide +kernel
theorem d_Ref_layProof_86 : decode M_Ref_layProof.2.1 86 = .ok (.goto 21, 3) := by decide +kernel
theorem d_Ref_layProof_89 : decode M_Ref_layProof.2.1 89 = .ok (.iload_n 3, 1) := by decide +kernel
theorem d_Ref_layProof_90 : decode M_Ref_layProof.2.1 90 = .ok (.ifCond .ge 12, 3) := by decide +kernel
theorem d_Ref_layProof_93 : decode M_Ref_layProof.2.1 93 = .ok (.aload_n 0, 1) := by decide +kernel
theorem d_Ref_layProof_94 : decode M_Ref_layProof.2.1 94 = .ok (.bipush 63, 2) := by decide +kernel
theorem d_Ref_layProof_96 : decode M_Ref_layProof.2.1 96 = .ok (.invokevirtual 394, 3) := by decide +kernel
theorem d_Ref_layProof_99 : decode M_Ref_layProof.2.1 99 = .ok (.goto 8, 3) := by decide +kernel
theorem d_Ref_layProof_102 : decode M_Ref_layProof.2.1 102 = .ok (.aload_n 0, 1) := by decide +kernel
theorem d_Ref_layProof_103 : decode M_Ref_layProof.2.1 103 = .ok (.iload_n 3, 1) := by decide +kernel
theorem d_Ref_layProof_104 : decode M_Ref_layProof.2.1 104 = .ok (.invokevirtual 397, 3) := by decide +kernel
theorem d_Ref_layProof_107 : decode M_Ref_layProof.2.1 107 = .ok (.iinc 2 1, 3) := by decide +kernel
theorem d_Ref_layProof_110 : decode M_Ref_layProof.2.1 110 = .ok (.goto (-55), 3) := by decide +kernel
theorem d_Ref_layProof_113 : decode M_Ref_layProof.2.1 113 = .ok (.aload_n 0, 1) := by decide +kernel
theorem d_Ref_layProof_114 : decode M_Ref_layProof.2.1 114 = .ok (.bipush 46, 2) := by decide +kernel
theorem d_Ref_layProof_116 : decode M_Ref_layProof.2.1 116 = .ok (.invokevirtual 394, 3) := by decide +kernel
theorem d_Ref_layProof_119 : decode M_Ref_layProof.2.1 119 = .ok (.iinc 1 1, 3) := by decide +kernel
theorem d_Ref_layProof_122 : decode M_Ref_layProof.2.1 122 = .ok (.goto (-115), 3) := by decide +kernel
theorem d_Ref_layProof_125 : decode M_Ref_layProof.2.1 125 = .ok (.return_, 1) := by decide +kernel
theorem d_Ref_putNumber_0 : decode M_Ref_putNumber.2.1 0 = .ok (.iload_n 1, 1) := by decide +kernel
theorem d_Ref_putNumber_1 : decode M_Ref_putNumber.2.1 1 = .ok (.invokestatic 105, 3) := by decide +kernel
theorem d_Ref_putNumber_4 : decode M_Ref_putNumber.2.1 4 = .ok (.iconst 1, 1) := by decide +kernel
theorem d_Ref_putNumber_5 : decode M_Ref_putNumber.2.1 5 = .ok (.isub, 1) := by decide +kernel
theorem d_Ref_putNumber_6 : decode M_Ref_putNumber.2.1 6 = .ok (.istore_n 2, 1) := by decide +kernel
theorem d_Ref_putNumber_7 : decode M_Ref_putNumber.2.1 7 = .ok (.iload_n 2, 1) := by decide +kernel
theorem d_Ref_putNumber_8 : decode M_Ref_putNumber.2.1 8 = .ok (.ifCond .lt 21, 3) := by decide +kernel
theorem d_Ref_putNumber_11 : decode M_Ref_putNumber.2.1 11 = .ok (.aload_n 0, 1) := by decide +kernel
theorem d_Ref_putNumber_12 : decode M_Ref_putNumber.2.1 12 = .ok (.bipush 48, 2) := by decide +kernel
theorem d_Ref_putNumber_14 : decode M_Ref_putNumber.2.1 14 = .ok (.iload_n 1, 1) := by decide +kernel
theorem d_Ref_putNumber_15 : decode M_Ref_putNumber.2.1 15 = .ok (.iload_n 2, 1) := by decide +kernel
theorem d_Ref_putNumber_16 : decode M_Ref_putNumber.2.1 16 = .ok (.invokestatic 115, 3) := by decide +kernel
theorem d_Ref_putNumber_19 : decode M_Ref_putNumber.2.1 19 = .ok (.iadd, 1) := by decide +kernel
theorem d_Ref_putNumber_20 : decode M_Ref_putNumber.2.1 20 = .ok (.invokevirtual 394, 3) := by decide +kernel
theorem d_Ref_putNumber_23 : decode M_Ref_putNumber.2.1 23 = .ok (.iinc 2 (-1), 3) := by decide +kernel
theorem d_Ref_putNumber_26 : decode M_Ref_putNumber.2.1 26 = .ok (.goto (-19), 3) := by decide +kernel
theorem d_Ref_putNumber_29 : decode M_Ref_putNumber.2.1 29 = .ok (.return_, 1) := by decide +kernel
theorem d_Ref_put_0 : decode M_Ref_put.2.1 0 = .ok (.aload_n 0, 1) := by decide +kernel
theorem d_Ref_put_1 : decode M_Ref_put.2.1 1 = .ok (.getfield 59, 3) := by decide +kernel
theorem d_Ref_put_4 : decode M_Ref_put.2.1 4 = .ok (.aload_n 0, 1) := by decide +kernel
theorem d_Ref_put_5 : decode M_Ref_put.2.1 5 = .ok (.getfield 391, 3) := by decide +kernel
theorem d_Ref_put_8 : decode M_Ref_put.2.1 8 = .ok (.iload_n 1, 1) := by decide +kernel
theorem d_Ref_put_9 : decode M_Ref_put.2.1 9 = .ok (.i2b, 1) := by decide +kernel
theorem d_Ref_put_10 : decode M_Ref_put.2.1 10 = .ok (.bastore, 1) := by decide +kernel
theorem d_Ref_put_11 : decode M_Ref_put.2.1 11 = .ok (.aload_n 0, 1) := by decide +kernel
theorem d_Ref_put_12 : decode M_Ref_put.2.1 12 = .ok (.dup, 1) := by decide +kernel
theorem d_Ref_put_13 : decode M_Ref_put.2.1 13 = .ok (.getfield 391, 3) := by decide +kernel
theorem d_Ref_put_16 : decode M_Ref_put.2.1 16 = .ok (.iconst 1, 1) := by decide +kernel
theorem d_Ref_put_17 : decode M_Ref_put.2.1 17 = .ok (.iadd, 1) := by decide +kernel
theorem d_Ref_put_18 : decode M_Ref_put.2.1 18 = .ok (.putfield 391, 3) := by decide +kernel
theorem d_Ref_put_21 : decode M_Ref_put.2.1 21 = .ok (.return_, 1) := by decide +kernel
theorem d_Ref_putBig_0 : decode M_Ref_putBig.2.1 0 = .ok (.aload_n 0, 1) := by decide +kernel
theorem d_Ref_putBig_1 : decode M_Ref_putBig.2.1 1 = .ok (.iload_n 1, 1) := by decide +kernel
theorem d_Ref_putBig_2 : decode M_Ref_putBig.2.1 2 = .ok (.invokevirtual 108, 3) := by decide +kernel
theorem d_Ref_putBig_5 : decode M_Ref_putBig.2.1 5 = .ok (.iconst 1, 1) := by decide +kernel
theorem d_Ref_putBig_6 : decode M_Ref_putBig.2.1 6 = .ok (.isub, 1) := by decide +kernel
theorem d_Ref_putBig_7 : decode M_Ref_putBig.2.1 7 = .ok (.istore_n 2, 1) := by decide +kernel
theorem d_Ref_putBig_8 : decode M_Ref_putBig.2.1 8 = .ok (.iload_n 2, 1) := by decide +kernel
theorem d_Ref_putBig_9 : decode M_Ref_putBig.2.1 9 = .ok (.ifCond .lt 22, 3) := by decide +kernel
theorem d_Ref_putBig_12 : decode M_Ref_putBig.2.1 12 = .ok (.aload_n 0, 1) := by decide +kernel
theorem d_Ref_putBig_13 : decode M_Ref_putBig.2.1 13 = .ok (.bipush 48, 2) := by decide +kernel
theorem d_Ref_putBig_15 : decode M_Ref_putBig.2.1 15 = .ok (.aload_n 0, 1) := by decide +kernel
theorem d_Ref_putBig_16 : decode M_Ref_putBig.2.1 16 = .ok (.iload_n 1, 1) := by decide +kernel
theorem d_Ref_putBig_17 : decode M_Ref_putBig.2.1 17 = .ok (.iload_n 2, 1) := by decide +kernel
theorem d_Ref_putBig_18 : decode M_Ref_putBig.2.1 18 = .ok (.invokevirtual 251, 3) := by decide +kernel
theorem d_Ref_putBig_21 : decode M_Ref_putBig.2.1 21 = .ok (.iadd, 1) := by decide +kernel
theorem d_Ref_putBig_22 : decode M_Ref_putBig.2.1 22 = .ok (.invokevirtual 394, 3) := by decide +kernel
theorem d_Ref_putBig_25 : decode M_Ref_putBig.2.1 25 = .ok (.iinc 2 (-1), 3) := by decide +kernel
theorem d_Ref_putBig_28 : decode M_Ref_putBig.2.1 28 = .ok (.goto (-20), 3) := by decide +kernel
theorem d_Ref_putBig_31 : decode M_Ref_putBig.2.1 31 = .ok (.return_, 1) := by decide +kernel
theorem d_Ref_octet_0 : decode M_Ref_octet.2.1 0 = .ok (.iload_n 1, 1) := by decide +kernel
theorem d_Ref_octet_1 : decode M_Ref_octet.2.1 1 = .ok (.i2l, 1) := by decide +kernel
theorem d_Ref_octet_2 : decode M_Ref_octet.2.1 2 = .ok (.lconst 0, 1) := by decide +kernel
theorem d_Ref_octet_3 : decode M_Ref_octet.2.1 3 = .ok (.aload_n 0, 1) := by decide +kernel
theorem d_Ref_octet_4 : decode M_Ref_octet.2.1 4 = .ok (.getfield 406, 3) := by decide +kernel
theorem d_Ref_octet_7 : decode M_Ref_octet.2.1 7 = .ok (.iconst 1, 1) := by decide +kernel
theorem d_Ref_octet_8 : decode M_Ref_octet.2.1 8 = .ok (.isub, 1) := by decide +kernel
theorem d_Ref_octet_9 : decode M_Ref_octet.2.1 9 = .ok (.i2l, 1) := by decide +kernel
theorem d_Ref_octet_10 : decode M_Ref_octet.2.1 10 = .ok (.invokestatic 111, 3) := by decide +kernel
theorem d_Ref_octet_13 : decode M_Ref_octet.2.1 13 = .ok (.ifCond .eq 12, 3) := by decide +kernel
theorem d_Ref_octet_16 : decode M_Ref_octet.2.1 16 = .ok (.aload_n 0, 1) := by decide +kernel
theorem d_Ref_octet_17 : decode M_Ref_octet.2.1 17 = .ok (.getfield 63, 3) := by decide +kernel
theorem d_Ref_octet_20 : decode M_Ref_octet.2.1 20 = .ok (.iload_n 1, 1) := by decide +kernel
theorem d_Ref_octet_21 : decode M_Ref_octet.2.1 21 = .ok (.baload, 1) := by decide +kernel
theorem d_Ref_octet_22 : decode M_Ref_octet.2.1 22 = .ok (.goto 4, 3) := by decide +kernel
theorem d_Ref_octet_25 : decode M_Ref_octet.2.1 25 = .ok (.iconst (-1), 1) := by decide +kernel
theorem d_Ref_octet_26 : decode M_Ref_octet.2.1 26 = .ok (.ireturn, 1) := by decide +kernel
theorem d_Ref_feed_0 : decode M_Ref_feed.2.1 0 = .ok (.aload_n 0, 1) := by decide +kernel
theorem d_Ref_feed_1 : decode M_Ref_feed.2.1 1 = .ok (.getfield 342, 3) := by decide +kernel
theorem d_Ref_feed_4 : decode M_Ref_feed.2.1 4 = .ok (.bipush 20, 2) := by decide +kernel
theorem d_Ref_feed_6 : decode M_Ref_feed.2.1 6 = .ok (.iadd, 1) := by decide +kernel
theorem d_Ref_feed_7 : decode M_Ref_feed.2.1 7 = .ok (.sipush 2000, 3) := by decide +kernel
theorem d_Ref_feed_10 : decode M_Ref_feed.2.1 10 = .ok (.if_icmp .le 5, 3) := by decide +kernel
theorem d_Ref_feed_13 : decode M_Ref_feed.2.1 13 = .ok (.iconst (-1), 1) := by decide +kernel
theorem d_Ref_feed_14 : decode M_Ref_feed.2.1 14 = .ok (.ireturn, 1) := by decide +kernel
theorem d_Ref_feed_15 : decode M_Ref_feed.2.1 15 = .ok (.aload_n 0, 1) := by decide +kernel
theorem d_Ref_feed_16 : decode M_Ref_feed.2.1 16 = .ok (.iload_n 1, 1) := by decide +kernel
theorem d_Ref_feed_17 : decode M_Ref_feed.2.1 17 = .ok (.invokevirtual 409, 3) := by decide +kernel
theorem d_Ref_feed_20 : decode M_Ref_feed.2.1 20 = .ok (.aload_n 0, 1) := by decide +kernel
theorem d_Ref_feed_21 : decode M_Ref_feed.2.1 21 = .ok (.iload_n 2, 1) := by decide +kernel
theorem d_Ref_feed_22 : decode M_Ref_feed.2.1 22 = .ok (.invokevirtual 409, 3) := by decide +kernel
theorem d_Ref_feed_25 : decode M_Ref_feed.2.1 25 = .ok (.aload_n 0, 1) := by decide +kernel
theorem d_Ref_feed_26 : decode M_Ref_feed.2.1 26 = .ok (.iload_n 3, 1) := by decide +kernel
theorem d_Ref_feed_27 : decode M_Ref_feed.2.1 27 = .ok (.invokevirtual 409, 3) := by decide +kernel
theorem d_Ref_feed_30 : decode M_Ref_feed.2.1 30 = .ok (.aload_n 0, 1) := by decide +kernel
theorem d_Ref_feed_31 : decode M_Ref_feed.2.1 31 = .ok (.iload 4, 2) := by decide +kernel
theorem d_Ref_feed_33 : decode M_Ref_feed.2.1 33 = .ok (.invokevirtual 409, 3) := by decide +kernel
theorem d_Ref_feed_36 : decode M_Ref_feed.2.1 36 = .ok (.aload_n 0, 1) := by decide +kernel
theorem d_Ref_feed_37 : decode M_Ref_feed.2.1 37 = .ok (.iload 5, 2) := by decide +kernel
theorem d_Ref_feed_39 : decode M_Ref_feed.2.1 39 = .ok (.invokevirtual 409, 3) := by decide +kernel
theorem d_Ref_feed_42 : decode M_Ref_feed.2.1 42 = .ok (.aload_n 0, 1) := by decide +kernel
theorem d_Ref_feed_43 : decode M_Ref_feed.2.1 43 = .ok (.getfield 342, 3) := by decide +kernel
theorem d_Ref_feed_46 : decode M_Ref_feed.2.1 46 = .ok (.ireturn, 1) := by decide +kernel
theorem d_Ref_four_0 : decode M_Ref_four.2.1 0 = .ok (.bipush 24, 2) := by decide +kernel
theorem d_Ref_four_2 : decode M_Ref_four.2.1 2 = .ok (.istore_n 2, 1) := by decide +kernel
theorem d_Ref_four_3 : decode M_Ref_four.2.1 3 = .ok (.iload_n 2, 1) := by decide +kernel
theorem d_Ref_four_4 : decode M_Ref_four.2.1 4 = .ok (.ifCond .lt 32, 3) := by decide +kernel
theorem d_Ref_four_7 : decode M_Ref_four.2.1 7 = .ok (.aload_n 0, 1) := by decide +kernel
theorem d_Ref_four_8 : decode M_Ref_four.2.1 8 = .ok (.getfield 66, 3) := by decide +kernel
theorem d_Ref_four_11 : decode M_Ref_four.2.1 11 = .ok (.aload_n 0, 1) := by decide +kernel
theorem d_Ref_four_12 : decode M_Ref_four.2.1 12 = .ok (.getfield 342, 3) := by decide +kernel
theorem d_Ref_four_15 : decode M_Ref_four.2.1 15 = .ok (.iload_n 1, 1) := by decide +kernel
theorem d_Ref_four_16 : decode M_Ref_four.2.1 16 = .ok (.iload_n 2, 1) := by decide +kernel
theorem d_Ref_four_17 : decode M_Ref_four.2.1 17 = .ok (.ishr, 1) := by decide +kernel
theorem d_Ref_four_18 : decode M_Ref_four.2.1 18 = .ok (.i2b, 1) := by decide +kernel
theorem d_Ref_four_19 : decode M_Ref_four.2.1 19 = .ok (.bastore, 1) := by decide +kernel
theorem d_Ref_four_20 : decode M_Ref_four.2.1 20 = .ok (.aload_n 0, 1) := by decide +kernel
theorem d_Ref_four_21 : decode M_Ref_four.2.1 21 = .ok (.dup, 1) := by decide +kernel
theorem d_Ref_four_22 : decode M_Ref_four.2.1 22 = .ok (.getfield 342, 3) := by decide +kernel
theorem d_Ref_four_25 : decode M_Ref_four.2.1 25 = .ok (.iconst 1, 1) := by decide +kernel
theorem d_Ref_four_26 : decode M_Ref_four.2.1 26 = .ok (.iadd, 1) := by decide +kernel
theorem d_Ref_four_27 : decode M_Ref_four.2.1 27 = .ok (.putfield 342, 3) := by decide +kernel
theorem d_Ref_four_30 : decode M_Ref_four.2.1 30 = .ok (.iinc 2 (-8), 3) := by decide +kernel
theorem d_Ref_four_33 : decode M_Ref_four.2.1 33 = .ok (.goto (-30), 3) := by decide +kernel
theorem d_Ref_four_36 : decode M_Ref_four.2.1 36 = .ok (.return_, 1) := by decide +kernel
theorem d_Ref_end_0 : decode M_Ref_end.2.1 0 = .ok (.iload_n 1, 1) := by decide +kernel
theorem d_Ref_end_1 : decode M_Ref_end.2.1 1 = .ok (.i2l, 1) := by decide +kernel
theorem d_Ref_end_2 : decode M_Ref_end.2.1 2 = .ok (.lconst 0, 1) := by decide +kernel
theorem d_Ref_end_3 : decode M_Ref_end.2.1 3 = .ok (.aload_n 0, 1) := by decide +kernel
theorem d_Ref_end_4 : decode M_Ref_end.2.1 4 = .ok (.getfield 342, 3) := by decide +kernel
theorem d_Ref_end_7 : decode M_Ref_end.2.1 7 = .ok (.i2l, 1) := by decide +kernel
theorem d_Ref_end_8 : decode M_Ref_end.2.1 8 = .ok (.invokestatic 111, 3) := by decide +kernel
theorem d_Ref_end_11 : decode M_Ref_end.2.1 11 = .ok (.ifCond .ne 5, 3) := by decide +kernel
theorem d_Ref_end_14 : decode M_Ref_end.2.1 14 = .ok (.iconst (-1), 1) := by decide +kernel
theorem d_Ref_end_15 : decode M_Ref_end.2.1 15 = .ok (.ireturn, 1) := by decide +kernel
theorem d_Ref_end_16 : decode M_Ref_end.2.1 16 = .ok (.aload_n 0, 1) := by decide +kernel
theorem d_Ref_end_17 : decode M_Ref_end.2.1 17 = .ok (.iload_n 1, 1) := by decide +kernel
theorem d_Ref_end_18 : decode M_Ref_end.2.1 18 = .ok (.putfield 342, 3) := by decide +kernel
theorem d_Ref_end_21 : decode M_Ref_end.2.1 21 = .ok (.iload_n 1, 1) := by decide +kernel
theorem d_Ref_end_22 : decode M_Ref_end.2.1 22 = .ok (.ireturn, 1) := by decide +kernel
theorem d_Ref_proves_0 : decode M_Ref_proves.2.1 0 = .ok (.aload_n 0, 1) := by decide +kernel
theorem d_Ref_proves_1 : decode M_Ref_proves.2.1 1 = .ok (.getfield 342, 3) := by decide +kernel
theorem d_Ref_proves_4 : decode M_Ref_proves.2.1 4 = .ok (.istore_n 1, 1) := by decide +kernel
theorem d_Ref_proves_5 : decode M_Ref_proves.2.1 5 = .ok (.aload_n 0, 1) := by decide +kernel
theorem d_Ref_proves_6 : decode M_Ref_proves.2.1 6 = .ok (.iconst 0, 1) := by decide +kernel
theorem d_Ref_proves_7 : decode M_Ref_proves.2.1 7 = .ok (.putfield 342, 3) := by decide +kernel
theorem d_Ref_proves_10 : decode M_Ref_proves.2.1 10 = .ok (.aload_n 0, 1) := by decide +kernel
theorem d_Ref_proves_11 : decode M_Ref_proves.2.1 11 = .ok (.invokevirtual 403, 3) := by decide +kernel
theorem d_Ref_proves_14 : decode M_Ref_proves.2.1 14 = .ok (.iconst 0, 1) := by decide +kernel
theorem d_Ref_proves_15 : decode M_Ref_proves.2.1 15 = .ok (.istore_n 2, 1) := by decide +kernel
theorem d_Ref_proves_16 : decode M_Ref_proves.2.1 16 = .ok (.iload_n 2, 1) := by decide +kernel
theorem d_Ref_proves_17 : decode M_Ref_proves.2.1 17 = .ok (.iload_n 1, 1) := by decide +kernel
theorem d_Ref_proves_18 : decode M_Ref_proves.2.1 18 = .ok (.if_icmp .ge 32, 3) := by decide +kernel
theorem d_Ref_proves_21 : decode M_Ref_proves.2.1 21 = .ok (.iload_n 2, 1) := by decide +kernel
theorem d_Ref_proves_22 : decode M_Ref_proves.2.1 22 = .ok (.aload_n 0, 1) := by decide +kernel
theorem d_Ref_proves_23 : decode M_Ref_proves.2.1 23 = .ok (.getfield 391, 3) := by decide +kernel
theorem d_Ref_proves_26 : decode M_Ref_proves.2.1 26 = .ok (.if_icmp .ge 24, 3) := by decide +kernel
theorem d_Ref_proves_29 : decode M_Ref_proves.2.1 29 = .ok (.aload_n 0, 1) := by decide +kernel
theorem d_Ref_proves_30 : decode M_Ref_proves.2.1 30 = .ok (.getfield 66, 3) := by decide +kernel
theorem d_Ref_proves_33 : decode M_Ref_proves.2.1 33 = .ok (.iload_n 2, 1) := by decide +kernel
theorem d_Ref_proves_34 : decode M_Ref_proves.2.1 34 = .ok (.baload, 1) := by decide +kernel
theorem d_Ref_proves_35 : decode M_Ref_proves.2.1 35 = .ok (.aload_n 0, 1) := by decide +kernel
theorem d_Ref_proves_36 : decode M_Ref_proves.2.1 36 = .ok (.getfield 59, 3) := by decide +kernel
theorem d_Ref_proves_39 : decode M_Ref_proves.2.1 39 = .ok (.iload_n 2, 1) := by decide +kernel
theorem d_Ref_proves_40 : decode M_Ref_proves.2.1 40 = .ok (.baload, 1) := by decide +kernel
theorem d_Ref_proves_41 : decode M_Ref_proves.2.1 41 = .ok (.if_icmp .ne 9, 3) := by decide +kernel
theorem d_Ref_proves_44 : decode M_Ref_proves.2.1 44 = .ok (.iinc 2 1, 3) := by decide +kernel
theorem d_Ref_proves_47 : decode M_Ref_proves.2.1 47 = .ok (.goto (-31), 3) := by decide +kernel
theorem d_Ref_proves_50 : decode M_Ref_proves.2.1 50 = .ok (.iload_n 2, 1) := by decide +kernel
theorem d_Ref_proves_51 : decode M_Ref_proves.2.1 51 = .ok (.iload_n 1, 1) := by decide +kernel
theorem d_Ref_proves_52 : decode M_Ref_proves.2.1 52 = .ok (.if_icmp .ne 15, 3) := by decide +kernel
theorem d_Ref_proves_55 : decode M_Ref_proves.2.1 55 = .ok (.iload_n 2, 1) := by decide +kernel
theorem d_Ref_proves_56 : decode M_Ref_proves.2.1 56 = .ok (.aload_n 0, 1) := by decide +kernel
theorem d_Ref_proves_57 : decode M_Ref_proves.2.1 57 = .ok (.getfield 391, 3) := by decide +kernel
theorem d_Ref_proves_60 : decode M_Ref_proves.2.1 60 = .ok (.if_icmp .ne 7, 3) := by decide +kernel
theorem d_Ref_proves_63 : decode M_Ref_proves.2.1 63 = .ok (.iconst (-1), 1) := by decide +kernel
theorem d_Ref_proves_64 : decode M_Ref_proves.2.1 64 = .ok (.goto 4, 3) := by decide +kernel
theorem d_Ref_proves_67 : decode M_Ref_proves.2.1 67 = .ok (.iload_n 2, 1) := by decide +kernel
theorem d_Ref_proves_68 : decode M_Ref_proves.2.1 68 = .ok (.ireturn, 1) := by decide +kernel
theorem d_Ref_meanLength_0 : decode M_Ref_meanLength.2.1 0 = .ok (.iconst 0, 1) := by decide +kernel
theorem d_Ref_meanLength_1 : decode M_Ref_meanLength.2.1 1 = .ok (.istore_n 1, 1) := by decide +kernel
theorem d_Ref_meanLength_2 : decode M_Ref_meanLength.2.1 2 = .ok (.iconst 0, 1) := by decide +kernel
theorem d_Ref_meanLength_3 : decode M_Ref_meanLength.2.1 3 = .ok (.istore_n 2, 1) := by decide +kernel
theorem d_Ref_meanLength_4 : decode M_Ref_meanLength.2.1 4 = .ok (.iload_n 2, 1) := by decide +kernel
theorem d_Ref_meanLength_5 : decode M_Ref_meanLength.2.1 5 = .ok (.aload_n 0, 1) := by decide +kernel
theorem d_Ref_meanLength_6 : decode M_Ref_meanLength.2.1 6 = .ok (.getfield 167, 3) := by decide +kernel
theorem d_Ref_meanLength_9 : decode M_Ref_meanLength.2.1 9 = .ok (.if_icmp .ge 21, 3) := by decide +kernel
theorem d_Ref_meanLength_12 : decode M_Ref_meanLength.2.1 12 = .ok (.iload_n 1, 1) := by decide +kernel
theorem d_Ref_meanLength_13 : decode M_Ref_meanLength.2.1 13 = .ok (.aload_n 0, 1) := by decide +kernel
theorem d_Ref_meanLength_14 : decode M_Ref_meanLength.2.1 14 = .ok (.getfield 28, 3) := by decide +kernel
theorem d_Ref_meanLength_17 : decode M_Ref_meanLength.2.1 17 = .ok (.iload_n 2, 1) := by decide +kernel
theorem d_Ref_meanLength_18 : decode M_Ref_meanLength.2.1 18 = .ok (.iaload, 1) := by decide +kernel
theorem d_Ref_meanLength_19 : decode M_Ref_meanLength.2.1 19 = .ok (.invokestatic 105, 3) := by decide +kernel
theorem d_Ref_meanLength_22 : decode M_Ref_meanLength.2.1 22 = .ok (.iadd, 1) := by decide +kernel
theorem d_Ref_meanLength_23 : decode M_Ref_meanLength.2.1 23 = .ok (.istore_n 1, 1) := by decide +kernel
theorem d_Ref_meanLength_24 : decode M_Ref_meanLength.2.1 24 = .ok (.iinc 2 1, 3) := by decide +kernel
theorem d_Ref_meanLength_27 : decode M_Ref_meanLength.2.1 27 = .ok (.goto (-23), 3) := by decide +kernel
theorem d_Ref_meanLength_30 : decode M_Ref_meanLength.2.1 30 = .ok (.aload_n 0, 1) := by decide +kernel
theorem d_Ref_meanLength_31 : decode M_Ref_meanLength.2.1 31 = .ok (.getfield 167, 3) := by decide +kernel
theorem d_Ref_meanLength_34 : decode M_Ref_meanLength.2.1 34 = .ok (.ifCond .ne 7, 3) := by decide +kernel
theorem d_Ref_meanLength_37 : decode M_Ref_meanLength.2.1 37 = .ok (.iconst 0, 1) := by decide +kernel
theorem d_Ref_meanLength_38 : decode M_Ref_meanLength.2.1 38 = .ok (.goto 14, 3) := by decide +kernel
theorem d_Ref_meanLength_41 : decode M_Ref_meanLength.2.1 41 = .ok (.iload_n 1, 1) := by decide +kernel
theorem d_Ref_meanLength_42 : decode M_Ref_meanLength.2.1 42 = .ok (.i2f, 1) := by decide +kernel
theorem d_Ref_meanLength_43 : decode M_Ref_meanLength.2.1 43 = .ok (.aload_n 0, 1) := by decide +kernel
theorem d_Ref_meanLength_44 : decode M_Ref_meanLength.2.1 44 = .ok (.getfield 167, 3) := by decide +kernel
theorem d_Ref_meanLength_47 : decode M_Ref_meanLength.2.1 47 = .ok (.i2f, 1) := by decide +kernel
theorem d_Ref_meanLength_48 : decode M_Ref_meanLength.2.1 48 = .ok (.fdiv, 1) := by decide +kernel
theorem d_Ref_meanLength_49 : decode M_Ref_meanLength.2.1 49 = .ok (.invokestatic 412, 3) := by decide +kernel
theorem d_Ref_meanLength_52 : decode M_Ref_meanLength.2.1 52 = .ok (.ireturn, 1) := by decide +kernel
theorem d_JFlo_floatToIntBits_0 : decode M_JFlo_floatToIntBits.2.1 0 = .ok (.fload_n 0, 1) := by decide +kernel
theorem d_JFlo_floatToIntBits_1 : decode M_JFlo_floatToIntBits.2.1 1 = .ok (.invokestatic 59, 3) := by decide +kernel
theorem d_JFlo_floatToIntBits_4 : decode M_JFlo_floatToIntBits.2.1 4 = .ok (.ifCond .ne 8, 3) := by decide +kernel
theorem d_JFlo_floatToIntBits_7 : decode M_JFlo_floatToIntBits.2.1 7 = .ok (.fload_n 0, 1) := by decide +kernel
theorem d_JFlo_floatToIntBits_8 : decode M_JFlo_floatToIntBits.2.1 8 = .ok (.invokestatic 74, 3) := by decide +kernel
theorem d_JFlo_floatToIntBits_11 : decode M_JFlo_floatToIntBits.2.1 11 = .ok (.ireturn, 1) := by decide +kernel
theorem d_JFlo_floatToIntBits_12 : decode M_JFlo_floatToIntBits.2.1 12 = .ok (.ldc 77, 2) := by decide +kernel
theorem d_JFlo_floatToIntBits_14 : decode M_JFlo_floatToIntBits.2.1 14 = .ok (.ireturn, 1) := by decide +kernel
theorem d_JFlo_isNaN_0 : decode M_JFlo_isNaN.2.1 0 = .ok (.fload_n 0, 1) := by decide +kernel
theorem d_JFlo_isNaN_1 : decode M_JFlo_isNaN.2.1 1 = .ok (.fload_n 0, 1) := by decide +kernel
theorem d_JFlo_isNaN_2 : decode M_JFlo_isNaN.2.1 2 = .ok (.fcmp .l, 1) := by decide +kernel
theorem d_JFlo_isNaN_3 : decode M_JFlo_isNaN.2.1 3 = .ok (.ifCond .eq 7, 3) := by decide +kernel
theorem d_JFlo_isNaN_6 : decode M_JFlo_isNaN.2.1 6 = .ok (.iconst 1, 1) := by decide +kernel
theorem d_JFlo_isNaN_7 : decode M_JFlo_isNaN.2.1 7 = .ok (.goto 4, 3) := by decide +kernel
theorem d_JFlo_isNaN_10 : decode M_JFlo_isNaN.2.1 10 = .ok (.iconst 0, 1) := by decide +kernel
theorem d_JFlo_isNaN_11 : decode M_JFlo_isNaN.2.1 11 = .ok (.ireturn, 1) := by decide +kernel
theorem d_Ref_thick_0 : decode M_Ref_thick.2.1 0 = .ok (.iload_n 1, 1) := by decide +kernel
theorem d_Ref_thick_1 : decode M_Ref_thick.2.1 1 = .ok (.i2l, 1) := by decide +kernel
theorem d_Ref_thick_2 : decode M_Ref_thick.2.1 2 = .ok (.lconst 1, 1) := by decide +kernel
theorem d_Ref_thick_3 : decode M_Ref_thick.2.1 3 = .ok (.ldc2_w 311, 3) := by decide +kernel
theorem d_Ref_thick_6 : decode M_Ref_thick.2.1 6 = .ok (.invokestatic 111, 3) := by decide +kernel
theorem d_Ref_thick_9 : decode M_Ref_thick.2.1 9 = .ok (.ifCond .eq 18, 3) := by decide +kernel
theorem d_Ref_thick_12 : decode M_Ref_thick.2.1 12 = .ok (.aload_n 0, 1) := by decide +kernel
theorem d_Ref_thick_13 : decode M_Ref_thick.2.1 13 = .ok (.iload_n 1, 1) := by decide +kernel
theorem d_Ref_thick_14 : decode M_Ref_thick.2.1 14 = .ok (.invokevirtual 313, 3) := by decide +kernel
theorem d_Ref_thick_17 : decode M_Ref_thick.2.1 17 = .ok (.i2d, 1) := by decide +kernel
theorem d_Ref_thick_18 : decode M_Ref_thick.2.1 18 = .ok (.iload_n 1, 1) := by decide +kernel
theorem d_Ref_thick_19 : decode M_Ref_thick.2.1 19 = .ok (.i2d, 1) := by decide +kernel
theorem d_Ref_thick_20 : decode M_Ref_thick.2.1 20 = .ok (.ddiv, 1) := by decide +kernel
theorem d_Ref_thick_21 : decode M_Ref_thick.2.1 21 = .ok (.invokestatic 418, 3) := by decide +kernel
theorem d_Ref_thick_24 : decode M_Ref_thick.2.1 24 = .ok (.goto 4, 3) := by decide +kernel
theorem d_Ref_thick_27 : decode M_Ref_thick.2.1 27 = .ok (.lconst 0, 1) := by decide +kernel
theorem d_Ref_thick_28 : decode M_Ref_thick.2.1 28 = .ok (.lreturn, 1) := by decide +kernel
theorem d_JDou_doubleToLongBits_0 : decode M_JDou_doubleToLongBits.2.1 0 = .ok (.dload_n 0, 1) := by decide +kernel
theorem d_JDou_doubleToLongBits_1 : decode M_JDou_doubleToLongBits.2.1 1 = .ok (.invokestatic 122, 3) := by decide +kernel
theorem d_JDou_doubleToLongBits_4 : decode M_JDou_doubleToLongBits.2.1 4 = .ok (.ifCond .ne 8, 3) := by decide +kernel
theorem d_JDou_doubleToLongBits_7 : decode M_JDou_doubleToLongBits.2.1 7 = .ok (.dload_n 0, 1) := by decide +kernel
theorem d_JDou_doubleToLongBits_8 : decode M_JDou_doubleToLongBits.2.1 8 = .ok (.invokestatic 134, 3) := by decide +kernel
theorem d_JDou_doubleToLongBits_11 : decode M_JDou_doubleToLongBits.2.1 11 = .ok (.lreturn, 1) := by decide +kernel
theorem d_JDou_doubleToLongBits_12 : decode M_JDou_doubleToLongBits.2.1 12 = .ok (.ldc2_w 137, 3) := by decide +kernel
theorem d_JDou_doubleToLongBits_15 : decode M_JDou_doubleToLongBits.2.1 15 = .ok (.lreturn, 1) := by decide +kernel
theorem d_JDou_isNaN_0 : decode M_JDou_isNaN.2.1 0 = .ok (.dload_n 0, 1) := by decide +kernel
theorem d_JDou_isNaN_1 : decode M_JDou_isNaN.2.1 1 = .ok (.dload_n 0, 1) := by decide +kernel
theorem d_JDou_isNaN_2 : decode M_JDou_isNaN.2.1 2 = .ok (.dcmp .l, 1) := by decide +kernel
theorem d_JDou_isNaN_3 : decode M_JDou_isNaN.2.1 3 = .ok (.ifCond .eq 7, 3) := by decide +kernel
theorem d_JDou_isNaN_6 : decode M_JDou_isNaN.2.1 6 = .ok (.iconst 1, 1) := by decide +kernel
theorem d_JDou_isNaN_7 : decode M_JDou_isNaN.2.1 7 = .ok (.goto 4, 3) := by decide +kernel
theorem d_JDou_isNaN_10 : decode M_JDou_isNaN.2.1 10 = .ok (.iconst 0, 1) := by decide +kernel
theorem d_JDou_isNaN_11 : decode M_JDou_isNaN.2.1 11 = .ok (.ireturn, 1) := by decide +kernel
theorem d_Law_law_0 : decode M_Law_law.2.1 0 = .ok (.new 7, 3) := by decide +kernel
theorem d_Law_law_3 : decode M_Law_law.2.1 3 = .ok (.dup, 1) := by decide +kernel
theorem d_Law_law_4 : decode M_Law_law.2.1 4 = .ok (.invokespecial 9, 3) := by decide +kernel
theorem d_Law_law_7 : decode M_Law_law.2.1 7 = .ok (.astore_n 1, 1) := by decide +kernel
theorem d_Law_law_8 : decode M_Law_law.2.1 8 = .ok (.new 10, 3) := by decide +kernel
theorem d_Law_law_11 : decode M_Law_law.2.1 11 = .ok (.dup, 1) := by decide +kernel
theorem d_Law_law_12 : decode M_Law_law.2.1 12 = .ok (.invokespecial 12, 3) := by decide +kernel
theorem d_Law_law_15 : decode M_Law_law.2.1 15 = .ok (.astore_n 2, 1) := by decide +kernel
theorem d_Law_law_16 : decode M_Law_law.2.1 16 = .ok (.iconst 0, 1) := by decide +kernel
theorem d_Law_law_17 : decode M_Law_law.2.1 17 = .ok (.istore_n 3, 1) := by decide +kernel
theorem d_Law_law_18 : decode M_Law_law.2.1 18 = .ok (.iload_n 3, 1) := by decide +kernel
theorem d_Law_law_19 : decode M_Law_law.2.1 19 = .ok (.aload_n 0, 1) := by decide +kernel
theorem d_Law_law_20 : decode M_Law_law.2.1 20 = .ok (.arraylength, 1) := by decide +kernel
theorem d_Law_law_21 : decode M_Law_law.2.1 21 = .ok (.bipush 6, 2) := by decide +kernel
theorem d_Law_law_23 : decode M_Law_law.2.1 23 = .ok (.isub, 1) := by decide +kernel
theorem d_Law_law_24 : decode M_Law_law.2.1 24 = .ok (.if_icmp .gt 2005, 3) := by decide +kernel
theorem d_Law_law_27 : decode M_Law_law.2.1 27 = .ok (.aload_n 0, 1) := by decide +kernel
theorem d_Law_law_28 : decode M_Law_law.2.1 28 = .ok (.iload_n 3, 1) := by decide +kernel
theorem d_Law_law_29 : decode M_Law_law.2.1 29 = .ok (.iaload, 1) := by decide +kernel
theorem d_Law_law_30 : decode M_Law_law.2.1 30 = .ok (.bipush 63, 2) := by decide +kernel
theorem d_Law_law_32 : decode M_Law_law.2.1 32 = .ok (.iand, 1) := by decide +kernel
theorem d_Law_law_33 : decode M_Law_law.2.1 33 = .ok (.tableswitch 1990 0 61 #[263, 286, 309, 332, 355, 388, 421, 464, 507, 540, 573, 606, 629, 662, 705, 748, 791, 814, 837, 870, 893, 916, 939, 962, 985, 1008, 1031, 1064, 1087, 1110, 1123, 1146, 1179, 1212, 1245, 1298, 1321, 1354, 1387, 1420, 1443, 1476, 1499, 1522, 1545, 1558, 1571, 1604, 1637, 1670, 1693, 1706, 1719, 1752, 1775, 1818, 1831, 1854, 1917, 1940, 1953, 1966], 263) := by decide +kernel
theorem d_Law_law_296 : decode M_Law_law.2.1 296 = .ok (.aload_n 1, 1) := by decide +kernel
theorem d_Law_law_297 : decode M_Law_law.2.1 297 = .ok (.aload_n 0, 1) := by decide +kernel
theorem d_Law_law_298 : decode M_Law_law.2.1 298 = .ok (.iload_n 3, 1) := by decide +kernel
theorem d_Law_law_299 : decode M_Law_law.2.1 299 = .ok (.iconst 1, 1) := by decide +kernel
theorem d_Law_law_300 : decode M_Law_law.2.1 300 = .ok (.iadd, 1) := by decide +kernel
theorem d_Law_law_301 : decode M_Law_law.2.1 301 = .ok (.iaload, 1) := by decide +kernel
theorem d_Law_law_302 : decode M_Law_law.2.1 302 = .ok (.invokevirtual 13, 3) := by decide +kernel
theorem d_Law_law_305 : decode M_Law_law.2.1 305 = .ok (.aload_n 2, 1) := by decide +kernel
theorem d_Law_law_306 : decode M_Law_law.2.1 306 = .ok (.aload_n 0, 1) := by decide +kernel
theorem d_Law_law_307 : decode M_Law_law.2.1 307 = .ok (.iload_n 3, 1) := by decide +kernel
theorem d_Law_law_308 : decode M_Law_law.2.1 308 = .ok (.iconst 1, 1) := by decide +kernel
theorem d_Law_law_309 : decode M_Law_law.2.1 309 = .ok (.iadd, 1) := by decide +kernel
theorem d_Law_law_310 : decode M_Law_law.2.1 310 = .ok (.iaload, 1) := by decide +kernel
theorem d_Law_law_311 : decode M_Law_law.2.1 311 = .ok (.invokevirtual 17, 3) := by decide +kernel
theorem d_Law_law_314 : decode M_Law_law.2.1 314 = .ok (.if_icmp .eq 1709, 3) := by decide +kernel
theorem d_Law_law_317 : decode M_Law_law.2.1 317 = .ok (.iconst 0, 1) := by decide +kernel
theorem d_Law_law_318 : decode M_Law_law.2.1 318 = .ok (.ireturn, 1) := by decide +kernel
theorem d_Law_law_319 : decode M_Law_law.2.1 319 = .ok (.aload_n 1, 1) := by decide +kernel
theorem d_Law_law_320 : decode M_Law_law.2.1 320 = .ok (.aload_n 0, 1) := by decide +kernel
theorem d_Law_law_321 : decode M_Law_law.2.1 321 = .ok (.iload_n 3, 1) := by decide +kernel
theorem d_Law_law_322 : decode M_Law_law.2.1 322 = .ok (.iconst 1, 1) := by decide +kernel
theorem d_Law_law_323 : decode M_Law_law.2.1 323 = .ok (.iadd, 1) := by decide +kernel
theorem d_Law_law_324 : decode M_Law_law.2.1 324 = .ok (.iaload, 1) := by decide +kernel
theorem d_Law_law_325 : decode M_Law_law.2.1 325 = .ok (.invokevirtual 18, 3) := by decide +kernel
theorem d_Law_law_328 : decode M_Law_law.2.1 328 = .ok (.aload_n 2, 1) := by decide +kernel
theorem d_Law_law_329 : decode M_Law_law.2.1 329 = .ok (.aload_n 0, 1) := by decide +kernel
theorem d_Law_law_330 : decode M_Law_law.2.1 330 = .ok (.iload_n 3, 1) := by decide +kernel
theorem d_Law_law_331 : decode M_Law_law.2.1 331 = .ok (.iconst 1, 1) := by decide +kernel
theorem d_Law_law_332 : decode M_Law_law.2.1 332 = .ok (.iadd, 1) := by decide +kernel
theorem d_Law_law_333 : decode M_Law_law.2.1 333 = .ok (.iaload, 1) := by decide +kernel
theorem d_Law_law_334 : decode M_Law_law.2.1 334 = .ok (.invokevirtual 21, 3) := by decide +kernel
theorem d_Law_law_337 : decode M_Law_law.2.1 337 = .ok (.if_icmp .eq 1686, 3) := by decide +kernel
theorem d_Law_law_340 : decode M_Law_law.2.1 340 = .ok (.iconst 0, 1) := by decide +kernel
theorem d_Law_law_341 : decode M_Law_law.2.1 341 = .ok (.ireturn, 1) := by decide +kernel
theorem d_Law_law_342 : decode M_Law_law.2.1 342 = .ok (.aload_n 1, 1) := by decide +kernel
theorem d_Law_law_343 : decode M_Law_law.2.1 343 = .ok (.aload_n 0, 1) := by decide +kernel
theorem d_Law_law_344 : decode M_Law_law.2.1 344 = .ok (.iload_n 3, 1) := by decide +kernel
theorem d_Law_law_345 : decode M_Law_law.2.1 345 = .ok (.iconst 1, 1) := by decide +kernel
theorem d_Law_law_346 : decode M_Law_law.2.1 346 = .ok (.iadd, 1) := by decide +kernel
theorem d_Law_law_347 : decode M_Law_law.2.1 347 = .ok (.iaload, 1) := by decide +kernel
theorem d_Law_law_348 : decode M_Law_law.2.1 348 = .ok (.invokevirtual 22, 3) := by decide +kernel
theorem d_Law_law_351 : decode M_Law_law.2.1 351 = .ok (.aload_n 2, 1) := by decide +kernel
theorem d_Law_law_352 : decode M_Law_law.2.1 352 = .ok (.aload_n 0, 1) := by decide +kernel
theorem d_Law_law_353 : decode M_Law_law.2.1 353 = .ok (.iload_n 3, 1) := by decide +kernel
theorem d_Law_law_354 : decode M_Law_law.2.1 354 = .ok (.iconst 1, 1) := by decide +kernel
theorem d_Law_law_355 : decode M_Law_law.2.1 355 = .ok (.iadd, 1) := by decide +kernel
theorem d_Law_law_356 : decode M_Law_law.2.1 356 = .ok (.iaload, 1) := by decide +kernel
theorem d_Law_law_357 : decode M_Law_law.2.1 357 = .ok (.invokevirtual 25, 3) := by decide +kernel
theorem d_Law_law_360 : decode M_Law_law.2.1 360 = .ok (.if_icmp .eq 1663, 3) := by decide +kernel
theorem d_Law_law_363 : decode M_Law_law.2.1 363 = .ok (.iconst 0, 1) := by decide +kernel
theorem d_Law_law_364 : decode M_Law_law.2.1 364 = .ok (.ireturn, 1) := by decide +kernel
theorem d_Law_law_365 : decode M_Law_law.2.1 365 = .ok (.aload_n 1, 1) := by decide +kernel
theorem d_Law_law_366 : decode M_Law_law.2.1 366 = .ok (.aload_n 0, 1) := by decide +kernel
theorem d_Law_law_367 : decode M_Law_law.2.1 367 = .ok (.iload_n 3, 1) := by decide +kernel
theorem d_Law_law_368 : decode M_Law_law.2.1 368 = .ok (.iconst 1, 1) := by decide +kernel
theorem d_Law_law_369 : decode M_Law_law.2.1 369 = .ok (.iadd, 1) := by decide +kernel
theorem d_Law_law_370 : decode M_Law_law.2.1 370 = .ok (.iaload, 1) := by decide +kernel
theorem d_Law_law_371 : decode M_Law_law.2.1 371 = .ok (.invokevirtual 26, 3) := by decide +kernel
theorem d_Law_law_374 : decode M_Law_law.2.1 374 = .ok (.aload_n 2, 1) := by decide +kernel
theorem d_Law_law_375 : decode M_Law_law.2.1 375 = .ok (.aload_n 0, 1) := by decide +kernel
theorem d_Law_law_376 : decode M_Law_law.2.1 376 = .ok (.iload_n 3, 1) := by decide +kernel
theorem d_Law_law_377 : decode M_Law_law.2.1 377 = .ok (.iconst 1, 1) := by decide +kernel
theorem d_Law_law_378 : decode M_Law_law.2.1 378 = .ok (.iadd, 1) := by decide +kernel
theorem d_Law_law_379 : decode M_Law_law.2.1 379 = .ok (.iaload, 1) := by decide +kernel
theorem d_Law_law_380 : decode M_Law_law.2.1 380 = .ok (.invokevirtual 29, 3) := by decide +kernel
theorem d_Law_law_383 : decode M_Law_law.2.1 383 = .ok (.if_icmp .eq 1640, 3) := by decide +kernel
theorem d_Law_law_386 : decode M_Law_law.2.1 386 = .ok (.iconst 0, 1) := by decide +kernel
theorem d_Law_law_387 : decode M_Law_law.2.1 387 = .ok (.ireturn, 1) := by decide +kernel
theorem d_Law_law_388 : decode M_Law_law.2.1 388 = .ok (.aload_n 1, 1) := by decide +kernel
theorem d_Law_law_389 : decode M_Law_law.2.1 389 = .ok (.aload_n 0, 1) := by decide +kernel
theorem d_Law_law_390 : decode M_Law_law.2.1 390 = .ok (.iload_n 3, 1) := by decide +kernel
theorem d_Law_law_391 : decode M_Law_law.2.1 391 = .ok (.iconst 1, 1) := by decide +kernel
theorem d_Law_law_392 : decode M_Law_law.2.1 392 = .ok (.iadd, 1) := by decide +kernel
theorem d_Law_law_393 : decode M_Law_law.2.1 393 = .ok (.iaload, 1) := by decide +kernel
theorem d_Law_law_394 : decode M_Law_law.2.1 394 = .ok (.aload_n 0, 1) := by decide +kernel
theorem d_Law_law_395 : decode M_Law_law.2.1 395 = .ok (.iload_n 3, 1) := by decide +kernel
theorem d_Law_law_396 : decode M_Law_law.2.1 396 = .ok (.iconst 2, 1) := by decide +kernel
theorem d_Law_law_397 : decode M_Law_law.2.1 397 = .ok (.iadd, 1) := by decide +kernel
theorem d_Law_law_398 : decode M_Law_law.2.1 398 = .ok (.iaload, 1) := by decide +kernel
theorem d_Law_law_399 : decode M_Law_law.2.1 399 = .ok (.invokevirtual 30, 3) := by decide +kernel
theorem d_Law_law_402 : decode M_Law_law.2.1 402 = .ok (.aload_n 2, 1) := by decide +kernel
theorem d_Law_law_403 : decode M_Law_law.2.1 403 = .ok (.aload_n 0, 1) := by decide +kernel
theorem d_Law_law_404 : decode M_Law_law.2.1 404 = .ok (.iload_n 3, 1) := by decide +kernel
theorem d_Law_law_405 : decode M_Law_law.2.1 405 = .ok (.iconst 1, 1) := by decide +kernel
theorem d_Law_law_406 : decode M_Law_law.2.1 406 = .ok (.iadd, 1) := by decide +kernel
theorem d_Law_law_407 : decode M_Law_law.2.1 407 = .ok (.iaload, 1) := by decide +kernel
theorem d_Law_law_408 : decode M_Law_law.2.1 408 = .ok (.aload_n 0, 1) := by decide +kernel
theorem d_Law_law_409 : decode M_Law_law.2.1 409 = .ok (.iload_n 3, 1) := by decide +kernel
theorem d_Law_law_410 : decode M_Law_law.2.1 410 = .ok (.iconst 2, 1) := by decide +kernel
theorem d_Law_law_411 : decode M_Law_law.2.1 411 = .ok (.iadd, 1) := by decide +kernel
theorem d_Law_law_412 : decode M_Law_law.2.1 412 = .ok (.iaload, 1) := by decide +kernel
theorem d_Law_law_413 : decode M_Law_law.2.1 413 = .ok (.invokevirtual 34, 3) := by decide +kernel
theorem d_Law_law_416 : decode M_Law_law.2.1 416 = .ok (.if_icmp .eq 1607, 3) := by decide +kernel
theorem d_Law_law_419 : decode M_Law_law.2.1 419 = .ok (.iconst 0, 1) := by decide +kernel
theorem d_Law_law_420 : decode M_Law_law.2.1 420 = .ok (.ireturn, 1) := by decide +kernel
theorem d_Law_law_421 : decode M_Law_law.2.1 421 = .ok (.aload_n 1, 1) := by decide +kernel
theorem d_Law_law_422 : decode M_Law_law.2.1 422 = .ok (.aload_n 0, 1) := by decide +kernel
theorem d_Law_law_423 : decode M_Law_law.2.1 423 = .ok (.iload_n 3, 1) := by decide +kernel
theorem d_Law_law_424 : decode M_Law_law.2.1 424 = .ok (.iconst 1, 1) := by decide +kernel
theorem d_Law_law_425 : decode M_Law_law.2.1 425 = .ok (.iadd, 1) := by decide +kernel
theorem d_Law_law_426 : decode M_Law_law.2.1 426 = .ok (.iaload, 1) := by decide +kernel
theorem d_Law_law_427 : decode M_Law_law.2.1 427 = .ok (.aload_n 0, 1) := by decide +kernel
theorem d_Law_law_428 : decode M_Law_law.2.1 428 = .ok (.iload_n 3, 1) := by decide +kernel
theorem d_Law_law_429 : decode M_Law_law.2.1 429 = .ok (.iconst 2, 1) := by decide +kernel
theorem d_Law_law_430 : decode M_Law_law.2.1 430 = .ok (.iadd, 1) := by decide +kernel
theorem d_Law_law_431 : decode M_Law_law.2.1 431 = .ok (.iaload, 1) := by decide +kernel
theorem d_Law_law_432 : decode M_Law_law.2.1 432 = .ok (.invokevirtual 35, 3) := by decide +kernel
theorem d_Law_law_435 : decode M_Law_law.2.1 435 = .ok (.aload_n 2, 1) := by decide +kernel
theorem d_Law_law_436 : decode M_Law_law.2.1 436 = .ok (.aload_n 0, 1) := by decide +kernel
theorem d_Law_law_437 : decode M_Law_law.2.1 437 = .ok (.iload_n 3, 1) := by decide +kernel
theorem d_Law_law_438 : decode M_Law_law.2.1 438 = .ok (.iconst 1, 1) := by decide +kernel
theorem d_Law_law_439 : decode M_Law_law.2.1 439 = .ok (.iadd, 1) := by decide +kernel
theorem d_Law_law_440 : decode M_Law_law.2.1 440 = .ok (.iaload, 1) := by decide +kernel
theorem d_Law_law_441 : decode M_Law_law.2.1 441 = .ok (.aload_n 0, 1) := by decide +kernel
theorem d_Law_law_442 : decode M_Law_law.2.1 442 = .ok (.iload_n 3, 1) := by decide +kernel
theorem d_Law_law_443 : decode M_Law_law.2.1 443 = .ok (.iconst 2, 1) := by decide +kernel
theorem d_Law_law_444 : decode M_Law_law.2.1 444 = .ok (.iadd, 1) := by decide +kernel
theorem d_Law_law_445 : decode M_Law_law.2.1 445 = .ok (.iaload, 1) := by decide +kernel
theorem d_Law_law_446 : decode M_Law_law.2.1 446 = .ok (.invokevirtual 38, 3) := by decide +kernel
theorem d_Law_law_449 : decode M_Law_law.2.1 449 = .ok (.if_icmp .eq 1574, 3) := by decide +kernel
theorem d_Law_law_452 : decode M_Law_law.2.1 452 = .ok (.iconst 0, 1) := by decide +kernel
theorem d_Law_law_453 : decode M_Law_law.2.1 453 = .ok (.ireturn, 1) := by decide +kernel
theorem d_Law_law_454 : decode M_Law_law.2.1 454 = .ok (.aload_n 1, 1) := by decide +kernel
theorem d_Law_law_455 : decode M_Law_law.2.1 455 = .ok (.aload_n 0, 1) := by decide +kernel
theorem d_Law_law_456 : decode M_Law_law.2.1 456 = .ok (.iload_n 3, 1) := by decide +kernel
theorem d_Law_law_457 : decode M_Law_law.2.1 457 = .ok (.iconst 1, 1) := by decide +kernel
theorem d_Law_law_458 : decode M_Law_law.2.1 458 = .ok (.iadd, 1) := by decide +kernel
theorem d_Law_law_459 : decode M_Law_law.2.1 459 = .ok (.iaload, 1) := by decide +kernel
theorem d_Law_law_460 : decode M_Law_law.2.1 460 = .ok (.aload_n 0, 1) := by decide +kernel
theorem d_Law_law_461 : decode M_Law_law.2.1 461 = .ok (.iload_n 3, 1) := by decide +kernel
theorem d_Law_law_462 : decode M_Law_law.2.1 462 = .ok (.iconst 2, 1) := by decide +kernel
theorem d_Law_law_463 : decode M_Law_law.2.1 463 = .ok (.iadd, 1) := by decide +kernel
theorem d_Law_law_464 : decode M_Law_law.2.1 464 = .ok (.iaload, 1) := by decide +kernel
theorem d_Law_law_465 : decode M_Law_law.2.1 465 = .ok (.aload_n 0, 1) := by decide +kernel
theorem d_Law_law_466 : decode M_Law_law.2.1 466 = .ok (.iload_n 3, 1) := by decide +kernel
theorem d_Law_law_467 : decode M_Law_law.2.1 467 = .ok (.iconst 3, 1) := by decide +kernel
theorem d_Law_law_468 : decode M_Law_law.2.1 468 = .ok (.iadd, 1) := by decide +kernel
theorem d_Law_law_469 : decode M_Law_law.2.1 469 = .ok (.iaload, 1) := by decide +kernel
theorem d_Law_law_470 : decode M_Law_law.2.1 470 = .ok (.invokevirtual 39, 3) := by decide +kernel
theorem d_Law_law_473 : decode M_Law_law.2.1 473 = .ok (.aload_n 2, 1) := by decide +kernel
theorem d_Law_law_474 : decode M_Law_law.2.1 474 = .ok (.aload_n 0, 1) := by decide +kernel
theorem d_Law_law_475 : decode M_Law_law.2.1 475 = .ok (.iload_n 3, 1) := by decide +kernel
theorem d_Law_law_476 : decode M_Law_law.2.1 476 = .ok (.iconst 1, 1) := by decide +kernel
theorem d_Law_law_477 : decode M_Law_law.2.1 477 = .ok (.iadd, 1) := by decide +kernel
theorem d_Law_law_478 : decode M_Law_law.2.1 478 = .ok (.iaload, 1) := by decide +kernel
theorem d_Law_law_479 : decode M_Law_law.2.1 479 = .ok (.aload_n 0, 1) := by decide +kernel
theorem d_Law_law_480 : decode M_Law_law.2.1 480 = .ok (.iload_n 3, 1) := by decide +kernel
theorem d_Law_law_481 : decode M_Law_law.2.1 481 = .ok (.iconst 2, 1) := by decide +kernel
theorem d_Law_law_482 : decode M_Law_law.2.1 482 = .ok (.iadd, 1) := by decide +kernel
theorem d_Law_law_483 : decode M_Law_law.2.1 483 = .ok (.iaload, 1) := by decide +kernel
theorem d_Law_law_484 : decode M_Law_law.2.1 484 = .ok (.aload_n 0, 1) := by decide +kernel
theorem d_Law_law_485 : decode M_Law_law.2.1 485 = .ok (.iload_n 3, 1) := by decide +kernel
theorem d_Law_law_486 : decode M_Law_law.2.1 486 = .ok (.iconst 3, 1) := by decide +kernel
theorem d_Law_law_487 : decode M_Law_law.2.1 487 = .ok (.iadd, 1) := by decide +kernel
theorem d_Law_law_488 : decode M_Law_law.2.1 488 = .ok (.iaload, 1) := by decide +kernel
theorem d_Law_law_489 : decode M_Law_law.2.1 489 = .ok (.invokevirtual 43, 3) := by decide +kernel
theorem d_Law_law_492 : decode M_Law_law.2.1 492 = .ok (.if_icmp .eq 1531, 3) := by decide +kernel
theorem d_Law_law_495 : decode M_Law_law.2.1 495 = .ok (.iconst 0, 1) := by decide +kernel
theorem d_Law_law_496 : decode M_Law_law.2.1 496 = .ok (.ireturn, 1) := by decide +kernel
theorem d_Law_law_497 : decode M_Law_law.2.1 497 = .ok (.aload_n 1, 1) := by decide +kernel
theorem d_Law_law_498 : decode M_Law_law.2.1 498 = .ok (.aload_n 0, 1) := by decide +kernel
theorem d_Law_law_499 : decode M_Law_law.2.1 499 = .ok (.iload_n 3, 1) := by decide +kernel
theorem d_Law_law_500 : decode M_Law_law.2.1 500 = .ok (.iconst 1, 1) := by decide +kernel
theorem d_Law_law_501 : decode M_Law_law.2.1 501 = .ok (.iadd, 1) := by decide +kernel
theorem d_Law_law_502 : decode M_Law_law.2.1 502 = .ok (.iaload, 1) := by decide +kernel
theorem d_Law_law_503 : decode M_Law_law.2.1 503 = .ok (.aload_n 0, 1) := by decide +kernel
theorem d_Law_law_504 : decode M_Law_law.2.1 504 = .ok (.iload_n 3, 1) := by decide +kernel
theorem d_Law_law_505 : decode M_Law_law.2.1 505 = .ok (.iconst 2, 1) := by decide +kernel
theorem d_Law_law_506 : decode M_Law_law.2.1 506 = .ok (.iadd, 1) := by decide +kernel
theorem d_Law_law_507 : decode M_Law_law.2.1 507 = .ok (.iaload, 1) := by decide +kernel
theorem d_Law_law_508 : decode M_Law_law.2.1 508 = .ok (.aload_n 0, 1) := by decide +kernel
theorem d_Law_law_509 : decode M_Law_law.2.1 509 = .ok (.iload_n 3, 1) := by decide +kernel
theorem d_Law_law_510 : decode M_Law_law.2.1 510 = .ok (.iconst 3, 1) := by decide +kernel
theorem d_Law_law_511 : decode M_Law_law.2.1 511 = .ok (.iadd, 1) := by decide +kernel
theorem d_Law_law_512 : decode M_Law_law.2.1 512 = .ok (.iaload, 1) := by decide +kernel
theorem d_Law_law_513 : decode M_Law_law.2.1 513 = .ok (.invokevirtual 44, 3) := by decide +kernel
theorem d_Law_law_516 : decode M_Law_law.2.1 516 = .ok (.aload_n 2, 1) := by decide +kernel
theorem d_Law_law_517 : decode M_Law_law.2.1 517 = .ok (.aload_n 0, 1) := by decide +kernel
theorem d_Law_law_518 : decode M_Law_law.2.1 518 = .ok (.iload_n 3, 1) := by decide +kernel
theorem d_Law_law_519 : decode M_Law_law.2.1 519 = .ok (.iconst 1, 1) := by decide +kernel
theorem d_Law_law_520 : decode M_Law_law.2.1 520 = .ok (.iadd, 1) := by decide +kernel
theorem d_Law_law_521 : decode M_Law_law.2.1 521 = .ok (.iaload, 1) := by decide +kernel
theorem d_Law_law_522 : decode M_Law_law.2.1 522 = .ok (.aload_n 0, 1) := by decide +kernel
theorem d_Law_law_523 : decode M_Law_law.2.1 523 = .ok (.iload_n 3, 1) := by decide +kernel
theorem d_Law_law_524 : decode M_Law_law.2.1 524 = .ok (.iconst 2, 1) := by decide +kernel
theorem d_Law_law_525 : decode M_Law_law.2.1 525 = .ok (.iadd, 1) := by decide +kernel
theorem d_Law_law_526 : decode M_Law_law.2.1 526 = .ok (.iaload, 1) := by decide +kernel
theorem d_Law_law_527 : decode M_Law_law.2.1 527 = .ok (.aload_n 0, 1) := by decide +kernel
theorem d_Law_law_528 : decode M_Law_law.2.1 528 = .ok (.iload_n 3, 1) := by decide +kernel
theorem d_Law_law_529 : decode M_Law_law.2.1 529 = .ok (.iconst 3, 1) := by decide +kernel
theorem d_Law_law_530 : decode M_Law_law.2.1 530 = .ok (.iadd, 1) := by decide +kernel
theorem d_Law_law_531 : decode M_Law_law.2.1 531 = .ok (.iaload, 1) := by decide +kernel
theorem d_Law_law_532 : decode M_Law_law.2.1 532 = .ok (.invokevirtual 47, 3) := by decide +kernel
theorem d_Law_law_535 : decode M_Law_law.2.1 535 = .ok (.if_icmp .eq 1488, 3) := by decide +kernel
theorem d_Law_law_538 : decode M_Law_law.2.1 538 = .ok (.iconst 0, 1) := by decide +kernel
theorem d_Law_law_539 : decode M_Law_law.2.1 539 = .ok (.ireturn, 1) := by decide +kernel
theorem d_Law_law_540 : decode M_Law_law.2.1 540 = .ok (.aload_n 1, 1) := by decide +kernel
theorem d_Law_law_541 : decode M_Law_law.2.1 541 = .ok (.aload_n 0, 1) := by decide +kernel
theorem d_Law_law_542 : decode M_Law_law.2.1 542 = .ok (.iload_n 3, 1) := by decide +kernel
theorem d_Law_law_543 : decode M_Law_law.2.1 543 = .ok (.iconst 1, 1) := by decide +kernel
theorem d_Law_law_544 : decode M_Law_law.2.1 544 = .ok (.iadd, 1) := by decide +kernel
theorem d_Law_law_545 : decode M_Law_law.2.1 545 = .ok (.iaload, 1) := by decide +kernel
theorem d_Law_law_546 : decode M_Law_law.2.1 546 = .ok (.aload_n 0, 1) := by decide +kernel
theorem d_Law_law_547 : decode M_Law_law.2.1 547 = .ok (.iload_n 3, 1) := by decide +kernel
theorem d_Law_law_548 : decode M_Law_law.2.1 548 = .ok (.iconst 2, 1) := by decide +kernel
theorem d_Law_law_549 : decode M_Law_law.2.1 549 = .ok (.iadd, 1) := by decide +kernel
theorem d_Law_law_550 : decode M_Law_law.2.1 550 = .ok (.iaload, 1) := by decide +kernel
theorem d_Law_law_551 : decode M_Law_law.2.1 551 = .ok (.invokevirtual 48, 3) := by decide +kernel
theorem d_Law_law_554 : decode M_Law_law.2.1 554 = .ok (.aload_n 2, 1) := by decide +kernel
theorem d_Law_law_555 : decode M_Law_law.2.1 555 = .ok (.aload_n 0, 1) := by decide +kernel
theorem d_Law_law_556 : decode M_Law_law.2.1 556 = .ok (.iload_n 3, 1) := by decide +kernel
theorem d_Law_law_557 : decode M_Law_law.2.1 557 = .ok (.iconst 1, 1) := by decide +kernel
theorem d_Law_law_558 : decode M_Law_law.2.1 558 = .ok (.iadd, 1) := by decide +kernel
theorem d_Law_law_559 : decode M_Law_law.2.1 559 = .ok (.iaload, 1) := by decide +kernel
theorem d_Law_law_560 : decode M_Law_law.2.1 560 = .ok (.aload_n 0, 1) := by decide +kernel
theorem d_Law_law_561 : decode M_Law_law.2.1 561 = .ok (.iload_n 3, 1) := by decide +kernel
theorem d_Law_law_562 : decode M_Law_law.2.1 562 = .ok (.iconst 2, 1) := by decide +kernel
theorem d_Law_law_563 : decode M_Law_law.2.1 563 = .ok (.iadd, 1) := by decide +kernel
theorem d_Law_law_564 : decode M_Law_law.2.1 564 = .ok (.iaload, 1) := by decide +kernel
theorem d_Law_law_565 : decode M_Law_law.2.1 565 = .ok (.invokevirtual 51, 3) := by decide +kernel
theorem d_Law_law_568 : decode M_Law_law.2.1 568 = .ok (.if_icmp .eq 1455, 3) := by decide +kernel
theorem d_Law_law_571 : decode M_Law_law.2.1 571 = .ok (.iconst 0, 1) := by decide +kernel
theorem d_Law_law_572 : decode M_Law_law.2.1 572 = .ok (.ireturn, 1) := by decide +kernel
theorem d_Law_law_573 : decode M_Law_law.2.1 573 = .ok (.aload_n 1, 1) := by decide +kernel
theorem d_Law_law_574 : decode M_Law_law.2.1 574 = .ok (.aload_n 0, 1) := by decide +kernel
theorem d_Law_law_575 : decode M_Law_law.2.1 575 = .ok (.iload_n 3, 1) := by decide +kernel
theorem d_Law_law_576 : decode M_Law_law.2.1 576 = .ok (.iconst 1, 1) := by decide +kernel
theorem d_Law_law_577 : decode M_Law_law.2.1 577 = .ok (.iadd, 1) := by decide +kernel
theorem d_Law_law_578 : decode M_Law_law.2.1 578 = .ok (.iaload, 1) := by decide +kernel
theorem d_Law_law_579 : decode M_Law_law.2.1 579 = .ok (.aload_n 0, 1) := by decide +kernel
theorem d_Law_law_580 : decode M_Law_law.2.1 580 = .ok (.iload_n 3, 1) := by decide +kernel
theorem d_Law_law_581 : decode M_Law_law.2.1 581 = .ok (.iconst 2, 1) := by decide +kernel
theorem d_Law_law_582 : decode M_Law_law.2.1 582 = .ok (.iadd, 1) := by decide +kernel
theorem d_Law_law_583 : decode M_Law_law.2.1 583 = .ok (.iaload, 1) := by decide +kernel
theorem d_Law_law_584 : decode M_Law_law.2.1 584 = .ok (.invokevirtual 52, 3) := by decide +kernel
theorem d_Law_law_587 : decode M_Law_law.2.1 587 = .ok (.aload_n 2, 1) := by decide +kernel
theorem d_Law_law_588 : decode M_Law_law.2.1 588 = .ok (.aload_n 0, 1) := by decide +kernel
theorem d_Law_law_589 : decode M_Law_law.2.1 589 = .ok (.iload_n 3, 1) := by decide +kernel
theorem d_Law_law_590 : decode M_Law_law.2.1 590 = .ok (.iconst 1, 1) := by decide +kernel
theorem d_Law_law_591 : decode M_Law_law.2.1 591 = .ok (.iadd, 1) := by decide +kernel
theorem d_Law_law_592 : decode M_Law_law.2.1 592 = .ok (.iaload, 1) := by decide +kernel
theorem d_Law_law_593 : decode M_Law_law.2.1 593 = .ok (.aload_n 0, 1) := by decide +kernel
theorem d_Law_law_594 : decode M_Law_law.2.1 594 = .ok (.iload_n 3, 1) := by decide +kernel
theorem d_Law_law_595 : decode M_Law_law.2.1 595 = .ok (.iconst 2, 1) := by decide +kernel
theorem d_Law_law_596 : decode M_Law_law.2.1 596 = .ok (.iadd, 1) := by decide +kernel
theorem d_Law_law_597 : decode M_Law_law.2.1 597 = .ok (.iaload, 1) := by decide +kernel
theorem d_Law_law_598 : decode M_Law_law.2.1 598 = .ok (.invokevirtual 55, 3) := by decide +kernel
theorem d_Law_law_601 : decode M_Law_law.2.1 601 = .ok (.if_icmp .eq 1422, 3) := by decide +kernel
theorem d_Law_law_604 : decode M_Law_law.2.1 604 = .ok (.iconst 0, 1) := by decide +kernel
theorem d_Law_law_605 : decode M_Law_law.2.1 605 = .ok (.ireturn, 1) := by decide +kernel
theorem d_Law_law_606 : decode M_Law_law.2.1 606 = .ok (.aload_n 1, 1) := by decide +kernel
theorem d_Law_law_607 : decode M_Law_law.2.1 607 = .ok (.aload_n 0, 1) := by decide +kernel
theorem d_Law_law_608 : decode M_Law_law.2.1 608 = .ok (.iload_n 3, 1) := by decide +kernel
theorem d_Law_law_609 : decode M_Law_law.2.1 609 = .ok (.iconst 1, 1) := by decide +kernel
theorem d_Law_law_610 : decode M_Law_law.2.1 610 = .ok (.iadd, 1) := by decide +kernel
theorem d_Law_law_611 : decode M_Law_law.2.1 611 = .ok (.iaload, 1) := by decide +kernel
theorem d_Law_law_612 : decode M_Law_law.2.1 612 = .ok (.aload_n 0, 1) := by decide +kernel
theorem d_Law_law_613 : decode M_Law_law.2.1 613 = .ok (.iload_n 3, 1) := by decide +kernel
theorem d_Law_law_614 : decode M_Law_law.2.1 614 = .ok (.iconst 2, 1) := by decide +kernel
theorem d_Law_law_615 : decode M_Law_law.2.1 615 = .ok (.iadd, 1) := by decide +kernel
theorem d_Law_law_616 : decode M_Law_law.2.1 616 = .ok (.iaload, 1) := by decide +kernel
theorem d_Law_law_617 : decode M_Law_law.2.1 617 = .ok (.invokevirtual 56, 3) := by decide +kernel
theorem d_Law_law_620 : decode M_Law_law.2.1 620 = .ok (.aload_n 2, 1) := by decide +kernel
theorem d_Law_law_621 : decode M_Law_law.2.1 621 = .ok (.aload_n 0, 1) := by decide +kernel
theorem d_Law_law_622 : decode M_Law_law.2.1 622 = .ok (.iload_n 3, 1) := by decide +kernel
theorem d_Law_law_623 : decode M_Law_law.2.1 623 = .ok (.iconst 1, 1) := by decide +kernel
theorem d_Law_law_624 : decode M_Law_law.2.1 624 = .ok (.iadd, 1) := by decide +kernel
theorem d_Law_law_625 : decode M_Law_law.2.1 625 = .ok (.iaload, 1) := by decide +kernel
theorem d_Law_law_626 : decode M_Law_law.2.1 626 = .ok (.aload_n 0, 1) := by decide +kernel
theorem d_Law_law_627 : decode M_Law_law.2.1 627 = .ok (.iload_n 3, 1) := by decide +kernel
theorem d_Law_law_628 : decode M_Law_law.2.1 628 = .ok (.iconst 2, 1) := by decide +kernel
theorem d_Law_law_629 : decode M_Law_law.2.1 629 = .ok (.iadd, 1) := by decide +kernel
theorem d_Law_law_630 : decode M_Law_law.2.1 630 = .ok (.iaload, 1) := by decide +kernel
theorem d_Law_law_631 : decode M_Law_law.2.1 631 = .ok (.invokevirtual 59, 3) := by decide +kernel
theorem d_Law_law_634 : decode M_Law_law.2.1 634 = .ok (.if_icmp .eq 1389, 3) := by decide +kernel
theorem d_Law_law_637 : decode M_Law_law.2.1 637 = .ok (.iconst 0, 1) := by decide +kernel
theorem d_Law_law_638 : decode M_Law_law.2.1 638 = .ok (.ireturn, 1) := by decide +kernel
theorem d_Law_law_639 : decode M_Law_law.2.1 639 = .ok (.aload_n 1, 1) := by decide +kernel
theorem d_Law_law_640 : decode M_Law_law.2.1 640 = .ok (.aload_n 0, 1) := by decide +kernel
theorem d_Law_law_641 : decode M_Law_law.2.1 641 = .ok (.iload_n 3, 1) := by decide +kernel
theorem d_Law_law_642 : decode M_Law_law.2.1 642 = .ok (.iconst 1, 1) := by decide +kernel
theorem d_Law_law_643 : decode M_Law_law.2.1 643 = .ok (.iadd, 1) := by decide +kernel
theorem d_Law_law_644 : decode M_Law_law.2.1 644 = .ok (.iaload, 1) := by decide +kernel
theorem d_Law_law_645 : decode M_Law_law.2.1 645 = .ok (.invokevirtual 60, 3) := by decide +kernel
theorem d_Law_law_648 : decode M_Law_law.2.1 648 = .ok (.aload_n 2, 1) := by decide +kernel
theorem d_Law_law_649 : decode M_Law_law.2.1 649 = .ok (.aload_n 0, 1) := by decide +kernel
theorem d_Law_law_650 : decode M_Law_law.2.1 650 = .ok (.iload_n 3, 1) := by decide +kernel
theorem d_Law_law_651 : decode M_Law_law.2.1 651 = .ok (.iconst 1, 1) := by decide +kernel
theorem d_Law_law_652 : decode M_Law_law.2.1 652 = .ok (.iadd, 1) := by decide +kernel
theorem d_Law_law_653 : decode M_Law_law.2.1 653 = .ok (.iaload, 1) := by decide +kernel
theorem d_Law_law_654 : decode M_Law_law.2.1 654 = .ok (.invokevirtual 63, 3) := by decide +kernel
theorem d_Law_law_657 : decode M_Law_law.2.1 657 = .ok (.if_icmp .eq 1366, 3) := by decide +kernel
theorem d_Law_law_660 : decode M_Law_law.2.1 660 = .ok (.iconst 0, 1) := by decide +kernel
theorem d_Law_law_661 : decode M_Law_law.2.1 661 = .ok (.ireturn, 1) := by decide +kernel
theorem d_Law_law_662 : decode M_Law_law.2.1 662 = .ok (.aload_n 1, 1) := by decide +kernel
theorem d_Law_law_663 : decode M_Law_law.2.1 663 = .ok (.aload_n 0, 1) := by decide +kernel
theorem d_Law_law_664 : decode M_Law_law.2.1 664 = .ok (.iload_n 3, 1) := by decide +kernel
theorem d_Law_law_665 : decode M_Law_law.2.1 665 = .ok (.iconst 1, 1) := by decide +kernel
theorem d_Law_law_666 : decode M_Law_law.2.1 666 = .ok (.iadd, 1) := by decide +kernel
theorem d_Law_law_667 : decode M_Law_law.2.1 667 = .ok (.iaload, 1) := by decide +kernel
theorem d_Law_law_668 : decode M_Law_law.2.1 668 = .ok (.aload_n 0, 1) := by decide +kernel
theorem d_Law_law_669 : decode M_Law_law.2.1 669 = .ok (.iload_n 3, 1) := by decide +kernel
theorem d_Law_law_670 : decode M_Law_law.2.1 670 = .ok (.iconst 2, 1) := by decide +kernel
theorem d_Law_law_671 : decode M_Law_law.2.1 671 = .ok (.iadd, 1) := by decide +kernel
theorem d_Law_law_672 : decode M_Law_law.2.1 672 = .ok (.iaload, 1) := by decide +kernel
theorem d_Law_law_673 : decode M_Law_law.2.1 673 = .ok (.invokevirtual 64, 3) := by decide +kernel
theorem d_Law_law_676 : decode M_Law_law.2.1 676 = .ok (.aload_n 2, 1) := by decide +kernel
theorem d_Law_law_677 : decode M_Law_law.2.1 677 = .ok (.aload_n 0, 1) := by decide +kernel
theorem d_Law_law_678 : decode M_Law_law.2.1 678 = .ok (.iload_n 3, 1) := by decide +kernel
theorem d_Law_law_679 : decode M_Law_law.2.1 679 = .ok (.iconst 1, 1) := by decide +kernel
theorem d_Law_law_680 : decode M_Law_law.2.1 680 = .ok (.iadd, 1) := by decide +kernel
theorem d_Law_law_681 : decode M_Law_law.2.1 681 = .ok (.iaload, 1) := by decide +kernel
theorem d_Law_law_682 : decode M_Law_law.2.1 682 = .ok (.aload_n 0, 1) := by decide +kernel
theorem d_Law_law_683 : decode M_Law_law.2.1 683 = .ok (.iload_n 3, 1) := by decide +kernel
theorem d_Law_law_684 : decode M_Law_law.2.1 684 = .ok (.iconst 2, 1) := by decide +kernel
theorem d_Law_law_685 : decode M_Law_law.2.1 685 = .ok (.iadd, 1) := by decide +kernel
theorem d_Law_law_686 : decode M_Law_law.2.1 686 = .ok (.iaload, 1) := by decide +kernel
theorem d_Law_law_687 : decode M_Law_law.2.1 687 = .ok (.invokevirtual 67, 3) := by decide +kernel
theorem d_Law_law_690 : decode M_Law_law.2.1 690 = .ok (.if_icmp .eq 1333, 3) := by decide +kernel
theorem d_Law_law_693 : decode M_Law_law.2.1 693 = .ok (.iconst 0, 1) := by decide +kernel
theorem d_Law_law_694 : decode M_Law_law.2.1 694 = .ok (.ireturn, 1) := by decide +kernel
theorem d_Law_law_695 : decode M_Law_law.2.1 695 = .ok (.aload_n 1, 1) := by decide +kernel
theorem d_Law_law_696 : decode M_Law_law.2.1 696 = .ok (.aload_n 0, 1) := by decide +kernel
theorem d_Law_law_697 : decode M_Law_law.2.1 697 = .ok (.iload_n 3, 1) := by decide +kernel
theorem d_Law_law_698 : decode M_Law_law.2.1 698 = .ok (.iconst 1, 1) := by decide +kernel
theorem d_Law_law_699 : decode M_Law_law.2.1 699 = .ok (.iadd, 1) := by decide +kernel
theorem d_Law_law_700 : decode M_Law_law.2.1 700 = .ok (.iaload, 1) := by decide +kernel
theorem d_Law_law_701 : decode M_Law_law.2.1 701 = .ok (.aload_n 0, 1) := by decide +kernel
theorem d_Law_law_702 : decode M_Law_law.2.1 702 = .ok (.iload_n 3, 1) := by decide +kernel
theorem d_Law_law_703 : decode M_Law_law.2.1 703 = .ok (.iconst 2, 1) := by decide +kernel
theorem d_Law_law_704 : decode M_Law_law.2.1 704 = .ok (.iadd, 1) := by decide +kernel
theorem d_Law_law_705 : decode M_Law_law.2.1 705 = .ok (.iaload, 1) := by decide +kernel
theorem d_Law_law_706 : decode M_Law_law.2.1 706 = .ok (.aload_n 0, 1) := by decide +kernel
theorem d_Law_law_707 : decode M_Law_law.2.1 707 = .ok (.iload_n 3, 1) := by decide +kernel
theorem d_Law_law_708 : decode M_Law_law.2.1 708 = .ok (.iconst 3, 1) := by decide +kernel
theorem d_Law_law_709 : decode M_Law_law.2.1 709 = .ok (.iadd, 1) := by decide +kernel
theorem d_Law_law_710 : decode M_Law_law.2.1 710 = .ok (.iaload, 1) := by decide +kernel
theorem d_Law_law_711 : decode M_Law_law.2.1 711 = .ok (.invokevirtual 68, 3) := by decide +kernel
theorem d_Law_law_714 : decode M_Law_law.2.1 714 = .ok (.aload_n 2, 1) := by decide +kernel
theorem d_Law_law_715 : decode M_Law_law.2.1 715 = .ok (.aload_n 0, 1) := by decide +kernel
theorem d_Law_law_716 : decode M_Law_law.2.1 716 = .ok (.iload_n 3, 1) := by decide +kernel
theorem d_Law_law_717 : decode M_Law_law.2.1 717 = .ok (.iconst 1, 1) := by decide +kernel
theorem d_Law_law_718 : decode M_Law_law.2.1 718 = .ok (.iadd, 1) := by decide +kernel
theorem d_Law_law_719 : decode M_Law_law.2.1 719 = .ok (.iaload, 1) := by decide +kernel
theorem d_Law_law_720 : decode M_Law_law.2.1 720 = .ok (.aload_n 0, 1) := by decide +kernel
theorem d_Law_law_721 : decode M_Law_law.2.1 721 = .ok (.iload_n 3, 1) := by decide +kernel
theorem d_Law_law_722 : decode M_Law_law.2.1 722 = .ok (.iconst 2, 1) := by decide +kernel
theorem d_Law_law_723 : decode M_Law_law.2.1 723 = .ok (.iadd, 1) := by decide +kernel
theorem d_Law_law_724 : decode M_Law_law.2.1 724 = .ok (.iaload, 1) := by decide +kernel
theorem d_Law_law_725 : decode M_Law_law.2.1 725 = .ok (.aload_n 0, 1) := by decide +kernel
theorem d_Law_law_726 : decode M_Law_law.2.1 726 = .ok (.iload_n 3, 1) := by decide +kernel
theorem d_Law_law_727 : decode M_Law_law.2.1 727 = .ok (.iconst 3, 1) := by decide +kernel
theorem d_Law_law_728 : decode M_Law_law.2.1 728 = .ok (.iadd, 1) := by decide +kernel
theorem d_Law_law_729 : decode M_Law_law.2.1 729 = .ok (.iaload, 1) := by decide +kernel
theorem d_Law_law_730 : decode M_Law_law.2.1 730 = .ok (.invokevirtual 71, 3) := by decide +kernel
theorem d_Law_law_733 : decode M_Law_law.2.1 733 = .ok (.if_icmp .eq 1290, 3) := by decide +kernel
theorem d_Law_law_736 : decode M_Law_law.2.1 736 = .ok (.iconst 0, 1) := by decide +kernel
theorem d_Law_law_737 : decode M_Law_law.2.1 737 = .ok (.ireturn, 1) := by decide +kernel
theorem d_Law_law_738 : decode M_Law_law.2.1 738 = .ok (.aload_n 1, 1) := by decide +kernel
theorem d_Law_law_739 : decode M_Law_law.2.1 739 = .ok (.aload_n 0, 1) := by decide +kernel
theorem d_Law_law_740 : decode M_Law_law.2.1 740 = .ok (.iload_n 3, 1) := by decide +kernel
theorem d_Law_law_741 : decode M_Law_law.2.1 741 = .ok (.iconst 1, 1) := by decide +kernel
theorem d_Law_law_742 : decode M_Law_law.2.1 742 = .ok (.iadd, 1) := by decide +kernel
theorem d_Law_law_743 : decode M_Law_law.2.1 743 = .ok (.iaload, 1) := by decide +kernel
theorem d_Law_law_744 : decode M_Law_law.2.1 744 = .ok (.aload_n 0, 1) := by decide +kernel
theorem d_Law_law_745 : decode M_Law_law.2.1 745 = .ok (.iload_n 3, 1) := by decide +kernel
theorem d_Law_law_746 : decode M_Law_law.2.1 746 = .ok (.iconst 2, 1) := by decide +kernel
theorem d_Law_law_747 : decode M_Law_law.2.1 747 = .ok (.iadd, 1) := by decide +kernel
theorem d_Law_law_748 : decode M_Law_law.2.1 748 = .ok (.iaload, 1) := by decide +kernel
theorem d_Law_law_749 : decode M_Law_law.2.1 749 = .ok (.aload_n 0, 1) := by decide +kernel
theorem d_Law_law_750 : decode M_Law_law.2.1 750 = .ok (.iload_n 3, 1) := by decide +kernel
theorem d_Law_law_751 : decode M_Law_law.2.1 751 = .ok (.iconst 3, 1) := by decide +kernel
theorem d_Law_law_752 : decode M_Law_law.2.1 752 = .ok (.iadd, 1) := by decide +kernel
theorem d_Law_law_753 : decode M_Law_law.2.1 753 = .ok (.iaload, 1) := by decide +kernel
theorem d_Law_law_754 : decode M_Law_law.2.1 754 = .ok (.invokevirtual 72, 3) := by decide +kernel
theorem d_Law_law_757 : decode M_Law_law.2.1 757 = .ok (.aload_n 2, 1) := by decide +kernel
theorem d_Law_law_758 : decode M_Law_law.2.1 758 = .ok (.aload_n 0, 1) := by decide +kernel
theorem d_Law_law_759 : decode M_Law_law.2.1 759 = .ok (.iload_n 3, 1) := by decide +kernel
theorem d_Law_law_760 : decode M_Law_law.2.1 760 = .ok (.iconst 1, 1) := by decide +kernel
theorem d_Law_law_761 : decode M_Law_law.2.1 761 = .ok (.iadd, 1) := by decide +kernel
theorem d_Law_law_762 : decode M_Law_law.2.1 762 = .ok (.iaload, 1) := by decide +kernel
theorem d_Law_law_763 : decode M_Law_law.2.1 763 = .ok (.aload_n 0, 1) := by decide +kernel
theorem d_Law_law_764 : decode M_Law_law.2.1 764 = .ok (.iload_n 3, 1) := by decide +kernel
theorem d_Law_law_765 : decode M_Law_law.2.1 765 = .ok (.iconst 2, 1) := by decide +kernel
theorem d_Law_law_766 : decode M_Law_law.2.1 766 = .ok (.iadd, 1) := by decide +kernel
theorem d_Law_law_767 : decode M_Law_law.2.1 767 = .ok (.iaload, 1) := by decide +kernel
theorem d_Law_law_768 : decode M_Law_law.2.1 768 = .ok (.aload_n 0, 1) := by decide +kernel
theorem d_Law_law_769 : decode M_Law_law.2.1 769 = .ok (.iload_n 3, 1) := by decide +kernel
theorem d_Law_law_770 : decode M_Law_law.2.1 770 = .ok (.iconst 3, 1) := by decide +kernel
theorem d_Law_law_771 : decode M_Law_law.2.1 771 = .ok (.iadd, 1) := by decide +kernel
theorem d_Law_law_772 : decode M_Law_law.2.1 772 = .ok (.iaload, 1) := by decide +kernel
theorem d_Law_law_773 : decode M_Law_law.2.1 773 = .ok (.invokevirtual 75, 3) := by decide +kernel
theorem d_Law_law_776 : decode M_Law_law.2.1 776 = .ok (.if_icmp .eq 1247, 3) := by decide +kernel
theorem d_Law_law_779 : decode M_Law_law.2.1 779 = .ok (.iconst 0, 1) := by decide +kernel
theorem d_Law_law_780 : decode M_Law_law.2.1 780 = .ok (.ireturn, 1) := by decide +kernel
theorem d_Law_law_781 : decode M_Law_law.2.1 781 = .ok (.aload_n 1, 1) := by decide +kernel
theorem d_Law_law_782 : decode M_Law_law.2.1 782 = .ok (.aload_n 0, 1) := by decide +kernel
theorem d_Law_law_783 : decode M_Law_law.2.1 783 = .ok (.iload_n 3, 1) := by decide +kernel
theorem d_Law_law_784 : decode M_Law_law.2.1 784 = .ok (.iconst 1, 1) := by decide +kernel
theorem d_Law_law_785 : decode M_Law_law.2.1 785 = .ok (.iadd, 1) := by decide +kernel
theorem d_Law_law_786 : decode M_Law_law.2.1 786 = .ok (.iaload, 1) := by decide +kernel
theorem d_Law_law_787 : decode M_Law_law.2.1 787 = .ok (.aload_n 0, 1) := by decide +kernel
theorem d_Law_law_788 : decode M_Law_law.2.1 788 = .ok (.iload_n 3, 1) := by decide +kernel
theorem d_Law_law_789 : decode M_Law_law.2.1 789 = .ok (.iconst 2, 1) := by decide +kernel
theorem d_Law_law_790 : decode M_Law_law.2.1 790 = .ok (.iadd, 1) := by decide +kernel
theorem d_Law_law_791 : decode M_Law_law.2.1 791 = .ok (.iaload, 1) := by decide +kernel
theorem d_Law_law_792 : decode M_Law_law.2.1 792 = .ok (.aload_n 0, 1) := by decide +kernel
theorem d_Law_law_793 : decode M_Law_law.2.1 793 = .ok (.iload_n 3, 1) := by decide +kernel
theorem d_Law_law_794 : decode M_Law_law.2.1 794 = .ok (.iconst 3, 1) := by decide +kernel
theorem d_Law_law_795 : decode M_Law_law.2.1 795 = .ok (.iadd, 1) := by decide +kernel
theorem d_Law_law_796 : decode M_Law_law.2.1 796 = .ok (.iaload, 1) := by decide +kernel
theorem d_Law_law_797 : decode M_Law_law.2.1 797 = .ok (.invokevirtual 76, 3) := by decide +kernel
theorem d_Law_law_800 : decode M_Law_law.2.1 800 = .ok (.aload_n 2, 1) := by decide +kernel
theorem d_Law_law_801 : decode M_Law_law.2.1 801 = .ok (.aload_n 0, 1) := by decide +kernel
theorem d_Law_law_802 : decode M_Law_law.2.1 802 = .ok (.iload_n 3, 1) := by decide +kernel
theorem d_Law_law_803 : decode M_Law_law.2.1 803 = .ok (.iconst 1, 1) := by decide +kernel
theorem d_Law_law_804 : decode M_Law_law.2.1 804 = .ok (.iadd, 1) := by decide +kernel
theorem d_Law_law_805 : decode M_Law_law.2.1 805 = .ok (.iaload, 1) := by decide +kernel
theorem d_Law_law_806 : decode M_Law_law.2.1 806 = .ok (.aload_n 0, 1) := by decide +kernel
theorem d_Law_law_807 : decode M_Law_law.2.1 807 = .ok (.iload_n 3, 1) := by decide +kernel
theorem d_Law_law_808 : decode M_Law_law.2.1 808 = .ok (.iconst 2, 1) := by decide +kernel
theorem d_Law_law_809 : decode M_Law_law.2.1 809 = .ok (.iadd, 1) := by decide +kernel
theorem d_Law_law_810 : decode M_Law_law.2.1 810 = .ok (.iaload, 1) := by decide +kernel
theorem d_Law_law_811 : decode M_Law_law.2.1 811 = .ok (.aload_n 0, 1) := by decide +kernel
theorem d_Law_law_812 : decode M_Law_law.2.1 812 = .ok (.iload_n 3, 1) := by decide +kernel
theorem d_Law_law_813 : decode M_Law_law.2.1 813 = .ok (.iconst 3, 1) := by decide +kernel
theorem d_Law_law_814 : decode M_Law_law.2.1 814 = .ok (.iadd, 1) := by decide +kernel
theorem d_Law_law_815 : decode M_Law_law.2.1 815 = .ok (.iaload, 1) := by decide +kernel
theorem d_Law_law_816 : decode M_Law_law.2.1 816 = .ok (.invokevirtual 79, 3) := by decide +kernel
theorem d_Law_law_819 : decode M_Law_law.2.1 819 = .ok (.if_icmp .eq 1204, 3) := by decide +kernel
theorem d_Law_law_822 : decode M_Law_law.2.1 822 = .ok (.iconst 0, 1) := by decide +kernel
theorem d_Law_law_823 : decode M_Law_law.2.1 823 = .ok (.ireturn, 1) := by decide +kernel
theorem d_Law_law_824 : decode M_Law_law.2.1 824 = .ok (.aload_n 1, 1) := by decide +kernel
theorem d_Law_law_825 : decode M_Law_law.2.1 825 = .ok (.aload_n 0, 1) := by decide +kernel
theorem d_Law_law_826 : decode M_Law_law.2.1 826 = .ok (.iload_n 3, 1) := by decide +kernel
theorem d_Law_law_827 : decode M_Law_law.2.1 827 = .ok (.iconst 1, 1) := by decide +kernel
theorem d_Law_law_828 : decode M_Law_law.2.1 828 = .ok (.iadd, 1) := by decide +kernel
theorem d_Law_law_829 : decode M_Law_law.2.1 829 = .ok (.iaload, 1) := by decide +kernel
theorem d_Law_law_830 : decode M_Law_law.2.1 830 = .ok (.invokevirtual 80, 3) := by decide +kernel
theorem d_Law_law_833 : decode M_Law_law.2.1 833 = .ok (.aload_n 2, 1) := by decide +kernel
theorem d_Law_law_834 : decode M_Law_law.2.1 834 = .ok (.aload_n 0, 1) := by decide +kernel
theorem d_Law_law_835 : decode M_Law_law.2.1 835 = .ok (.iload_n 3, 1) := by decide +kernel
theorem d_Law_law_836 : decode M_Law_law.2.1 836 = .ok (.iconst 1, 1) := by decide +kernel
theorem d_Law_law_837 : decode M_Law_law.2.1 837 = .ok (.iadd, 1) := by decide +kernel
theorem d_Law_law_838 : decode M_Law_law.2.1 838 = .ok (.iaload, 1) := by decide +kernel
theorem d_Law_law_839 : decode M_Law_law.2.1 839 = .ok (.invokevirtual 83, 3) := by decide +kernel
theorem d_Law_law_842 : decode M_Law_law.2.1 842 = .ok (.if_icmp .eq 1181, 3) := by decide +kernel
theorem d_Law_law_845 : decode M_Law_law.2.1 845 = .ok (.iconst 0, 1) := by decide +kernel
theorem d_Law_law_846 : decode M_Law_law.2.1 846 = .ok (.ireturn, 1) := by decide +kernel
theorem d_Law_law_847 : decode M_Law_law.2.1 847 = .ok (.aload_n 1, 1) := by decide +kernel
theorem d_Law_law_848 : decode M_Law_law.2.1 848 = .ok (.aload_n 0, 1) := by decide +kernel
theorem d_Law_law_849 : decode M_Law_law.2.1 849 = .ok (.iload_n 3, 1) := by decide +kernel
theorem d_Law_law_850 : decode M_Law_law.2.1 850 = .ok (.iconst 1, 1) := by decide +kernel
theorem d_Law_law_851 : decode M_Law_law.2.1 851 = .ok (.iadd, 1) := by decide +kernel
theorem d_Law_law_852 : decode M_Law_law.2.1 852 = .ok (.iaload, 1) := by decide +kernel
theorem d_Law_law_853 : decode M_Law_law.2.1 853 = .ok (.invokevirtual 84, 3) := by decide +kernel
theorem d_Law_law_856 : decode M_Law_law.2.1 856 = .ok (.aload_n 2, 1) := by decide +kernel
theorem d_Law_law_857 : decode M_Law_law.2.1 857 = .ok (.aload_n 0, 1) := by decide +kernel
theorem d_Law_law_858 : decode M_Law_law.2.1 858 = .ok (.iload_n 3, 1) := by decide +kernel
theorem d_Law_law_859 : decode M_Law_law.2.1 859 = .ok (.iconst 1, 1) := by decide +kernel
theorem d_Law_law_860 : decode M_Law_law.2.1 860 = .ok (.iadd, 1) := by decide +kernel
theorem d_Law_law_861 : decode M_Law_law.2.1 861 = .ok (.iaload, 1) := by decide +kernel
theorem d_Law_law_862 : decode M_Law_law.2.1 862 = .ok (.invokevirtual 87, 3) := by decide +kernel
theorem d_Law_law_865 : decode M_Law_law.2.1 865 = .ok (.if_icmp .eq 1158, 3) := by decide +kernel
theorem d_Law_law_868 : decode M_Law_law.2.1 868 = .ok (.iconst 0, 1) := by decide +kernel
theorem d_Law_law_869 : decode M_Law_law.2.1 869 = .ok (.ireturn, 1) := by decide +kernel
theorem d_Law_law_870 : decode M_Law_law.2.1 870 = .ok (.aload_n 1, 1) := by decide +kernel
theorem d_Law_law_871 : decode M_Law_law.2.1 871 = .ok (.aload_n 0, 1) := by decide +kernel
theorem d_Law_law_872 : decode M_Law_law.2.1 872 = .ok (.iload_n 3, 1) := by decide +kernel
theorem d_Law_law_873 : decode M_Law_law.2.1 873 = .ok (.iconst 1, 1) := by decide +kernel
theorem d_Law_law_874 : decode M_Law_law.2.1 874 = .ok (.iadd, 1) := by decide +kernel
theorem d_Law_law_875 : decode M_Law_law.2.1 875 = .ok (.iaload, 1) := by decide +kernel
theorem d_Law_law_876 : decode M_Law_law.2.1 876 = .ok (.aload_n 0, 1) := by decide +kernel
theorem d_Law_law_877 : decode M_Law_law.2.1 877 = .ok (.iload_n 3, 1) := by decide +kernel
theorem d_Law_law_878 : decode M_Law_law.2.1 878 = .ok (.iconst 2, 1) := by decide +kernel
theorem d_Law_law_879 : decode M_Law_law.2.1 879 = .ok (.iadd, 1) := by decide +kernel
theorem d_Law_law_880 : decode M_Law_law.2.1 880 = .ok (.iaload, 1) := by decide +kernel
theorem d_Law_law_881 : decode M_Law_law.2.1 881 = .ok (.invokevirtual 88, 3) := by decide +kernel
theorem d_Law_law_884 : decode M_Law_law.2.1 884 = .ok (.aload_n 2, 1) := by decide +kernel
theorem d_Law_law_885 : decode M_Law_law.2.1 885 = .ok (.aload_n 0, 1) := by decide +kernel
theorem d_Law_law_886 : decode M_Law_law.2.1 886 = .ok (.iload_n 3, 1) := by decide +kernel
theorem d_Law_law_887 : decode M_Law_law.2.1 887 = .ok (.iconst 1, 1) := by decide +kernel
theorem d_Law_law_888 : decode M_Law_law.2.1 888 = .ok (.iadd, 1) := by decide +kernel
theorem d_Law_law_889 : decode M_Law_law.2.1 889 = .ok (.iaload, 1) := by decide +kernel
theorem d_Law_law_890 : decode M_Law_law.2.1 890 = .ok (.aload_n 0, 1) := by decide +kernel
theorem d_Law_law_891 : decode M_Law_law.2.1 891 = .ok (.iload_n 3, 1) := by decide +kernel
theorem d_Law_law_892 : decode M_Law_law.2.1 892 = .ok (.iconst 2, 1) := by decide +kernel
theorem d_Law_law_893 : decode M_Law_law.2.1 893 = .ok (.iadd, 1) := by decide +kernel
theorem d_Law_law_894 : decode M_Law_law.2.1 894 = .ok (.iaload, 1) := by decide +kernel
theorem d_Law_law_895 : decode M_Law_law.2.1 895 = .ok (.invokevirtual 91, 3) := by decide +kernel
theorem d_Law_law_898 : decode M_Law_law.2.1 898 = .ok (.if_icmp .eq 1125, 3) := by decide +kernel
theorem d_Law_law_901 : decode M_Law_law.2.1 901 = .ok (.iconst 0, 1) := by decide +kernel
theorem d_Law_law_902 : decode M_Law_law.2.1 902 = .ok (.ireturn, 1) := by decide +kernel
theorem d_Law_law_903 : decode M_Law_law.2.1 903 = .ok (.aload_n 1, 1) := by decide +kernel
theorem d_Law_law_904 : decode M_Law_law.2.1 904 = .ok (.aload_n 0, 1) := by decide +kernel
theorem d_Law_law_905 : decode M_Law_law.2.1 905 = .ok (.iload_n 3, 1) := by decide +kernel
theorem d_Law_law_906 : decode M_Law_law.2.1 906 = .ok (.iconst 1, 1) := by decide +kernel
theorem d_Law_law_907 : decode M_Law_law.2.1 907 = .ok (.iadd, 1) := by decide +kernel
theorem d_Law_law_908 : decode M_Law_law.2.1 908 = .ok (.iaload, 1) := by decide +kernel
theorem d_Law_law_909 : decode M_Law_law.2.1 909 = .ok (.invokevirtual 92, 3) := by decide +kernel
theorem d_Law_law_912 : decode M_Law_law.2.1 912 = .ok (.aload_n 2, 1) := by decide +kernel
theorem d_Law_law_913 : decode M_Law_law.2.1 913 = .ok (.aload_n 0, 1) := by decide +kernel
theorem d_Law_law_914 : decode M_Law_law.2.1 914 = .ok (.iload_n 3, 1) := by decide +kernel
theorem d_Law_law_915 : decode M_Law_law.2.1 915 = .ok (.iconst 1, 1) := by decide +kernel
theorem d_Law_law_916 : decode M_Law_law.2.1 916 = .ok (.iadd, 1) := by decide +kernel
theorem d_Law_law_917 : decode M_Law_law.2.1 917 = .ok (.iaload, 1) := by decide +kernel
theorem d_Law_law_918 : decode M_Law_law.2.1 918 = .ok (.invokevirtual 95, 3) := by decide +kernel
theorem d_Law_law_921 : decode M_Law_law.2.1 921 = .ok (.if_icmp .eq 1102, 3) := by decide +kernel
theorem d_Law_law_924 : decode M_Law_law.2.1 924 = .ok (.iconst 0, 1) := by decide +kernel
theorem d_Law_law_925 : decode M_Law_law.2.1 925 = .ok (.ireturn, 1) := by decide +kernel
theorem d_Law_law_926 : decode M_Law_law.2.1 926 = .ok (.aload_n 1, 1) := by decide +kernel
theorem d_Law_law_927 : decode M_Law_law.2.1 927 = .ok (.aload_n 0, 1) := by decide +kernel
theorem d_Law_law_928 : decode M_Law_law.2.1 928 = .ok (.iload_n 3, 1) := by decide +kernel
theorem d_Law_law_929 : decode M_Law_law.2.1 929 = .ok (.iconst 1, 1) := by decide +kernel
theorem d_Law_law_930 : decode M_Law_law.2.1 930 = .ok (.iadd, 1) := by decide +kernel
theorem d_Law_law_931 : decode M_Law_law.2.1 931 = .ok (.iaload, 1) := by decide +kernel
theorem d_Law_law_932 : decode M_Law_law.2.1 932 = .ok (.invokevirtual 96, 3) := by decide +kernel
theorem d_Law_law_935 : decode M_Law_law.2.1 935 = .ok (.aload_n 2, 1) := by decide +kernel
theorem d_Law_law_936 : decode M_Law_law.2.1 936 = .ok (.aload_n 0, 1) := by decide +kernel
theorem d_Law_law_937 : decode M_Law_law.2.1 937 = .ok (.iload_n 3, 1) := by decide +kernel
theorem d_Law_law_938 : decode M_Law_law.2.1 938 = .ok (.iconst 1, 1) := by decide +kernel
theorem d_Law_law_939 : decode M_Law_law.2.1 939 = .ok (.iadd, 1) := by decide +kernel
theorem d_Law_law_940 : decode M_Law_law.2.1 940 = .ok (.iaload, 1) := by decide +kernel
theorem d_Law_law_941 : decode M_Law_law.2.1 941 = .ok (.invokevirtual 100, 3) := by decide +kernel
theorem d_Law_law_944 : decode M_Law_law.2.1 944 = .ok (.if_icmp .eq 1079, 3) := by decide +kernel
theorem d_Law_law_947 : decode M_Law_law.2.1 947 = .ok (.iconst 0, 1) := by decide +kernel
theorem d_Law_law_948 : decode M_Law_law.2.1 948 = .ok (.ireturn, 1) := by decide +kernel
theorem d_Law_law_949 : decode M_Law_law.2.1 949 = .ok (.aload_n 1, 1) := by decide +kernel
theorem d_Law_law_950 : decode M_Law_law.2.1 950 = .ok (.aload_n 0, 1) := by decide +kernel
theorem d_Law_law_951 : decode M_Law_law.2.1 951 = .ok (.iload_n 3, 1) := by decide +kernel
theorem d_Law_law_952 : decode M_Law_law.2.1 952 = .ok (.iconst 1, 1) := by decide +kernel
theorem d_Law_law_953 : decode M_Law_law.2.1 953 = .ok (.iadd, 1) := by decide +kernel
theorem d_Law_law_954 : decode M_Law_law.2.1 954 = .ok (.iaload, 1) := by decide +kernel
theorem d_Law_law_955 : decode M_Law_law.2.1 955 = .ok (.invokevirtual 101, 3) := by decide +kernel
theorem d_Law_law_958 : decode M_Law_law.2.1 958 = .ok (.aload_n 2, 1) := by decide +kernel
theorem d_Law_law_959 : decode M_Law_law.2.1 959 = .ok (.aload_n 0, 1) := by decide +kernel
theorem d_Law_law_960 : decode M_Law_law.2.1 960 = .ok (.iload_n 3, 1) := by decide +kernel
theorem d_Law_law_961 : decode M_Law_law.2.1 961 = .ok (.iconst 1, 1) := by decide +kernel
theorem d_Law_law_962 : decode M_Law_law.2.1 962 = .ok (.iadd, 1) := by decide +kernel
theorem d_Law_law_963 : decode M_Law_law.2.1 963 = .ok (.iaload, 1) := by decide +kernel
theorem d_Law_law_964 : decode M_Law_law.2.1 964 = .ok (.invokevirtual 104, 3) := by decide +kernel
theorem d_Law_law_967 : decode M_Law_law.2.1 967 = .ok (.if_icmp .eq 1056, 3) := by decide +kernel
theorem d_Law_law_970 : decode M_Law_law.2.1 970 = .ok (.iconst 0, 1) := by decide +kernel
theorem d_Law_law_971 : decode M_Law_law.2.1 971 = .ok (.ireturn, 1) := by decide +kernel
theorem d_Law_law_972 : decode M_Law_law.2.1 972 = .ok (.aload_n 1, 1) := by decide +kernel
theorem d_Law_law_973 : decode M_Law_law.2.1 973 = .ok (.aload_n 0, 1) := by decide +kernel
theorem d_Law_law_974 : decode M_Law_law.2.1 974 = .ok (.iload_n 3, 1) := by decide +kernel
theorem d_Law_law_975 : decode M_Law_law.2.1 975 = .ok (.iconst 1, 1) := by decide +kernel
theorem d_Law_law_976 : decode M_Law_law.2.1 976 = .ok (.iadd, 1) := by decide +kernel
theorem d_Law_law_977 : decode M_Law_law.2.1 977 = .ok (.iaload, 1) := by decide +kernel
theorem d_Law_law_978 : decode M_Law_law.2.1 978 = .ok (.invokevirtual 105, 3) := by decide +kernel
theorem d_Law_law_981 : decode M_Law_law.2.1 981 = .ok (.aload_n 2, 1) := by decide +kernel
theorem d_Law_law_982 : decode M_Law_law.2.1 982 = .ok (.aload_n 0, 1) := by decide +kernel
theorem d_Law_law_983 : decode M_Law_law.2.1 983 = .ok (.iload_n 3, 1) := by decide +kernel
theorem d_Law_law_984 : decode M_Law_law.2.1 984 = .ok (.iconst 1, 1) := by decide +kernel
theorem d_Law_law_985 : decode M_Law_law.2.1 985 = .ok (.iadd, 1) := by decide +kernel
theorem d_Law_law_986 : decode M_Law_law.2.1 986 = .ok (.iaload, 1) := by decide +kernel
theorem d_Law_law_987 : decode M_Law_law.2.1 987 = .ok (.invokevirtual 108, 3) := by decide +kernel
theorem d_Law_law_990 : decode M_Law_law.2.1 990 = .ok (.if_icmp .eq 1033, 3) := by decide +kernel
theorem d_Law_law_993 : decode M_Law_law.2.1 993 = .ok (.iconst 0, 1) := by decide +kernel
theorem d_Law_law_994 : decode M_Law_law.2.1 994 = .ok (.ireturn, 1) := by decide +kernel
theorem d_Law_law_995 : decode M_Law_law.2.1 995 = .ok (.aload_n 1, 1) := by decide +kernel
theorem d_Law_law_996 : decode M_Law_law.2.1 996 = .ok (.aload_n 0, 1) := by decide +kernel
theorem d_Law_law_997 : decode M_Law_law.2.1 997 = .ok (.iload_n 3, 1) := by decide +kernel
theorem d_Law_law_998 : decode M_Law_law.2.1 998 = .ok (.iconst 1, 1) := by decide +kernel
theorem d_Law_law_999 : decode M_Law_law.2.1 999 = .ok (.iadd, 1) := by decide +kernel
theorem d_Law_law_1000 : decode M_Law_law.2.1 1000 = .ok (.iaload, 1) := by decide +kernel
theorem d_Law_law_1001 : decode M_Law_law.2.1 1001 = .ok (.invokevirtual 109, 3) := by decide +kernel
theorem d_Law_law_1004 : decode M_Law_law.2.1 1004 = .ok (.aload_n 2, 1) := by decide +kernel
theorem d_Law_law_1005 : decode M_Law_law.2.1 1005 = .ok (.aload_n 0, 1) := by decide +kernel
theorem d_Law_law_1006 : decode M_Law_law.2.1 1006 = .ok (.iload_n 3, 1) := by decide +kernel
theorem d_Law_law_1007 : decode M_Law_law.2.1 1007 = .ok (.iconst 1, 1) := by decide +kernel
theorem d_Law_law_1008 : decode M_Law_law.2.1 1008 = .ok (.iadd, 1) := by decide +kernel
theorem d_Law_law_1009 : decode M_Law_law.2.1 1009 = .ok (.iaload, 1) := by decide +kernel
theorem d_Law_law_1010 : decode M_Law_law.2.1 1010 = .ok (.invokevirtual 112, 3) := by decide +kernel
theorem d_Law_law_1013 : decode M_Law_law.2.1 1013 = .ok (.if_icmp .eq 1010, 3) := by decide +kernel
theorem d_Law_law_1016 : decode M_Law_law.2.1 1016 = .ok (.iconst 0, 1) := by decide +kernel
theorem d_Law_law_1017 : decode M_Law_law.2.1 1017 = .ok (.ireturn, 1) := by decide +kernel
theorem d_Law_law_1018 : decode M_Law_law.2.1 1018 = .ok (.aload_n 1, 1) := by decide +kernel
theorem d_Law_law_1019 : decode M_Law_law.2.1 1019 = .ok (.aload_n 0, 1) := by decide +kernel
theorem d_Law_law_1020 : decode M_Law_law.2.1 1020 = .ok (.iload_n 3, 1) := by decide +kernel
theorem d_Law_law_1021 : decode M_Law_law.2.1 1021 = .ok (.iconst 1, 1) := by decide +kernel
theorem d_Law_law_1022 : decode M_Law_law.2.1 1022 = .ok (.iadd, 1) := by decide +kernel
theorem d_Law_law_1023 : decode M_Law_law.2.1 1023 = .ok (.iaload, 1) := by decide +kernel
theorem d_Law_law_1024 : decode M_Law_law.2.1 1024 = .ok (.invokevirtual 113, 3) := by decide +kernel
theorem d_Law_law_1027 : decode M_Law_law.2.1 1027 = .ok (.aload_n 2, 1) := by decide +kernel
theorem d_Law_law_1028 : decode M_Law_law.2.1 1028 = .ok (.aload_n 0, 1) := by decide +kernel
theorem d_Law_law_1029 : decode M_Law_law.2.1 1029 = .ok (.iload_n 3, 1) := by decide +kernel
theorem d_Law_law_1030 : decode M_Law_law.2.1 1030 = .ok (.iconst 1, 1) := by decide +kernel
theorem d_Law_law_1031 : decode M_Law_law.2.1 1031 = .ok (.iadd, 1) := by decide +kernel
theorem d_Law_law_1032 : decode M_Law_law.2.1 1032 = .ok (.iaload, 1) := by decide +kernel
theorem d_Law_law_1033 : decode M_Law_law.2.1 1033 = .ok (.invokevirtual 116, 3) := by decide +kernel
theorem d_Law_law_1036 : decode M_Law_law.2.1 1036 = .ok (.if_icmp .eq 987, 3) := by decide +kernel
theorem d_Law_law_1039 : decode M_Law_law.2.1 1039 = .ok (.iconst 0, 1) := by decide +kernel
theorem d_Law_law_1040 : decode M_Law_law.2.1 1040 = .ok (.ireturn, 1) := by decide +kernel
theorem d_Law_law_1041 : decode M_Law_law.2.1 1041 = .ok (.aload_n 1, 1) := by decide +kernel
theorem d_Law_law_1042 : decode M_Law_law.2.1 1042 = .ok (.aload_n 0, 1) := by decide +kernel
theorem d_Law_law_1043 : decode M_Law_law.2.1 1043 = .ok (.iload_n 3, 1) := by decide +kernel
theorem d_Law_law_1044 : decode M_Law_law.2.1 1044 = .ok (.iconst 1, 1) := by decide +kernel
theorem d_Law_law_1045 : decode M_Law_law.2.1 1045 = .ok (.iadd, 1) := by decide +kernel
theorem d_Law_law_1046 : decode M_Law_law.2.1 1046 = .ok (.iaload, 1) := by decide +kernel
theorem d_Law_law_1047 : decode M_Law_law.2.1 1047 = .ok (.invokevirtual 117, 3) := by decide +kernel
theorem d_Law_law_1050 : decode M_Law_law.2.1 1050 = .ok (.aload_n 2, 1) := by decide +kernel
theorem d_Law_law_1051 : decode M_Law_law.2.1 1051 = .ok (.aload_n 0, 1) := by decide +kernel
theorem d_Law_law_1052 : decode M_Law_law.2.1 1052 = .ok (.iload_n 3, 1) := by decide +kernel
theorem d_Law_law_1053 : decode M_Law_law.2.1 1053 = .ok (.iconst 1, 1) := by decide +kernel
theorem d_Law_law_1054 : decode M_Law_law.2.1 1054 = .ok (.iadd, 1) := by decide +kernel
theorem d_Law_law_1055 : decode M_Law_law.2.1 1055 = .ok (.iaload, 1) := by decide +kernel
theorem d_Law_law_1056 : decode M_Law_law.2.1 1056 = .ok (.invokevirtual 120, 3) := by decide +kernel
theorem d_Law_law_1059 : decode M_Law_law.2.1 1059 = .ok (.if_icmp .eq 964, 3) := by decide +kernel
theorem d_Law_law_1062 : decode M_Law_law.2.1 1062 = .ok (.iconst 0, 1) := by decide +kernel
theorem d_Law_law_1063 : decode M_Law_law.2.1 1063 = .ok (.ireturn, 1) := by decide +kernel
theorem d_Law_law_1064 : decode M_Law_law.2.1 1064 = .ok (.aload_n 1, 1) := by decide +kernel
theorem d_Law_law_1065 : decode M_Law_law.2.1 1065 = .ok (.aload_n 0, 1) := by decide +kernel
theorem d_Law_law_1066 : decode M_Law_law.2.1 1066 = .ok (.iload_n 3, 1) := by decide +kernel
theorem d_Law_law_1067 : decode M_Law_law.2.1 1067 = .ok (.iconst 1, 1) := by decide +kernel
theorem d_Law_law_1068 : decode M_Law_law.2.1 1068 = .ok (.iadd, 1) := by decide +kernel
theorem d_Law_law_1069 : decode M_Law_law.2.1 1069 = .ok (.iaload, 1) := by decide +kernel
theorem d_Law_law_1070 : decode M_Law_law.2.1 1070 = .ok (.aload_n 0, 1) := by decide +kernel
theorem d_Law_law_1071 : decode M_Law_law.2.1 1071 = .ok (.iload_n 3, 1) := by decide +kernel
theorem d_Law_law_1072 : decode M_Law_law.2.1 1072 = .ok (.iconst 2, 1) := by decide +kernel
theorem d_Law_law_1073 : decode M_Law_law.2.1 1073 = .ok (.iadd, 1) := by decide +kernel
theorem d_Law_law_1074 : decode M_Law_law.2.1 1074 = .ok (.iaload, 1) := by decide +kernel
theorem d_Law_law_1075 : decode M_Law_law.2.1 1075 = .ok (.invokevirtual 121, 3) := by decide +kernel
theorem d_Law_law_1078 : decode M_Law_law.2.1 1078 = .ok (.aload_n 2, 1) := by decide +kernel
theorem d_Law_law_1079 : decode M_Law_law.2.1 1079 = .ok (.aload_n 0, 1) := by decide +kernel
theorem d_Law_law_1080 : decode M_Law_law.2.1 1080 = .ok (.iload_n 3, 1) := by decide +kernel
theorem d_Law_law_1081 : decode M_Law_law.2.1 1081 = .ok (.iconst 1, 1) := by decide +kernel
theorem d_Law_law_1082 : decode M_Law_law.2.1 1082 = .ok (.iadd, 1) := by decide +kernel
theorem d_Law_law_1083 : decode M_Law_law.2.1 1083 = .ok (.iaload, 1) := by decide +kernel
theorem d_Law_law_1084 : decode M_Law_law.2.1 1084 = .ok (.aload_n 0, 1) := by decide +kernel
theorem d_Law_law_1085 : decode M_Law_law.2.1 1085 = .ok (.iload_n 3, 1) := by decide +kernel
theorem d_Law_law_1086 : decode M_Law_law.2.1 1086 = .ok (.iconst 2, 1) := by decide +kernel
theorem d_Law_law_1087 : decode M_Law_law.2.1 1087 = .ok (.iadd, 1) := by decide +kernel
theorem d_Law_law_1088 : decode M_Law_law.2.1 1088 = .ok (.iaload, 1) := by decide +kernel
theorem d_Law_law_1089 : decode M_Law_law.2.1 1089 = .ok (.invokevirtual 124, 3) := by decide +kernel
theorem d_Law_law_1092 : decode M_Law_law.2.1 1092 = .ok (.if_icmp .eq 931, 3) := by decide +kernel
theorem d_Law_law_1095 : decode M_Law_law.2.1 1095 = .ok (.iconst 0, 1) := by decide +kernel
theorem d_Law_law_1096 : decode M_Law_law.2.1 1096 = .ok (.ireturn, 1) := by decide +kernel
theorem d_Law_law_1097 : decode M_Law_law.2.1 1097 = .ok (.aload_n 1, 1) := by decide +kernel
theorem d_Law_law_1098 : decode M_Law_law.2.1 1098 = .ok (.aload_n 0, 1) := by decide +kernel
theorem d_Law_law_1099 : decode M_Law_law.2.1 1099 = .ok (.iload_n 3, 1) := by decide +kernel
theorem d_Law_law_1100 : decode M_Law_law.2.1 1100 = .ok (.iconst 1, 1) := by decide +kernel
theorem d_Law_law_1101 : decode M_Law_law.2.1 1101 = .ok (.iadd, 1) := by decide +kernel
theorem d_Law_law_1102 : decode M_Law_law.2.1 1102 = .ok (.iaload, 1) := by decide +kernel
theorem d_Law_law_1103 : decode M_Law_law.2.1 1103 = .ok (.invokevirtual 125, 3) := by decide +kernel
theorem d_Law_law_1106 : decode M_Law_law.2.1 1106 = .ok (.aload_n 2, 1) := by decide +kernel
theorem d_Law_law_1107 : decode M_Law_law.2.1 1107 = .ok (.aload_n 0, 1) := by decide +kernel
theorem d_Law_law_1108 : decode M_Law_law.2.1 1108 = .ok (.iload_n 3, 1) := by decide +kernel
theorem d_Law_law_1109 : decode M_Law_law.2.1 1109 = .ok (.iconst 1, 1) := by decide +kernel
theorem d_Law_law_1110 : decode M_Law_law.2.1 1110 = .ok (.iadd, 1) := by decide +kernel
theorem d_Law_law_1111 : decode M_Law_law.2.1 1111 = .ok (.iaload, 1) := by decide +kernel
theorem d_Law_law_1112 : decode M_Law_law.2.1 1112 = .ok (.invokevirtual 128, 3) := by decide +kernel
theorem d_Law_law_1115 : decode M_Law_law.2.1 1115 = .ok (.if_icmp .eq 908, 3) := by decide +kernel
theorem d_Law_law_1118 : decode M_Law_law.2.1 1118 = .ok (.iconst 0, 1) := by decide +kernel
theorem d_Law_law_1119 : decode M_Law_law.2.1 1119 = .ok (.ireturn, 1) := by decide +kernel
theorem d_Law_law_1120 : decode M_Law_law.2.1 1120 = .ok (.aload_n 1, 1) := by decide +kernel
theorem d_Law_law_1121 : decode M_Law_law.2.1 1121 = .ok (.aload_n 0, 1) := by decide +kernel
theorem d_Law_law_1122 : decode M_Law_law.2.1 1122 = .ok (.iload_n 3, 1) := by decide +kernel
theorem d_Law_law_1123 : decode M_Law_law.2.1 1123 = .ok (.iconst 1, 1) := by decide +kernel
theorem d_Law_law_1124 : decode M_Law_law.2.1 1124 = .ok (.iadd, 1) := by decide +kernel
theorem d_Law_law_1125 : decode M_Law_law.2.1 1125 = .ok (.iaload, 1) := by decide +kernel
theorem d_Law_law_1126 : decode M_Law_law.2.1 1126 = .ok (.invokevirtual 129, 3) := by decide +kernel
theorem d_Law_law_1129 : decode M_Law_law.2.1 1129 = .ok (.aload_n 2, 1) := by decide +kernel
theorem d_Law_law_1130 : decode M_Law_law.2.1 1130 = .ok (.aload_n 0, 1) := by decide +kernel
theorem d_Law_law_1131 : decode M_Law_law.2.1 1131 = .ok (.iload_n 3, 1) := by decide +kernel
theorem d_Law_law_1132 : decode M_Law_law.2.1 1132 = .ok (.iconst 1, 1) := by decide +kernel
theorem d_Law_law_1133 : decode M_Law_law.2.1 1133 = .ok (.iadd, 1) := by decide +kernel
theorem d_Law_law_1134 : decode M_Law_law.2.1 1134 = .ok (.iaload, 1) := by decide +kernel
theorem d_Law_law_1135 : decode M_Law_law.2.1 1135 = .ok (.invokevirtual 132, 3) := by decide +kernel
theorem d_Law_law_1138 : decode M_Law_law.2.1 1138 = .ok (.if_icmp .eq 885, 3) := by decide +kernel
theorem d_Law_law_1141 : decode M_Law_law.2.1 1141 = .ok (.iconst 0, 1) := by decide +kernel
theorem d_Law_law_1142 : decode M_Law_law.2.1 1142 = .ok (.ireturn, 1) := by decide +kernel
theorem d_Law_law_1143 : decode M_Law_law.2.1 1143 = .ok (.aload_n 1, 1) := by decide +kernel
theorem d_Law_law_1144 : decode M_Law_law.2.1 1144 = .ok (.invokevirtual 133, 3) := by decide +kernel
theorem d_Law_law_1147 : decode M_Law_law.2.1 1147 = .ok (.aload_n 2, 1) := by decide +kernel
theorem d_Law_law_1148 : decode M_Law_law.2.1 1148 = .ok (.invokevirtual 137, 3) := by decide +kernel
theorem d_Law_law_1151 : decode M_Law_law.2.1 1151 = .ok (.if_icmp .eq 872, 3) := by decide +kernel
theorem d_Law_law_1154 : decode M_Law_law.2.1 1154 = .ok (.iconst 0, 1) := by decide +kernel
theorem d_Law_law_1155 : decode M_Law_law.2.1 1155 = .ok (.ireturn, 1) := by decide +kernel
theorem d_Law_law_1156 : decode M_Law_law.2.1 1156 = .ok (.aload_n 1, 1) := by decide +kernel
theorem d_Law_law_1157 : decode M_Law_law.2.1 1157 = .ok (.aload_n 0, 1) := by decide +kernel
theorem d_Law_law_1158 : decode M_Law_law.2.1 1158 = .ok (.iload_n 3, 1) := by decide +kernel
theorem d_Law_law_1159 : decode M_Law_law.2.1 1159 = .ok (.iconst 1, 1) := by decide +kernel
theorem d_Law_law_1160 : decode M_Law_law.2.1 1160 = .ok (.iadd, 1) := by decide +kernel
theorem d_Law_law_1161 : decode M_Law_law.2.1 1161 = .ok (.iaload, 1) := by decide +kernel
theorem d_Law_law_1162 : decode M_Law_law.2.1 1162 = .ok (.invokevirtual 138, 3) := by decide +kernel
theorem d_Law_law_1165 : decode M_Law_law.2.1 1165 = .ok (.aload_n 2, 1) := by decide +kernel
theorem d_Law_law_1166 : decode M_Law_law.2.1 1166 = .ok (.aload_n 0, 1) := by decide +kernel
theorem d_Law_law_1167 : decode M_Law_law.2.1 1167 = .ok (.iload_n 3, 1) := by decide +kernel
theorem d_Law_law_1168 : decode M_Law_law.2.1 1168 = .ok (.iconst 1, 1) := by decide +kernel
theorem d_Law_law_1169 : decode M_Law_law.2.1 1169 = .ok (.iadd, 1) := by decide +kernel
theorem d_Law_law_1170 : decode M_Law_law.2.1 1170 = .ok (.iaload, 1) := by decide +kernel
theorem d_Law_law_1171 : decode M_Law_law.2.1 1171 = .ok (.invokevirtual 141, 3) := by decide +kernel
theorem d_Law_law_1174 : decode M_Law_law.2.1 1174 = .ok (.if_icmp .eq 849, 3) := by decide +kernel
theorem d_Law_law_1177 : decode M_Law_law.2.1 1177 = .ok (.iconst 0, 1) := by decide +kernel
theorem d_Law_law_1178 : decode M_Law_law.2.1 1178 = .ok (.ireturn, 1) := by decide +kernel
theorem d_Law_law_1179 : decode M_Law_law.2.1 1179 = .ok (.aload_n 1, 1) := by decide +kernel
theorem d_Law_law_1180 : decode M_Law_law.2.1 1180 = .ok (.aload_n 0, 1) := by decide +kernel
theorem d_Law_law_1181 : decode M_Law_law.2.1 1181 = .ok (.iload_n 3, 1) := by decide +kernel
theorem d_Law_law_1182 : decode M_Law_law.2.1 1182 = .ok (.iconst 1, 1) := by decide +kernel
theorem d_Law_law_1183 : decode M_Law_law.2.1 1183 = .ok (.iadd, 1) := by decide +kernel
theorem d_Law_law_1184 : decode M_Law_law.2.1 1184 = .ok (.iaload, 1) := by decide +kernel
theorem d_Law_law_1185 : decode M_Law_law.2.1 1185 = .ok (.aload_n 0, 1) := by decide +kernel
theorem d_Law_law_1186 : decode M_Law_law.2.1 1186 = .ok (.iload_n 3, 1) := by decide +kernel
theorem d_Law_law_1187 : decode M_Law_law.2.1 1187 = .ok (.iconst 2, 1) := by decide +kernel
theorem d_Law_law_1188 : decode M_Law_law.2.1 1188 = .ok (.iadd, 1) := by decide +kernel
theorem d_Law_law_1189 : decode M_Law_law.2.1 1189 = .ok (.iaload, 1) := by decide +kernel
theorem d_Law_law_1190 : decode M_Law_law.2.1 1190 = .ok (.invokevirtual 142, 3) := by decide +kernel
theorem d_Law_law_1193 : decode M_Law_law.2.1 1193 = .ok (.aload_n 2, 1) := by decide +kernel
theorem d_Law_law_1194 : decode M_Law_law.2.1 1194 = .ok (.aload_n 0, 1) := by decide +kernel
theorem d_Law_law_1195 : decode M_Law_law.2.1 1195 = .ok (.iload_n 3, 1) := by decide +kernel
theorem d_Law_law_1196 : decode M_Law_law.2.1 1196 = .ok (.iconst 1, 1) := by decide +kernel
theorem d_Law_law_1197 : decode M_Law_law.2.1 1197 = .ok (.iadd, 1) := by decide +kernel
theorem d_Law_law_1198 : decode M_Law_law.2.1 1198 = .ok (.iaload, 1) := by decide +kernel
theorem d_Law_law_1199 : decode M_Law_law.2.1 1199 = .ok (.aload_n 0, 1) := by decide +kernel
theorem d_Law_law_1200 : decode M_Law_law.2.1 1200 = .ok (.iload_n 3, 1) := by decide +kernel
theorem d_Law_law_1201 : decode M_Law_law.2.1 1201 = .ok (.iconst 2, 1) := by decide +kernel
theorem d_Law_law_1202 : decode M_Law_law.2.1 1202 = .ok (.iadd, 1) := by decide +kernel
theorem d_Law_law_1203 : decode M_Law_law.2.1 1203 = .ok (.iaload, 1) := by decide +kernel
theorem d_Law_law_1204 : decode M_Law_law.2.1 1204 = .ok (.invokevirtual 145, 3) := by decide +kernel
theorem d_Law_law_1207 : decode M_Law_law.2.1 1207 = .ok (.if_icmp .eq 816, 3) := by decide +kernel
theorem d_Law_law_1210 : decode M_Law_law.2.1 1210 = .ok (.iconst 0, 1) := by decide +kernel
theorem d_Law_law_1211 : decode M_Law_law.2.1 1211 = .ok (.ireturn, 1) := by decide +kernel
theorem d_Law_law_1212 : decode M_Law_law.2.1 1212 = .ok (.aload_n 1, 1) := by decide +kernel
theorem d_Law_law_1213 : decode M_Law_law.2.1 1213 = .ok (.aload_n 0, 1) := by decide +kernel
theorem d_Law_law_1214 : decode M_Law_law.2.1 1214 = .ok (.iload_n 3, 1) := by decide +kernel
theorem d_Law_law_1215 : decode M_Law_law.2.1 1215 = .ok (.iconst 1, 1) := by decide +kernel
theorem d_Law_law_1216 : decode M_Law_law.2.1 1216 = .ok (.iadd, 1) := by decide +kernel
theorem d_Law_law_1217 : decode M_Law_law.2.1 1217 = .ok (.iaload, 1) := by decide +kernel
theorem d_Law_law_1218 : decode M_Law_law.2.1 1218 = .ok (.aload_n 0, 1) := by decide +kernel
theorem d_Law_law_1219 : decode M_Law_law.2.1 1219 = .ok (.iload_n 3, 1) := by decide +kernel
theorem d_Law_law_1220 : decode M_Law_law.2.1 1220 = .ok (.iconst 2, 1) := by decide +kernel
theorem d_Law_law_1221 : decode M_Law_law.2.1 1221 = .ok (.iadd, 1) := by decide +kernel
theorem d_Law_law_1222 : decode M_Law_law.2.1 1222 = .ok (.iaload, 1) := by decide +kernel
theorem d_Law_law_1223 : decode M_Law_law.2.1 1223 = .ok (.invokevirtual 146, 3) := by decide +kernel
theorem d_Law_law_1226 : decode M_Law_law.2.1 1226 = .ok (.aload_n 2, 1) := by decide +kernel
theorem d_Law_law_1227 : decode M_Law_law.2.1 1227 = .ok (.aload_n 0, 1) := by decide +kernel
theorem d_Law_law_1228 : decode M_Law_law.2.1 1228 = .ok (.iload_n 3, 1) := by decide +kernel
theorem d_Law_law_1229 : decode M_Law_law.2.1 1229 = .ok (.iconst 1, 1) := by decide +kernel
theorem d_Law_law_1230 : decode M_Law_law.2.1 1230 = .ok (.iadd, 1) := by decide +kernel
theorem d_Law_law_1231 : decode M_Law_law.2.1 1231 = .ok (.iaload, 1) := by decide +kernel
theorem d_Law_law_1232 : decode M_Law_law.2.1 1232 = .ok (.aload_n 0, 1) := by decide +kernel
theorem d_Law_law_1233 : decode M_Law_law.2.1 1233 = .ok (.iload_n 3, 1) := by decide +kernel
theorem d_Law_law_1234 : decode M_Law_law.2.1 1234 = .ok (.iconst 2, 1) := by decide +kernel
theorem d_Law_law_1235 : decode M_Law_law.2.1 1235 = .ok (.iadd, 1) := by decide +kernel
theorem d_Law_law_1236 : decode M_Law_law.2.1 1236 = .ok (.iaload, 1) := by decide +kernel
theorem d_Law_law_1237 : decode M_Law_law.2.1 1237 = .ok (.invokevirtual 149, 3) := by decide +kernel
theorem d_Law_law_1240 : decode M_Law_law.2.1 1240 = .ok (.if_icmp .eq 783, 3) := by decide +kernel
theorem d_Law_law_1243 : decode M_Law_law.2.1 1243 = .ok (.iconst 0, 1) := by decide +kernel
theorem d_Law_law_1244 : decode M_Law_law.2.1 1244 = .ok (.ireturn, 1) := by decide +kernel
theorem d_Law_law_1245 : decode M_Law_law.2.1 1245 = .ok (.aload_n 1, 1) := by decide +kernel
theorem d_Law_law_1246 : decode M_Law_law.2.1 1246 = .ok (.aload_n 0, 1) := by decide +kernel
theorem d_Law_law_1247 : decode M_Law_law.2.1 1247 = .ok (.iload_n 3, 1) := by decide +kernel
theorem d_Law_law_1248 : decode M_Law_law.2.1 1248 = .ok (.iconst 1, 1) := by decide +kernel
theorem d_Law_law_1249 : decode M_Law_law.2.1 1249 = .ok (.iadd, 1) := by decide +kernel
theorem d_Law_law_1250 : decode M_Law_law.2.1 1250 = .ok (.iaload, 1) := by decide +kernel
theorem d_Law_law_1251 : decode M_Law_law.2.1 1251 = .ok (.aload_n 0, 1) := by decide +kernel
theorem d_Law_law_1252 : decode M_Law_law.2.1 1252 = .ok (.iload_n 3, 1) := by decide +kernel
theorem d_Law_law_1253 : decode M_Law_law.2.1 1253 = .ok (.iconst 2, 1) := by decide +kernel
theorem d_Law_law_1254 : decode M_Law_law.2.1 1254 = .ok (.iadd, 1) := by decide +kernel
theorem d_Law_law_1255 : decode M_Law_law.2.1 1255 = .ok (.iaload, 1) := by decide +kernel
theorem d_Law_law_1256 : decode M_Law_law.2.1 1256 = .ok (.invokevirtual 150, 3) := by decide +kernel
theorem d_Law_law_1259 : decode M_Law_law.2.1 1259 = .ok (.aload_n 2, 1) := by decide +kernel
theorem d_Law_law_1260 : decode M_Law_law.2.1 1260 = .ok (.aload_n 0, 1) := by decide +kernel
theorem d_Law_law_1261 : decode M_Law_law.2.1 1261 = .ok (.iload_n 3, 1) := by decide +kernel
theorem d_Law_law_1262 : decode M_Law_law.2.1 1262 = .ok (.iconst 1, 1) := by decide +kernel
theorem d_Law_law_1263 : decode M_Law_law.2.1 1263 = .ok (.iadd, 1) := by decide +kernel
theorem d_Law_law_1264 : decode M_Law_law.2.1 1264 = .ok (.iaload, 1) := by decide +kernel
theorem d_Law_law_1265 : decode M_Law_law.2.1 1265 = .ok (.aload_n 0, 1) := by decide +kernel
theorem d_Law_law_1266 : decode M_Law_law.2.1 1266 = .ok (.iload_n 3, 1) := by decide +kernel
theorem d_Law_law_1267 : decode M_Law_law.2.1 1267 = .ok (.iconst 2, 1) := by decide +kernel
theorem d_Law_law_1268 : decode M_Law_law.2.1 1268 = .ok (.iadd, 1) := by decide +kernel
theorem d_Law_law_1269 : decode M_Law_law.2.1 1269 = .ok (.iaload, 1) := by decide +kernel
theorem d_Law_law_1270 : decode M_Law_law.2.1 1270 = .ok (.invokevirtual 153, 3) := by decide +kernel
theorem d_Law_law_1273 : decode M_Law_law.2.1 1273 = .ok (.if_icmp .eq 750, 3) := by decide +kernel
theorem d_Law_law_1276 : decode M_Law_law.2.1 1276 = .ok (.iconst 0, 1) := by decide +kernel
theorem d_Law_law_1277 : decode M_Law_law.2.1 1277 = .ok (.ireturn, 1) := by decide +kernel
theorem d_Law_law_1278 : decode M_Law_law.2.1 1278 = .ok (.aload_n 1, 1) := by decide +kernel
theorem d_Law_law_1279 : decode M_Law_law.2.1 1279 = .ok (.aload_n 0, 1) := by decide +kernel
theorem d_Law_law_1280 : decode M_Law_law.2.1 1280 = .ok (.iload_n 3, 1) := by decide +kernel
theorem d_Law_law_1281 : decode M_Law_law.2.1 1281 = .ok (.iconst 1, 1) := by decide +kernel
theorem d_Law_law_1282 : decode M_Law_law.2.1 1282 = .ok (.iadd, 1) := by decide +kernel
theorem d_Law_law_1283 : decode M_Law_law.2.1 1283 = .ok (.iaload, 1) := by decide +kernel
theorem d_Law_law_1284 : decode M_Law_law.2.1 1284 = .ok (.aload_n 0, 1) := by decide +kernel
theorem d_Law_law_1285 : decode M_Law_law.2.1 1285 = .ok (.iload_n 3, 1) := by decide +kernel
theorem d_Law_law_1286 : decode M_Law_law.2.1 1286 = .ok (.iconst 2, 1) := by decide +kernel
theorem d_Law_law_1287 : decode M_Law_law.2.1 1287 = .ok (.iadd, 1) := by decide +kernel
theorem d_Law_law_1288 : decode M_Law_law.2.1 1288 = .ok (.iaload, 1) := by decide +kernel
theorem d_Law_law_1289 : decode M_Law_law.2.1 1289 = .ok (.aload_n 0, 1) := by decide +kernel
theorem d_Law_law_1290 : decode M_Law_law.2.1 1290 = .ok (.iload_n 3, 1) := by decide +kernel
theorem d_Law_law_1291 : decode M_Law_law.2.1 1291 = .ok (.iconst 3, 1) := by decide +kernel
theorem d_Law_law_1292 : decode M_Law_law.2.1 1292 = .ok (.iadd, 1) := by decide +kernel
theorem d_Law_law_1293 : decode M_Law_law.2.1 1293 = .ok (.iaload, 1) := by decide +kernel
theorem d_Law_law_1294 : decode M_Law_law.2.1 1294 = .ok (.aload_n 0, 1) := by decide +kernel
theorem d_Law_law_1295 : decode M_Law_law.2.1 1295 = .ok (.iload_n 3, 1) := by decide +kernel
theorem d_Law_law_1296 : decode M_Law_law.2.1 1296 = .ok (.iconst 4, 1) := by decide +kernel
theorem d_Law_law_1297 : decode M_Law_law.2.1 1297 = .ok (.iadd, 1) := by decide +kernel
theorem d_Law_law_1298 : decode M_Law_law.2.1 1298 = .ok (.iaload, 1) := by decide +kernel
theorem d_Law_law_1299 : decode M_Law_law.2.1 1299 = .ok (.invokevirtual 154, 3) := by decide +kernel
theorem d_Law_law_1302 : decode M_Law_law.2.1 1302 = .ok (.aload_n 2, 1) := by decide +kernel
theorem d_Law_law_1303 : decode M_Law_law.2.1 1303 = .ok (.aload_n 0, 1) := by decide +kernel
theorem d_Law_law_1304 : decode M_Law_law.2.1 1304 = .ok (.iload_n 3, 1) := by decide +kernel
theorem d_Law_law_1305 : decode M_Law_law.2.1 1305 = .ok (.iconst 1, 1) := by decide +kernel
theorem d_Law_law_1306 : decode M_Law_law.2.1 1306 = .ok (.iadd, 1) := by decide +kernel
theorem d_Law_law_1307 : decode M_Law_law.2.1 1307 = .ok (.iaload, 1) := by decide +kernel
theorem d_Law_law_1308 : decode M_Law_law.2.1 1308 = .ok (.aload_n 0, 1) := by decide +kernel
theorem d_Law_law_1309 : decode M_Law_law.2.1 1309 = .ok (.iload_n 3, 1) := by decide +kernel
theorem d_Law_law_1310 : decode M_Law_law.2.1 1310 = .ok (.iconst 2, 1) := by decide +kernel
theorem d_Law_law_1311 : decode M_Law_law.2.1 1311 = .ok (.iadd, 1) := by decide +kernel
theorem d_Law_law_1312 : decode M_Law_law.2.1 1312 = .ok (.iaload, 1) := by decide +kernel
theorem d_Law_law_1313 : decode M_Law_law.2.1 1313 = .ok (.aload_n 0, 1) := by decide +kernel
theorem d_Law_law_1314 : decode M_Law_law.2.1 1314 = .ok (.iload_n 3, 1) := by decide +kernel
theorem d_Law_law_1315 : decode M_Law_law.2.1 1315 = .ok (.iconst 3, 1) := by decide +kernel
theorem d_Law_law_1316 : decode M_Law_law.2.1 1316 = .ok (.iadd, 1) := by decide +kernel
theorem d_Law_law_1317 : decode M_Law_law.2.1 1317 = .ok (.iaload, 1) := by decide +kernel
theorem d_Law_law_1318 : decode M_Law_law.2.1 1318 = .ok (.aload_n 0, 1) := by decide +kernel
theorem d_Law_law_1319 : decode M_Law_law.2.1 1319 = .ok (.iload_n 3, 1) := by decide +kernel
theorem d_Law_law_1320 : decode M_Law_law.2.1 1320 = .ok (.iconst 4, 1) := by decide +kernel
theorem d_Law_law_1321 : decode M_Law_law.2.1 1321 = .ok (.iadd, 1) := by decide +kernel
theorem d_Law_law_1322 : decode M_Law_law.2.1 1322 = .ok (.iaload, 1) := by decide +kernel
theorem d_Law_law_1323 : decode M_Law_law.2.1 1323 = .ok (.invokevirtual 158, 3) := by decide +kernel
theorem d_Law_law_1326 : decode M_Law_law.2.1 1326 = .ok (.if_icmp .eq 697, 3) := by decide +kernel
theorem d_Law_law_1329 : decode M_Law_law.2.1 1329 = .ok (.iconst 0, 1) := by decide +kernel
theorem d_Law_law_1330 : decode M_Law_law.2.1 1330 = .ok (.ireturn, 1) := by decide +kernel
theorem d_Law_law_1331 : decode M_Law_law.2.1 1331 = .ok (.aload_n 1, 1) := by decide +kernel
theorem d_Law_law_1332 : decode M_Law_law.2.1 1332 = .ok (.aload_n 0, 1) := by decide +kernel
theorem d_Law_law_1333 : decode M_Law_law.2.1 1333 = .ok (.iload_n 3, 1) := by decide +kernel
theorem d_Law_law_1334 : decode M_Law_law.2.1 1334 = .ok (.iconst 1, 1) := by decide +kernel
theorem d_Law_law_1335 : decode M_Law_law.2.1 1335 = .ok (.iadd, 1) := by decide +kernel
theorem d_Law_law_1336 : decode M_Law_law.2.1 1336 = .ok (.iaload, 1) := by decide +kernel
theorem d_Law_law_1337 : decode M_Law_law.2.1 1337 = .ok (.invokevirtual 159, 3) := by decide +kernel
theorem d_Law_law_1340 : decode M_Law_law.2.1 1340 = .ok (.aload_n 2, 1) := by decide +kernel
theorem d_Law_law_1341 : decode M_Law_law.2.1 1341 = .ok (.aload_n 0, 1) := by decide +kernel
theorem d_Law_law_1342 : decode M_Law_law.2.1 1342 = .ok (.iload_n 3, 1) := by decide +kernel
theorem d_Law_law_1343 : decode M_Law_law.2.1 1343 = .ok (.iconst 1, 1) := by decide +kernel
theorem d_Law_law_1344 : decode M_Law_law.2.1 1344 = .ok (.iadd, 1) := by decide +kernel
theorem d_Law_law_1345 : decode M_Law_law.2.1 1345 = .ok (.iaload, 1) := by decide +kernel
theorem d_Law_law_1346 : decode M_Law_law.2.1 1346 = .ok (.invokevirtual 162, 3) := by decide +kernel
theorem d_Law_law_1349 : decode M_Law_law.2.1 1349 = .ok (.if_icmp .eq 674, 3) := by decide +kernel
theorem d_Law_law_1352 : decode M_Law_law.2.1 1352 = .ok (.iconst 0, 1) := by decide +kernel
theorem d_Law_law_1353 : decode M_Law_law.2.1 1353 = .ok (.ireturn, 1) := by decide +kernel
theorem d_Law_law_1354 : decode M_Law_law.2.1 1354 = .ok (.aload_n 1, 1) := by decide +kernel
theorem d_Law_law_1355 : decode M_Law_law.2.1 1355 = .ok (.aload_n 0, 1) := by decide +kernel
theorem d_Law_law_1356 : decode M_Law_law.2.1 1356 = .ok (.iload_n 3, 1) := by decide +kernel
theorem d_Law_law_1357 : decode M_Law_law.2.1 1357 = .ok (.iconst 1, 1) := by decide +kernel
theorem d_Law_law_1358 : decode M_Law_law.2.1 1358 = .ok (.iadd, 1) := by decide +kernel
theorem d_Law_law_1359 : decode M_Law_law.2.1 1359 = .ok (.iaload, 1) := by decide +kernel
theorem d_Law_law_1360 : decode M_Law_law.2.1 1360 = .ok (.aload_n 0, 1) := by decide +kernel
theorem d_Law_law_1361 : decode M_Law_law.2.1 1361 = .ok (.iload_n 3, 1) := by decide +kernel
theorem d_Law_law_1362 : decode M_Law_law.2.1 1362 = .ok (.iconst 2, 1) := by decide +kernel
theorem d_Law_law_1363 : decode M_Law_law.2.1 1363 = .ok (.iadd, 1) := by decide +kernel
theorem d_Law_law_1364 : decode M_Law_law.2.1 1364 = .ok (.iaload, 1) := by decide +kernel
theorem d_Law_law_1365 : decode M_Law_law.2.1 1365 = .ok (.invokevirtual 163, 3) := by decide +kernel
theorem d_Law_law_1368 : decode M_Law_law.2.1 1368 = .ok (.aload_n 2, 1) := by decide +kernel
theorem d_Law_law_1369 : decode M_Law_law.2.1 1369 = .ok (.aload_n 0, 1) := by decide +kernel
theorem d_Law_law_1370 : decode M_Law_law.2.1 1370 = .ok (.iload_n 3, 1) := by decide +kernel
theorem d_Law_law_1371 : decode M_Law_law.2.1 1371 = .ok (.iconst 1, 1) := by decide +kernel
theorem d_Law_law_1372 : decode M_Law_law.2.1 1372 = .ok (.iadd, 1) := by decide +kernel
theorem d_Law_law_1373 : decode M_Law_law.2.1 1373 = .ok (.iaload, 1) := by decide +kernel
theorem d_Law_law_1374 : decode M_Law_law.2.1 1374 = .ok (.aload_n 0, 1) := by decide +kernel
theorem d_Law_law_1375 : decode M_Law_law.2.1 1375 = .ok (.iload_n 3, 1) := by decide +kernel
theorem d_Law_law_1376 : decode M_Law_law.2.1 1376 = .ok (.iconst 2, 1) := by decide +kernel
theorem d_Law_law_1377 : decode M_Law_law.2.1 1377 = .ok (.iadd, 1) := by decide +kernel
theorem d_Law_law_1378 : decode M_Law_law.2.1 1378 = .ok (.iaload, 1) := by decide +kernel
theorem d_Law_law_1379 : decode M_Law_law.2.1 1379 = .ok (.invokevirtual 166, 3) := by decide +kernel
theorem d_Law_law_1382 : decode M_Law_law.2.1 1382 = .ok (.if_icmp .eq 641, 3) := by decide +kernel
theorem d_Law_law_1385 : decode M_Law_law.2.1 1385 = .ok (.iconst 0, 1) := by decide +kernel
theorem d_Law_law_1386 : decode M_Law_law.2.1 1386 = .ok (.ireturn, 1) := by decide +kernel
theorem d_Law_law_1387 : decode M_Law_law.2.1 1387 = .ok (.aload_n 1, 1) := by decide +kernel
theorem d_Law_law_1388 : decode M_Law_law.2.1 1388 = .ok (.aload_n 0, 1) := by decide +kernel
theorem d_Law_law_1389 : decode M_Law_law.2.1 1389 = .ok (.iload_n 3, 1) := by decide +kernel
theorem d_Law_law_1390 : decode M_Law_law.2.1 1390 = .ok (.iconst 1, 1) := by decide +kernel
theorem d_Law_law_1391 : decode M_Law_law.2.1 1391 = .ok (.iadd, 1) := by decide +kernel
theorem d_Law_law_1392 : decode M_Law_law.2.1 1392 = .ok (.iaload, 1) := by decide +kernel
theorem d_Law_law_1393 : decode M_Law_law.2.1 1393 = .ok (.aload_n 0, 1) := by decide +kernel
theorem d_Law_law_1394 : decode M_Law_law.2.1 1394 = .ok (.iload_n 3, 1) := by decide +kernel
theorem d_Law_law_1395 : decode M_Law_law.2.1 1395 = .ok (.iconst 2, 1) := by decide +kernel
theorem d_Law_law_1396 : decode M_Law_law.2.1 1396 = .ok (.iadd, 1) := by decide +kernel
theorem d_Law_law_1397 : decode M_Law_law.2.1 1397 = .ok (.iaload, 1) := by decide +kernel
theorem d_Law_law_1398 : decode M_Law_law.2.1 1398 = .ok (.invokevirtual 167, 3) := by decide +kernel
theorem d_Law_law_1401 : decode M_Law_law.2.1 1401 = .ok (.aload_n 2, 1) := by decide +kernel
theorem d_Law_law_1402 : decode M_Law_law.2.1 1402 = .ok (.aload_n 0, 1) := by decide +kernel
theorem d_Law_law_1403 : decode M_Law_law.2.1 1403 = .ok (.iload_n 3, 1) := by decide +kernel
theorem d_Law_law_1404 : decode M_Law_law.2.1 1404 = .ok (.iconst 1, 1) := by decide +kernel
theorem d_Law_law_1405 : decode M_Law_law.2.1 1405 = .ok (.iadd, 1) := by decide +kernel
theorem d_Law_law_1406 : decode M_Law_law.2.1 1406 = .ok (.iaload, 1) := by decide +kernel
theorem d_Law_law_1407 : decode M_Law_law.2.1 1407 = .ok (.aload_n 0, 1) := by decide +kernel
theorem d_Law_law_1408 : decode M_Law_law.2.1 1408 = .ok (.iload_n 3, 1) := by decide +kernel
theorem d_Law_law_1409 : decode M_Law_law.2.1 1409 = .ok (.iconst 2, 1) := by decide +kernel
theorem d_Law_law_1410 : decode M_Law_law.2.1 1410 = .ok (.iadd, 1) := by decide +kernel
theorem d_Law_law_1411 : decode M_Law_law.2.1 1411 = .ok (.iaload, 1) := by decide +kernel
theorem d_Law_law_1412 : decode M_Law_law.2.1 1412 = .ok (.invokevirtual 170, 3) := by decide +kernel
theorem d_Law_law_1415 : decode M_Law_law.2.1 1415 = .ok (.if_icmp .eq 608, 3) := by decide +kernel
theorem d_Law_law_1418 : decode M_Law_law.2.1 1418 = .ok (.iconst 0, 1) := by decide +kernel
theorem d_Law_law_1419 : decode M_Law_law.2.1 1419 = .ok (.ireturn, 1) := by decide +kernel
theorem d_Law_law_1420 : decode M_Law_law.2.1 1420 = .ok (.aload_n 1, 1) := by decide +kernel
theorem d_Law_law_1421 : decode M_Law_law.2.1 1421 = .ok (.aload_n 0, 1) := by decide +kernel
theorem d_Law_law_1422 : decode M_Law_law.2.1 1422 = .ok (.iload_n 3, 1) := by decide +kernel
theorem d_Law_law_1423 : decode M_Law_law.2.1 1423 = .ok (.iconst 1, 1) := by decide +kernel
theorem d_Law_law_1424 : decode M_Law_law.2.1 1424 = .ok (.iadd, 1) := by decide +kernel
theorem d_Law_law_1425 : decode M_Law_law.2.1 1425 = .ok (.iaload, 1) := by decide +kernel
theorem d_Law_law_1426 : decode M_Law_law.2.1 1426 = .ok (.aload_n 0, 1) := by decide +kernel
theorem d_Law_law_1427 : decode M_Law_law.2.1 1427 = .ok (.iload_n 3, 1) := by decide +kernel
theorem d_Law_law_1428 : decode M_Law_law.2.1 1428 = .ok (.iconst 2, 1) := by decide +kernel
theorem d_Law_law_1429 : decode M_Law_law.2.1 1429 = .ok (.iadd, 1) := by decide +kernel
theorem d_Law_law_1430 : decode M_Law_law.2.1 1430 = .ok (.iaload, 1) := by decide +kernel
theorem d_Law_law_1431 : decode M_Law_law.2.1 1431 = .ok (.invokevirtual 171, 3) := by decide +kernel
theorem d_Law_law_1434 : decode M_Law_law.2.1 1434 = .ok (.aload_n 2, 1) := by decide +kernel
theorem d_Law_law_1435 : decode M_Law_law.2.1 1435 = .ok (.aload_n 0, 1) := by decide +kernel
theorem d_Law_law_1436 : decode M_Law_law.2.1 1436 = .ok (.iload_n 3, 1) := by decide +kernel
theorem d_Law_law_1437 : decode M_Law_law.2.1 1437 = .ok (.iconst 1, 1) := by decide +kernel
theorem d_Law_law_1438 : decode M_Law_law.2.1 1438 = .ok (.iadd, 1) := by decide +kernel
theorem d_Law_law_1439 : decode M_Law_law.2.1 1439 = .ok (.iaload, 1) := by decide +kernel
theorem d_Law_law_1440 : decode M_Law_law.2.1 1440 = .ok (.aload_n 0, 1) := by decide +kernel
theorem d_Law_law_1441 : decode M_Law_law.2.1 1441 = .ok (.iload_n 3, 1) := by decide +kernel
theorem d_Law_law_1442 : decode M_Law_law.2.1 1442 = .ok (.iconst 2, 1) := by decide +kernel
theorem d_Law_law_1443 : decode M_Law_law.2.1 1443 = .ok (.iadd, 1) := by decide +kernel
theorem d_Law_law_1444 : decode M_Law_law.2.1 1444 = .ok (.iaload, 1) := by decide +kernel
theorem d_Law_law_1445 : decode M_Law_law.2.1 1445 = .ok (.invokevirtual 174, 3) := by decide +kernel
theorem d_Law_law_1448 : decode M_Law_law.2.1 1448 = .ok (.if_icmp .eq 575, 3) := by decide +kernel
theorem d_Law_law_1451 : decode M_Law_law.2.1 1451 = .ok (.iconst 0, 1) := by decide +kernel
theorem d_Law_law_1452 : decode M_Law_law.2.1 1452 = .ok (.ireturn, 1) := by decide +kernel
theorem d_Law_law_1453 : decode M_Law_law.2.1 1453 = .ok (.aload_n 1, 1) := by decide +kernel
theorem d_Law_law_1454 : decode M_Law_law.2.1 1454 = .ok (.aload_n 0, 1) := by decide +kernel
theorem d_Law_law_1455 : decode M_Law_law.2.1 1455 = .ok (.iload_n 3, 1) := by decide +kernel
theorem d_Law_law_1456 : decode M_Law_law.2.1 1456 = .ok (.iconst 1, 1) := by decide +kernel
theorem d_Law_law_1457 : decode M_Law_law.2.1 1457 = .ok (.iadd, 1) := by decide +kernel
theorem d_Law_law_1458 : decode M_Law_law.2.1 1458 = .ok (.iaload, 1) := by decide +kernel
theorem d_Law_law_1459 : decode M_Law_law.2.1 1459 = .ok (.invokevirtual 175, 3) := by decide +kernel
theorem d_Law_law_1462 : decode M_Law_law.2.1 1462 = .ok (.aload_n 2, 1) := by decide +kernel
theorem d_Law_law_1463 : decode M_Law_law.2.1 1463 = .ok (.aload_n 0, 1) := by decide +kernel
theorem d_Law_law_1464 : decode M_Law_law.2.1 1464 = .ok (.iload_n 3, 1) := by decide +kernel
theorem d_Law_law_1465 : decode M_Law_law.2.1 1465 = .ok (.iconst 1, 1) := by decide +kernel
theorem d_Law_law_1466 : decode M_Law_law.2.1 1466 = .ok (.iadd, 1) := by decide +kernel
theorem d_Law_law_1467 : decode M_Law_law.2.1 1467 = .ok (.iaload, 1) := by decide +kernel
theorem d_Law_law_1468 : decode M_Law_law.2.1 1468 = .ok (.invokevirtual 178, 3) := by decide +kernel
theorem d_Law_law_1471 : decode M_Law_law.2.1 1471 = .ok (.if_icmp .eq 552, 3) := by decide +kernel
theorem d_Law_law_1474 : decode M_Law_law.2.1 1474 = .ok (.iconst 0, 1) := by decide +kernel
theorem d_Law_law_1475 : decode M_Law_law.2.1 1475 = .ok (.ireturn, 1) := by decide +kernel
theorem d_Law_law_1476 : decode M_Law_law.2.1 1476 = .ok (.aload_n 1, 1) := by decide +kernel
theorem d_Law_law_1477 : decode M_Law_law.2.1 1477 = .ok (.aload_n 0, 1) := by decide +kernel
theorem d_Law_law_1478 : decode M_Law_law.2.1 1478 = .ok (.iload_n 3, 1) := by decide +kernel
theorem d_Law_law_1479 : decode M_Law_law.2.1 1479 = .ok (.iconst 1, 1) := by decide +kernel
theorem d_Law_law_1480 : decode M_Law_law.2.1 1480 = .ok (.iadd, 1) := by decide +kernel
theorem d_Law_law_1481 : decode M_Law_law.2.1 1481 = .ok (.iaload, 1) := by decide +kernel
theorem d_Law_law_1482 : decode M_Law_law.2.1 1482 = .ok (.aload_n 0, 1) := by decide +kernel
theorem d_Law_law_1483 : decode M_Law_law.2.1 1483 = .ok (.iload_n 3, 1) := by decide +kernel
theorem d_Law_law_1484 : decode M_Law_law.2.1 1484 = .ok (.iconst 2, 1) := by decide +kernel
theorem d_Law_law_1485 : decode M_Law_law.2.1 1485 = .ok (.iadd, 1) := by decide +kernel
theorem d_Law_law_1486 : decode M_Law_law.2.1 1486 = .ok (.iaload, 1) := by decide +kernel
theorem d_Law_law_1487 : decode M_Law_law.2.1 1487 = .ok (.invokevirtual 179, 3) := by decide +kernel
theorem d_Law_law_1490 : decode M_Law_law.2.1 1490 = .ok (.aload_n 2, 1) := by decide +kernel
theorem d_Law_law_1491 : decode M_Law_law.2.1 1491 = .ok (.aload_n 0, 1) := by decide +kernel
theorem d_Law_law_1492 : decode M_Law_law.2.1 1492 = .ok (.iload_n 3, 1) := by decide +kernel
theorem d_Law_law_1493 : decode M_Law_law.2.1 1493 = .ok (.iconst 1, 1) := by decide +kernel
theorem d_Law_law_1494 : decode M_Law_law.2.1 1494 = .ok (.iadd, 1) := by decide +kernel
theorem d_Law_law_1495 : decode M_Law_law.2.1 1495 = .ok (.iaload, 1) := by decide +kernel
theorem d_Law_law_1496 : decode M_Law_law.2.1 1496 = .ok (.aload_n 0, 1) := by decide +kernel
theorem d_Law_law_1497 : decode M_Law_law.2.1 1497 = .ok (.iload_n 3, 1) := by decide +kernel
theorem d_Law_law_1498 : decode M_Law_law.2.1 1498 = .ok (.iconst 2, 1) := by decide +kernel
theorem d_Law_law_1499 : decode M_Law_law.2.1 1499 = .ok (.iadd, 1) := by decide +kernel
theorem d_Law_law_1500 : decode M_Law_law.2.1 1500 = .ok (.iaload, 1) := by decide +kernel
theorem d_Law_law_1501 : decode M_Law_law.2.1 1501 = .ok (.invokevirtual 182, 3) := by decide +kernel
theorem d_Law_law_1504 : decode M_Law_law.2.1 1504 = .ok (.if_icmp .eq 519, 3) := by decide +kernel
theorem d_Law_law_1507 : decode M_Law_law.2.1 1507 = .ok (.iconst 0, 1) := by decide +kernel
theorem d_Law_law_1508 : decode M_Law_law.2.1 1508 = .ok (.ireturn, 1) := by decide +kernel
theorem d_Law_law_1509 : decode M_Law_law.2.1 1509 = .ok (.aload_n 1, 1) := by decide +kernel
theorem d_Law_law_1510 : decode M_Law_law.2.1 1510 = .ok (.aload_n 0, 1) := by decide +kernel
theorem d_Law_law_1511 : decode M_Law_law.2.1 1511 = .ok (.iload_n 3, 1) := by decide +kernel
theorem d_Law_law_1512 : decode M_Law_law.2.1 1512 = .ok (.iconst 1, 1) := by decide +kernel
theorem d_Law_law_1513 : decode M_Law_law.2.1 1513 = .ok (.iadd, 1) := by decide +kernel
theorem d_Law_law_1514 : decode M_Law_law.2.1 1514 = .ok (.iaload, 1) := by decide +kernel
theorem d_Law_law_1515 : decode M_Law_law.2.1 1515 = .ok (.invokevirtual 183, 3) := by decide +kernel
theorem d_Law_law_1518 : decode M_Law_law.2.1 1518 = .ok (.aload_n 2, 1) := by decide +kernel
theorem d_Law_law_1519 : decode M_Law_law.2.1 1519 = .ok (.aload_n 0, 1) := by decide +kernel
theorem d_Law_law_1520 : decode M_Law_law.2.1 1520 = .ok (.iload_n 3, 1) := by decide +kernel
theorem d_Law_law_1521 : decode M_Law_law.2.1 1521 = .ok (.iconst 1, 1) := by decide +kernel
theorem d_Law_law_1522 : decode M_Law_law.2.1 1522 = .ok (.iadd, 1) := by decide +kernel
theorem d_Law_law_1523 : decode M_Law_law.2.1 1523 = .ok (.iaload, 1) := by decide +kernel
theorem d_Law_law_1524 : decode M_Law_law.2.1 1524 = .ok (.invokevirtual 186, 3) := by decide +kernel
theorem d_Law_law_1527 : decode M_Law_law.2.1 1527 = .ok (.if_icmp .eq 496, 3) := by decide +kernel
theorem d_Law_law_1530 : decode M_Law_law.2.1 1530 = .ok (.iconst 0, 1) := by decide +kernel
theorem d_Law_law_1531 : decode M_Law_law.2.1 1531 = .ok (.ireturn, 1) := by decide +kernel
theorem d_Law_law_1532 : decode M_Law_law.2.1 1532 = .ok (.aload_n 1, 1) := by decide +kernel
theorem d_Law_law_1533 : decode M_Law_law.2.1 1533 = .ok (.aload_n 0, 1) := by decide +kernel
theorem d_Law_law_1534 : decode M_Law_law.2.1 1534 = .ok (.iload_n 3, 1) := by decide +kernel
theorem d_Law_law_1535 : decode M_Law_law.2.1 1535 = .ok (.iconst 1, 1) := by decide +kernel
theorem d_Law_law_1536 : decode M_Law_law.2.1 1536 = .ok (.iadd, 1) := by decide +kernel
theorem d_Law_law_1537 : decode M_Law_law.2.1 1537 = .ok (.iaload, 1) := by decide +kernel
theorem d_Law_law_1538 : decode M_Law_law.2.1 1538 = .ok (.invokevirtual 187, 3) := by decide +kernel
theorem d_Law_law_1541 : decode M_Law_law.2.1 1541 = .ok (.aload_n 2, 1) := by decide +kernel
theorem d_Law_law_1542 : decode M_Law_law.2.1 1542 = .ok (.aload_n 0, 1) := by decide +kernel
theorem d_Law_law_1543 : decode M_Law_law.2.1 1543 = .ok (.iload_n 3, 1) := by decide +kernel
theorem d_Law_law_1544 : decode M_Law_law.2.1 1544 = .ok (.iconst 1, 1) := by decide +kernel
theorem d_Law_law_1545 : decode M_Law_law.2.1 1545 = .ok (.iadd, 1) := by decide +kernel
theorem d_Law_law_1546 : decode M_Law_law.2.1 1546 = .ok (.iaload, 1) := by decide +kernel
theorem d_Law_law_1547 : decode M_Law_law.2.1 1547 = .ok (.invokevirtual 190, 3) := by decide +kernel
theorem d_Law_law_1550 : decode M_Law_law.2.1 1550 = .ok (.if_icmp .eq 473, 3) := by decide +kernel
theorem d_Law_law_1553 : decode M_Law_law.2.1 1553 = .ok (.iconst 0, 1) := by decide +kernel
theorem d_Law_law_1554 : decode M_Law_law.2.1 1554 = .ok (.ireturn, 1) := by decide +kernel
theorem d_Law_law_1555 : decode M_Law_law.2.1 1555 = .ok (.aload_n 1, 1) := by decide +kernel
theorem d_Law_law_1556 : decode M_Law_law.2.1 1556 = .ok (.aload_n 0, 1) := by decide +kernel
theorem d_Law_law_1557 : decode M_Law_law.2.1 1557 = .ok (.iload_n 3, 1) := by decide +kernel
theorem d_Law_law_1558 : decode M_Law_law.2.1 1558 = .ok (.iconst 1, 1) := by decide +kernel
theorem d_Law_law_1559 : decode M_Law_law.2.1 1559 = .ok (.iadd, 1) := by decide +kernel
theorem d_Law_law_1560 : decode M_Law_law.2.1 1560 = .ok (.iaload, 1) := by decide +kernel
theorem d_Law_law_1561 : decode M_Law_law.2.1 1561 = .ok (.invokevirtual 191, 3) := by decide +kernel
theorem d_Law_law_1564 : decode M_Law_law.2.1 1564 = .ok (.aload_n 2, 1) := by decide +kernel
theorem d_Law_law_1565 : decode M_Law_law.2.1 1565 = .ok (.aload_n 0, 1) := by decide +kernel
theorem d_Law_law_1566 : decode M_Law_law.2.1 1566 = .ok (.iload_n 3, 1) := by decide +kernel
theorem d_Law_law_1567 : decode M_Law_law.2.1 1567 = .ok (.iconst 1, 1) := by decide +kernel
theorem d_Law_law_1568 : decode M_Law_law.2.1 1568 = .ok (.iadd, 1) := by decide +kernel
theorem d_Law_law_1569 : decode M_Law_law.2.1 1569 = .ok (.iaload, 1) := by decide +kernel
theorem d_Law_law_1570 : decode M_Law_law.2.1 1570 = .ok (.invokevirtual 194, 3) := by decide +kernel
theorem d_Law_law_1573 : decode M_Law_law.2.1 1573 = .ok (.if_icmp .eq 450, 3) := by decide +kernel
theorem d_Law_law_1576 : decode M_Law_law.2.1 1576 = .ok (.iconst 0, 1) := by decide +kernel
theorem d_Law_law_1577 : decode M_Law_law.2.1 1577 = .ok (.ireturn, 1) := by decide +kernel
theorem d_Law_law_1578 : decode M_Law_law.2.1 1578 = .ok (.aload_n 1, 1) := by decide +kernel
theorem d_Law_law_1579 : decode M_Law_law.2.1 1579 = .ok (.invokevirtual 195, 3) := by decide +kernel
theorem d_Law_law_1582 : decode M_Law_law.2.1 1582 = .ok (.aload_n 2, 1) := by decide +kernel
theorem d_Law_law_1583 : decode M_Law_law.2.1 1583 = .ok (.invokevirtual 198, 3) := by decide +kernel
theorem d_Law_law_1586 : decode M_Law_law.2.1 1586 = .ok (.if_icmp .eq 437, 3) := by decide +kernel
theorem d_Law_law_1589 : decode M_Law_law.2.1 1589 = .ok (.iconst 0, 1) := by decide +kernel
theorem d_Law_law_1590 : decode M_Law_law.2.1 1590 = .ok (.ireturn, 1) := by decide +kernel
theorem d_Law_law_1591 : decode M_Law_law.2.1 1591 = .ok (.aload_n 1, 1) := by decide +kernel
theorem d_Law_law_1592 : decode M_Law_law.2.1 1592 = .ok (.invokevirtual 199, 3) := by decide +kernel
theorem d_Law_law_1595 : decode M_Law_law.2.1 1595 = .ok (.aload_n 2, 1) := by decide +kernel
theorem d_Law_law_1596 : decode M_Law_law.2.1 1596 = .ok (.invokevirtual 202, 3) := by decide +kernel
theorem d_Law_law_1599 : decode M_Law_law.2.1 1599 = .ok (.if_icmp .eq 424, 3) := by decide +kernel
theorem d_Law_law_1602 : decode M_Law_law.2.1 1602 = .ok (.iconst 0, 1) := by decide +kernel
theorem d_Law_law_1603 : decode M_Law_law.2.1 1603 = .ok (.ireturn, 1) := by decide +kernel
theorem d_Law_law_1604 : decode M_Law_law.2.1 1604 = .ok (.aload_n 1, 1) := by decide +kernel
theorem d_Law_law_1605 : decode M_Law_law.2.1 1605 = .ok (.aload_n 0, 1) := by decide +kernel
theorem d_Law_law_1606 : decode M_Law_law.2.1 1606 = .ok (.iload_n 3, 1) := by decide +kernel
theorem d_Law_law_1607 : decode M_Law_law.2.1 1607 = .ok (.iconst 1, 1) := by decide +kernel
theorem d_Law_law_1608 : decode M_Law_law.2.1 1608 = .ok (.iadd, 1) := by decide +kernel
theorem d_Law_law_1609 : decode M_Law_law.2.1 1609 = .ok (.iaload, 1) := by decide +kernel
theorem d_Law_law_1610 : decode M_Law_law.2.1 1610 = .ok (.aload_n 0, 1) := by decide +kernel
theorem d_Law_law_1611 : decode M_Law_law.2.1 1611 = .ok (.iload_n 3, 1) := by decide +kernel
theorem d_Law_law_1612 : decode M_Law_law.2.1 1612 = .ok (.iconst 2, 1) := by decide +kernel
theorem d_Law_law_1613 : decode M_Law_law.2.1 1613 = .ok (.iadd, 1) := by decide +kernel
theorem d_Law_law_1614 : decode M_Law_law.2.1 1614 = .ok (.iaload, 1) := by decide +kernel
theorem d_Law_law_1615 : decode M_Law_law.2.1 1615 = .ok (.invokevirtual 203, 3) := by decide +kernel
theorem d_Law_law_1618 : decode M_Law_law.2.1 1618 = .ok (.aload_n 2, 1) := by decide +kernel
theorem d_Law_law_1619 : decode M_Law_law.2.1 1619 = .ok (.aload_n 0, 1) := by decide +kernel
theorem d_Law_law_1620 : decode M_Law_law.2.1 1620 = .ok (.iload_n 3, 1) := by decide +kernel
theorem d_Law_law_1621 : decode M_Law_law.2.1 1621 = .ok (.iconst 1, 1) := by decide +kernel
theorem d_Law_law_1622 : decode M_Law_law.2.1 1622 = .ok (.iadd, 1) := by decide +kernel
theorem d_Law_law_1623 : decode M_Law_law.2.1 1623 = .ok (.iaload, 1) := by decide +kernel
theorem d_Law_law_1624 : decode M_Law_law.2.1 1624 = .ok (.aload_n 0, 1) := by decide +kernel
theorem d_Law_law_1625 : decode M_Law_law.2.1 1625 = .ok (.iload_n 3, 1) := by decide +kernel
theorem d_Law_law_1626 : decode M_Law_law.2.1 1626 = .ok (.iconst 2, 1) := by decide +kernel
theorem d_Law_law_1627 : decode M_Law_law.2.1 1627 = .ok (.iadd, 1) := by decide +kernel
theorem d_Law_law_1628 : decode M_Law_law.2.1 1628 = .ok (.iaload, 1) := by decide +kernel
theorem d_Law_law_1629 : decode M_Law_law.2.1 1629 = .ok (.invokevirtual 206, 3) := by decide +kernel
theorem d_Law_law_1632 : decode M_Law_law.2.1 1632 = .ok (.if_icmp .eq 391, 3) := by decide +kernel
theorem d_Law_law_1635 : decode M_Law_law.2.1 1635 = .ok (.iconst 0, 1) := by decide +kernel
theorem d_Law_law_1636 : decode M_Law_law.2.1 1636 = .ok (.ireturn, 1) := by decide +kernel
theorem d_Law_law_1637 : decode M_Law_law.2.1 1637 = .ok (.aload_n 1, 1) := by decide +kernel
theorem d_Law_law_1638 : decode M_Law_law.2.1 1638 = .ok (.aload_n 0, 1) := by decide +kernel
theorem d_Law_law_1639 : decode M_Law_law.2.1 1639 = .ok (.iload_n 3, 1) := by decide +kernel
theorem d_Law_law_1640 : decode M_Law_law.2.1 1640 = .ok (.iconst 1, 1) := by decide +kernel
theorem d_Law_law_1641 : decode M_Law_law.2.1 1641 = .ok (.iadd, 1) := by decide +kernel
theorem d_Law_law_1642 : decode M_Law_law.2.1 1642 = .ok (.iaload, 1) := by decide +kernel
theorem d_Law_law_1643 : decode M_Law_law.2.1 1643 = .ok (.aload_n 0, 1) := by decide +kernel
theorem d_Law_law_1644 : decode M_Law_law.2.1 1644 = .ok (.iload_n 3, 1) := by decide +kernel
theorem d_Law_law_1645 : decode M_Law_law.2.1 1645 = .ok (.iconst 2, 1) := by decide +kernel
theorem d_Law_law_1646 : decode M_Law_law.2.1 1646 = .ok (.iadd, 1) := by decide +kernel
theorem d_Law_law_1647 : decode M_Law_law.2.1 1647 = .ok (.iaload, 1) := by decide +kernel
theorem d_Law_law_1648 : decode M_Law_law.2.1 1648 = .ok (.invokevirtual 207, 3) := by decide +kernel
theorem d_Law_law_1651 : decode M_Law_law.2.1 1651 = .ok (.aload_n 2, 1) := by decide +kernel
theorem d_Law_law_1652 : decode M_Law_law.2.1 1652 = .ok (.aload_n 0, 1) := by decide +kernel
theorem d_Law_law_1653 : decode M_Law_law.2.1 1653 = .ok (.iload_n 3, 1) := by decide +kernel
theorem d_Law_law_1654 : decode M_Law_law.2.1 1654 = .ok (.iconst 1, 1) := by decide +kernel
theorem d_Law_law_1655 : decode M_Law_law.2.1 1655 = .ok (.iadd, 1) := by decide +kernel
theorem d_Law_law_1656 : decode M_Law_law.2.1 1656 = .ok (.iaload, 1) := by decide +kernel
theorem d_Law_law_1657 : decode M_Law_law.2.1 1657 = .ok (.aload_n 0, 1) := by decide +kernel
theorem d_Law_law_1658 : decode M_Law_law.2.1 1658 = .ok (.iload_n 3, 1) := by decide +kernel
theorem d_Law_law_1659 : decode M_Law_law.2.1 1659 = .ok (.iconst 2, 1) := by decide +kernel
theorem d_Law_law_1660 : decode M_Law_law.2.1 1660 = .ok (.iadd, 1) := by decide +kernel
theorem d_Law_law_1661 : decode M_Law_law.2.1 1661 = .ok (.iaload, 1) := by decide +kernel
theorem d_Law_law_1662 : decode M_Law_law.2.1 1662 = .ok (.invokevirtual 210, 3) := by decide +kernel
theorem d_Law_law_1665 : decode M_Law_law.2.1 1665 = .ok (.if_icmp .eq 358, 3) := by decide +kernel
theorem d_Law_law_1668 : decode M_Law_law.2.1 1668 = .ok (.iconst 0, 1) := by decide +kernel
theorem d_Law_law_1669 : decode M_Law_law.2.1 1669 = .ok (.ireturn, 1) := by decide +kernel
theorem d_Law_law_1670 : decode M_Law_law.2.1 1670 = .ok (.aload_n 1, 1) := by decide +kernel
theorem d_Law_law_1671 : decode M_Law_law.2.1 1671 = .ok (.aload_n 0, 1) := by decide +kernel
theorem d_Law_law_1672 : decode M_Law_law.2.1 1672 = .ok (.iload_n 3, 1) := by decide +kernel
theorem d_Law_law_1673 : decode M_Law_law.2.1 1673 = .ok (.iconst 1, 1) := by decide +kernel
theorem d_Law_law_1674 : decode M_Law_law.2.1 1674 = .ok (.iadd, 1) := by decide +kernel
theorem d_Law_law_1675 : decode M_Law_law.2.1 1675 = .ok (.iaload, 1) := by decide +kernel
theorem d_Law_law_1676 : decode M_Law_law.2.1 1676 = .ok (.aload_n 0, 1) := by decide +kernel
theorem d_Law_law_1677 : decode M_Law_law.2.1 1677 = .ok (.iload_n 3, 1) := by decide +kernel
theorem d_Law_law_1678 : decode M_Law_law.2.1 1678 = .ok (.iconst 2, 1) := by decide +kernel
theorem d_Law_law_1679 : decode M_Law_law.2.1 1679 = .ok (.iadd, 1) := by decide +kernel
theorem d_Law_law_1680 : decode M_Law_law.2.1 1680 = .ok (.iaload, 1) := by decide +kernel
theorem d_Law_law_1681 : decode M_Law_law.2.1 1681 = .ok (.invokevirtual 211, 3) := by decide +kernel
theorem d_Law_law_1684 : decode M_Law_law.2.1 1684 = .ok (.aload_n 2, 1) := by decide +kernel
theorem d_Law_law_1685 : decode M_Law_law.2.1 1685 = .ok (.aload_n 0, 1) := by decide +kernel
theorem d_Law_law_1686 : decode M_Law_law.2.1 1686 = .ok (.iload_n 3, 1) := by decide +kernel
theorem d_Law_law_1687 : decode M_Law_law.2.1 1687 = .ok (.iconst 1, 1) := by decide +kernel
theorem d_Law_law_1688 : decode M_Law_law.2.1 1688 = .ok (.iadd, 1) := by decide +kernel
theorem d_Law_law_1689 : decode M_Law_law.2.1 1689 = .ok (.iaload, 1) := by decide +kernel
theorem d_Law_law_1690 : decode M_Law_law.2.1 1690 = .ok (.aload_n 0, 1) := by decide +kernel
theorem d_Law_law_1691 : decode M_Law_law.2.1 1691 = .ok (.iload_n 3, 1) := by decide +kernel
theorem d_Law_law_1692 : decode M_Law_law.2.1 1692 = .ok (.iconst 2, 1) := by decide +kernel
theorem d_Law_law_1693 : decode M_Law_law.2.1 1693 = .ok (.iadd, 1) := by decide +kernel
theorem d_Law_law_1694 : decode M_Law_law.2.1 1694 = .ok (.iaload, 1) := by decide +kernel
theorem d_Law_law_1695 : decode M_Law_law.2.1 1695 = .ok (.invokevirtual 214, 3) := by decide +kernel
theorem d_Law_law_1698 : decode M_Law_law.2.1 1698 = .ok (.if_icmp .eq 325, 3) := by decide +kernel
theorem d_Law_law_1701 : decode M_Law_law.2.1 1701 = .ok (.iconst 0, 1) := by decide +kernel
theorem d_Law_law_1702 : decode M_Law_law.2.1 1702 = .ok (.ireturn, 1) := by decide +kernel
theorem d_Law_law_1703 : decode M_Law_law.2.1 1703 = .ok (.aload_n 1, 1) := by decide +kernel
theorem d_Law_law_1704 : decode M_Law_law.2.1 1704 = .ok (.aload_n 0, 1) := by decide +kernel
theorem d_Law_law_1705 : decode M_Law_law.2.1 1705 = .ok (.iload_n 3, 1) := by decide +kernel
theorem d_Law_law_1706 : decode M_Law_law.2.1 1706 = .ok (.iconst 1, 1) := by decide +kernel
theorem d_Law_law_1707 : decode M_Law_law.2.1 1707 = .ok (.iadd, 1) := by decide +kernel
theorem d_Law_law_1708 : decode M_Law_law.2.1 1708 = .ok (.iaload, 1) := by decide +kernel
theorem d_Law_law_1709 : decode M_Law_law.2.1 1709 = .ok (.invokevirtual 215, 3) := by decide +kernel
theorem d_Law_law_1712 : decode M_Law_law.2.1 1712 = .ok (.aload_n 2, 1) := by decide +kernel
theorem d_Law_law_1713 : decode M_Law_law.2.1 1713 = .ok (.aload_n 0, 1) := by decide +kernel
theorem d_Law_law_1714 : decode M_Law_law.2.1 1714 = .ok (.iload_n 3, 1) := by decide +kernel
theorem d_Law_law_1715 : decode M_Law_law.2.1 1715 = .ok (.iconst 1, 1) := by decide +kernel
theorem d_Law_law_1716 : decode M_Law_law.2.1 1716 = .ok (.iadd, 1) := by decide +kernel
theorem d_Law_law_1717 : decode M_Law_law.2.1 1717 = .ok (.iaload, 1) := by decide +kernel
theorem d_Law_law_1718 : decode M_Law_law.2.1 1718 = .ok (.invokevirtual 218, 3) := by decide +kernel
theorem d_Law_law_1721 : decode M_Law_law.2.1 1721 = .ok (.if_icmp .eq 302, 3) := by decide +kernel
theorem d_Law_law_1724 : decode M_Law_law.2.1 1724 = .ok (.iconst 0, 1) := by decide +kernel
theorem d_Law_law_1725 : decode M_Law_law.2.1 1725 = .ok (.ireturn, 1) := by decide +kernel
theorem d_Law_law_1726 : decode M_Law_law.2.1 1726 = .ok (.aload_n 1, 1) := by decide +kernel
theorem d_Law_law_1727 : decode M_Law_law.2.1 1727 = .ok (.invokevirtual 219, 3) := by decide +kernel
theorem d_Law_law_1730 : decode M_Law_law.2.1 1730 = .ok (.aload_n 2, 1) := by decide +kernel
theorem d_Law_law_1731 : decode M_Law_law.2.1 1731 = .ok (.invokevirtual 222, 3) := by decide +kernel
theorem d_Law_law_1734 : decode M_Law_law.2.1 1734 = .ok (.if_icmp .eq 289, 3) := by decide +kernel
theorem d_Law_law_1737 : decode M_Law_law.2.1 1737 = .ok (.iconst 0, 1) := by decide +kernel
theorem d_Law_law_1738 : decode M_Law_law.2.1 1738 = .ok (.ireturn, 1) := by decide +kernel
theorem d_Law_law_1739 : decode M_Law_law.2.1 1739 = .ok (.aload_n 1, 1) := by decide +kernel
theorem d_Law_law_1740 : decode M_Law_law.2.1 1740 = .ok (.invokevirtual 223, 3) := by decide +kernel
theorem d_Law_law_1743 : decode M_Law_law.2.1 1743 = .ok (.aload_n 2, 1) := by decide +kernel
theorem d_Law_law_1744 : decode M_Law_law.2.1 1744 = .ok (.invokevirtual 226, 3) := by decide +kernel
theorem d_Law_law_1747 : decode M_Law_law.2.1 1747 = .ok (.if_icmp .eq 276, 3) := by decide +kernel
theorem d_Law_law_1750 : decode M_Law_law.2.1 1750 = .ok (.iconst 0, 1) := by decide +kernel
theorem d_Law_law_1751 : decode M_Law_law.2.1 1751 = .ok (.ireturn, 1) := by decide +kernel
theorem d_Law_law_1752 : decode M_Law_law.2.1 1752 = .ok (.aload_n 1, 1) := by decide +kernel
theorem d_Law_law_1753 : decode M_Law_law.2.1 1753 = .ok (.aload_n 0, 1) := by decide +kernel
theorem d_Law_law_1754 : decode M_Law_law.2.1 1754 = .ok (.iload_n 3, 1) := by decide +kernel
theorem d_Law_law_1755 : decode M_Law_law.2.1 1755 = .ok (.iconst 1, 1) := by decide +kernel
theorem d_Law_law_1756 : decode M_Law_law.2.1 1756 = .ok (.iadd, 1) := by decide +kernel
theorem d_Law_law_1757 : decode M_Law_law.2.1 1757 = .ok (.iaload, 1) := by decide +kernel
theorem d_Law_law_1758 : decode M_Law_law.2.1 1758 = .ok (.aload_n 0, 1) := by decide +kernel
theorem d_Law_law_1759 : decode M_Law_law.2.1 1759 = .ok (.iload_n 3, 1) := by decide +kernel
theorem d_Law_law_1760 : decode M_Law_law.2.1 1760 = .ok (.iconst 2, 1) := by decide +kernel
theorem d_Law_law_1761 : decode M_Law_law.2.1 1761 = .ok (.iadd, 1) := by decide +kernel
theorem d_Law_law_1762 : decode M_Law_law.2.1 1762 = .ok (.iaload, 1) := by decide +kernel
theorem d_Law_law_1763 : decode M_Law_law.2.1 1763 = .ok (.invokevirtual 227, 3) := by decide +kernel
theorem d_Law_law_1766 : decode M_Law_law.2.1 1766 = .ok (.aload_n 2, 1) := by decide +kernel
theorem d_Law_law_1767 : decode M_Law_law.2.1 1767 = .ok (.aload_n 0, 1) := by decide +kernel
theorem d_Law_law_1768 : decode M_Law_law.2.1 1768 = .ok (.iload_n 3, 1) := by decide +kernel
theorem d_Law_law_1769 : decode M_Law_law.2.1 1769 = .ok (.iconst 1, 1) := by decide +kernel
theorem d_Law_law_1770 : decode M_Law_law.2.1 1770 = .ok (.iadd, 1) := by decide +kernel
theorem d_Law_law_1771 : decode M_Law_law.2.1 1771 = .ok (.iaload, 1) := by decide +kernel
theorem d_Law_law_1772 : decode M_Law_law.2.1 1772 = .ok (.aload_n 0, 1) := by decide +kernel
theorem d_Law_law_1773 : decode M_Law_law.2.1 1773 = .ok (.iload_n 3, 1) := by decide +kernel
theorem d_Law_law_1774 : decode M_Law_law.2.1 1774 = .ok (.iconst 2, 1) := by decide +kernel
theorem d_Law_law_1775 : decode M_Law_law.2.1 1775 = .ok (.iadd, 1) := by decide +kernel
theorem d_Law_law_1776 : decode M_Law_law.2.1 1776 = .ok (.iaload, 1) := by decide +kernel
theorem d_Law_law_1777 : decode M_Law_law.2.1 1777 = .ok (.invokevirtual 230, 3) := by decide +kernel
theorem d_Law_law_1780 : decode M_Law_law.2.1 1780 = .ok (.if_icmp .eq 243, 3) := by decide +kernel
theorem d_Law_law_1783 : decode M_Law_law.2.1 1783 = .ok (.iconst 0, 1) := by decide +kernel
theorem d_Law_law_1784 : decode M_Law_law.2.1 1784 = .ok (.ireturn, 1) := by decide +kernel
theorem d_Law_law_1785 : decode M_Law_law.2.1 1785 = .ok (.aload_n 1, 1) := by decide +kernel
theorem d_Law_law_1786 : decode M_Law_law.2.1 1786 = .ok (.aload_n 0, 1) := by decide +kernel
theorem d_Law_law_1787 : decode M_Law_law.2.1 1787 = .ok (.iload_n 3, 1) := by decide +kernel
theorem d_Law_law_1788 : decode M_Law_law.2.1 1788 = .ok (.iconst 1, 1) := by decide +kernel
theorem d_Law_law_1789 : decode M_Law_law.2.1 1789 = .ok (.iadd, 1) := by decide +kernel
theorem d_Law_law_1790 : decode M_Law_law.2.1 1790 = .ok (.iaload, 1) := by decide +kernel
theorem d_Law_law_1791 : decode M_Law_law.2.1 1791 = .ok (.invokevirtual 231, 3) := by decide +kernel
theorem d_Law_law_1794 : decode M_Law_law.2.1 1794 = .ok (.aload_n 2, 1) := by decide +kernel
theorem d_Law_law_1795 : decode M_Law_law.2.1 1795 = .ok (.aload_n 0, 1) := by decide +kernel
theorem d_Law_law_1796 : decode M_Law_law.2.1 1796 = .ok (.iload_n 3, 1) := by decide +kernel
theorem d_Law_law_1797 : decode M_Law_law.2.1 1797 = .ok (.iconst 1, 1) := by decide +kernel
theorem d_Law_law_1798 : decode M_Law_law.2.1 1798 = .ok (.iadd, 1) := by decide +kernel
theorem d_Law_law_1799 : decode M_Law_law.2.1 1799 = .ok (.iaload, 1) := by decide +kernel
theorem d_Law_law_1800 : decode M_Law_law.2.1 1800 = .ok (.invokevirtual 234, 3) := by decide +kernel
theorem d_Law_law_1803 : decode M_Law_law.2.1 1803 = .ok (.if_icmp .eq 220, 3) := by decide +kernel
theorem d_Law_law_1806 : decode M_Law_law.2.1 1806 = .ok (.iconst 0, 1) := by decide +kernel
theorem d_Law_law_1807 : decode M_Law_law.2.1 1807 = .ok (.ireturn, 1) := by decide +kernel
theorem d_Law_law_1808 : decode M_Law_law.2.1 1808 = .ok (.aload_n 1, 1) := by decide +kernel
theorem d_Law_law_1809 : decode M_Law_law.2.1 1809 = .ok (.aload_n 0, 1) := by decide +kernel
theorem d_Law_law_1810 : decode M_Law_law.2.1 1810 = .ok (.iload_n 3, 1) := by decide +kernel
theorem d_Law_law_1811 : decode M_Law_law.2.1 1811 = .ok (.iconst 1, 1) := by decide +kernel
theorem d_Law_law_1812 : decode M_Law_law.2.1 1812 = .ok (.iadd, 1) := by decide +kernel
theorem d_Law_law_1813 : decode M_Law_law.2.1 1813 = .ok (.iaload, 1) := by decide +kernel
theorem d_Law_law_1814 : decode M_Law_law.2.1 1814 = .ok (.aload_n 0, 1) := by decide +kernel
theorem d_Law_law_1815 : decode M_Law_law.2.1 1815 = .ok (.iload_n 3, 1) := by decide +kernel
theorem d_Law_law_1816 : decode M_Law_law.2.1 1816 = .ok (.iconst 2, 1) := by decide +kernel
theorem d_Law_law_1817 : decode M_Law_law.2.1 1817 = .ok (.iadd, 1) := by decide +kernel
theorem d_Law_law_1818 : decode M_Law_law.2.1 1818 = .ok (.iaload, 1) := by decide +kernel
theorem d_Law_law_1819 : decode M_Law_law.2.1 1819 = .ok (.aload_n 0, 1) := by decide +kernel
theorem d_Law_law_1820 : decode M_Law_law.2.1 1820 = .ok (.iload_n 3, 1) := by decide +kernel
theorem d_Law_law_1821 : decode M_Law_law.2.1 1821 = .ok (.iconst 3, 1) := by decide +kernel
theorem d_Law_law_1822 : decode M_Law_law.2.1 1822 = .ok (.iadd, 1) := by decide +kernel
theorem d_Law_law_1823 : decode M_Law_law.2.1 1823 = .ok (.iaload, 1) := by decide +kernel
theorem d_Law_law_1824 : decode M_Law_law.2.1 1824 = .ok (.invokevirtual 235, 3) := by decide +kernel
theorem d_Law_law_1827 : decode M_Law_law.2.1 1827 = .ok (.aload_n 2, 1) := by decide +kernel
theorem d_Law_law_1828 : decode M_Law_law.2.1 1828 = .ok (.aload_n 0, 1) := by decide +kernel
theorem d_Law_law_1829 : decode M_Law_law.2.1 1829 = .ok (.iload_n 3, 1) := by decide +kernel
theorem d_Law_law_1830 : decode M_Law_law.2.1 1830 = .ok (.iconst 1, 1) := by decide +kernel
theorem d_Law_law_1831 : decode M_Law_law.2.1 1831 = .ok (.iadd, 1) := by decide +kernel
theorem d_Law_law_1832 : decode M_Law_law.2.1 1832 = .ok (.iaload, 1) := by decide +kernel
theorem d_Law_law_1833 : decode M_Law_law.2.1 1833 = .ok (.aload_n 0, 1) := by decide +kernel
theorem d_Law_law_1834 : decode M_Law_law.2.1 1834 = .ok (.iload_n 3, 1) := by decide +kernel
theorem d_Law_law_1835 : decode M_Law_law.2.1 1835 = .ok (.iconst 2, 1) := by decide +kernel
theorem d_Law_law_1836 : decode M_Law_law.2.1 1836 = .ok (.iadd, 1) := by decide +kernel
theorem d_Law_law_1837 : decode M_Law_law.2.1 1837 = .ok (.iaload, 1) := by decide +kernel
theorem d_Law_law_1838 : decode M_Law_law.2.1 1838 = .ok (.aload_n 0, 1) := by decide +kernel
theorem d_Law_law_1839 : decode M_Law_law.2.1 1839 = .ok (.iload_n 3, 1) := by decide +kernel
theorem d_Law_law_1840 : decode M_Law_law.2.1 1840 = .ok (.iconst 3, 1) := by decide +kernel
theorem d_Law_law_1841 : decode M_Law_law.2.1 1841 = .ok (.iadd, 1) := by decide +kernel
theorem d_Law_law_1842 : decode M_Law_law.2.1 1842 = .ok (.iaload, 1) := by decide +kernel
theorem d_Law_law_1843 : decode M_Law_law.2.1 1843 = .ok (.invokevirtual 238, 3) := by decide +kernel
theorem d_Law_law_1846 : decode M_Law_law.2.1 1846 = .ok (.if_icmp .eq 177, 3) := by decide +kernel
theorem d_Law_law_1849 : decode M_Law_law.2.1 1849 = .ok (.iconst 0, 1) := by decide +kernel
theorem d_Law_law_1850 : decode M_Law_law.2.1 1850 = .ok (.ireturn, 1) := by decide +kernel
theorem d_Law_law_1851 : decode M_Law_law.2.1 1851 = .ok (.aload_n 1, 1) := by decide +kernel
theorem d_Law_law_1852 : decode M_Law_law.2.1 1852 = .ok (.invokevirtual 239, 3) := by decide +kernel
theorem d_Law_law_1855 : decode M_Law_law.2.1 1855 = .ok (.aload_n 2, 1) := by decide +kernel
theorem d_Law_law_1856 : decode M_Law_law.2.1 1856 = .ok (.invokevirtual 242, 3) := by decide +kernel
theorem d_Law_law_1859 : decode M_Law_law.2.1 1859 = .ok (.if_icmp .eq 164, 3) := by decide +kernel
theorem d_Law_law_1862 : decode M_Law_law.2.1 1862 = .ok (.iconst 0, 1) := by decide +kernel
theorem d_Law_law_1863 : decode M_Law_law.2.1 1863 = .ok (.ireturn, 1) := by decide +kernel
theorem d_Law_law_1864 : decode M_Law_law.2.1 1864 = .ok (.aload_n 1, 1) := by decide +kernel
theorem d_Law_law_1865 : decode M_Law_law.2.1 1865 = .ok (.aload_n 0, 1) := by decide +kernel
theorem d_Law_law_1866 : decode M_Law_law.2.1 1866 = .ok (.iload_n 3, 1) := by decide +kernel
theorem d_Law_law_1867 : decode M_Law_law.2.1 1867 = .ok (.iconst 1, 1) := by decide +kernel
theorem d_Law_law_1868 : decode M_Law_law.2.1 1868 = .ok (.iadd, 1) := by decide +kernel
theorem d_Law_law_1869 : decode M_Law_law.2.1 1869 = .ok (.iaload, 1) := by decide +kernel
theorem d_Law_law_1870 : decode M_Law_law.2.1 1870 = .ok (.invokevirtual 243, 3) := by decide +kernel
theorem d_Law_law_1873 : decode M_Law_law.2.1 1873 = .ok (.aload_n 2, 1) := by decide +kernel
theorem d_Law_law_1874 : decode M_Law_law.2.1 1874 = .ok (.aload_n 0, 1) := by decide +kernel
theorem d_Law_law_1875 : decode M_Law_law.2.1 1875 = .ok (.iload_n 3, 1) := by decide +kernel
theorem d_Law_law_1876 : decode M_Law_law.2.1 1876 = .ok (.iconst 1, 1) := by decide +kernel
theorem d_Law_law_1877 : decode M_Law_law.2.1 1877 = .ok (.iadd, 1) := by decide +kernel
theorem d_Law_law_1878 : decode M_Law_law.2.1 1878 = .ok (.iaload, 1) := by decide +kernel
theorem d_Law_law_1879 : decode M_Law_law.2.1 1879 = .ok (.invokevirtual 246, 3) := by decide +kernel
theorem d_Law_law_1882 : decode M_Law_law.2.1 1882 = .ok (.if_icmp .eq 141, 3) := by decide +kernel
theorem d_Law_law_1885 : decode M_Law_law.2.1 1885 = .ok (.iconst 0, 1) := by decide +kernel
theorem d_Law_law_1886 : decode M_Law_law.2.1 1886 = .ok (.ireturn, 1) := by decide +kernel
theorem d_Law_law_1887 : decode M_Law_law.2.1 1887 = .ok (.aload_n 1, 1) := by decide +kernel
theorem d_Law_law_1888 : decode M_Law_law.2.1 1888 = .ok (.aload_n 0, 1) := by decide +kernel
theorem d_Law_law_1889 : decode M_Law_law.2.1 1889 = .ok (.iload_n 3, 1) := by decide +kernel
theorem d_Law_law_1890 : decode M_Law_law.2.1 1890 = .ok (.iconst 1, 1) := by decide +kernel
theorem d_Law_law_1891 : decode M_Law_law.2.1 1891 = .ok (.iadd, 1) := by decide +kernel
theorem d_Law_law_1892 : decode M_Law_law.2.1 1892 = .ok (.iaload, 1) := by decide +kernel
theorem d_Law_law_1893 : decode M_Law_law.2.1 1893 = .ok (.aload_n 0, 1) := by decide +kernel
theorem d_Law_law_1894 : decode M_Law_law.2.1 1894 = .ok (.iload_n 3, 1) := by decide +kernel
theorem d_Law_law_1895 : decode M_Law_law.2.1 1895 = .ok (.iconst 2, 1) := by decide +kernel
theorem d_Law_law_1896 : decode M_Law_law.2.1 1896 = .ok (.iadd, 1) := by decide +kernel
theorem d_Law_law_1897 : decode M_Law_law.2.1 1897 = .ok (.iaload, 1) := by decide +kernel
theorem d_Law_law_1898 : decode M_Law_law.2.1 1898 = .ok (.aload_n 0, 1) := by decide +kernel
theorem d_Law_law_1899 : decode M_Law_law.2.1 1899 = .ok (.iload_n 3, 1) := by decide +kernel
theorem d_Law_law_1900 : decode M_Law_law.2.1 1900 = .ok (.iconst 3, 1) := by decide +kernel
theorem d_Law_law_1901 : decode M_Law_law.2.1 1901 = .ok (.iadd, 1) := by decide +kernel
theorem d_Law_law_1902 : decode M_Law_law.2.1 1902 = .ok (.iaload, 1) := by decide +kernel
theorem d_Law_law_1903 : decode M_Law_law.2.1 1903 = .ok (.aload_n 0, 1) := by decide +kernel
theorem d_Law_law_1904 : decode M_Law_law.2.1 1904 = .ok (.iload_n 3, 1) := by decide +kernel
theorem d_Law_law_1905 : decode M_Law_law.2.1 1905 = .ok (.iconst 4, 1) := by decide +kernel
theorem d_Law_law_1906 : decode M_Law_law.2.1 1906 = .ok (.iadd, 1) := by decide +kernel
theorem d_Law_law_1907 : decode M_Law_law.2.1 1907 = .ok (.iaload, 1) := by decide +kernel
theorem d_Law_law_1908 : decode M_Law_law.2.1 1908 = .ok (.aload_n 0, 1) := by decide +kernel
theorem d_Law_law_1909 : decode M_Law_law.2.1 1909 = .ok (.iload_n 3, 1) := by decide +kernel
theorem d_Law_law_1910 : decode M_Law_law.2.1 1910 = .ok (.iconst 5, 1) := by decide +kernel
theorem d_Law_law_1911 : decode M_Law_law.2.1 1911 = .ok (.iadd, 1) := by decide +kernel
theorem d_Law_law_1912 : decode M_Law_law.2.1 1912 = .ok (.iaload, 1) := by decide +kernel
theorem d_Law_law_1913 : decode M_Law_law.2.1 1913 = .ok (.invokevirtual 247, 3) := by decide +kernel
theorem d_Law_law_1916 : decode M_Law_law.2.1 1916 = .ok (.aload_n 2, 1) := by decide +kernel
theorem d_Law_law_1917 : decode M_Law_law.2.1 1917 = .ok (.aload_n 0, 1) := by decide +kernel
theorem d_Law_law_1918 : decode M_Law_law.2.1 1918 = .ok (.iload_n 3, 1) := by decide +kernel
theorem d_Law_law_1919 : decode M_Law_law.2.1 1919 = .ok (.iconst 1, 1) := by decide +kernel
theorem d_Law_law_1920 : decode M_Law_law.2.1 1920 = .ok (.iadd, 1) := by decide +kernel
theorem d_Law_law_1921 : decode M_Law_law.2.1 1921 = .ok (.iaload, 1) := by decide +kernel
theorem d_Law_law_1922 : decode M_Law_law.2.1 1922 = .ok (.aload_n 0, 1) := by decide +kernel
theorem d_Law_law_1923 : decode M_Law_law.2.1 1923 = .ok (.iload_n 3, 1) := by decide +kernel
theorem d_Law_law_1924 : decode M_Law_law.2.1 1924 = .ok (.iconst 2, 1) := by decide +kernel
theorem d_Law_law_1925 : decode M_Law_law.2.1 1925 = .ok (.iadd, 1) := by decide +kernel
theorem d_Law_law_1926 : decode M_Law_law.2.1 1926 = .ok (.iaload, 1) := by decide +kernel
theorem d_Law_law_1927 : decode M_Law_law.2.1 1927 = .ok (.aload_n 0, 1) := by decide +kernel
theorem d_Law_law_1928 : decode M_Law_law.2.1 1928 = .ok (.iload_n 3, 1) := by decide +kernel
theorem d_Law_law_1929 : decode M_Law_law.2.1 1929 = .ok (.iconst 3, 1) := by decide +kernel
theorem d_Law_law_1930 : decode M_Law_law.2.1 1930 = .ok (.iadd, 1) := by decide +kernel
theorem d_Law_law_1931 : decode M_Law_law.2.1 1931 = .ok (.iaload, 1) := by decide +kernel
theorem d_Law_law_1932 : decode M_Law_law.2.1 1932 = .ok (.aload_n 0, 1) := by decide +kernel
theorem d_Law_law_1933 : decode M_Law_law.2.1 1933 = .ok (.iload_n 3, 1) := by decide +kernel
theorem d_Law_law_1934 : decode M_Law_law.2.1 1934 = .ok (.iconst 4, 1) := by decide +kernel
theorem d_Law_law_1935 : decode M_Law_law.2.1 1935 = .ok (.iadd, 1) := by decide +kernel
theorem d_Law_law_1936 : decode M_Law_law.2.1 1936 = .ok (.iaload, 1) := by decide +kernel
theorem d_Law_law_1937 : decode M_Law_law.2.1 1937 = .ok (.aload_n 0, 1) := by decide +kernel
theorem d_Law_law_1938 : decode M_Law_law.2.1 1938 = .ok (.iload_n 3, 1) := by decide +kernel
theorem d_Law_law_1939 : decode M_Law_law.2.1 1939 = .ok (.iconst 5, 1) := by decide +kernel
theorem d_Law_law_1940 : decode M_Law_law.2.1 1940 = .ok (.iadd, 1) := by decide +kernel
theorem d_Law_law_1941 : decode M_Law_law.2.1 1941 = .ok (.iaload, 1) := by decide +kernel
theorem d_Law_law_1942 : decode M_Law_law.2.1 1942 = .ok (.invokevirtual 251, 3) := by decide +kernel
theorem d_Law_law_1945 : decode M_Law_law.2.1 1945 = .ok (.if_icmp .eq 78, 3) := by decide +kernel
theorem d_Law_law_1948 : decode M_Law_law.2.1 1948 = .ok (.iconst 0, 1) := by decide +kernel
theorem d_Law_law_1949 : decode M_Law_law.2.1 1949 = .ok (.ireturn, 1) := by decide +kernel
theorem d_Law_law_1950 : decode M_Law_law.2.1 1950 = .ok (.aload_n 1, 1) := by decide +kernel
theorem d_Law_law_1951 : decode M_Law_law.2.1 1951 = .ok (.aload_n 0, 1) := by decide +kernel
theorem d_Law_law_1952 : decode M_Law_law.2.1 1952 = .ok (.iload_n 3, 1) := by decide +kernel
theorem d_Law_law_1953 : decode M_Law_law.2.1 1953 = .ok (.iconst 1, 1) := by decide +kernel
theorem d_Law_law_1954 : decode M_Law_law.2.1 1954 = .ok (.iadd, 1) := by decide +kernel
theorem d_Law_law_1955 : decode M_Law_law.2.1 1955 = .ok (.iaload, 1) := by decide +kernel
theorem d_Law_law_1956 : decode M_Law_law.2.1 1956 = .ok (.invokevirtual 252, 3) := by decide +kernel
theorem d_Law_law_1959 : decode M_Law_law.2.1 1959 = .ok (.aload_n 2, 1) := by decide +kernel
theorem d_Law_law_1960 : decode M_Law_law.2.1 1960 = .ok (.aload_n 0, 1) := by decide +kernel
theorem d_Law_law_1961 : decode M_Law_law.2.1 1961 = .ok (.iload_n 3, 1) := by decide +kernel
theorem d_Law_law_1962 : decode M_Law_law.2.1 1962 = .ok (.iconst 1, 1) := by decide +kernel
theorem d_Law_law_1963 : decode M_Law_law.2.1 1963 = .ok (.iadd, 1) := by decide +kernel
theorem d_Law_law_1964 : decode M_Law_law.2.1 1964 = .ok (.iaload, 1) := by decide +kernel
theorem d_Law_law_1965 : decode M_Law_law.2.1 1965 = .ok (.invokevirtual 255, 3) := by decide +kernel
theorem d_Law_law_1968 : decode M_Law_law.2.1 1968 = .ok (.if_icmp .eq 55, 3) := by decide +kernel
theorem d_Law_law_1971 : decode M_Law_law.2.1 1971 = .ok (.iconst 0, 1) := by decide +kernel
theorem d_Law_law_1972 : decode M_Law_law.2.1 1972 = .ok (.ireturn, 1) := by decide +kernel
theorem d_Law_law_1973 : decode M_Law_law.2.1 1973 = .ok (.aload_n 1, 1) := by decide +kernel
theorem d_Law_law_1974 : decode M_Law_law.2.1 1974 = .ok (.invokevirtual 256, 3) := by decide +kernel
theorem d_Law_law_1977 : decode M_Law_law.2.1 1977 = .ok (.aload_n 2, 1) := by decide +kernel
theorem d_Law_law_1978 : decode M_Law_law.2.1 1978 = .ok (.invokevirtual 259, 3) := by decide +kernel
theorem d_Law_law_1981 : decode M_Law_law.2.1 1981 = .ok (.if_icmp .eq 42, 3) := by decide +kernel
theorem d_Law_law_1984 : decode M_Law_law.2.1 1984 = .ok (.iconst 0, 1) := by decide +kernel
theorem d_Law_law_1985 : decode M_Law_law.2.1 1985 = .ok (.ireturn, 1) := by decide +kernel
theorem d_Law_law_1986 : decode M_Law_law.2.1 1986 = .ok (.aload_n 1, 1) := by decide +kernel
theorem d_Law_law_1987 : decode M_Law_law.2.1 1987 = .ok (.invokevirtual 260, 3) := by decide +kernel
theorem d_Law_law_1990 : decode M_Law_law.2.1 1990 = .ok (.aload_n 2, 1) := by decide +kernel
theorem d_Law_law_1991 : decode M_Law_law.2.1 1991 = .ok (.invokevirtual 263, 3) := by decide +kernel
theorem d_Law_law_1994 : decode M_Law_law.2.1 1994 = .ok (.if_icmp .eq 29, 3) := by decide +kernel
theorem d_Law_law_1997 : decode M_Law_law.2.1 1997 = .ok (.iconst 0, 1) := by decide +kernel
theorem d_Law_law_1998 : decode M_Law_law.2.1 1998 = .ok (.ireturn, 1) := by decide +kernel
theorem d_Law_law_1999 : decode M_Law_law.2.1 1999 = .ok (.aload_n 1, 1) := by decide +kernel
theorem d_Law_law_2000 : decode M_Law_law.2.1 2000 = .ok (.aload_n 0, 1) := by decide +kernel
theorem d_Law_law_2001 : decode M_Law_law.2.1 2001 = .ok (.iload_n 3, 1) := by decide +kernel
theorem d_Law_law_2002 : decode M_Law_law.2.1 2002 = .ok (.iconst 1, 1) := by decide +kernel
theorem d_Law_law_2003 : decode M_Law_law.2.1 2003 = .ok (.iadd, 1) := by decide +kernel
theorem d_Law_law_2004 : decode M_Law_law.2.1 2004 = .ok (.iaload, 1) := by decide +kernel
theorem d_Law_law_2005 : decode M_Law_law.2.1 2005 = .ok (.invokevirtual 264, 3) := by decide +kernel
theorem d_Law_law_2008 : decode M_Law_law.2.1 2008 = .ok (.aload_n 2, 1) := by decide +kernel
theorem d_Law_law_2009 : decode M_Law_law.2.1 2009 = .ok (.aload_n 0, 1) := by decide +kernel
theorem d_Law_law_2010 : decode M_Law_law.2.1 2010 = .ok (.iload_n 3, 1) := by decide +kernel
theorem d_Law_law_2011 : decode M_Law_law.2.1 2011 = .ok (.iconst 1, 1) := by decide +kernel
theorem d_Law_law_2012 : decode M_Law_law.2.1 2012 = .ok (.iadd, 1) := by decide +kernel
theorem d_Law_law_2013 : decode M_Law_law.2.1 2013 = .ok (.iaload, 1) := by decide +kernel
theorem d_Law_law_2014 : decode M_Law_law.2.1 2014 = .ok (.invokevirtual 268, 3) := by decide +kernel
theorem d_Law_law_2017 : decode M_Law_law.2.1 2017 = .ok (.lcmp, 1) := by decide +kernel
theorem d_Law_law_2018 : decode M_Law_law.2.1 2018 = .ok (.ifCond .eq 5, 3) := by decide +kernel
theorem d_Law_law_2021 : decode M_Law_law.2.1 2021 = .ok (.iconst 0, 1) := by decide +kernel
theorem d_Law_law_2022 : decode M_Law_law.2.1 2022 = .ok (.ireturn, 1) := by decide +kernel
theorem d_Law_law_2023 : decode M_Law_law.2.1 2023 = .ok (.iinc 3 6, 3) := by decide +kernel
theorem d_Law_law_2026 : decode M_Law_law.2.1 2026 = .ok (.goto (-2008), 3) := by decide +kernel
theorem d_Law_law_2029 : decode M_Law_law.2.1 2029 = .ok (.iconst 1, 1) := by decide +kernel
theorem d_Law_law_2030 : decode M_Law_law.2.1 2030 = .ok (.ireturn, 1) := by decide +kernel
