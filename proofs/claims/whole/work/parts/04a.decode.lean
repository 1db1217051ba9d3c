theorem d_SN_init_0 : decode M_SN_init.2.1 0 = .ok (.aload_n 0, 1) := by decide +kernel
theorem d_SN_init_1 : decode M_SN_init.2.1 1 = .ok (.invokespecial 1, 3) := by decide +kernel
theorem d_SN_init_4 : decode M_SN_init.2.1 4 = .ok (.aload_n 0, 1) := by decide +kernel
theorem d_SN_init_5 : decode M_SN_init.2.1 5 = .ok (.new 7, 3) := by decide +kernel
theorem d_SN_init_8 : decode M_SN_init.2.1 8 = .ok (.dup, 1) := by decide +kernel
theorem d_SN_init_9 : decode M_SN_init.2.1 9 = .ok (.iconst 1, 1) := by decide +kernel
theorem d_SN_init_10 : decode M_SN_init.2.1 10 = .ok (.invokespecial 9, 3) := by decide +kernel
theorem d_SN_init_13 : decode M_SN_init.2.1 13 = .ok (.putfield 12, 3) := by decide +kernel
theorem d_SN_init_16 : decode M_SN_init.2.1 16 = .ok (.aload_n 0, 1) := by decide +kernel
theorem d_SN_init_17 : decode M_SN_init.2.1 17 = .ok (.new 7, 3) := by decide +kernel
theorem d_SN_init_20 : decode M_SN_init.2.1 20 = .ok (.dup, 1) := by decide +kernel
theorem d_SN_init_21 : decode M_SN_init.2.1 21 = .ok (.iconst 2, 1) := by decide +kernel
theorem d_SN_init_22 : decode M_SN_init.2.1 22 = .ok (.invokespecial 9, 3) := by decide +kernel
theorem d_SN_init_25 : decode M_SN_init.2.1 25 = .ok (.putfield 18, 3) := by decide +kernel
theorem d_SN_init_28 : decode M_SN_init.2.1 28 = .ok (.aload_n 0, 1) := by decide +kernel
theorem d_SN_init_29 : decode M_SN_init.2.1 29 = .ok (.new 21, 3) := by decide +kernel
theorem d_SN_init_32 : decode M_SN_init.2.1 32 = .ok (.dup, 1) := by decide +kernel
theorem d_SN_init_33 : decode M_SN_init.2.1 33 = .ok (.invokespecial 23, 3) := by decide +kernel
theorem d_SN_init_36 : decode M_SN_init.2.1 36 = .ok (.putfield 24, 3) := by decide +kernel
theorem d_SN_init_39 : decode M_SN_init.2.1 39 = .ok (.aload_n 0, 1) := by decide +kernel
theorem d_SN_init_40 : decode M_SN_init.2.1 40 = .ok (.new 28, 3) := by decide +kernel
theorem d_SN_init_43 : decode M_SN_init.2.1 43 = .ok (.dup, 1) := by decide +kernel
theorem d_SN_init_44 : decode M_SN_init.2.1 44 = .ok (.invokespecial 30, 3) := by decide +kernel
theorem d_SN_init_47 : decode M_SN_init.2.1 47 = .ok (.putfield 31, 3) := by decide +kernel
theorem d_SN_init_50 : decode M_SN_init.2.1 50 = .ok (.aload_n 0, 1) := by decide +kernel
theorem d_SN_init_51 : decode M_SN_init.2.1 51 = .ok (.new 35, 3) := by decide +kernel
theorem d_SN_init_54 : decode M_SN_init.2.1 54 = .ok (.dup, 1) := by decide +kernel
theorem d_SN_init_55 : decode M_SN_init.2.1 55 = .ok (.invokespecial 37, 3) := by decide +kernel
theorem d_SN_init_58 : decode M_SN_init.2.1 58 = .ok (.putfield 38, 3) := by decide +kernel
theorem d_SN_init_61 : decode M_SN_init.2.1 61 = .ok (.aload_n 0, 1) := by decide +kernel
theorem d_SN_init_62 : decode M_SN_init.2.1 62 = .ok (.new 42, 3) := by decide +kernel
theorem d_SN_init_65 : decode M_SN_init.2.1 65 = .ok (.dup, 1) := by decide +kernel
theorem d_SN_init_66 : decode M_SN_init.2.1 66 = .ok (.invokespecial 44, 3) := by decide +kernel
theorem d_SN_init_69 : decode M_SN_init.2.1 69 = .ok (.putfield 45, 3) := by decide +kernel
theorem d_SN_init_72 : decode M_SN_init.2.1 72 = .ok (.aload_n 0, 1) := by decide +kernel
theorem d_SN_init_73 : decode M_SN_init.2.1 73 = .ok (.new 49, 3) := by decide +kernel
theorem d_SN_init_76 : decode M_SN_init.2.1 76 = .ok (.dup, 1) := by decide +kernel
theorem d_SN_init_77 : decode M_SN_init.2.1 77 = .ok (.sipush 2000, 3) := by decide +kernel
theorem d_SN_init_80 : decode M_SN_init.2.1 80 = .ok (.invokespecial 51, 3) := by decide +kernel
theorem d_SN_init_83 : decode M_SN_init.2.1 83 = .ok (.putfield 52, 3) := by decide +kernel
theorem d_SN_init_86 : decode M_SN_init.2.1 86 = .ok (.aload_n 0, 1) := by decide +kernel
theorem d_SN_init_87 : decode M_SN_init.2.1 87 = .ok (.new 49, 3) := by decide +kernel
theorem d_SN_init_90 : decode M_SN_init.2.1 90 = .ok (.dup, 1) := by decide +kernel
theorem d_SN_init_91 : decode M_SN_init.2.1 91 = .ok (.sipush 2048, 3) := by decide +kernel
theorem d_SN_init_94 : decode M_SN_init.2.1 94 = .ok (.invokespecial 51, 3) := by decide +kernel
theorem d_SN_init_97 : decode M_SN_init.2.1 97 = .ok (.putfield 56, 3) := by decide +kernel
theorem d_SN_init_100 : decode M_SN_init.2.1 100 = .ok (.aload_n 0, 1) := by decide +kernel
theorem d_SN_init_101 : decode M_SN_init.2.1 101 = .ok (.new 49, 3) := by decide +kernel
theorem d_SN_init_104 : decode M_SN_init.2.1 104 = .ok (.dup, 1) := by decide +kernel
theorem d_SN_init_105 : decode M_SN_init.2.1 105 = .ok (.sipush 2048, 3) := by decide +kernel
theorem d_SN_init_108 : decode M_SN_init.2.1 108 = .ok (.invokespecial 51, 3) := by decide +kernel
theorem d_SN_init_111 : decode M_SN_init.2.1 111 = .ok (.putfield 59, 3) := by decide +kernel
theorem d_SN_init_114 : decode M_SN_init.2.1 114 = .ok (.aload_n 0, 1) := by decide +kernel
theorem d_SN_init_115 : decode M_SN_init.2.1 115 = .ok (.new 62, 3) := by decide +kernel
theorem d_SN_init_118 : decode M_SN_init.2.1 118 = .ok (.dup, 1) := by decide +kernel
theorem d_SN_init_119 : decode M_SN_init.2.1 119 = .ok (.bipush 36, 2) := by decide +kernel
theorem d_SN_init_121 : decode M_SN_init.2.1 121 = .ok (.invokespecial 64, 3) := by decide +kernel
theorem d_SN_init_124 : decode M_SN_init.2.1 124 = .ok (.putfield 65, 3) := by decide +kernel
theorem d_SN_init_127 : decode M_SN_init.2.1 127 = .ok (.aload_n 0, 1) := by decide +kernel
theorem d_SN_init_128 : decode M_SN_init.2.1 128 = .ok (.new 62, 3) := by decide +kernel
theorem d_SN_init_131 : decode M_SN_init.2.1 131 = .ok (.dup, 1) := by decide +kernel
theorem d_SN_init_132 : decode M_SN_init.2.1 132 = .ok (.bipush 36, 2) := by decide +kernel
theorem d_SN_init_134 : decode M_SN_init.2.1 134 = .ok (.invokespecial 64, 3) := by decide +kernel
theorem d_SN_init_137 : decode M_SN_init.2.1 137 = .ok (.putfield 69, 3) := by decide +kernel
theorem d_SN_init_140 : decode M_SN_init.2.1 140 = .ok (.aload_n 0, 1) := by decide +kernel
theorem d_SN_init_141 : decode M_SN_init.2.1 141 = .ok (.iconst 3, 1) := by decide +kernel
theorem d_SN_init_142 : decode M_SN_init.2.1 142 = .ok (.putfield 72, 3) := by decide +kernel
theorem d_SN_init_145 : decode M_SN_init.2.1 145 = .ok (.aload_n 0, 1) := by decide +kernel
theorem d_SN_init_146 : decode M_SN_init.2.1 146 = .ok (.getfield 65, 3) := by decide +kernel
theorem d_SN_init_149 : decode M_SN_init.2.1 149 = .ok (.iconst 1, 1) := by decide +kernel
theorem d_SN_init_150 : decode M_SN_init.2.1 150 = .ok (.invokevirtual 76, 3) := by decide +kernel
theorem d_SN_init_153 : decode M_SN_init.2.1 153 = .ok (.aload_n 0, 1) := by decide +kernel
theorem d_SN_init_154 : decode M_SN_init.2.1 154 = .ok (.getfield 12, 3) := by decide +kernel
theorem d_SN_init_157 : decode M_SN_init.2.1 157 = .ok (.iconst 3, 1) := by decide +kernel
theorem d_SN_init_158 : decode M_SN_init.2.1 158 = .ok (.invokevirtual 79, 3) := by decide +kernel
theorem d_SN_init_161 : decode M_SN_init.2.1 161 = .ok (.pop, 1) := by decide +kernel
theorem d_SN_init_162 : decode M_SN_init.2.1 162 = .ok (.return_, 1) := by decide +kernel
theorem d_Sea_init_0 : decode M_Sea_init.2.1 0 = .ok (.aload_n 0, 1) := by decide +kernel
theorem d_Sea_init_1 : decode M_Sea_init.2.1 1 = .ok (.invokespecial 3, 3) := by decide +kernel
theorem d_Sea_init_4 : decode M_Sea_init.2.1 4 = .ok (.aload_n 0, 1) := by decide +kernel
theorem d_Sea_init_5 : decode M_Sea_init.2.1 5 = .ok (.new 9, 3) := by decide +kernel
theorem d_Sea_init_8 : decode M_Sea_init.2.1 8 = .ok (.dup, 1) := by decide +kernel
theorem d_Sea_init_9 : decode M_Sea_init.2.1 9 = .ok (.invokespecial 11, 3) := by decide +kernel
theorem d_Sea_init_12 : decode M_Sea_init.2.1 12 = .ok (.putfield 12, 3) := by decide +kernel
theorem d_Sea_init_15 : decode M_Sea_init.2.1 15 = .ok (.aload_n 0, 1) := by decide +kernel
theorem d_Sea_init_16 : decode M_Sea_init.2.1 16 = .ok (.new 18, 3) := by decide +kernel
theorem d_Sea_init_19 : decode M_Sea_init.2.1 19 = .ok (.dup, 1) := by decide +kernel
theorem d_Sea_init_20 : decode M_Sea_init.2.1 20 = .ok (.iconst 1, 1) := by decide +kernel
theorem d_Sea_init_21 : decode M_Sea_init.2.1 21 = .ok (.iconst 2, 1) := by decide +kernel
theorem d_Sea_init_22 : decode M_Sea_init.2.1 22 = .ok (.aload_n 0, 1) := by decide +kernel
theorem d_Sea_init_23 : decode M_Sea_init.2.1 23 = .ok (.getfield 12, 3) := by decide +kernel
theorem d_Sea_init_26 : decode M_Sea_init.2.1 26 = .ok (.invokespecial 20, 3) := by decide +kernel
theorem d_Sea_init_29 : decode M_Sea_init.2.1 29 = .ok (.putfield 23, 3) := by decide +kernel
theorem d_Sea_init_32 : decode M_Sea_init.2.1 32 = .ok (.aload_n 0, 1) := by decide +kernel
theorem d_Sea_init_33 : decode M_Sea_init.2.1 33 = .ok (.new 27, 3) := by decide +kernel
theorem d_Sea_init_36 : decode M_Sea_init.2.1 36 = .ok (.dup, 1) := by decide +kernel
theorem d_Sea_init_37 : decode M_Sea_init.2.1 37 = .ok (.new 29, 3) := by decide +kernel
theorem d_Sea_init_40 : decode M_Sea_init.2.1 40 = .ok (.dup, 1) := by decide +kernel
theorem d_Sea_init_41 : decode M_Sea_init.2.1 41 = .ok (.iconst 1, 1) := by decide +kernel
theorem d_Sea_init_42 : decode M_Sea_init.2.1 42 = .ok (.invokespecial 31, 3) := by decide +kernel
theorem d_Sea_init_45 : decode M_Sea_init.2.1 45 = .ok (.iconst 0, 1) := by decide +kernel
theorem d_Sea_init_46 : decode M_Sea_init.2.1 46 = .ok (.iconst 0, 1) := by decide +kernel
theorem d_Sea_init_47 : decode M_Sea_init.2.1 47 = .ok (.newarray .int, 2) := by decide +kernel
theorem d_Sea_init_49 : decode M_Sea_init.2.1 49 = .ok (.iconst 0, 1) := by decide +kernel
theorem d_Sea_init_50 : decode M_Sea_init.2.1 50 = .ok (.newarray .int, 2) := by decide +kernel
theorem d_Sea_init_52 : decode M_Sea_init.2.1 52 = .ok (.invokespecial 34, 3) := by decide +kernel
theorem d_Sea_init_55 : decode M_Sea_init.2.1 55 = .ok (.putfield 37, 3) := by decide +kernel
theorem d_Sea_init_58 : decode M_Sea_init.2.1 58 = .ok (.aload_n 0, 1) := by decide +kernel
theorem d_Sea_init_59 : decode M_Sea_init.2.1 59 = .ok (.sipush 128, 3) := by decide +kernel
theorem d_Sea_init_62 : decode M_Sea_init.2.1 62 = .ok (.anewarray 18, 3) := by decide +kernel
theorem d_Sea_init_65 : decode M_Sea_init.2.1 65 = .ok (.putfield 41, 3) := by decide +kernel
theorem d_Sea_init_68 : decode M_Sea_init.2.1 68 = .ok (.aload_n 0, 1) := by decide +kernel
theorem d_Sea_init_69 : decode M_Sea_init.2.1 69 = .ok (.bipush 32, 2) := by decide +kernel
theorem d_Sea_init_71 : decode M_Sea_init.2.1 71 = .ok (.anewarray 18, 3) := by decide +kernel
theorem d_Sea_init_74 : decode M_Sea_init.2.1 74 = .ok (.putfield 45, 3) := by decide +kernel
theorem d_Sea_init_77 : decode M_Sea_init.2.1 77 = .ok (.aload_n 0, 1) := by decide +kernel
theorem d_Sea_init_78 : decode M_Sea_init.2.1 78 = .ok (.bipush 64, 2) := by decide +kernel
theorem d_Sea_init_80 : decode M_Sea_init.2.1 80 = .ok (.anewarray 27, 3) := by decide +kernel
theorem d_Sea_init_83 : decode M_Sea_init.2.1 83 = .ok (.putfield 48, 3) := by decide +kernel
theorem d_Sea_init_86 : decode M_Sea_init.2.1 86 = .ok (.aload_n 0, 1) := by decide +kernel
theorem d_Sea_init_87 : decode M_Sea_init.2.1 87 = .ok (.new 29, 3) := by decide +kernel
theorem d_Sea_init_90 : decode M_Sea_init.2.1 90 = .ok (.dup, 1) := by decide +kernel
theorem d_Sea_init_91 : decode M_Sea_init.2.1 91 = .ok (.bipush 32, 2) := by decide +kernel
theorem d_Sea_init_93 : decode M_Sea_init.2.1 93 = .ok (.invokespecial 31, 3) := by decide +kernel
theorem d_Sea_init_96 : decode M_Sea_init.2.1 96 = .ok (.putfield 52, 3) := by decide +kernel
theorem d_Sea_init_99 : decode M_Sea_init.2.1 99 = .ok (.aload_n 0, 1) := by decide +kernel
theorem d_Sea_init_100 : decode M_Sea_init.2.1 100 = .ok (.iconst (-1), 1) := by decide +kernel
theorem d_Sea_init_101 : decode M_Sea_init.2.1 101 = .ok (.putfield 56, 3) := by decide +kernel
theorem d_Sea_init_104 : decode M_Sea_init.2.1 104 = .ok (.aload_n 0, 1) := by decide +kernel
theorem d_Sea_init_105 : decode M_Sea_init.2.1 105 = .ok (.iload_n 1, 1) := by decide +kernel
theorem d_Sea_init_106 : decode M_Sea_init.2.1 106 = .ok (.putfield 60, 3) := by decide +kernel
theorem d_Sea_init_109 : decode M_Sea_init.2.1 109 = .ok (.aload_n 0, 1) := by decide +kernel
theorem d_Sea_init_110 : decode M_Sea_init.2.1 110 = .ok (.new 63, 3) := by decide +kernel
theorem d_Sea_init_113 : decode M_Sea_init.2.1 113 = .ok (.dup, 1) := by decide +kernel
theorem d_Sea_init_114 : decode M_Sea_init.2.1 114 = .ok (.iload_n 1, 1) := by decide +kernel
theorem d_Sea_init_115 : decode M_Sea_init.2.1 115 = .ok (.invokespecial 65, 3) := by decide +kernel
theorem d_Sea_init_118 : decode M_Sea_init.2.1 118 = .ok (.putfield 66, 3) := by decide +kernel
theorem d_Sea_init_121 : decode M_Sea_init.2.1 121 = .ok (.return_, 1) := by decide +kernel
theorem d_Fra_init_0 : decode M_Fra_init.2.1 0 = .ok (.aload_n 0, 1) := by decide +kernel
theorem d_Fra_init_1 : decode M_Fra_init.2.1 1 = .ok (.invokespecial 3, 3) := by decide +kernel
theorem d_Fra_init_4 : decode M_Fra_init.2.1 4 = .ok (.aload_n 0, 1) := by decide +kernel
theorem d_Fra_init_5 : decode M_Fra_init.2.1 5 = .ok (.new 9, 3) := by decide +kernel
theorem d_Fra_init_8 : decode M_Fra_init.2.1 8 = .ok (.dup, 1) := by decide +kernel
theorem d_Fra_init_9 : decode M_Fra_init.2.1 9 = .ok (.bipush 8, 2) := by decide +kernel
theorem d_Fra_init_11 : decode M_Fra_init.2.1 11 = .ok (.invokespecial 13, 3) := by decide +kernel
theorem d_Fra_init_14 : decode M_Fra_init.2.1 14 = .ok (.putfield 16, 3) := by decide +kernel
theorem d_Fra_init_17 : decode M_Fra_init.2.1 17 = .ok (.aload_n 0, 1) := by decide +kernel
theorem d_Fra_init_18 : decode M_Fra_init.2.1 18 = .ok (.new 9, 3) := by decide +kernel
theorem d_Fra_init_21 : decode M_Fra_init.2.1 21 = .ok (.dup, 1) := by decide +kernel
theorem d_Fra_init_22 : decode M_Fra_init.2.1 22 = .ok (.bipush 8, 2) := by decide +kernel
theorem d_Fra_init_24 : decode M_Fra_init.2.1 24 = .ok (.invokespecial 13, 3) := by decide +kernel
theorem d_Fra_init_27 : decode M_Fra_init.2.1 27 = .ok (.putfield 20, 3) := by decide +kernel
theorem d_Fra_init_30 : decode M_Fra_init.2.1 30 = .ok (.aload_n 0, 1) := by decide +kernel
theorem d_Fra_init_31 : decode M_Fra_init.2.1 31 = .ok (.new 9, 3) := by decide +kernel
theorem d_Fra_init_34 : decode M_Fra_init.2.1 34 = .ok (.dup, 1) := by decide +kernel
theorem d_Fra_init_35 : decode M_Fra_init.2.1 35 = .ok (.bipush 8, 2) := by decide +kernel
theorem d_Fra_init_37 : decode M_Fra_init.2.1 37 = .ok (.invokespecial 13, 3) := by decide +kernel
theorem d_Fra_init_40 : decode M_Fra_init.2.1 40 = .ok (.putfield 23, 3) := by decide +kernel
theorem d_Fra_init_43 : decode M_Fra_init.2.1 43 = .ok (.aload_n 0, 1) := by decide +kernel
theorem d_Fra_init_44 : decode M_Fra_init.2.1 44 = .ok (.new 9, 3) := by decide +kernel
theorem d_Fra_init_47 : decode M_Fra_init.2.1 47 = .ok (.dup, 1) := by decide +kernel
theorem d_Fra_init_48 : decode M_Fra_init.2.1 48 = .ok (.bipush 8, 2) := by decide +kernel
theorem d_Fra_init_50 : decode M_Fra_init.2.1 50 = .ok (.invokespecial 13, 3) := by decide +kernel
theorem d_Fra_init_53 : decode M_Fra_init.2.1 53 = .ok (.putfield 26, 3) := by decide +kernel
theorem d_Fra_init_56 : decode M_Fra_init.2.1 56 = .ok (.return_, 1) := by decide +kernel
theorem d_Big_init_0 : decode M_Big_init.2.1 0 = .ok (.aload_n 0, 1) := by decide +kernel
theorem d_Big_init_1 : decode M_Big_init.2.1 1 = .ok (.invokespecial 3, 3) := by decide +kernel
theorem d_Big_init_4 : decode M_Big_init.2.1 4 = .ok (.aload_n 0, 1) := by decide +kernel
theorem d_Big_init_5 : decode M_Big_init.2.1 5 = .ok (.iload_n 1, 1) := by decide +kernel
theorem d_Big_init_6 : decode M_Big_init.2.1 6 = .ok (.ifCond .le 7, 3) := by decide +kernel
theorem d_Big_init_9 : decode M_Big_init.2.1 9 = .ok (.iload_n 1, 1) := by decide +kernel
theorem d_Big_init_10 : decode M_Big_init.2.1 10 = .ok (.goto 4, 3) := by decide +kernel
theorem d_Big_init_13 : decode M_Big_init.2.1 13 = .ok (.iconst 1, 1) := by decide +kernel
theorem d_Big_init_14 : decode M_Big_init.2.1 14 = .ok (.newarray .int, 2) := by decide +kernel
theorem d_Big_init_16 : decode M_Big_init.2.1 16 = .ok (.putfield 9, 3) := by decide +kernel
theorem d_Big_init_19 : decode M_Big_init.2.1 19 = .ok (.return_, 1) := by decide +kernel
theorem d_Uni_init_0 : decode M_Uni_init.2.1 0 = .ok (.aload_n 0, 1) := by decide +kernel
theorem d_Uni_init_1 : decode M_Uni_init.2.1 1 = .ok (.invokespecial 3, 3) := by decide +kernel
theorem d_Uni_init_4 : decode M_Uni_init.2.1 4 = .ok (.aload_n 0, 1) := by decide +kernel
theorem d_Uni_init_5 : decode M_Uni_init.2.1 5 = .ok (.new 9, 3) := by decide +kernel
theorem d_Uni_init_8 : decode M_Uni_init.2.1 8 = .ok (.dup, 1) := by decide +kernel
theorem d_Uni_init_9 : decode M_Uni_init.2.1 9 = .ok (.bipush 8, 2) := by decide +kernel
theorem d_Uni_init_11 : decode M_Uni_init.2.1 11 = .ok (.invokespecial 13, 3) := by decide +kernel
theorem d_Uni_init_14 : decode M_Uni_init.2.1 14 = .ok (.putfield 16, 3) := by decide +kernel
theorem d_Uni_init_17 : decode M_Uni_init.2.1 17 = .ok (.aload_n 0, 1) := by decide +kernel
theorem d_Uni_init_18 : decode M_Uni_init.2.1 18 = .ok (.new 9, 3) := by decide +kernel
theorem d_Uni_init_21 : decode M_Uni_init.2.1 21 = .ok (.dup, 1) := by decide +kernel
theorem d_Uni_init_22 : decode M_Uni_init.2.1 22 = .ok (.bipush 8, 2) := by decide +kernel
theorem d_Uni_init_24 : decode M_Uni_init.2.1 24 = .ok (.invokespecial 13, 3) := by decide +kernel
theorem d_Uni_init_27 : decode M_Uni_init.2.1 27 = .ok (.putfield 20, 3) := by decide +kernel
theorem d_Uni_init_30 : decode M_Uni_init.2.1 30 = .ok (.aload_n 0, 1) := by decide +kernel
theorem d_Uni_init_31 : decode M_Uni_init.2.1 31 = .ok (.bipush 10, 2) := by decide +kernel
theorem d_Uni_init_33 : decode M_Uni_init.2.1 33 = .ok (.newarray .int, 2) := by decide +kernel
theorem d_Uni_init_35 : decode M_Uni_init.2.1 35 = .ok (.putfield 23, 3) := by decide +kernel
theorem d_Uni_init_38 : decode M_Uni_init.2.1 38 = .ok (.aload_n 0, 1) := by decide +kernel
theorem d_Uni_init_39 : decode M_Uni_init.2.1 39 = .ok (.bipush 10, 2) := by decide +kernel
theorem d_Uni_init_41 : decode M_Uni_init.2.1 41 = .ok (.newarray .int, 2) := by decide +kernel
theorem d_Uni_init_43 : decode M_Uni_init.2.1 43 = .ok (.putfield 27, 3) := by decide +kernel
theorem d_Uni_init_46 : decode M_Uni_init.2.1 46 = .ok (.aload_n 0, 1) := by decide +kernel
theorem d_Uni_init_47 : decode M_Uni_init.2.1 47 = .ok (.bipush 10, 2) := by decide +kernel
theorem d_Uni_init_49 : decode M_Uni_init.2.1 49 = .ok (.newarray .int, 2) := by decide +kernel
theorem d_Uni_init_51 : decode M_Uni_init.2.1 51 = .ok (.putfield 30, 3) := by decide +kernel
theorem d_Uni_init_54 : decode M_Uni_init.2.1 54 = .ok (.aload_n 0, 1) := by decide +kernel
theorem d_Uni_init_55 : decode M_Uni_init.2.1 55 = .ok (.bipush 10, 2) := by decide +kernel
theorem d_Uni_init_57 : decode M_Uni_init.2.1 57 = .ok (.anewarray 33, 3) := by decide +kernel
theorem d_Uni_init_60 : decode M_Uni_init.2.1 60 = .ok (.putfield 35, 3) := by decide +kernel
theorem d_Uni_init_63 : decode M_Uni_init.2.1 63 = .ok (.aload_n 0, 1) := by decide +kernel
theorem d_Uni_init_64 : decode M_Uni_init.2.1 64 = .ok (.iload_n 1, 1) := by decide +kernel
theorem d_Uni_init_65 : decode M_Uni_init.2.1 65 = .ok (.putfield 39, 3) := by decide +kernel
theorem d_Uni_init_68 : decode M_Uni_init.2.1 68 = .ok (.aload_n 0, 1) := by decide +kernel
theorem d_Uni_init_69 : decode M_Uni_init.2.1 69 = .ok (.iload_n 2, 1) := by decide +kernel
theorem d_Uni_init_70 : decode M_Uni_init.2.1 70 = .ok (.putfield 43, 3) := by decide +kernel
theorem d_Uni_init_73 : decode M_Uni_init.2.1 73 = .ok (.aload_n 0, 1) := by decide +kernel
theorem d_Uni_init_74 : decode M_Uni_init.2.1 74 = .ok (.iload_n 2, 1) := by decide +kernel
theorem d_Uni_init_75 : decode M_Uni_init.2.1 75 = .ok (.i2l, 1) := by decide +kernel
theorem d_Uni_init_76 : decode M_Uni_init.2.1 76 = .ok (.invokestatic 46, 3) := by decide +kernel
theorem d_Uni_init_79 : decode M_Uni_init.2.1 79 = .ok (.l2i, 1) := by decide +kernel
theorem d_Uni_init_80 : decode M_Uni_init.2.1 80 = .ok (.putfield 52, 3) := by decide +kernel
theorem d_Uni_init_83 : decode M_Uni_init.2.1 83 = .ok (.aload_n 0, 1) := by decide +kernel
theorem d_Uni_init_84 : decode M_Uni_init.2.1 84 = .ok (.aload_n 3, 1) := by decide +kernel
theorem d_Uni_init_85 : decode M_Uni_init.2.1 85 = .ok (.iload_n 2, 1) := by decide +kernel
theorem d_Uni_init_86 : decode M_Uni_init.2.1 86 = .ok (.invokevirtual 55, 3) := by decide +kernel
theorem d_Uni_init_89 : decode M_Uni_init.2.1 89 = .ok (.putfield 61, 3) := by decide +kernel
theorem d_Uni_init_92 : decode M_Uni_init.2.1 92 = .ok (.aload_n 0, 1) := by decide +kernel
theorem d_Uni_init_93 : decode M_Uni_init.2.1 93 = .ok (.getfield 61, 3) := by decide +kernel
theorem d_Uni_init_96 : decode M_Uni_init.2.1 96 = .ok (.iconst 2, 1) := by decide +kernel
theorem d_Uni_init_97 : decode M_Uni_init.2.1 97 = .ok (.irem, 1) := by decide +kernel
theorem d_Uni_init_98 : decode M_Uni_init.2.1 98 = .ok (.ifCond .ne 28, 3) := by decide +kernel
theorem d_Uni_init_101 : decode M_Uni_init.2.1 101 = .ok (.aload_n 0, 1) := by decide +kernel
theorem d_Uni_init_102 : decode M_Uni_init.2.1 102 = .ok (.getfield 16, 3) := by decide +kernel
theorem d_Uni_init_105 : decode M_Uni_init.2.1 105 = .ok (.aload_n 3, 1) := by decide +kernel
theorem d_Uni_init_106 : decode M_Uni_init.2.1 106 = .ok (.getfield 64, 3) := by decide +kernel
theorem d_Uni_init_109 : decode M_Uni_init.2.1 109 = .ok (.invokevirtual 67, 3) := by decide +kernel
theorem d_Uni_init_112 : decode M_Uni_init.2.1 112 = .ok (.aload_n 0, 1) := by decide +kernel
theorem d_Uni_init_113 : decode M_Uni_init.2.1 113 = .ok (.getfield 20, 3) := by decide +kernel
theorem d_Uni_init_116 : decode M_Uni_init.2.1 116 = .ok (.aload_n 3, 1) := by decide +kernel
theorem d_Uni_init_117 : decode M_Uni_init.2.1 117 = .ok (.getfield 71, 3) := by decide +kernel
theorem d_Uni_init_120 : decode M_Uni_init.2.1 120 = .ok (.invokevirtual 67, 3) := by decide +kernel
theorem d_Uni_init_123 : decode M_Uni_init.2.1 123 = .ok (.goto 75, 3) := by decide +kernel
theorem d_Uni_init_126 : decode M_Uni_init.2.1 126 = .ok (.aload_n 0, 1) := by decide +kernel
theorem d_Uni_init_127 : decode M_Uni_init.2.1 127 = .ok (.getfield 20, 3) := by decide +kernel
theorem d_Uni_init_130 : decode M_Uni_init.2.1 130 = .ok (.aload_n 3, 1) := by decide +kernel
theorem d_Uni_init_131 : decode M_Uni_init.2.1 131 = .ok (.getfield 71, 3) := by decide +kernel
theorem d_Uni_init_134 : decode M_Uni_init.2.1 134 = .ok (.aload_n 3, 1) := by decide +kernel
theorem d_Uni_init_135 : decode M_Uni_init.2.1 135 = .ok (.getfield 71, 3) := by decide +kernel
theorem d_Uni_init_138 : decode M_Uni_init.2.1 138 = .ok (.invokevirtual 74, 3) := by decide +kernel
theorem d_Uni_init_141 : decode M_Uni_init.2.1 141 = .ok (.aload_n 0, 1) := by decide +kernel
theorem d_Uni_init_142 : decode M_Uni_init.2.1 142 = .ok (.getfield 20, 3) := by decide +kernel
theorem d_Uni_init_145 : decode M_Uni_init.2.1 145 = .ok (.iload_n 2, 1) := by decide +kernel
theorem d_Uni_init_146 : decode M_Uni_init.2.1 146 = .ok (.invokevirtual 78, 3) := by decide +kernel
theorem d_Uni_init_149 : decode M_Uni_init.2.1 149 = .ok (.aload_n 0, 1) := by decide +kernel
theorem d_Uni_init_150 : decode M_Uni_init.2.1 150 = .ok (.getfield 16, 3) := by decide +kernel
theorem d_Uni_init_153 : decode M_Uni_init.2.1 153 = .ok (.aload_n 3, 1) := by decide +kernel
theorem d_Uni_init_154 : decode M_Uni_init.2.1 154 = .ok (.getfield 64, 3) := by decide +kernel
theorem d_Uni_init_157 : decode M_Uni_init.2.1 157 = .ok (.aload_n 3, 1) := by decide +kernel
theorem d_Uni_init_158 : decode M_Uni_init.2.1 158 = .ok (.getfield 64, 3) := by decide +kernel
theorem d_Uni_init_161 : decode M_Uni_init.2.1 161 = .ok (.invokevirtual 74, 3) := by decide +kernel
theorem d_Uni_init_164 : decode M_Uni_init.2.1 164 = .ok (.aload_n 0, 1) := by decide +kernel
theorem d_Uni_init_165 : decode M_Uni_init.2.1 165 = .ok (.getfield 16, 3) := by decide +kernel
theorem d_Uni_init_168 : decode M_Uni_init.2.1 168 = .ok (.aload_n 0, 1) := by decide +kernel
theorem d_Uni_init_169 : decode M_Uni_init.2.1 169 = .ok (.getfield 20, 3) := by decide +kernel
theorem d_Uni_init_172 : decode M_Uni_init.2.1 172 = .ok (.invokevirtual 81, 3) := by decide +kernel
theorem d_Uni_init_175 : decode M_Uni_init.2.1 175 = .ok (.aload_n 0, 1) := by decide +kernel
theorem d_Uni_init_176 : decode M_Uni_init.2.1 176 = .ok (.getfield 20, 3) := by decide +kernel
theorem d_Uni_init_179 : decode M_Uni_init.2.1 179 = .ok (.aload_n 3, 1) := by decide +kernel
theorem d_Uni_init_180 : decode M_Uni_init.2.1 180 = .ok (.getfield 64, 3) := by decide +kernel
theorem d_Uni_init_183 : decode M_Uni_init.2.1 183 = .ok (.aload_n 3, 1) := by decide +kernel
theorem d_Uni_init_184 : decode M_Uni_init.2.1 184 = .ok (.getfield 71, 3) := by decide +kernel
theorem d_Uni_init_187 : decode M_Uni_init.2.1 187 = .ok (.invokevirtual 74, 3) := by decide +kernel
theorem d_Uni_init_190 : decode M_Uni_init.2.1 190 = .ok (.aload_n 0, 1) := by decide +kernel
theorem d_Uni_init_191 : decode M_Uni_init.2.1 191 = .ok (.getfield 20, 3) := by decide +kernel
theorem d_Uni_init_194 : decode M_Uni_init.2.1 194 = .ok (.iconst 2, 1) := by decide +kernel
theorem d_Uni_init_195 : decode M_Uni_init.2.1 195 = .ok (.invokevirtual 78, 3) := by decide +kernel
theorem d_Uni_init_198 : decode M_Uni_init.2.1 198 = .ok (.return_, 1) := by decide +kernel
theorem d_Pri_rootOf_0 : decode M_Pri_rootOf.2.1 0 = .ok (.lconst 0, 1) := by decide +kernel
theorem d_Pri_rootOf_1 : decode M_Pri_rootOf.2.1 1 = .ok (.lstore_n 2, 1) := by decide +kernel
theorem d_Pri_rootOf_2 : decode M_Pri_rootOf.2.1 2 = .ok (.ldc2_w 39, 3) := by decide +kernel
theorem d_Pri_rootOf_5 : decode M_Pri_rootOf.2.1 5 = .ok (.lstore 4, 2) := by decide +kernel
theorem d_Pri_rootOf_7 : decode M_Pri_rootOf.2.1 7 = .ok (.lload 4, 2) := by decide +kernel
theorem d_Pri_rootOf_9 : decode M_Pri_rootOf.2.1 9 = .ok (.lconst 0, 1) := by decide +kernel
theorem d_Pri_rootOf_10 : decode M_Pri_rootOf.2.1 10 = .ok (.lcmp, 1) := by decide +kernel
theorem d_Pri_rootOf_11 : decode M_Pri_rootOf.2.1 11 = .ok (.ifCond .le 31, 3) := by decide +kernel
theorem d_Pri_rootOf_14 : decode M_Pri_rootOf.2.1 14 = .ok (.lload_n 2, 1) := by decide +kernel
theorem d_Pri_rootOf_15 : decode M_Pri_rootOf.2.1 15 = .ok (.lload 4, 2) := by decide +kernel
theorem d_Pri_rootOf_17 : decode M_Pri_rootOf.2.1 17 = .ok (.lor, 1) := by decide +kernel
theorem d_Pri_rootOf_18 : decode M_Pri_rootOf.2.1 18 = .ok (.lload_n 2, 1) := by decide +kernel
theorem d_Pri_rootOf_19 : decode M_Pri_rootOf.2.1 19 = .ok (.lload 4, 2) := by decide +kernel
theorem d_Pri_rootOf_21 : decode M_Pri_rootOf.2.1 21 = .ok (.lor, 1) := by decide +kernel
theorem d_Pri_rootOf_22 : decode M_Pri_rootOf.2.1 22 = .ok (.lmul, 1) := by decide +kernel
theorem d_Pri_rootOf_23 : decode M_Pri_rootOf.2.1 23 = .ok (.lload_n 0, 1) := by decide +kernel
theorem d_Pri_rootOf_24 : decode M_Pri_rootOf.2.1 24 = .ok (.lcmp, 1) := by decide +kernel
theorem d_Pri_rootOf_25 : decode M_Pri_rootOf.2.1 25 = .ok (.ifCond .gt 8, 3) := by decide +kernel
theorem d_Pri_rootOf_28 : decode M_Pri_rootOf.2.1 28 = .ok (.lload_n 2, 1) := by decide +kernel
theorem d_Pri_rootOf_29 : decode M_Pri_rootOf.2.1 29 = .ok (.lload 4, 2) := by decide +kernel
theorem d_Pri_rootOf_31 : decode M_Pri_rootOf.2.1 31 = .ok (.lor, 1) := by decide +kernel
theorem d_Pri_rootOf_32 : decode M_Pri_rootOf.2.1 32 = .ok (.lstore_n 2, 1) := by decide +kernel
theorem d_Pri_rootOf_33 : decode M_Pri_rootOf.2.1 33 = .ok (.lload 4, 2) := by decide +kernel
theorem d_Pri_rootOf_35 : decode M_Pri_rootOf.2.1 35 = .ok (.iconst 1, 1) := by decide +kernel
theorem d_Pri_rootOf_36 : decode M_Pri_rootOf.2.1 36 = .ok (.lshr, 1) := by decide +kernel
theorem d_Pri_rootOf_37 : decode M_Pri_rootOf.2.1 37 = .ok (.lstore 4, 2) := by decide +kernel
theorem d_Pri_rootOf_39 : decode M_Pri_rootOf.2.1 39 = .ok (.goto (-32), 3) := by decide +kernel
theorem d_Pri_rootOf_42 : decode M_Pri_rootOf.2.1 42 = .ok (.lload_n 2, 1) := by decide +kernel
theorem d_Pri_rootOf_43 : decode M_Pri_rootOf.2.1 43 = .ok (.lreturn, 1) := by decide +kernel
theorem d_Fra_walkRound_0 : decode M_Fra_walkRound.2.1 0 = .ok (.aload_n 0, 1) := by decide +kernel
theorem d_Fra_walkRound_1 : decode M_Fra_walkRound.2.1 1 = .ok (.iload_n 1, 1) := by decide +kernel
theorem d_Fra_walkRound_2 : decode M_Fra_walkRound.2.1 2 = .ok (.invokevirtual 51, 3) := by decide +kernel
theorem d_Fra_walkRound_5 : decode M_Fra_walkRound.2.1 5 = .ok (.aload_n 0, 1) := by decide +kernel
theorem d_Fra_walkRound_6 : decode M_Fra_walkRound.2.1 6 = .ok (.getfield 23, 3) := by decide +kernel
theorem d_Fra_walkRound_9 : decode M_Fra_walkRound.2.1 9 = .ok (.iconst 1, 1) := by decide +kernel
theorem d_Fra_walkRound_10 : decode M_Fra_walkRound.2.1 10 = .ok (.invokevirtual 58, 3) := by decide +kernel
theorem d_Fra_walkRound_13 : decode M_Fra_walkRound.2.1 13 = .ok (.aload_n 0, 1) := by decide +kernel
theorem d_Fra_walkRound_14 : decode M_Fra_walkRound.2.1 14 = .ok (.getfield 26, 3) := by decide +kernel
theorem d_Fra_walkRound_17 : decode M_Fra_walkRound.2.1 17 = .ok (.iconst 0, 1) := by decide +kernel
theorem d_Fra_walkRound_18 : decode M_Fra_walkRound.2.1 18 = .ok (.invokevirtual 58, 3) := by decide +kernel
theorem d_Fra_walkRound_21 : decode M_Fra_walkRound.2.1 21 = .ok (.aload_n 0, 1) := by decide +kernel
theorem d_Fra_walkRound_22 : decode M_Fra_walkRound.2.1 22 = .ok (.getfield 16, 3) := by decide +kernel
theorem d_Fra_walkRound_25 : decode M_Fra_walkRound.2.1 25 = .ok (.aload_n 0, 1) := by decide +kernel
theorem d_Fra_walkRound_26 : decode M_Fra_walkRound.2.1 26 = .ok (.getfield 39, 3) := by decide +kernel
theorem d_Fra_walkRound_29 : decode M_Fra_walkRound.2.1 29 = .ok (.invokevirtual 58, 3) := by decide +kernel
theorem d_Fra_walkRound_32 : decode M_Fra_walkRound.2.1 32 = .ok (.aload_n 0, 1) := by decide +kernel
theorem d_Fra_walkRound_33 : decode M_Fra_walkRound.2.1 33 = .ok (.getfield 20, 3) := by decide +kernel
theorem d_Fra_walkRound_36 : decode M_Fra_walkRound.2.1 36 = .ok (.iconst 1, 1) := by decide +kernel
theorem d_Fra_walkRound_37 : decode M_Fra_walkRound.2.1 37 = .ok (.invokevirtual 58, 3) := by decide +kernel
theorem d_Fra_walkRound_40 : decode M_Fra_walkRound.2.1 40 = .ok (.iconst 1, 1) := by decide +kernel
theorem d_Fra_walkRound_41 : decode M_Fra_walkRound.2.1 41 = .ok (.istore_n 2, 1) := by decide +kernel
theorem d_Fra_walkRound_42 : decode M_Fra_walkRound.2.1 42 = .ok (.iload_n 2, 1) := by decide +kernel
theorem d_Fra_walkRound_43 : decode M_Fra_walkRound.2.1 43 = .ok (.ldc 54, 2) := by decide +kernel
theorem d_Fra_walkRound_45 : decode M_Fra_walkRound.2.1 45 = .ok (.if_icmp .ge 53, 3) := by decide +kernel
theorem d_Fra_walkRound_48 : decode M_Fra_walkRound.2.1 48 = .ok (.aload_n 0, 1) := by decide +kernel
theorem d_Fra_walkRound_49 : decode M_Fra_walkRound.2.1 49 = .ok (.invokevirtual 55, 3) := by decide +kernel
theorem d_Fra_walkRound_52 : decode M_Fra_walkRound.2.1 52 = .ok (.aload_n 0, 1) := by decide +kernel
theorem d_Fra_walkRound_53 : decode M_Fra_walkRound.2.1 53 = .ok (.getfield 45, 3) := by decide +kernel
theorem d_Fra_walkRound_56 : decode M_Fra_walkRound.2.1 56 = .ok (.iconst 1, 1) := by decide +kernel
theorem d_Fra_walkRound_57 : decode M_Fra_walkRound.2.1 57 = .ok (.if_icmp .ne 5, 3) := by decide +kernel
theorem d_Fra_walkRound_60 : decode M_Fra_walkRound.2.1 60 = .ok (.iload_n 2, 1) := by decide +kernel
theorem d_Fra_walkRound_61 : decode M_Fra_walkRound.2.1 61 = .ok (.ireturn, 1) := by decide +kernel
theorem d_Fra_walkRound_62 : decode M_Fra_walkRound.2.1 62 = .ok (.aload_n 0, 1) := by decide +kernel
theorem d_Fra_walkRound_63 : decode M_Fra_walkRound.2.1 63 = .ok (.getfield 16, 3) := by decide +kernel
theorem d_Fra_walkRound_66 : decode M_Fra_walkRound.2.1 66 = .ok (.aload_n 0, 1) := by decide +kernel
theorem d_Fra_walkRound_67 : decode M_Fra_walkRound.2.1 67 = .ok (.getfield 48, 3) := by decide +kernel
theorem d_Fra_walkRound_70 : decode M_Fra_walkRound.2.1 70 = .ok (.aload_n 0, 1) := by decide +kernel
theorem d_Fra_walkRound_71 : decode M_Fra_walkRound.2.1 71 = .ok (.getfield 23, 3) := by decide +kernel
theorem d_Fra_walkRound_74 : decode M_Fra_walkRound.2.1 74 = .ok (.invokevirtual 61, 3) := by decide +kernel
theorem d_Fra_walkRound_77 : decode M_Fra_walkRound.2.1 77 = .ok (.aload_n 0, 1) := by decide +kernel
theorem d_Fra_walkRound_78 : decode M_Fra_walkRound.2.1 78 = .ok (.getfield 20, 3) := by decide +kernel
theorem d_Fra_walkRound_81 : decode M_Fra_walkRound.2.1 81 = .ok (.aload_n 0, 1) := by decide +kernel
theorem d_Fra_walkRound_82 : decode M_Fra_walkRound.2.1 82 = .ok (.getfield 48, 3) := by decide +kernel
theorem d_Fra_walkRound_85 : decode M_Fra_walkRound.2.1 85 = .ok (.aload_n 0, 1) := by decide +kernel
theorem d_Fra_walkRound_86 : decode M_Fra_walkRound.2.1 86 = .ok (.getfield 26, 3) := by decide +kernel
theorem d_Fra_walkRound_89 : decode M_Fra_walkRound.2.1 89 = .ok (.invokevirtual 61, 3) := by decide +kernel
theorem d_Fra_walkRound_92 : decode M_Fra_walkRound.2.1 92 = .ok (.iinc 2 1, 3) := by decide +kernel
theorem d_Fra_walkRound_95 : decode M_Fra_walkRound.2.1 95 = .ok (.goto (-53), 3) := by decide +kernel
theorem d_Fra_walkRound_98 : decode M_Fra_walkRound.2.1 98 = .ok (.iconst 1, 1) := by decide +kernel
theorem d_Fra_walkRound_99 : decode M_Fra_walkRound.2.1 99 = .ok (.ireturn, 1) := by decide +kernel
theorem d_Fra_begin_0 : decode M_Fra_begin.2.1 0 = .ok (.aload_n 0, 1) := by decide +kernel
theorem d_Fra_begin_1 : decode M_Fra_begin.2.1 1 = .ok (.iload_n 1, 1) := by decide +kernel
theorem d_Fra_begin_2 : decode M_Fra_begin.2.1 2 = .ok (.putfield 29, 3) := by decide +kernel
theorem d_Fra_begin_5 : decode M_Fra_begin.2.1 5 = .ok (.aload_n 0, 1) := by decide +kernel
theorem d_Fra_begin_6 : decode M_Fra_begin.2.1 6 = .ok (.iload_n 1, 1) := by decide +kernel
theorem d_Fra_begin_7 : decode M_Fra_begin.2.1 7 = .ok (.i2l, 1) := by decide +kernel
theorem d_Fra_begin_8 : decode M_Fra_begin.2.1 8 = .ok (.invokestatic 33, 3) := by decide +kernel
theorem d_Fra_begin_11 : decode M_Fra_begin.2.1 11 = .ok (.l2i, 1) := by decide +kernel
theorem d_Fra_begin_12 : decode M_Fra_begin.2.1 12 = .ok (.putfield 39, 3) := by decide +kernel
theorem d_Fra_begin_15 : decode M_Fra_begin.2.1 15 = .ok (.aload_n 0, 1) := by decide +kernel
theorem d_Fra_begin_16 : decode M_Fra_begin.2.1 16 = .ok (.iconst 0, 1) := by decide +kernel
theorem d_Fra_begin_17 : decode M_Fra_begin.2.1 17 = .ok (.putfield 42, 3) := by decide +kernel
theorem d_Fra_begin_20 : decode M_Fra_begin.2.1 20 = .ok (.aload_n 0, 1) := by decide +kernel
theorem d_Fra_begin_21 : decode M_Fra_begin.2.1 21 = .ok (.iconst 1, 1) := by decide +kernel
theorem d_Fra_begin_22 : decode M_Fra_begin.2.1 22 = .ok (.putfield 45, 3) := by decide +kernel
theorem d_Fra_begin_25 : decode M_Fra_begin.2.1 25 = .ok (.aload_n 0, 1) := by decide +kernel
theorem d_Fra_begin_26 : decode M_Fra_begin.2.1 26 = .ok (.aload_n 0, 1) := by decide +kernel
theorem d_Fra_begin_27 : decode M_Fra_begin.2.1 27 = .ok (.getfield 39, 3) := by decide +kernel
theorem d_Fra_begin_30 : decode M_Fra_begin.2.1 30 = .ok (.putfield 48, 3) := by decide +kernel
theorem d_Fra_begin_33 : decode M_Fra_begin.2.1 33 = .ok (.return_, 1) := by decide +kernel
theorem d_Big_setTo_0 : decode M_Big_setTo.2.1 0 = .ok (.aload_n 0, 1) := by decide +kernel
theorem d_Big_setTo_1 : decode M_Big_setTo.2.1 1 = .ok (.iload_n 1, 1) := by decide +kernel
theorem d_Big_setTo_2 : decode M_Big_setTo.2.1 2 = .ok (.ifCond .le 15, 3) := by decide +kernel
theorem d_Big_setTo_5 : decode M_Big_setTo.2.1 5 = .ok (.aload_n 0, 1) := by decide +kernel
theorem d_Big_setTo_6 : decode M_Big_setTo.2.1 6 = .ok (.getfield 9, 3) := by decide +kernel
theorem d_Big_setTo_9 : decode M_Big_setTo.2.1 9 = .ok (.arraylength, 1) := by decide +kernel
theorem d_Big_setTo_10 : decode M_Big_setTo.2.1 10 = .ok (.ifCond .le 7, 3) := by decide +kernel
theorem d_Big_setTo_13 : decode M_Big_setTo.2.1 13 = .ok (.iconst 1, 1) := by decide +kernel
theorem d_Big_setTo_14 : decode M_Big_setTo.2.1 14 = .ok (.goto 4, 3) := by decide +kernel
theorem d_Big_setTo_17 : decode M_Big_setTo.2.1 17 = .ok (.iconst 0, 1) := by decide +kernel
theorem d_Big_setTo_18 : decode M_Big_setTo.2.1 18 = .ok (.putfield 15, 3) := by decide +kernel
theorem d_Big_setTo_21 : decode M_Big_setTo.2.1 21 = .ok (.aload_n 0, 1) := by decide +kernel
theorem d_Big_setTo_22 : decode M_Big_setTo.2.1 22 = .ok (.getfield 15, 3) := by decide +kernel
theorem d_Big_setTo_25 : decode M_Big_setTo.2.1 25 = .ok (.iconst 1, 1) := by decide +kernel
theorem d_Big_setTo_26 : decode M_Big_setTo.2.1 26 = .ok (.if_icmp .ne 10, 3) := by decide +kernel
theorem d_Big_setTo_29 : decode M_Big_setTo.2.1 29 = .ok (.aload_n 0, 1) := by decide +kernel
theorem d_Big_setTo_30 : decode M_Big_setTo.2.1 30 = .ok (.getfield 9, 3) := by decide +kernel
theorem d_Big_setTo_33 : decode M_Big_setTo.2.1 33 = .ok (.iconst 0, 1) := by decide +kernel
theorem d_Big_setTo_34 : decode M_Big_setTo.2.1 34 = .ok (.iload_n 1, 1) := by decide +kernel
theorem d_Big_setTo_35 : decode M_Big_setTo.2.1 35 = .ok (.iastore, 1) := by decide +kernel
theorem d_Big_setTo_36 : decode M_Big_setTo.2.1 36 = .ok (.return_, 1) := by decide +kernel
theorem d_Fra_advance_0 : decode M_Fra_advance.2.1 0 = .ok (.aload_n 0, 1) := by decide +kernel
theorem d_Fra_advance_1 : decode M_Fra_advance.2.1 1 = .ok (.aload_n 0, 1) := by decide +kernel
theorem d_Fra_advance_2 : decode M_Fra_advance.2.1 2 = .ok (.getfield 45, 3) := by decide +kernel
theorem d_Fra_advance_5 : decode M_Fra_advance.2.1 5 = .ok (.aload_n 0, 1) := by decide +kernel
theorem d_Fra_advance_6 : decode M_Fra_advance.2.1 6 = .ok (.getfield 48, 3) := by decide +kernel
theorem d_Fra_advance_9 : decode M_Fra_advance.2.1 9 = .ok (.imul, 1) := by decide +kernel
theorem d_Fra_advance_10 : decode M_Fra_advance.2.1 10 = .ok (.aload_n 0, 1) := by decide +kernel
theorem d_Fra_advance_11 : decode M_Fra_advance.2.1 11 = .ok (.getfield 42, 3) := by decide +kernel
theorem d_Fra_advance_14 : decode M_Fra_advance.2.1 14 = .ok (.isub, 1) := by decide +kernel
theorem d_Fra_advance_15 : decode M_Fra_advance.2.1 15 = .ok (.putfield 42, 3) := by decide +kernel
theorem d_Fra_advance_18 : decode M_Fra_advance.2.1 18 = .ok (.aload_n 0, 1) := by decide +kernel
theorem d_Fra_advance_19 : decode M_Fra_advance.2.1 19 = .ok (.aload_n 0, 1) := by decide +kernel
theorem d_Fra_advance_20 : decode M_Fra_advance.2.1 20 = .ok (.getfield 45, 3) := by decide +kernel
theorem d_Fra_advance_23 : decode M_Fra_advance.2.1 23 = .ok (.ifCond .ne 7, 3) := by decide +kernel
theorem d_Fra_advance_26 : decode M_Fra_advance.2.1 26 = .ok (.iconst 0, 1) := by decide +kernel
theorem d_Fra_advance_27 : decode M_Fra_advance.2.1 27 = .ok (.goto 22, 3) := by decide +kernel
theorem d_Fra_advance_30 : decode M_Fra_advance.2.1 30 = .ok (.aload_n 0, 1) := by decide +kernel
theorem d_Fra_advance_31 : decode M_Fra_advance.2.1 31 = .ok (.getfield 29, 3) := by decide +kernel
theorem d_Fra_advance_34 : decode M_Fra_advance.2.1 34 = .ok (.aload_n 0, 1) := by decide +kernel
theorem d_Fra_advance_35 : decode M_Fra_advance.2.1 35 = .ok (.getfield 42, 3) := by decide +kernel
theorem d_Fra_advance_38 : decode M_Fra_advance.2.1 38 = .ok (.aload_n 0, 1) := by decide +kernel
theorem d_Fra_advance_39 : decode M_Fra_advance.2.1 39 = .ok (.getfield 42, 3) := by decide +kernel
theorem d_Fra_advance_42 : decode M_Fra_advance.2.1 42 = .ok (.imul, 1) := by decide +kernel
theorem d_Fra_advance_43 : decode M_Fra_advance.2.1 43 = .ok (.isub, 1) := by decide +kernel
theorem d_Fra_advance_44 : decode M_Fra_advance.2.1 44 = .ok (.aload_n 0, 1) := by decide +kernel
theorem d_Fra_advance_45 : decode M_Fra_advance.2.1 45 = .ok (.getfield 45, 3) := by decide +kernel
theorem d_Fra_advance_48 : decode M_Fra_advance.2.1 48 = .ok (.idiv, 1) := by decide +kernel
theorem d_Fra_advance_49 : decode M_Fra_advance.2.1 49 = .ok (.putfield 45, 3) := by decide +kernel
theorem d_Fra_advance_52 : decode M_Fra_advance.2.1 52 = .ok (.aload_n 0, 1) := by decide +kernel
theorem d_Fra_advance_53 : decode M_Fra_advance.2.1 53 = .ok (.aload_n 0, 1) := by decide +kernel
theorem d_Fra_advance_54 : decode M_Fra_advance.2.1 54 = .ok (.getfield 45, 3) := by decide +kernel
theorem d_Fra_advance_57 : decode M_Fra_advance.2.1 57 = .ok (.ifCond .ne 7, 3) := by decide +kernel
theorem d_Fra_advance_60 : decode M_Fra_advance.2.1 60 = .ok (.iconst 0, 1) := by decide +kernel
theorem d_Fra_advance_61 : decode M_Fra_advance.2.1 61 = .ok (.goto 17, 3) := by decide +kernel
theorem d_Fra_advance_64 : decode M_Fra_advance.2.1 64 = .ok (.aload_n 0, 1) := by decide +kernel
theorem d_Fra_advance_65 : decode M_Fra_advance.2.1 65 = .ok (.getfield 39, 3) := by decide +kernel
theorem d_Fra_advance_68 : decode M_Fra_advance.2.1 68 = .ok (.aload_n 0, 1) := by decide +kernel
theorem d_Fra_advance_69 : decode M_Fra_advance.2.1 69 = .ok (.getfield 42, 3) := by decide +kernel
theorem d_Fra_advance_72 : decode M_Fra_advance.2.1 72 = .ok (.iadd, 1) := by decide +kernel
theorem d_Fra_advance_73 : decode M_Fra_advance.2.1 73 = .ok (.aload_n 0, 1) := by decide +kernel
theorem d_Fra_advance_74 : decode M_Fra_advance.2.1 74 = .ok (.getfield 45, 3) := by decide +kernel
theorem d_Fra_advance_77 : decode M_Fra_advance.2.1 77 = .ok (.idiv, 1) := by decide +kernel
theorem d_Fra_advance_78 : decode M_Fra_advance.2.1 78 = .ok (.putfield 48, 3) := by decide +kernel
theorem d_Fra_advance_81 : decode M_Fra_advance.2.1 81 = .ok (.return_, 1) := by decide +kernel
theorem d_Big_follow_0 : decode M_Big_follow.2.1 0 = .ok (.aload_n 0, 1) := by decide +kernel
theorem d_Big_follow_1 : decode M_Big_follow.2.1 1 = .ok (.getfield 15, 3) := by decide +kernel
theorem d_Big_follow_4 : decode M_Big_follow.2.1 4 = .ok (.istore_n 3, 1) := by decide +kernel
theorem d_Big_follow_5 : decode M_Big_follow.2.1 5 = .ok (.lconst 0, 1) := by decide +kernel
theorem d_Big_follow_6 : decode M_Big_follow.2.1 6 = .ok (.lstore 4, 2) := by decide +kernel
theorem d_Big_follow_8 : decode M_Big_follow.2.1 8 = .ok (.iconst 0, 1) := by decide +kernel
theorem d_Big_follow_9 : decode M_Big_follow.2.1 9 = .ok (.istore 6, 2) := by decide +kernel
theorem d_Big_follow_11 : decode M_Big_follow.2.1 11 = .ok (.iload 6, 2) := by decide +kernel
theorem d_Big_follow_13 : decode M_Big_follow.2.1 13 = .ok (.aload_n 0, 1) := by decide +kernel
theorem d_Big_follow_14 : decode M_Big_follow.2.1 14 = .ok (.getfield 9, 3) := by decide +kernel
theorem d_Big_follow_17 : decode M_Big_follow.2.1 17 = .ok (.arraylength, 1) := by decide +kernel
theorem d_Big_follow_18 : decode M_Big_follow.2.1 18 = .ok (.if_icmp .ge 105, 3) := by decide +kernel
theorem d_Big_follow_21 : decode M_Big_follow.2.1 21 = .ok (.iload 6, 2) := by decide +kernel
theorem d_Big_follow_23 : decode M_Big_follow.2.1 23 = .ok (.aload_n 2, 1) := by decide +kernel
theorem d_Big_follow_24 : decode M_Big_follow.2.1 24 = .ok (.getfield 9, 3) := by decide +kernel
theorem d_Big_follow_27 : decode M_Big_follow.2.1 27 = .ok (.arraylength, 1) := by decide +kernel
theorem d_Big_follow_28 : decode M_Big_follow.2.1 28 = .ok (.if_icmp .ge 95, 3) := by decide +kernel
theorem d_Big_follow_31 : decode M_Big_follow.2.1 31 = .ok (.iload 6, 2) := by decide +kernel
theorem d_Big_follow_33 : decode M_Big_follow.2.1 33 = .ok (.iload_n 3, 1) := by decide +kernel
theorem d_Big_follow_34 : decode M_Big_follow.2.1 34 = .ok (.if_icmp .lt 10, 3) := by decide +kernel
theorem d_Big_follow_37 : decode M_Big_follow.2.1 37 = .ok (.lload 4, 2) := by decide +kernel
theorem d_Big_follow_39 : decode M_Big_follow.2.1 39 = .ok (.lconst 0, 1) := by decide +kernel
theorem d_Big_follow_40 : decode M_Big_follow.2.1 40 = .ok (.lcmp, 1) := by decide +kernel
theorem d_Big_follow_41 : decode M_Big_follow.2.1 41 = .ok (.ifCond .le 82, 3) := by decide +kernel
theorem d_Big_follow_44 : decode M_Big_follow.2.1 44 = .ok (.aload_n 0, 1) := by decide +kernel
theorem d_Big_follow_45 : decode M_Big_follow.2.1 45 = .ok (.iload 6, 2) := by decide +kernel
theorem d_Big_follow_47 : decode M_Big_follow.2.1 47 = .ok (.invokevirtual 25, 3) := by decide +kernel
theorem d_Big_follow_50 : decode M_Big_follow.2.1 50 = .ok (.istore 7, 2) := by decide +kernel
theorem d_Big_follow_52 : decode M_Big_follow.2.1 52 = .ok (.lload 4, 2) := by decide +kernel
theorem d_Big_follow_54 : decode M_Big_follow.2.1 54 = .ok (.iload 7, 2) := by decide +kernel
theorem d_Big_follow_56 : decode M_Big_follow.2.1 56 = .ok (.i2l, 1) := by decide +kernel
theorem d_Big_follow_57 : decode M_Big_follow.2.1 57 = .ok (.iload_n 1, 1) := by decide +kernel
theorem d_Big_follow_58 : decode M_Big_follow.2.1 58 = .ok (.i2l, 1) := by decide +kernel
theorem d_Big_follow_59 : decode M_Big_follow.2.1 59 = .ok (.lmul, 1) := by decide +kernel
theorem d_Big_follow_60 : decode M_Big_follow.2.1 60 = .ok (.ladd, 1) := by decide +kernel
theorem d_Big_follow_61 : decode M_Big_follow.2.1 61 = .ok (.aload_n 2, 1) := by decide +kernel
theorem d_Big_follow_62 : decode M_Big_follow.2.1 62 = .ok (.iload 6, 2) := by decide +kernel
theorem d_Big_follow_64 : decode M_Big_follow.2.1 64 = .ok (.invokevirtual 25, 3) := by decide +kernel
theorem d_Big_follow_67 : decode M_Big_follow.2.1 67 = .ok (.i2l, 1) := by decide +kernel
theorem d_Big_follow_68 : decode M_Big_follow.2.1 68 = .ok (.ladd, 1) := by decide +kernel
theorem d_Big_follow_69 : decode M_Big_follow.2.1 69 = .ok (.lstore 8, 2) := by decide +kernel
theorem d_Big_follow_71 : decode M_Big_follow.2.1 71 = .ok (.aload_n 2, 1) := by decide +kernel
theorem d_Big_follow_72 : decode M_Big_follow.2.1 72 = .ok (.getfield 9, 3) := by decide +kernel
theorem d_Big_follow_75 : decode M_Big_follow.2.1 75 = .ok (.iload 6, 2) := by decide +kernel
theorem d_Big_follow_77 : decode M_Big_follow.2.1 77 = .ok (.iload 7, 2) := by decide +kernel
theorem d_Big_follow_79 : decode M_Big_follow.2.1 79 = .ok (.iastore, 1) := by decide +kernel
theorem d_Big_follow_80 : decode M_Big_follow.2.1 80 = .ok (.aload_n 0, 1) := by decide +kernel
theorem d_Big_follow_81 : decode M_Big_follow.2.1 81 = .ok (.getfield 9, 3) := by decide +kernel
theorem d_Big_follow_84 : decode M_Big_follow.2.1 84 = .ok (.iload 6, 2) := by decide +kernel
theorem d_Big_follow_86 : decode M_Big_follow.2.1 86 = .ok (.lload 8, 2) := by decide +kernel
theorem d_Big_follow_88 : decode M_Big_follow.2.1 88 = .ok (.ldc2_w 29, 3) := by decide +kernel
theorem d_Big_follow_91 : decode M_Big_follow.2.1 91 = .ok (.lrem, 1) := by decide +kernel
theorem d_Big_follow_92 : decode M_Big_follow.2.1 92 = .ok (.l2i, 1) := by decide +kernel
theorem d_Big_follow_93 : decode M_Big_follow.2.1 93 = .ok (.iastore, 1) := by decide +kernel
theorem d_Big_follow_94 : decode M_Big_follow.2.1 94 = .ok (.lload 8, 2) := by decide +kernel
theorem d_Big_follow_96 : decode M_Big_follow.2.1 96 = .ok (.ldc2_w 29, 3) := by decide +kernel
theorem d_Big_follow_99 : decode M_Big_follow.2.1 99 = .ok (.ldiv, 1) := by decide +kernel
theorem d_Big_follow_100 : decode M_Big_follow.2.1 100 = .ok (.lstore 4, 2) := by decide +kernel
theorem d_Big_follow_102 : decode M_Big_follow.2.1 102 = .ok (.aload_n 0, 1) := by decide +kernel
theorem d_Big_follow_103 : decode M_Big_follow.2.1 103 = .ok (.aload_n 0, 1) := by decide +kernel
theorem d_Big_follow_104 : decode M_Big_follow.2.1 104 = .ok (.getfield 15, 3) := by decide +kernel
theorem d_Big_follow_107 : decode M_Big_follow.2.1 107 = .ok (.iload 6, 2) := by decide +kernel
theorem d_Big_follow_109 : decode M_Big_follow.2.1 109 = .ok (.iconst 1, 1) := by decide +kernel
theorem d_Big_follow_110 : decode M_Big_follow.2.1 110 = .ok (.iadd, 1) := by decide +kernel
theorem d_Big_follow_111 : decode M_Big_follow.2.1 111 = .ok (.invokestatic 31, 3) := by decide +kernel
theorem d_Big_follow_114 : decode M_Big_follow.2.1 114 = .ok (.putfield 15, 3) := by decide +kernel
theorem d_Big_follow_117 : decode M_Big_follow.2.1 117 = .ok (.iinc 6 1, 3) := by decide +kernel
theorem d_Big_follow_120 : decode M_Big_follow.2.1 120 = .ok (.goto (-109), 3) := by decide +kernel
theorem d_Big_follow_123 : decode M_Big_follow.2.1 123 = .ok (.aload_n 2, 1) := by decide +kernel
theorem d_Big_follow_124 : decode M_Big_follow.2.1 124 = .ok (.iload_n 3, 1) := by decide +kernel
theorem d_Big_follow_125 : decode M_Big_follow.2.1 125 = .ok (.aload_n 2, 1) := by decide +kernel
theorem d_Big_follow_126 : decode M_Big_follow.2.1 126 = .ok (.getfield 9, 3) := by decide +kernel
theorem d_Big_follow_129 : decode M_Big_follow.2.1 129 = .ok (.arraylength, 1) := by decide +kernel
theorem d_Big_follow_130 : decode M_Big_follow.2.1 130 = .ok (.invokestatic 19, 3) := by decide +kernel
theorem d_Big_follow_133 : decode M_Big_follow.2.1 133 = .ok (.putfield 15, 3) := by decide +kernel
theorem d_Big_follow_136 : decode M_Big_follow.2.1 136 = .ok (.return_, 1) := by decide +kernel
theorem d_Big_limbAt_0 : decode M_Big_limbAt.2.1 0 = .ok (.iload_n 1, 1) := by decide +kernel
theorem d_Big_limbAt_1 : decode M_Big_limbAt.2.1 1 = .ok (.ifCond .lt 29, 3) := by decide +kernel
theorem d_Big_limbAt_4 : decode M_Big_limbAt.2.1 4 = .ok (.iload_n 1, 1) := by decide +kernel
theorem d_Big_limbAt_5 : decode M_Big_limbAt.2.1 5 = .ok (.aload_n 0, 1) := by decide +kernel
theorem d_Big_limbAt_6 : decode M_Big_limbAt.2.1 6 = .ok (.getfield 15, 3) := by decide +kernel
theorem d_Big_limbAt_9 : decode M_Big_limbAt.2.1 9 = .ok (.if_icmp .ge 21, 3) := by decide +kernel
theorem d_Big_limbAt_12 : decode M_Big_limbAt.2.1 12 = .ok (.iload_n 1, 1) := by decide +kernel
theorem d_Big_limbAt_13 : decode M_Big_limbAt.2.1 13 = .ok (.aload_n 0, 1) := by decide +kernel
theorem d_Big_limbAt_14 : decode M_Big_limbAt.2.1 14 = .ok (.getfield 9, 3) := by decide +kernel
theorem d_Big_limbAt_17 : decode M_Big_limbAt.2.1 17 = .ok (.arraylength, 1) := by decide +kernel
theorem d_Big_limbAt_18 : decode M_Big_limbAt.2.1 18 = .ok (.if_icmp .ge 12, 3) := by decide +kernel
theorem d_Big_limbAt_21 : decode M_Big_limbAt.2.1 21 = .ok (.aload_n 0, 1) := by decide +kernel
theorem d_Big_limbAt_22 : decode M_Big_limbAt.2.1 22 = .ok (.getfield 9, 3) := by decide +kernel
theorem d_Big_limbAt_25 : decode M_Big_limbAt.2.1 25 = .ok (.iload_n 1, 1) := by decide +kernel
theorem d_Big_limbAt_26 : decode M_Big_limbAt.2.1 26 = .ok (.iaload, 1) := by decide +kernel
theorem d_Big_limbAt_27 : decode M_Big_limbAt.2.1 27 = .ok (.goto 4, 3) := by decide +kernel
theorem d_Big_limbAt_30 : decode M_Big_limbAt.2.1 30 = .ok (.iconst 0, 1) := by decide +kernel
theorem d_Big_limbAt_31 : decode M_Big_limbAt.2.1 31 = .ok (.ireturn, 1) := by decide +kernel
theorem d_JMath_max_0 : decode M_JMath_max.2.1 0 = .ok (.iload_n 0, 1) := by decide +kernel
theorem d_JMath_max_1 : decode M_JMath_max.2.1 1 = .ok (.iload_n 1, 1) := by decide +kernel
theorem d_JMath_max_2 : decode M_JMath_max.2.1 2 = .ok (.if_icmp .lt 7, 3) := by decide +kernel
theorem d_JMath_max_5 : decode M_JMath_max.2.1 5 = .ok (.iload_n 0, 1) := by decide +kernel
theorem d_JMath_max_6 : decode M_JMath_max.2.1 6 = .ok (.goto 4, 3) := by decide +kernel
theorem d_JMath_max_9 : decode M_JMath_max.2.1 9 = .ok (.iload_n 1, 1) := by decide +kernel
theorem d_JMath_max_10 : decode M_JMath_max.2.1 10 = .ok (.ireturn, 1) := by decide +kernel
theorem d_JMath_min_0 : decode M_JMath_min.2.1 0 = .ok (.iload_n 0, 1) := by decide +kernel
theorem d_JMath_min_1 : decode M_JMath_min.2.1 1 = .ok (.iload_n 1, 1) := by decide +kernel
theorem d_JMath_min_2 : decode M_JMath_min.2.1 2 = .ok (.if_icmp .gt 7, 3) := by decide +kernel
theorem d_JMath_min_5 : decode M_JMath_min.2.1 5 = .ok (.iload_n 0, 1) := by decide +kernel
theorem d_JMath_min_6 : decode M_JMath_min.2.1 6 = .ok (.goto 4, 3) := by decide +kernel
theorem d_JMath_min_9 : decode M_JMath_min.2.1 9 = .ok (.iload_n 1, 1) := by decide +kernel
theorem d_JMath_min_10 : decode M_JMath_min.2.1 10 = .ok (.ireturn, 1) := by decide +kernel
theorem d_Big_copy_0 : decode M_Big_copy.2.1 0 = .ok (.aload_n 0, 1) := by decide +kernel
theorem d_Big_copy_1 : decode M_Big_copy.2.1 1 = .ok (.aload_n 1, 1) := by decide +kernel
theorem d_Big_copy_2 : decode M_Big_copy.2.1 2 = .ok (.getfield 15, 3) := by decide +kernel
theorem d_Big_copy_5 : decode M_Big_copy.2.1 5 = .ok (.aload_n 0, 1) := by decide +kernel
theorem d_Big_copy_6 : decode M_Big_copy.2.1 6 = .ok (.getfield 9, 3) := by decide +kernel
theorem d_Big_copy_9 : decode M_Big_copy.2.1 9 = .ok (.arraylength, 1) := by decide +kernel
theorem d_Big_copy_10 : decode M_Big_copy.2.1 10 = .ok (.invokestatic 19, 3) := by decide +kernel
theorem d_Big_copy_13 : decode M_Big_copy.2.1 13 = .ok (.putfield 15, 3) := by decide +kernel
theorem d_Big_copy_16 : decode M_Big_copy.2.1 16 = .ok (.iconst 0, 1) := by decide +kernel
theorem d_Big_copy_17 : decode M_Big_copy.2.1 17 = .ok (.istore_n 2, 1) := by decide +kernel
theorem d_Big_copy_18 : decode M_Big_copy.2.1 18 = .ok (.iload_n 2, 1) := by decide +kernel
theorem d_Big_copy_19 : decode M_Big_copy.2.1 19 = .ok (.aload_n 0, 1) := by decide +kernel
theorem d_Big_copy_20 : decode M_Big_copy.2.1 20 = .ok (.getfield 15, 3) := by decide +kernel
theorem d_Big_copy_23 : decode M_Big_copy.2.1 23 = .ok (.if_icmp .ge 29, 3) := by decide +kernel
theorem d_Big_copy_26 : decode M_Big_copy.2.1 26 = .ok (.iload_n 2, 1) := by decide +kernel
theorem d_Big_copy_27 : decode M_Big_copy.2.1 27 = .ok (.aload_n 0, 1) := by decide +kernel
theorem d_Big_copy_28 : decode M_Big_copy.2.1 28 = .ok (.getfield 9, 3) := by decide +kernel
theorem d_Big_copy_31 : decode M_Big_copy.2.1 31 = .ok (.arraylength, 1) := by decide +kernel
theorem d_Big_copy_32 : decode M_Big_copy.2.1 32 = .ok (.if_icmp .ge 20, 3) := by decide +kernel
theorem d_Big_copy_35 : decode M_Big_copy.2.1 35 = .ok (.aload_n 0, 1) := by decide +kernel
theorem d_Big_copy_36 : decode M_Big_copy.2.1 36 = .ok (.getfield 9, 3) := by decide +kernel
theorem d_Big_copy_39 : decode M_Big_copy.2.1 39 = .ok (.iload_n 2, 1) := by decide +kernel
theorem d_Big_copy_40 : decode M_Big_copy.2.1 40 = .ok (.aload_n 1, 1) := by decide +kernel
theorem d_Big_copy_41 : decode M_Big_copy.2.1 41 = .ok (.iload_n 2, 1) := by decide +kernel
theorem d_Big_copy_42 : decode M_Big_copy.2.1 42 = .ok (.invokevirtual 25, 3) := by decide +kernel
theorem d_Big_copy_45 : decode M_Big_copy.2.1 45 = .ok (.iastore, 1) := by decide +kernel
theorem d_Big_copy_46 : decode M_Big_copy.2.1 46 = .ok (.iinc 2 1, 3) := by decide +kernel
theorem d_Big_copy_49 : decode M_Big_copy.2.1 49 = .ok (.goto (-31), 3) := by decide +kernel
theorem d_Big_copy_52 : decode M_Big_copy.2.1 52 = .ok (.return_, 1) := by decide +kernel
theorem d_Big_setProduct_0 : decode M_Big_setProduct.2.1 0 = .ok (.aload_n 0, 1) := by decide +kernel
theorem d_Big_setProduct_1 : decode M_Big_setProduct.2.1 1 = .ok (.aload_n 1, 1) := by decide +kernel
theorem d_Big_setProduct_2 : decode M_Big_setProduct.2.1 2 = .ok (.getfield 15, 3) := by decide +kernel
theorem d_Big_setProduct_5 : decode M_Big_setProduct.2.1 5 = .ok (.aload_n 2, 1) := by decide +kernel
theorem d_Big_setProduct_6 : decode M_Big_setProduct.2.1 6 = .ok (.getfield 15, 3) := by decide +kernel
theorem d_Big_setProduct_9 : decode M_Big_setProduct.2.1 9 = .ok (.iadd, 1) := by decide +kernel
theorem d_Big_setProduct_10 : decode M_Big_setProduct.2.1 10 = .ok (.aload_n 0, 1) := by decide +kernel
theorem d_Big_setProduct_11 : decode M_Big_setProduct.2.1 11 = .ok (.getfield 9, 3) := by decide +kernel
theorem d_Big_setProduct_14 : decode M_Big_setProduct.2.1 14 = .ok (.arraylength, 1) := by decide +kernel
theorem d_Big_setProduct_15 : decode M_Big_setProduct.2.1 15 = .ok (.invokestatic 19, 3) := by decide +kernel
theorem d_Big_setProduct_18 : decode M_Big_setProduct.2.1 18 = .ok (.putfield 15, 3) := by decide +kernel
theorem d_Big_setProduct_21 : decode M_Big_setProduct.2.1 21 = .ok (.aload_n 0, 1) := by decide +kernel
theorem d_Big_setProduct_22 : decode M_Big_setProduct.2.1 22 = .ok (.getfield 9, 3) := by decide +kernel
theorem d_Big_setProduct_25 : decode M_Big_setProduct.2.1 25 = .ok (.iconst 0, 1) := by decide +kernel
theorem d_Big_setProduct_26 : decode M_Big_setProduct.2.1 26 = .ok (.invokestatic 34, 3) := by decide +kernel
theorem d_Big_setProduct_29 : decode M_Big_setProduct.2.1 29 = .ok (.iconst 0, 1) := by decide +kernel
theorem d_Big_setProduct_30 : decode M_Big_setProduct.2.1 30 = .ok (.istore_n 3, 1) := by decide +kernel
theorem d_Big_setProduct_31 : decode M_Big_setProduct.2.1 31 = .ok (.iload_n 3, 1) := by decide +kernel
theorem d_Big_setProduct_32 : decode M_Big_setProduct.2.1 32 = .ok (.aload_n 1, 1) := by decide +kernel
theorem d_Big_setProduct_33 : decode M_Big_setProduct.2.1 33 = .ok (.getfield 15, 3) := by decide +kernel
theorem d_Big_setProduct_36 : decode M_Big_setProduct.2.1 36 = .ok (.if_icmp .ge 100, 3) := by decide +kernel
theorem d_Big_setProduct_39 : decode M_Big_setProduct.2.1 39 = .ok (.aload_n 1, 1) := by decide +kernel
theorem d_Big_setProduct_40 : decode M_Big_setProduct.2.1 40 = .ok (.iload_n 3, 1) := by decide +kernel
theorem d_Big_setProduct_41 : decode M_Big_setProduct.2.1 41 = .ok (.invokevirtual 25, 3) := by decide +kernel
theorem d_Big_setProduct_44 : decode M_Big_setProduct.2.1 44 = .ok (.i2l, 1) := by decide +kernel
theorem d_Big_setProduct_45 : decode M_Big_setProduct.2.1 45 = .ok (.lstore 4, 2) := by decide +kernel
theorem d_Big_setProduct_47 : decode M_Big_setProduct.2.1 47 = .ok (.lconst 0, 1) := by decide +kernel
theorem d_Big_setProduct_48 : decode M_Big_setProduct.2.1 48 = .ok (.lstore 6, 2) := by decide +kernel
theorem d_Big_setProduct_50 : decode M_Big_setProduct.2.1 50 = .ok (.iconst 0, 1) := by decide +kernel
theorem d_Big_setProduct_51 : decode M_Big_setProduct.2.1 51 = .ok (.istore 8, 2) := by decide +kernel
theorem d_Big_setProduct_53 : decode M_Big_setProduct.2.1 53 = .ok (.iload 8, 2) := by decide +kernel
theorem d_Big_setProduct_55 : decode M_Big_setProduct.2.1 55 = .ok (.aload_n 2, 1) := by decide +kernel
theorem d_Big_setProduct_56 : decode M_Big_setProduct.2.1 56 = .ok (.getfield 15, 3) := by decide +kernel
theorem d_Big_setProduct_59 : decode M_Big_setProduct.2.1 59 = .ok (.if_icmp .gt 71, 3) := by decide +kernel
theorem d_Big_setProduct_62 : decode M_Big_setProduct.2.1 62 = .ok (.iload_n 3, 1) := by decide +kernel
theorem d_Big_setProduct_63 : decode M_Big_setProduct.2.1 63 = .ok (.iload 8, 2) := by decide +kernel
theorem d_Big_setProduct_65 : decode M_Big_setProduct.2.1 65 = .ok (.iadd, 1) := by decide +kernel
theorem d_Big_setProduct_66 : decode M_Big_setProduct.2.1 66 = .ok (.aload_n 0, 1) := by decide +kernel
theorem d_Big_setProduct_67 : decode M_Big_setProduct.2.1 67 = .ok (.getfield 9, 3) := by decide +kernel
theorem d_Big_setProduct_70 : decode M_Big_setProduct.2.1 70 = .ok (.arraylength, 1) := by decide +kernel
theorem d_Big_setProduct_71 : decode M_Big_setProduct.2.1 71 = .ok (.if_icmp .ge 59, 3) := by decide +kernel
theorem d_Big_setProduct_74 : decode M_Big_setProduct.2.1 74 = .ok (.lload 4, 2) := by decide +kernel
theorem d_Big_setProduct_76 : decode M_Big_setProduct.2.1 76 = .ok (.aload_n 2, 1) := by decide +kernel
theorem d_Big_setProduct_77 : decode M_Big_setProduct.2.1 77 = .ok (.iload 8, 2) := by decide +kernel
theorem d_Big_setProduct_79 : decode M_Big_setProduct.2.1 79 = .ok (.invokevirtual 25, 3) := by decide +kernel
theorem d_Big_setProduct_82 : decode M_Big_setProduct.2.1 82 = .ok (.i2l, 1) := by decide +kernel
theorem d_Big_setProduct_83 : decode M_Big_setProduct.2.1 83 = .ok (.lmul, 1) := by decide +kernel
theorem d_Big_setProduct_84 : decode M_Big_setProduct.2.1 84 = .ok (.aload_n 0, 1) := by decide +kernel
theorem d_Big_setProduct_85 : decode M_Big_setProduct.2.1 85 = .ok (.getfield 9, 3) := by decide +kernel
theorem d_Big_setProduct_88 : decode M_Big_setProduct.2.1 88 = .ok (.iload_n 3, 1) := by decide +kernel
theorem d_Big_setProduct_89 : decode M_Big_setProduct.2.1 89 = .ok (.iload 8, 2) := by decide +kernel
theorem d_Big_setProduct_91 : decode M_Big_setProduct.2.1 91 = .ok (.iadd, 1) := by decide +kernel
theorem d_Big_setProduct_92 : decode M_Big_setProduct.2.1 92 = .ok (.iaload, 1) := by decide +kernel
theorem d_Big_setProduct_93 : decode M_Big_setProduct.2.1 93 = .ok (.i2l, 1) := by decide +kernel
theorem d_Big_setProduct_94 : decode M_Big_setProduct.2.1 94 = .ok (.ladd, 1) := by decide +kernel
theorem d_Big_setProduct_95 : decode M_Big_setProduct.2.1 95 = .ok (.lload 6, 2) := by decide +kernel
theorem d_Big_setProduct_97 : decode M_Big_setProduct.2.1 97 = .ok (.ladd, 1) := by decide +kernel
theorem d_Big_setProduct_98 : decode M_Big_setProduct.2.1 98 = .ok (.lstore 9, 2) := by decide +kernel
theorem d_Big_setProduct_100 : decode M_Big_setProduct.2.1 100 = .ok (.aload_n 0, 1) := by decide +kernel
theorem d_Big_setProduct_101 : decode M_Big_setProduct.2.1 101 = .ok (.getfield 9, 3) := by decide +kernel
theorem d_Big_setProduct_104 : decode M_Big_setProduct.2.1 104 = .ok (.iload_n 3, 1) := by decide +kernel
theorem d_Big_setProduct_105 : decode M_Big_setProduct.2.1 105 = .ok (.iload 8, 2) := by decide +kernel
theorem d_Big_setProduct_107 : decode M_Big_setProduct.2.1 107 = .ok (.iadd, 1) := by decide +kernel
theorem d_Big_setProduct_108 : decode M_Big_setProduct.2.1 108 = .ok (.lload 9, 2) := by decide +kernel
theorem d_Big_setProduct_110 : decode M_Big_setProduct.2.1 110 = .ok (.ldc2_w 29, 3) := by decide +kernel
theorem d_Big_setProduct_113 : decode M_Big_setProduct.2.1 113 = .ok (.lrem, 1) := by decide +kernel
theorem d_Big_setProduct_114 : decode M_Big_setProduct.2.1 114 = .ok (.l2i, 1) := by decide +kernel
theorem d_Big_setProduct_115 : decode M_Big_setProduct.2.1 115 = .ok (.iastore, 1) := by decide +kernel
theorem d_Big_setProduct_116 : decode M_Big_setProduct.2.1 116 = .ok (.lload 9, 2) := by decide +kernel
theorem d_Big_setProduct_118 : decode M_Big_setProduct.2.1 118 = .ok (.ldc2_w 29, 3) := by decide +kernel
theorem d_Big_setProduct_121 : decode M_Big_setProduct.2.1 121 = .ok (.ldiv, 1) := by decide +kernel
theorem d_Big_setProduct_122 : decode M_Big_setProduct.2.1 122 = .ok (.lstore 6, 2) := by decide +kernel
theorem d_Big_setProduct_124 : decode M_Big_setProduct.2.1 124 = .ok (.iinc 8 1, 3) := by decide +kernel
theorem d_Big_setProduct_127 : decode M_Big_setProduct.2.1 127 = .ok (.goto (-74), 3) := by decide +kernel
theorem d_Big_setProduct_130 : decode M_Big_setProduct.2.1 130 = .ok (.iinc 3 1, 3) := by decide +kernel
theorem d_Big_setProduct_133 : decode M_Big_setProduct.2.1 133 = .ok (.goto (-102), 3) := by decide +kernel
theorem d_Big_setProduct_136 : decode M_Big_setProduct.2.1 136 = .ok (.aload_n 0, 1) := by decide +kernel
theorem d_Big_setProduct_137 : decode M_Big_setProduct.2.1 137 = .ok (.invokevirtual 40, 3) := by decide +kernel
theorem d_Big_setProduct_140 : decode M_Big_setProduct.2.1 140 = .ok (.return_, 1) := by decide +kernel
theorem d_JArr_fill_0 : decode M_JArr_fill.2.1 0 = .ok (.iconst 0, 1) := by decide +kernel
theorem d_JArr_fill_1 : decode M_JArr_fill.2.1 1 = .ok (.istore_n 2, 1) := by decide +kernel
theorem d_JArr_fill_2 : decode M_JArr_fill.2.1 2 = .ok (.aload_n 0, 1) := by decide +kernel
theorem d_JArr_fill_3 : decode M_JArr_fill.2.1 3 = .ok (.arraylength, 1) := by decide +kernel
theorem d_JArr_fill_4 : decode M_JArr_fill.2.1 4 = .ok (.istore_n 3, 1) := by decide +kernel
theorem d_JArr_fill_5 : decode M_JArr_fill.2.1 5 = .ok (.iload_n 2, 1) := by decide +kernel
theorem d_JArr_fill_6 : decode M_JArr_fill.2.1 6 = .ok (.iload_n 3, 1) := by decide +kernel
theorem d_JArr_fill_7 : decode M_JArr_fill.2.1 7 = .ok (.if_icmp .ge 13, 3) := by decide +kernel
theorem d_JArr_fill_10 : decode M_JArr_fill.2.1 10 = .ok (.aload_n 0, 1) := by decide +kernel
theorem d_JArr_fill_11 : decode M_JArr_fill.2.1 11 = .ok (.iload_n 2, 1) := by decide +kernel
theorem d_JArr_fill_12 : decode M_JArr_fill.2.1 12 = .ok (.iload_n 1, 1) := by decide +kernel
theorem d_JArr_fill_13 : decode M_JArr_fill.2.1 13 = .ok (.iastore, 1) := by decide +kernel
theorem d_JArr_fill_14 : decode M_JArr_fill.2.1 14 = .ok (.iinc 2 1, 3) := by decide +kernel
theorem d_JArr_fill_17 : decode M_JArr_fill.2.1 17 = .ok (.goto (-12), 3) := by decide +kernel
theorem d_JArr_fill_20 : decode M_JArr_fill.2.1 20 = .ok (.return_, 1) := by decide +kernel
theorem d_Big_trim_0 : decode M_Big_trim.2.1 0 = .ok (.aload_n 0, 1) := by decide +kernel
theorem d_Big_trim_1 : decode M_Big_trim.2.1 1 = .ok (.getfield 15, 3) := by decide +kernel
theorem d_Big_trim_4 : decode M_Big_trim.2.1 4 = .ok (.aload_n 0, 1) := by decide +kernel
theorem d_Big_trim_5 : decode M_Big_trim.2.1 5 = .ok (.getfield 9, 3) := by decide +kernel
theorem d_Big_trim_8 : decode M_Big_trim.2.1 8 = .ok (.arraylength, 1) := by decide +kernel
theorem d_Big_trim_9 : decode M_Big_trim.2.1 9 = .ok (.invokestatic 19, 3) := by decide +kernel
theorem d_Big_trim_12 : decode M_Big_trim.2.1 12 = .ok (.iconst 1, 1) := by decide +kernel
theorem d_Big_trim_13 : decode M_Big_trim.2.1 13 = .ok (.isub, 1) := by decide +kernel
theorem d_Big_trim_14 : decode M_Big_trim.2.1 14 = .ok (.istore_n 1, 1) := by decide +kernel
theorem d_Big_trim_15 : decode M_Big_trim.2.1 15 = .ok (.iload_n 1, 1) := by decide +kernel
theorem d_Big_trim_16 : decode M_Big_trim.2.1 16 = .ok (.ifCond .lt 23, 3) := by decide +kernel
theorem d_Big_trim_19 : decode M_Big_trim.2.1 19 = .ok (.aload_n 0, 1) := by decide +kernel
theorem d_Big_trim_20 : decode M_Big_trim.2.1 20 = .ok (.getfield 9, 3) := by decide +kernel
theorem d_Big_trim_23 : decode M_Big_trim.2.1 23 = .ok (.iload_n 1, 1) := by decide +kernel
theorem d_Big_trim_24 : decode M_Big_trim.2.1 24 = .ok (.iaload, 1) := by decide +kernel
theorem d_Big_trim_25 : decode M_Big_trim.2.1 25 = .ok (.ifCond .ne 14, 3) := by decide +kernel
theorem d_Big_trim_28 : decode M_Big_trim.2.1 28 = .ok (.aload_n 0, 1) := by decide +kernel
theorem d_Big_trim_29 : decode M_Big_trim.2.1 29 = .ok (.iload_n 1, 1) := by decide +kernel
theorem d_Big_trim_30 : decode M_Big_trim.2.1 30 = .ok (.putfield 15, 3) := by decide +kernel
theorem d_Big_trim_33 : decode M_Big_trim.2.1 33 = .ok (.iinc 1 (-1), 3) := by decide +kernel
theorem d_Big_trim_36 : decode M_Big_trim.2.1 36 = .ok (.goto (-21), 3) := by decide +kernel
theorem d_Big_trim_39 : decode M_Big_trim.2.1 39 = .ok (.return_, 1) := by decide +kernel
theorem d_Big_multiply_0 : decode M_Big_multiply.2.1 0 = .ok (.lconst 0, 1) := by decide +kernel
theorem d_Big_multiply_1 : decode M_Big_multiply.2.1 1 = .ok (.lstore_n 2, 1) := by decide +kernel
theorem d_Big_multiply_2 : decode M_Big_multiply.2.1 2 = .ok (.iconst 0, 1) := by decide +kernel
theorem d_Big_multiply_3 : decode M_Big_multiply.2.1 3 = .ok (.istore 4, 2) := by decide +kernel
theorem d_Big_multiply_5 : decode M_Big_multiply.2.1 5 = .ok (.iload 4, 2) := by decide +kernel
theorem d_Big_multiply_7 : decode M_Big_multiply.2.1 7 = .ok (.aload_n 0, 1) := by decide +kernel
theorem d_Big_multiply_8 : decode M_Big_multiply.2.1 8 = .ok (.getfield 9, 3) := by decide +kernel
theorem d_Big_multiply_11 : decode M_Big_multiply.2.1 11 = .ok (.arraylength, 1) := by decide +kernel
theorem d_Big_multiply_12 : decode M_Big_multiply.2.1 12 = .ok (.if_icmp .ge 74, 3) := by decide +kernel
theorem d_Big_multiply_15 : decode M_Big_multiply.2.1 15 = .ok (.iload 4, 2) := by decide +kernel
theorem d_Big_multiply_17 : decode M_Big_multiply.2.1 17 = .ok (.aload_n 0, 1) := by decide +kernel
theorem d_Big_multiply_18 : decode M_Big_multiply.2.1 18 = .ok (.getfield 15, 3) := by decide +kernel
theorem d_Big_multiply_21 : decode M_Big_multiply.2.1 21 = .ok (.if_icmp .lt 9, 3) := by decide +kernel
theorem d_Big_multiply_24 : decode M_Big_multiply.2.1 24 = .ok (.lload_n 2, 1) := by decide +kernel
theorem d_Big_multiply_25 : decode M_Big_multiply.2.1 25 = .ok (.lconst 0, 1) := by decide +kernel
theorem d_Big_multiply_26 : decode M_Big_multiply.2.1 26 = .ok (.lcmp, 1) := by decide +kernel
theorem d_Big_multiply_27 : decode M_Big_multiply.2.1 27 = .ok (.ifCond .le 59, 3) := by decide +kernel
theorem d_Big_multiply_30 : decode M_Big_multiply.2.1 30 = .ok (.lload_n 2, 1) := by decide +kernel
theorem d_Big_multiply_31 : decode M_Big_multiply.2.1 31 = .ok (.aload_n 0, 1) := by decide +kernel
theorem d_Big_multiply_32 : decode M_Big_multiply.2.1 32 = .ok (.iload 4, 2) := by decide +kernel
theorem d_Big_multiply_34 : decode M_Big_multiply.2.1 34 = .ok (.invokevirtual 25, 3) := by decide +kernel
theorem d_Big_multiply_37 : decode M_Big_multiply.2.1 37 = .ok (.i2l, 1) := by decide +kernel
theorem d_Big_multiply_38 : decode M_Big_multiply.2.1 38 = .ok (.iload_n 1, 1) := by decide +kernel
theorem d_Big_multiply_39 : decode M_Big_multiply.2.1 39 = .ok (.i2l, 1) := by decide +kernel
theorem d_Big_multiply_40 : decode M_Big_multiply.2.1 40 = .ok (.lmul, 1) := by decide +kernel
theorem d_Big_multiply_41 : decode M_Big_multiply.2.1 41 = .ok (.ladd, 1) := by decide +kernel
theorem d_Big_multiply_42 : decode M_Big_multiply.2.1 42 = .ok (.lstore 5, 2) := by decide +kernel
theorem d_Big_multiply_44 : decode M_Big_multiply.2.1 44 = .ok (.aload_n 0, 1) := by decide +kernel
theorem d_Big_multiply_45 : decode M_Big_multiply.2.1 45 = .ok (.getfield 9, 3) := by decide +kernel
theorem d_Big_multiply_48 : decode M_Big_multiply.2.1 48 = .ok (.iload 4, 2) := by decide +kernel
theorem d_Big_multiply_50 : decode M_Big_multiply.2.1 50 = .ok (.lload 5, 2) := by decide +kernel
theorem d_Big_multiply_52 : decode M_Big_multiply.2.1 52 = .ok (.ldc2_w 29, 3) := by decide +kernel
theorem d_Big_multiply_55 : decode M_Big_multiply.2.1 55 = .ok (.lrem, 1) := by decide +kernel
theorem d_Big_multiply_56 : decode M_Big_multiply.2.1 56 = .ok (.l2i, 1) := by decide +kernel
theorem d_Big_multiply_57 : decode M_Big_multiply.2.1 57 = .ok (.iastore, 1) := by decide +kernel
theorem d_Big_multiply_58 : decode M_Big_multiply.2.1 58 = .ok (.lload 5, 2) := by decide +kernel
theorem d_Big_multiply_60 : decode M_Big_multiply.2.1 60 = .ok (.ldc2_w 29, 3) := by decide +kernel
theorem d_Big_multiply_63 : decode M_Big_multiply.2.1 63 = .ok (.ldiv, 1) := by decide +kernel
theorem d_Big_multiply_64 : decode M_Big_multiply.2.1 64 = .ok (.lstore_n 2, 1) := by decide +kernel
theorem d_Big_multiply_65 : decode M_Big_multiply.2.1 65 = .ok (.aload_n 0, 1) := by decide +kernel
theorem d_Big_multiply_66 : decode M_Big_multiply.2.1 66 = .ok (.aload_n 0, 1) := by decide +kernel
theorem d_Big_multiply_67 : decode M_Big_multiply.2.1 67 = .ok (.getfield 15, 3) := by decide +kernel
theorem d_Big_multiply_70 : decode M_Big_multiply.2.1 70 = .ok (.iload 4, 2) := by decide +kernel
theorem d_Big_multiply_72 : decode M_Big_multiply.2.1 72 = .ok (.iconst 1, 1) := by decide +kernel
theorem d_Big_multiply_73 : decode M_Big_multiply.2.1 73 = .ok (.iadd, 1) := by decide +kernel
theorem d_Big_multiply_74 : decode M_Big_multiply.2.1 74 = .ok (.invokestatic 31, 3) := by decide +kernel
theorem d_Big_multiply_77 : decode M_Big_multiply.2.1 77 = .ok (.putfield 15, 3) := by decide +kernel
theorem d_Big_multiply_80 : decode M_Big_multiply.2.1 80 = .ok (.iinc 4 1, 3) := by decide +kernel
theorem d_Big_multiply_83 : decode M_Big_multiply.2.1 83 = .ok (.goto (-78), 3) := by decide +kernel
theorem d_Big_multiply_86 : decode M_Big_multiply.2.1 86 = .ok (.return_, 1) := by decide +kernel
theorem d_Big_plus_0 : decode M_Big_plus.2.1 0 = .ok (.iconst 0, 1) := by decide +kernel
theorem d_Big_plus_1 : decode M_Big_plus.2.1 1 = .ok (.istore_n 2, 1) := by decide +kernel
theorem d_Big_plus_2 : decode M_Big_plus.2.1 2 = .ok (.iconst 0, 1) := by decide +kernel
theorem d_Big_plus_3 : decode M_Big_plus.2.1 3 = .ok (.istore_n 3, 1) := by decide +kernel
theorem d_Big_plus_4 : decode M_Big_plus.2.1 4 = .ok (.iload_n 3, 1) := by decide +kernel
theorem d_Big_plus_5 : decode M_Big_plus.2.1 5 = .ok (.aload_n 0, 1) := by decide +kernel
theorem d_Big_plus_6 : decode M_Big_plus.2.1 6 = .ok (.getfield 9, 3) := by decide +kernel
theorem d_Big_plus_9 : decode M_Big_plus.2.1 9 = .ok (.arraylength, 1) := by decide +kernel
theorem d_Big_plus_10 : decode M_Big_plus.2.1 10 = .ok (.if_icmp .ge 75, 3) := by decide +kernel
theorem d_Big_plus_13 : decode M_Big_plus.2.1 13 = .ok (.iload_n 3, 1) := by decide +kernel
theorem d_Big_plus_14 : decode M_Big_plus.2.1 14 = .ok (.aload_n 0, 1) := by decide +kernel
theorem d_Big_plus_15 : decode M_Big_plus.2.1 15 = .ok (.getfield 15, 3) := by decide +kernel
theorem d_Big_plus_18 : decode M_Big_plus.2.1 18 = .ok (.if_icmp .lt 15, 3) := by decide +kernel
theorem d_Big_plus_21 : decode M_Big_plus.2.1 21 = .ok (.iload_n 3, 1) := by decide +kernel
theorem d_Big_plus_22 : decode M_Big_plus.2.1 22 = .ok (.aload_n 1, 1) := by decide +kernel
theorem d_Big_plus_23 : decode M_Big_plus.2.1 23 = .ok (.getfield 15, 3) := by decide +kernel
theorem d_Big_plus_26 : decode M_Big_plus.2.1 26 = .ok (.if_icmp .lt 7, 3) := by decide +kernel
theorem d_Big_plus_29 : decode M_Big_plus.2.1 29 = .ok (.iload_n 2, 1) := by decide +kernel
theorem d_Big_plus_30 : decode M_Big_plus.2.1 30 = .ok (.ifCond .le 55, 3) := by decide +kernel
theorem d_Big_plus_33 : decode M_Big_plus.2.1 33 = .ok (.iload_n 2, 1) := by decide +kernel
theorem d_Big_plus_34 : decode M_Big_plus.2.1 34 = .ok (.aload_n 0, 1) := by decide +kernel
theorem d_Big_plus_35 : decode M_Big_plus.2.1 35 = .ok (.iload_n 3, 1) := by decide +kernel
theorem d_Big_plus_36 : decode M_Big_plus.2.1 36 = .ok (.invokevirtual 25, 3) := by decide +kernel
theorem d_Big_plus_39 : decode M_Big_plus.2.1 39 = .ok (.iadd, 1) := by decide +kernel
theorem d_Big_plus_40 : decode M_Big_plus.2.1 40 = .ok (.aload_n 1, 1) := by decide +kernel
theorem d_Big_plus_41 : decode M_Big_plus.2.1 41 = .ok (.iload_n 3, 1) := by decide +kernel
theorem d_Big_plus_42 : decode M_Big_plus.2.1 42 = .ok (.invokevirtual 25, 3) := by decide +kernel
theorem d_Big_plus_45 : decode M_Big_plus.2.1 45 = .ok (.iadd, 1) := by decide +kernel
theorem d_Big_plus_46 : decode M_Big_plus.2.1 46 = .ok (.istore 4, 2) := by decide +kernel
theorem d_Big_plus_48 : decode M_Big_plus.2.1 48 = .ok (.aload_n 0, 1) := by decide +kernel
theorem d_Big_plus_49 : decode M_Big_plus.2.1 49 = .ok (.getfield 9, 3) := by decide +kernel
theorem d_Big_plus_52 : decode M_Big_plus.2.1 52 = .ok (.iload_n 3, 1) := by decide +kernel
theorem d_Big_plus_53 : decode M_Big_plus.2.1 53 = .ok (.iload 4, 2) := by decide +kernel
theorem d_Big_plus_55 : decode M_Big_plus.2.1 55 = .ok (.ldc 43, 2) := by decide +kernel
theorem d_Big_plus_57 : decode M_Big_plus.2.1 57 = .ok (.irem, 1) := by decide +kernel
theorem d_Big_plus_58 : decode M_Big_plus.2.1 58 = .ok (.iastore, 1) := by decide +kernel
theorem d_Big_plus_59 : decode M_Big_plus.2.1 59 = .ok (.iload 4, 2) := by decide +kernel
theorem d_Big_plus_61 : decode M_Big_plus.2.1 61 = .ok (.ldc 43, 2) := by decide +kernel
theorem d_Big_plus_63 : decode M_Big_plus.2.1 63 = .ok (.idiv, 1) := by decide +kernel
theorem d_Big_plus_64 : decode M_Big_plus.2.1 64 = .ok (.istore_n 2, 1) := by decide +kernel
theorem d_Big_plus_65 : decode M_Big_plus.2.1 65 = .ok (.aload_n 0, 1) := by decide +kernel
theorem d_Big_plus_66 : decode M_Big_plus.2.1 66 = .ok (.aload_n 0, 1) := by decide +kernel
theorem d_Big_plus_67 : decode M_Big_plus.2.1 67 = .ok (.getfield 15, 3) := by decide +kernel
theorem d_Big_plus_70 : decode M_Big_plus.2.1 70 = .ok (.iload_n 3, 1) := by decide +kernel
theorem d_Big_plus_71 : decode M_Big_plus.2.1 71 = .ok (.iconst 1, 1) := by decide +kernel
theorem d_Big_plus_72 : decode M_Big_plus.2.1 72 = .ok (.iadd, 1) := by decide +kernel
theorem d_Big_plus_73 : decode M_Big_plus.2.1 73 = .ok (.invokestatic 31, 3) := by decide +kernel
theorem d_Big_plus_76 : decode M_Big_plus.2.1 76 = .ok (.putfield 15, 3) := by decide +kernel
theorem d_Big_plus_79 : decode M_Big_plus.2.1 79 = .ok (.iinc 3 1, 3) := by decide +kernel
theorem d_Big_plus_82 : decode M_Big_plus.2.1 82 = .ok (.goto (-78), 3) := by decide +kernel
theorem d_Big_plus_85 : decode M_Big_plus.2.1 85 = .ok (.return_, 1) := by decide +kernel
theorem d_Cou_init_0 : decode M_Cou_init.2.1 0 = .ok (.aload_n 0, 1) := by decide +kernel
theorem d_Cou_init_1 : decode M_Cou_init.2.1 1 = .ok (.invokespecial 1, 3) := by decide +kernel
theorem d_Cou_init_4 : decode M_Cou_init.2.1 4 = .ok (.aload_n 0, 1) := by decide +kernel
theorem d_Cou_init_5 : decode M_Cou_init.2.1 5 = .ok (.bipush 7, 2) := by decide +kernel
theorem d_Cou_init_7 : decode M_Cou_init.2.1 7 = .ok (.newarray .int, 2) := by decide +kernel
theorem d_Cou_init_9 : decode M_Cou_init.2.1 9 = .ok (.putfield 9, 3) := by decide +kernel
theorem d_Cou_init_12 : decode M_Cou_init.2.1 12 = .ok (.aload_n 0, 1) := by decide +kernel
theorem d_Cou_init_13 : decode M_Cou_init.2.1 13 = .ok (.bipush 7, 2) := by decide +kernel
theorem d_Cou_init_15 : decode M_Cou_init.2.1 15 = .ok (.newarray .int, 2) := by decide +kernel
theorem d_Cou_init_17 : decode M_Cou_init.2.1 17 = .ok (.putfield 15, 3) := by decide +kernel
theorem d_Cou_init_20 : decode M_Cou_init.2.1 20 = .ok (.aload_n 0, 1) := by decide +kernel
theorem d_Cou_init_21 : decode M_Cou_init.2.1 21 = .ok (.new 18, 3) := by decide +kernel
theorem d_Cou_init_24 : decode M_Cou_init.2.1 24 = .ok (.dup, 1) := by decide +kernel
theorem d_Cou_init_25 : decode M_Cou_init.2.1 25 = .ok (.aload_n 1, 1) := by decide +kernel
theorem d_Cou_init_26 : decode M_Cou_init.2.1 26 = .ok (.invokevirtual 20, 3) := by decide +kernel
theorem d_Cou_init_29 : decode M_Cou_init.2.1 29 = .ok (.invokespecial 24, 3) := by decide +kernel
theorem d_Cou_init_32 : decode M_Cou_init.2.1 32 = .ok (.putfield 27, 3) := by decide +kernel
theorem d_Cou_init_35 : decode M_Cou_init.2.1 35 = .ok (.aload_n 0, 1) := by decide +kernel
theorem d_Cou_init_36 : decode M_Cou_init.2.1 36 = .ok (.getfield 27, 3) := by decide +kernel
theorem d_Cou_init_39 : decode M_Cou_init.2.1 39 = .ok (.aload_n 1, 1) := by decide +kernel
theorem d_Cou_init_40 : decode M_Cou_init.2.1 40 = .ok (.invokevirtual 31, 3) := by decide +kernel
theorem d_Cou_init_43 : decode M_Cou_init.2.1 43 = .ok (.aload_n 0, 1) := by decide +kernel
theorem d_Cou_init_44 : decode M_Cou_init.2.1 44 = .ok (.iload_n 2, 1) := by decide +kernel
theorem d_Cou_init_45 : decode M_Cou_init.2.1 45 = .ok (.putfield 35, 3) := by decide +kernel
theorem d_Cou_init_48 : decode M_Cou_init.2.1 48 = .ok (.iconst 0, 1) := by decide +kernel
theorem d_Cou_init_49 : decode M_Cou_init.2.1 49 = .ok (.istore 5, 2) := by decide +kernel
theorem d_Cou_init_51 : decode M_Cou_init.2.1 51 = .ok (.iconst 0, 1) := by decide +kernel
theorem d_Cou_init_52 : decode M_Cou_init.2.1 52 = .ok (.istore 6, 2) := by decide +kernel
theorem d_Cou_init_54 : decode M_Cou_init.2.1 54 = .ok (.iload 6, 2) := by decide +kernel
theorem d_Cou_init_56 : decode M_Cou_init.2.1 56 = .ok (.bipush 7, 2) := by decide +kernel
theorem d_Cou_init_58 : decode M_Cou_init.2.1 58 = .ok (.if_icmp .ge 73, 3) := by decide +kernel
theorem d_Cou_init_61 : decode M_Cou_init.2.1 61 = .ok (.iload 6, 2) := by decide +kernel
theorem d_Cou_init_63 : decode M_Cou_init.2.1 63 = .ok (.aload_n 3, 1) := by decide +kernel
theorem d_Cou_init_64 : decode M_Cou_init.2.1 64 = .ok (.arraylength, 1) := by decide +kernel
theorem d_Cou_init_65 : decode M_Cou_init.2.1 65 = .ok (.if_icmp .ge 66, 3) := by decide +kernel
theorem d_Cou_init_68 : decode M_Cou_init.2.1 68 = .ok (.iload 6, 2) := by decide +kernel
theorem d_Cou_init_70 : decode M_Cou_init.2.1 70 = .ok (.aload 4, 2) := by decide +kernel
theorem d_Cou_init_72 : decode M_Cou_init.2.1 72 = .ok (.arraylength, 1) := by decide +kernel
theorem d_Cou_init_73 : decode M_Cou_init.2.1 73 = .ok (.if_icmp .ge 58, 3) := by decide +kernel
theorem d_Cou_init_76 : decode M_Cou_init.2.1 76 = .ok (.aload_n 0, 1) := by decide +kernel
theorem d_Cou_init_77 : decode M_Cou_init.2.1 77 = .ok (.getfield 9, 3) := by decide +kernel
theorem d_Cou_init_80 : decode M_Cou_init.2.1 80 = .ok (.iload 6, 2) := by decide +kernel
theorem d_Cou_init_82 : decode M_Cou_init.2.1 82 = .ok (.aload_n 3, 1) := by decide +kernel
theorem d_Cou_init_83 : decode M_Cou_init.2.1 83 = .ok (.iload 6, 2) := by decide +kernel
theorem d_Cou_init_85 : decode M_Cou_init.2.1 85 = .ok (.iaload, 1) := by decide +kernel
theorem d_Cou_init_86 : decode M_Cou_init.2.1 86 = .ok (.iastore, 1) := by decide +kernel
theorem d_Cou_init_87 : decode M_Cou_init.2.1 87 = .ok (.aload_n 0, 1) := by decide +kernel
theorem d_Cou_init_88 : decode M_Cou_init.2.1 88 = .ok (.getfield 15, 3) := by decide +kernel
theorem d_Cou_init_91 : decode M_Cou_init.2.1 91 = .ok (.iload 6, 2) := by decide +kernel
theorem d_Cou_init_93 : decode M_Cou_init.2.1 93 = .ok (.aload 4, 2) := by decide +kernel
theorem d_Cou_init_95 : decode M_Cou_init.2.1 95 = .ok (.iload 6, 2) := by decide +kernel
theorem d_Cou_init_97 : decode M_Cou_init.2.1 97 = .ok (.iaload, 1) := by decide +kernel
theorem d_Cou_init_98 : decode M_Cou_init.2.1 98 = .ok (.iastore, 1) := by decide +kernel
theorem d_Cou_init_99 : decode M_Cou_init.2.1 99 = .ok (.iload 5, 2) := by decide +kernel
theorem d_Cou_init_101 : decode M_Cou_init.2.1 101 = .ok (.aload_n 3, 1) := by decide +kernel
theorem d_Cou_init_102 : decode M_Cou_init.2.1 102 = .ok (.iload 6, 2) := by decide +kernel
theorem d_Cou_init_104 : decode M_Cou_init.2.1 104 = .ok (.iaload, 1) := by decide +kernel
theorem d_Cou_init_105 : decode M_Cou_init.2.1 105 = .ok (.aload 4, 2) := by decide +kernel
theorem d_Cou_init_107 : decode M_Cou_init.2.1 107 = .ok (.iload 6, 2) := by decide +kernel
theorem d_Cou_init_109 : decode M_Cou_init.2.1 109 = .ok (.iaload, 1) := by decide +kernel
theorem d_Cou_init_110 : decode M_Cou_init.2.1 110 = .ok (.iadd, 1) := by decide +kernel
theorem d_Cou_init_111 : decode M_Cou_init.2.1 111 = .ok (.ifCond .le 10, 3) := by decide +kernel
theorem d_Cou_init_114 : decode M_Cou_init.2.1 114 = .ok (.iconst 1, 1) := by decide +kernel
theorem d_Cou_init_115 : decode M_Cou_init.2.1 115 = .ok (.iload 6, 2) := by decide +kernel
theorem d_Cou_init_117 : decode M_Cou_init.2.1 117 = .ok (.ishl, 1) := by decide +kernel
theorem d_Cou_init_118 : decode M_Cou_init.2.1 118 = .ok (.goto 4, 3) := by decide +kernel
theorem d_Cou_init_121 : decode M_Cou_init.2.1 121 = .ok (.iconst 0, 1) := by decide +kernel
theorem d_Cou_init_122 : decode M_Cou_init.2.1 122 = .ok (.ior, 1) := by decide +kernel
theorem d_Cou_init_123 : decode M_Cou_init.2.1 123 = .ok (.istore 5, 2) := by decide +kernel
theorem d_Cou_init_125 : decode M_Cou_init.2.1 125 = .ok (.iinc 6 1, 3) := by decide +kernel
theorem d_Cou_init_128 : decode M_Cou_init.2.1 128 = .ok (.goto (-74), 3) := by decide +kernel
theorem d_Cou_init_131 : decode M_Cou_init.2.1 131 = .ok (.aload_n 0, 1) := by decide +kernel
theorem d_Cou_init_132 : decode M_Cou_init.2.1 132 = .ok (.iload 5, 2) := by decide +kernel
theorem d_Cou_init_134 : decode M_Cou_init.2.1 134 = .ok (.putfield 39, 3) := by decide +kernel
theorem d_Cou_init_137 : decode M_Cou_init.2.1 137 = .ok (.return_, 1) := by decide +kernel
theorem d_Big_limbCount_0 : decode M_Big_limbCount.2.1 0 = .ok (.aload_n 0, 1) := by decide +kernel
theorem d_Big_limbCount_1 : decode M_Big_limbCount.2.1 1 = .ok (.getfield 15, 3) := by decide +kernel
theorem d_Big_limbCount_4 : decode M_Big_limbCount.2.1 4 = .ok (.ireturn, 1) := by decide +kernel
theorem d_Pow_init_0 : decode M_Pow_init.2.1 0 = .ok (.aload_n 0, 1) := by decide +kernel
theorem d_Pow_init_1 : decode M_Pow_init.2.1 1 = .ok (.invokespecial 1, 3) := by decide +kernel
theorem d_Pow_init_4 : decode M_Pow_init.2.1 4 = .ok (.aload_n 0, 1) := by decide +kernel
theorem d_Pow_init_5 : decode M_Pow_init.2.1 5 = .ok (.new 7, 3) := by decide +kernel
theorem d_Pow_init_8 : decode M_Pow_init.2.1 8 = .ok (.dup, 1) := by decide +kernel
theorem d_Pow_init_9 : decode M_Pow_init.2.1 9 = .ok (.bipush 32, 2) := by decide +kernel
theorem d_Pow_init_11 : decode M_Pow_init.2.1 11 = .ok (.invokespecial 11, 3) := by decide +kernel
theorem d_Pow_init_14 : decode M_Pow_init.2.1 14 = .ok (.putfield 14, 3) := by decide +kernel
theorem d_Pow_init_17 : decode M_Pow_init.2.1 17 = .ok (.aload_n 0, 1) := by decide +kernel
theorem d_Pow_init_18 : decode M_Pow_init.2.1 18 = .ok (.new 7, 3) := by decide +kernel
theorem d_Pow_init_21 : decode M_Pow_init.2.1 21 = .ok (.dup, 1) := by decide +kernel
theorem d_Pow_init_22 : decode M_Pow_init.2.1 22 = .ok (.bipush 32, 2) := by decide +kernel
theorem d_Pow_init_24 : decode M_Pow_init.2.1 24 = .ok (.invokespecial 11, 3) := by decide +kernel
theorem d_Pow_init_27 : decode M_Pow_init.2.1 27 = .ok (.putfield 18, 3) := by decide +kernel
theorem d_Pow_init_30 : decode M_Pow_init.2.1 30 = .ok (.aload_n 0, 1) := by decide +kernel
theorem d_Pow_init_31 : decode M_Pow_init.2.1 31 = .ok (.new 7, 3) := by decide +kernel
theorem d_Pow_init_34 : decode M_Pow_init.2.1 34 = .ok (.dup, 1) := by decide +kernel
theorem d_Pow_init_35 : decode M_Pow_init.2.1 35 = .ok (.bipush 32, 2) := by decide +kernel
theorem d_Pow_init_37 : decode M_Pow_init.2.1 37 = .ok (.invokespecial 11, 3) := by decide +kernel
theorem d_Pow_init_40 : decode M_Pow_init.2.1 40 = .ok (.putfield 21, 3) := by decide +kernel
theorem d_Pow_init_43 : decode M_Pow_init.2.1 43 = .ok (.aload_n 0, 1) := by decide +kernel
theorem d_Pow_init_44 : decode M_Pow_init.2.1 44 = .ok (.new 7, 3) := by decide +kernel
theorem d_Pow_init_47 : decode M_Pow_init.2.1 47 = .ok (.dup, 1) := by decide +kernel
theorem d_Pow_init_48 : decode M_Pow_init.2.1 48 = .ok (.bipush 32, 2) := by decide +kernel
theorem d_Pow_init_50 : decode M_Pow_init.2.1 50 = .ok (.invokespecial 11, 3) := by decide +kernel
theorem d_Pow_init_53 : decode M_Pow_init.2.1 53 = .ok (.putfield 24, 3) := by decide +kernel
theorem d_Pow_init_56 : decode M_Pow_init.2.1 56 = .ok (.aload_n 0, 1) := by decide +kernel
theorem d_Pow_init_57 : decode M_Pow_init.2.1 57 = .ok (.new 7, 3) := by decide +kernel
theorem d_Pow_init_60 : decode M_Pow_init.2.1 60 = .ok (.dup, 1) := by decide +kernel
theorem d_Pow_init_61 : decode M_Pow_init.2.1 61 = .ok (.bipush 32, 2) := by decide +kernel
theorem d_Pow_init_63 : decode M_Pow_init.2.1 63 = .ok (.invokespecial 11, 3) := by decide +kernel
theorem d_Pow_init_66 : decode M_Pow_init.2.1 66 = .ok (.putfield 27, 3) := by decide +kernel
theorem d_Pow_init_69 : decode M_Pow_init.2.1 69 = .ok (.aload_n 0, 1) := by decide +kernel
theorem d_Pow_init_70 : decode M_Pow_init.2.1 70 = .ok (.bipush 7, 2) := by decide +kernel
theorem d_Pow_init_72 : decode M_Pow_init.2.1 72 = .ok (.newarray .int, 2) := by decide +kernel
theorem d_Pow_init_74 : decode M_Pow_init.2.1 74 = .ok (.putfield 32, 3) := by decide +kernel
theorem d_Pow_init_77 : decode M_Pow_init.2.1 77 = .ok (.aload_n 0, 1) := by decide +kernel
theorem d_Pow_init_78 : decode M_Pow_init.2.1 78 = .ok (.bipush 7, 2) := by decide +kernel
theorem d_Pow_init_80 : decode M_Pow_init.2.1 80 = .ok (.newarray .int, 2) := by decide +kernel
theorem d_Pow_init_82 : decode M_Pow_init.2.1 82 = .ok (.putfield 36, 3) := by decide +kernel
theorem d_Pow_init_85 : decode M_Pow_init.2.1 85 = .ok (.aload_n 0, 1) := by decide +kernel
theorem d_Pow_init_86 : decode M_Pow_init.2.1 86 = .ok (.iload_n 1, 1) := by decide +kernel
theorem d_Pow_init_87 : decode M_Pow_init.2.1 87 = .ok (.putfield 39, 3) := by decide +kernel
theorem d_Pow_init_90 : decode M_Pow_init.2.1 90 = .ok (.return_, 1) := by decide +kernel
theorem d_Smo_init_0 : decode M_Smo_init.2.1 0 = .ok (.aload_n 0, 1) := by decide +kernel
theorem d_Smo_init_1 : decode M_Smo_init.2.1 1 = .ok (.invokespecial 3, 3) := by decide +kernel
theorem d_Smo_init_4 : decode M_Smo_init.2.1 4 = .ok (.aload_n 0, 1) := by decide +kernel
theorem d_Smo_init_5 : decode M_Smo_init.2.1 5 = .ok (.sipush 1600, 3) := by decide +kernel
theorem d_Smo_init_8 : decode M_Smo_init.2.1 8 = .ok (.newarray .int, 2) := by decide +kernel
theorem d_Smo_init_10 : decode M_Smo_init.2.1 10 = .ok (.putfield 11, 3) := by decide +kernel
theorem d_Smo_init_13 : decode M_Smo_init.2.1 13 = .ok (.aload_n 0, 1) := by decide +kernel
theorem d_Smo_init_14 : decode M_Smo_init.2.1 14 = .ok (.sipush 1600, 3) := by decide +kernel
theorem d_Smo_init_17 : decode M_Smo_init.2.1 17 = .ok (.newarray .int, 2) := by decide +kernel
theorem d_Smo_init_19 : decode M_Smo_init.2.1 19 = .ok (.putfield 15, 3) := by decide +kernel
theorem d_Smo_init_22 : decode M_Smo_init.2.1 22 = .ok (.aload_n 0, 1) := by decide +kernel
theorem d_Smo_init_23 : decode M_Smo_init.2.1 23 = .ok (.bipush 7, 2) := by decide +kernel
theorem d_Smo_init_25 : decode M_Smo_init.2.1 25 = .ok (.newarray .int, 2) := by decide +kernel
theorem d_Smo_init_27 : decode M_Smo_init.2.1 27 = .ok (.putfield 20, 3) := by decide +kernel
theorem d_Smo_init_30 : decode M_Smo_init.2.1 30 = .ok (.aload_n 0, 1) := by decide +kernel
theorem d_Smo_init_31 : decode M_Smo_init.2.1 31 = .ok (.sipush 3001, 3) := by decide +kernel
theorem d_Smo_init_34 : decode M_Smo_init.2.1 34 = .ok (.newarray .int, 2) := by decide +kernel
theorem d_Smo_init_36 : decode M_Smo_init.2.1 36 = .ok (.putfield 23, 3) := by decide +kernel
theorem d_Smo_init_39 : decode M_Smo_init.2.1 39 = .ok (.aload_n 0, 1) := by decide +kernel
theorem d_Smo_init_40 : decode M_Smo_init.2.1 40 = .ok (.sipush 3001, 3) := by decide +kernel
theorem d_Smo_init_43 : decode M_Smo_init.2.1 43 = .ok (.newarray .int, 2) := by decide +kernel
theorem d_Smo_init_45 : decode M_Smo_init.2.1 45 = .ok (.putfield 26, 3) := by decide +kernel
theorem d_Smo_init_48 : decode M_Smo_init.2.1 48 = .ok (.aload_n 0, 1) := by decide +kernel
theorem d_Smo_init_49 : decode M_Smo_init.2.1 49 = .ok (.iconst (-1), 1) := by decide +kernel
theorem d_Smo_init_50 : decode M_Smo_init.2.1 50 = .ok (.putfield 29, 3) := by decide +kernel
theorem d_Smo_init_53 : decode M_Smo_init.2.1 53 = .ok (.return_, 1) := by decide +kernel
theorem d_Gre_init_0 : decode M_Gre_init.2.1 0 = .ok (.aload_n 0, 1) := by decide +kernel
theorem d_Gre_init_1 : decode M_Gre_init.2.1 1 = .ok (.invokespecial 3, 3) := by decide +kernel
theorem d_Gre_init_4 : decode M_Gre_init.2.1 4 = .ok (.aload_n 0, 1) := by decide +kernel
theorem d_Gre_init_5 : decode M_Gre_init.2.1 5 = .ok (.sipush 23258, 3) := by decide +kernel
theorem d_Gre_init_8 : decode M_Gre_init.2.1 8 = .ok (.newarray .int, 2) := by decide +kernel
theorem d_Gre_init_10 : decode M_Gre_init.2.1 10 = .ok (.putfield 11, 3) := by decide +kernel
theorem d_Gre_init_13 : decode M_Gre_init.2.1 13 = .ok (.aload_n 0, 1) := by decide +kernel
theorem d_Gre_init_14 : decode M_Gre_init.2.1 14 = .ok (.sipush 401, 3) := by decide +kernel
theorem d_Gre_init_17 : decode M_Gre_init.2.1 17 = .ok (.newarray .int, 2) := by decide +kernel
theorem d_Gre_init_19 : decode M_Gre_init.2.1 19 = .ok (.putfield 15, 3) := by decide +kernel
theorem d_Gre_init_22 : decode M_Gre_init.2.1 22 = .ok (.aload_n 0, 1) := by decide +kernel
theorem d_Gre_init_23 : decode M_Gre_init.2.1 23 = .ok (.bipush 7, 2) := by decide +kernel
theorem d_Gre_init_25 : decode M_Gre_init.2.1 25 = .ok (.newarray .int, 2) := by decide +kernel
theorem d_Gre_init_27 : decode M_Gre_init.2.1 27 = .ok (.putfield 20, 3) := by decide +kernel
theorem d_Gre_init_30 : decode M_Gre_init.2.1 30 = .ok (.aload_n 0, 1) := by decide +kernel
theorem d_Gre_init_31 : decode M_Gre_init.2.1 31 = .ok (.bipush 7, 2) := by decide +kernel
theorem d_Gre_init_33 : decode M_Gre_init.2.1 33 = .ok (.anewarray 23, 3) := by decide +kernel
theorem d_Gre_init_36 : decode M_Gre_init.2.1 36 = .ok (.putfield 25, 3) := by decide +kernel
theorem d_Gre_init_39 : decode M_Gre_init.2.1 39 = .ok (.aload_n 0, 1) := by decide +kernel
theorem d_Gre_init_40 : decode M_Gre_init.2.1 40 = .ok (.new 23, 3) := by decide +kernel
theorem d_Gre_init_43 : decode M_Gre_init.2.1 43 = .ok (.dup, 1) := by decide +kernel
theorem d_Gre_init_44 : decode M_Gre_init.2.1 44 = .ok (.bipush 58, 2) := by decide +kernel
theorem d_Gre_init_46 : decode M_Gre_init.2.1 46 = .ok (.invokespecial 29, 3) := by decide +kernel
theorem d_Gre_init_49 : decode M_Gre_init.2.1 49 = .ok (.putfield 32, 3) := by decide +kernel
theorem d_Gre_init_52 : decode M_Gre_init.2.1 52 = .ok (.aload_n 0, 1) := by decide +kernel
theorem d_Gre_init_53 : decode M_Gre_init.2.1 53 = .ok (.iconst (-1), 1) := by decide +kernel
theorem d_Gre_init_54 : decode M_Gre_init.2.1 54 = .ok (.putfield 36, 3) := by decide +kernel
theorem d_Gre_init_57 : decode M_Gre_init.2.1 57 = .ok (.iconst 0, 1) := by decide +kernel
theorem d_Gre_init_58 : decode M_Gre_init.2.1 58 = .ok (.istore_n 1, 1) := by decide +kernel
theorem d_Gre_init_59 : decode M_Gre_init.2.1 59 = .ok (.iload_n 1, 1) := by decide +kernel
theorem d_Gre_init_60 : decode M_Gre_init.2.1 60 = .ok (.aload_n 0, 1) := by decide +kernel
theorem d_Gre_init_61 : decode M_Gre_init.2.1 61 = .ok (.getfield 25, 3) := by decide +kernel
theorem d_Gre_init_64 : decode M_Gre_init.2.1 64 = .ok (.arraylength, 1) := by decide +kernel
theorem d_Gre_init_65 : decode M_Gre_init.2.1 65 = .ok (.if_icmp .ge 24, 3) := by decide +kernel
theorem d_Gre_init_68 : decode M_Gre_init.2.1 68 = .ok (.aload_n 0, 1) := by decide +kernel
theorem d_Gre_init_69 : decode M_Gre_init.2.1 69 = .ok (.getfield 25, 3) := by decide +kernel
theorem d_Gre_init_72 : decode M_Gre_init.2.1 72 = .ok (.iload_n 1, 1) := by decide +kernel
theorem d_Gre_init_73 : decode M_Gre_init.2.1 73 = .ok (.new 23, 3) := by decide +kernel
theorem d_Gre_init_76 : decode M_Gre_init.2.1 76 = .ok (.dup, 1) := by decide +kernel
theorem d_Gre_init_77 : decode M_Gre_init.2.1 77 = .ok (.bipush 58, 2) := by decide +kernel
theorem d_Gre_init_79 : decode M_Gre_init.2.1 79 = .ok (.invokespecial 29, 3) := by decide +kernel
theorem d_Gre_init_82 : decode M_Gre_init.2.1 82 = .ok (.aastore, 1) := by decide +kernel
theorem d_Gre_init_83 : decode M_Gre_init.2.1 83 = .ok (.iinc 1 1, 3) := by decide +kernel
theorem d_Gre_init_86 : decode M_Gre_init.2.1 86 = .ok (.goto (-27), 3) := by decide +kernel
theorem d_Gre_init_89 : decode M_Gre_init.2.1 89 = .ok (.return_, 1) := by decide +kernel
theorem d_Ran_init_0 : decode M_Ran_init.2.1 0 = .ok (.aload_n 0, 1) := by decide +kernel
theorem d_Ran_init_1 : decode M_Ran_init.2.1 1 = .ok (.invokespecial 3, 3) := by decide +kernel
theorem d_Ran_init_4 : decode M_Ran_init.2.1 4 = .ok (.aload_n 0, 1) := by decide +kernel
theorem d_Ran_init_5 : decode M_Ran_init.2.1 5 = .ok (.bipush 64, 2) := by decide +kernel
theorem d_Ran_init_7 : decode M_Ran_init.2.1 7 = .ok (.newarray .int, 2) := by decide +kernel
theorem d_Ran_init_9 : decode M_Ran_init.2.1 9 = .ok (.putfield 11, 3) := by decide +kernel
theorem d_Ran_init_12 : decode M_Ran_init.2.1 12 = .ok (.aload_n 0, 1) := by decide +kernel
theorem d_Ran_init_13 : decode M_Ran_init.2.1 13 = .ok (.bipush 64, 2) := by decide +kernel
theorem d_Ran_init_15 : decode M_Ran_init.2.1 15 = .ok (.newarray .int, 2) := by decide +kernel
theorem d_Ran_init_17 : decode M_Ran_init.2.1 17 = .ok (.putfield 15, 3) := by decide +kernel
theorem d_Ran_init_20 : decode M_Ran_init.2.1 20 = .ok (.aload_n 0, 1) := by decide +kernel
theorem d_Ran_init_21 : decode M_Ran_init.2.1 21 = .ok (.bipush 64, 2) := by decide +kernel
theorem d_Ran_init_23 : decode M_Ran_init.2.1 23 = .ok (.newarray .int, 2) := by decide +kernel
theorem d_Ran_init_25 : decode M_Ran_init.2.1 25 = .ok (.putfield 18, 3) := by decide +kernel
theorem d_Ran_init_28 : decode M_Ran_init.2.1 28 = .ok (.aload_n 0, 1) := by decide +kernel
theorem d_Ran_init_29 : decode M_Ran_init.2.1 29 = .ok (.bipush 49, 2) := by decide +kernel
theorem d_Ran_init_31 : decode M_Ran_init.2.1 31 = .ok (.newarray .int, 2) := by decide +kernel
theorem d_Ran_init_33 : decode M_Ran_init.2.1 33 = .ok (.putfield 23, 3) := by decide +kernel
theorem d_Ran_init_36 : decode M_Ran_init.2.1 36 = .ok (.aload_n 0, 1) := by decide +kernel
theorem d_Ran_init_37 : decode M_Ran_init.2.1 37 = .ok (.bipush 7, 2) := by decide +kernel
theorem d_Ran_init_39 : decode M_Ran_init.2.1 39 = .ok (.newarray .int, 2) := by decide +kernel
theorem d_Ran_init_41 : decode M_Ran_init.2.1 41 = .ok (.putfield 26, 3) := by decide +kernel
theorem d_Ran_init_44 : decode M_Ran_init.2.1 44 = .ok (.return_, 1) := by decide +kernel
theorem d_Tex_init_0 : decode M_Tex_init.2.1 0 = .ok (.aload_n 0, 1) := by decide +kernel
theorem d_Tex_init_1 : decode M_Tex_init.2.1 1 = .ok (.invokespecial 3, 3) := by decide +kernel
theorem d_Tex_init_4 : decode M_Tex_init.2.1 4 = .ok (.aload_n 0, 1) := by decide +kernel
theorem d_Tex_init_5 : decode M_Tex_init.2.1 5 = .ok (.iload_n 1, 1) := by decide +kernel
theorem d_Tex_init_6 : decode M_Tex_init.2.1 6 = .ok (.ifCond .le 7, 3) := by decide +kernel
theorem d_Tex_init_9 : decode M_Tex_init.2.1 9 = .ok (.iload_n 1, 1) := by decide +kernel
theorem d_Tex_init_10 : decode M_Tex_init.2.1 10 = .ok (.goto 4, 3) := by decide +kernel
theorem d_Tex_init_13 : decode M_Tex_init.2.1 13 = .ok (.iconst 1, 1) := by decide +kernel
theorem d_Tex_init_14 : decode M_Tex_init.2.1 14 = .ok (.newarray .byte, 2) := by decide +kernel
theorem d_Tex_init_16 : decode M_Tex_init.2.1 16 = .ok (.putfield 9, 3) := by decide +kernel
theorem d_Tex_init_19 : decode M_Tex_init.2.1 19 = .ok (.return_, 1) := by decide +kernel
theorem d_Sea_fill_0 : decode M_Sea_fill.2.1 0 = .ok (.aload_n 0, 1) := by decide +kernel
theorem d_Sea_fill_1 : decode M_Sea_fill.2.1 1 = .ok (.getfield 56, 3) := by decide +kernel
theorem d_Sea_fill_4 : decode M_Sea_fill.2.1 4 = .ok (.iload_n 1, 1) := by decide +kernel
theorem d_Sea_fill_5 : decode M_Sea_fill.2.1 5 = .ok (.if_icmp .ne 5, 3) := by decide +kernel
theorem d_Sea_fill_8 : decode M_Sea_fill.2.1 8 = .ok (.aload_n 0, 1) := by decide +kernel
theorem d_Sea_fill_9 : decode M_Sea_fill.2.1 9 = .ok (.areturn, 1) := by decide +kernel
theorem d_Sea_fill_10 : decode M_Sea_fill.2.1 10 = .ok (.aload_n 0, 1) := by decide +kernel
theorem d_Sea_fill_11 : decode M_Sea_fill.2.1 11 = .ok (.iload_n 1, 1) := by decide +kernel
theorem d_Sea_fill_12 : decode M_Sea_fill.2.1 12 = .ok (.putfield 56, 3) := by decide +kernel
theorem d_Sea_fill_15 : decode M_Sea_fill.2.1 15 = .ok (.aload_n 0, 1) := by decide +kernel
theorem d_Sea_fill_16 : decode M_Sea_fill.2.1 16 = .ok (.iload_n 1, 1) := by decide +kernel
theorem d_Sea_fill_17 : decode M_Sea_fill.2.1 17 = .ok (.invokestatic 70, 3) := by decide +kernel
theorem d_Sea_fill_20 : decode M_Sea_fill.2.1 20 = .ok (.putfield 76, 3) := by decide +kernel
theorem d_Sea_fill_23 : decode M_Sea_fill.2.1 23 = .ok (.aload_n 0, 1) := by decide +kernel
theorem d_Sea_fill_24 : decode M_Sea_fill.2.1 24 = .ok (.iconst 0, 1) := by decide +kernel
theorem d_Sea_fill_25 : decode M_Sea_fill.2.1 25 = .ok (.putfield 79, 3) := by decide +kernel
theorem d_Sea_fill_28 : decode M_Sea_fill.2.1 28 = .ok (.aload_n 0, 1) := by decide +kernel
theorem d_Sea_fill_29 : decode M_Sea_fill.2.1 29 = .ok (.iconst 0, 1) := by decide +kernel
theorem d_Sea_fill_30 : decode M_Sea_fill.2.1 30 = .ok (.putfield 82, 3) := by decide +kernel
theorem d_Sea_fill_33 : decode M_Sea_fill.2.1 33 = .ok (.iconst 0, 1) := by decide +kernel
theorem d_Sea_fill_34 : decode M_Sea_fill.2.1 34 = .ok (.istore_n 2, 1) := by decide +kernel
theorem d_Sea_fill_35 : decode M_Sea_fill.2.1 35 = .ok (.iload_n 2, 1) := by decide +kernel
theorem d_Sea_fill_36 : decode M_Sea_fill.2.1 36 = .ok (.sipush 128, 3) := by decide +kernel
theorem d_Sea_fill_39 : decode M_Sea_fill.2.1 39 = .ok (.if_icmp .ge 27, 3) := by decide +kernel
theorem d_Sea_fill_42 : decode M_Sea_fill.2.1 42 = .ok (.aload_n 0, 1) := by decide +kernel
theorem d_Sea_fill_43 : decode M_Sea_fill.2.1 43 = .ok (.iload_n 2, 1) := by decide +kernel
theorem d_Sea_fill_44 : decode M_Sea_fill.2.1 44 = .ok (.iload_n 1, 1) := by decide +kernel
theorem d_Sea_fill_45 : decode M_Sea_fill.2.1 45 = .ok (.invokevirtual 85, 3) := by decide +kernel
theorem d_Sea_fill_48 : decode M_Sea_fill.2.1 48 = .ok (.ifCond .eq 12, 3) := by decide +kernel
theorem d_Sea_fill_51 : decode M_Sea_fill.2.1 51 = .ok (.aload_n 0, 1) := by decide +kernel
theorem d_Sea_fill_52 : decode M_Sea_fill.2.1 52 = .ok (.aload_n 0, 1) := by decide +kernel
theorem d_Sea_fill_53 : decode M_Sea_fill.2.1 53 = .ok (.iload_n 2, 1) := by decide +kernel
theorem d_Sea_fill_54 : decode M_Sea_fill.2.1 54 = .ok (.invokevirtual 89, 3) := by decide +kernel
theorem d_Sea_fill_57 : decode M_Sea_fill.2.1 57 = .ok (.invokevirtual 93, 3) := by decide +kernel
theorem d_Sea_fill_60 : decode M_Sea_fill.2.1 60 = .ok (.iinc 2 1, 3) := by decide +kernel
theorem d_Sea_fill_63 : decode M_Sea_fill.2.1 63 = .ok (.goto (-28), 3) := by decide +kernel
theorem d_Sea_fill_66 : decode M_Sea_fill.2.1 66 = .ok (.iconst 0, 1) := by decide +kernel
theorem d_Sea_fill_67 : decode M_Sea_fill.2.1 67 = .ok (.istore_n 2, 1) := by decide +kernel
theorem d_Sea_fill_68 : decode M_Sea_fill.2.1 68 = .ok (.iload_n 2, 1) := by decide +kernel
theorem d_Sea_fill_69 : decode M_Sea_fill.2.1 69 = .ok (.aload_n 0, 1) := by decide +kernel
theorem d_Sea_fill_70 : decode M_Sea_fill.2.1 70 = .ok (.getfield 79, 3) := by decide +kernel
theorem d_Sea_fill_73 : decode M_Sea_fill.2.1 73 = .ok (.if_icmp .ge 40, 3) := by decide +kernel
theorem d_Sea_fill_76 : decode M_Sea_fill.2.1 76 = .ok (.iconst 1, 1) := by decide +kernel
theorem d_Sea_fill_77 : decode M_Sea_fill.2.1 77 = .ok (.istore_n 3, 1) := by decide +kernel
theorem d_Sea_fill_78 : decode M_Sea_fill.2.1 78 = .ok (.iload_n 3, 1) := by decide +kernel
theorem d_Sea_fill_79 : decode M_Sea_fill.2.1 79 = .ok (.aload_n 0, 1) := by decide +kernel
theorem d_Sea_fill_80 : decode M_Sea_fill.2.1 80 = .ok (.getfield 76, 3) := by decide +kernel
theorem d_Sea_fill_83 : decode M_Sea_fill.2.1 83 = .ok (.if_icmp .gt 24, 3) := by decide +kernel
theorem d_Sea_fill_86 : decode M_Sea_fill.2.1 86 = .ok (.aload_n 0, 1) := by decide +kernel
theorem d_Sea_fill_87 : decode M_Sea_fill.2.1 87 = .ok (.aload_n 0, 1) := by decide +kernel
theorem d_Sea_fill_88 : decode M_Sea_fill.2.1 88 = .ok (.iload_n 2, 1) := by decide +kernel
theorem d_Sea_fill_89 : decode M_Sea_fill.2.1 89 = .ok (.invokevirtual 97, 3) := by decide +kernel
theorem d_Sea_fill_92 : decode M_Sea_fill.2.1 92 = .ok (.iload_n 3, 1) := by decide +kernel
theorem d_Sea_fill_93 : decode M_Sea_fill.2.1 93 = .ok (.iload_n 1, 1) := by decide +kernel
theorem d_Sea_fill_94 : decode M_Sea_fill.2.1 94 = .ok (.invokevirtual 100, 3) := by decide +kernel
theorem d_Sea_fill_97 : decode M_Sea_fill.2.1 97 = .ok (.iload_n 2, 1) := by decide +kernel
theorem d_Sea_fill_98 : decode M_Sea_fill.2.1 98 = .ok (.invokevirtual 104, 3) := by decide +kernel
theorem d_Sea_fill_101 : decode M_Sea_fill.2.1 101 = .ok (.iinc 3 1, 3) := by decide +kernel
theorem d_Sea_fill_104 : decode M_Sea_fill.2.1 104 = .ok (.goto (-26), 3) := by decide +kernel
theorem d_Sea_fill_107 : decode M_Sea_fill.2.1 107 = .ok (.iinc 2 1, 3) := by decide +kernel
theorem d_Sea_fill_110 : decode M_Sea_fill.2.1 110 = .ok (.goto (-42), 3) := by decide +kernel
theorem d_Sea_fill_113 : decode M_Sea_fill.2.1 113 = .ok (.aload_n 0, 1) := by decide +kernel
theorem d_Sea_fill_114 : decode M_Sea_fill.2.1 114 = .ok (.areturn, 1) := by decide +kernel
theorem d_Pri_boundOf_0 : decode M_Pri_boundOf.2.1 0 = .ok (.iconst 3, 1) := by decide +kernel
theorem d_Pri_boundOf_1 : decode M_Pri_boundOf.2.1 1 = .ok (.iload_n 0, 1) := by decide +kernel
theorem d_Pri_boundOf_2 : decode M_Pri_boundOf.2.1 2 = .ok (.invokestatic 25, 3) := by decide +kernel
theorem d_Pri_boundOf_5 : decode M_Pri_boundOf.2.1 5 = .ok (.iconst 1, 1) := by decide +kernel
theorem d_Pri_boundOf_6 : decode M_Pri_boundOf.2.1 6 = .ok (.iadd, 1) := by decide +kernel
theorem d_Pri_boundOf_7 : decode M_Pri_boundOf.2.1 7 = .ok (.iconst 2, 1) := by decide +kernel
theorem d_Pri_boundOf_8 : decode M_Pri_boundOf.2.1 8 = .ok (.idiv, 1) := by decide +kernel
theorem d_Pri_boundOf_9 : decode M_Pri_boundOf.2.1 9 = .ok (.invokestatic 28, 3) := by decide +kernel
theorem d_Pri_boundOf_12 : decode M_Pri_boundOf.2.1 12 = .ok (.ireturn, 1) := by decide +kernel
theorem d_Pri_greatest_0 : decode M_Pri_greatest.2.1 0 = .ok (.iconst 0, 1) := by decide +kernel
theorem d_Pri_greatest_1 : decode M_Pri_greatest.2.1 1 = .ok (.istore_n 1, 1) := by decide +kernel
theorem d_Pri_greatest_2 : decode M_Pri_greatest.2.1 2 = .ok (.iconst 0, 1) := by decide +kernel
theorem d_Pri_greatest_3 : decode M_Pri_greatest.2.1 3 = .ok (.istore_n 2, 1) := by decide +kernel
theorem d_Pri_greatest_4 : decode M_Pri_greatest.2.1 4 = .ok (.iload_n 2, 1) := by decide +kernel
theorem d_Pri_greatest_5 : decode M_Pri_greatest.2.1 5 = .ok (.bipush 7, 2) := by decide +kernel
theorem d_Pri_greatest_7 : decode M_Pri_greatest.2.1 7 = .ok (.if_icmp .ge 27, 3) := by decide +kernel
theorem d_Pri_greatest_10 : decode M_Pri_greatest.2.1 10 = .ok (.iload_n 0, 1) := by decide +kernel
theorem d_Pri_greatest_11 : decode M_Pri_greatest.2.1 11 = .ok (.iload_n 2, 1) := by decide +kernel
theorem d_Pri_greatest_12 : decode M_Pri_greatest.2.1 12 = .ok (.ishr, 1) := by decide +kernel
theorem d_Pri_greatest_13 : decode M_Pri_greatest.2.1 13 = .ok (.iconst 1, 1) := by decide +kernel
theorem d_Pri_greatest_14 : decode M_Pri_greatest.2.1 14 = .ok (.iand, 1) := by decide +kernel
theorem d_Pri_greatest_15 : decode M_Pri_greatest.2.1 15 = .ok (.iconst 1, 1) := by decide +kernel
theorem d_Pri_greatest_16 : decode M_Pri_greatest.2.1 16 = .ok (.if_icmp .ne 10, 3) := by decide +kernel
theorem d_Pri_greatest_19 : decode M_Pri_greatest.2.1 19 = .ok (.iload_n 2, 1) := by decide +kernel
theorem d_Pri_greatest_20 : decode M_Pri_greatest.2.1 20 = .ok (.invokestatic 15, 3) := by decide +kernel
theorem d_Pri_greatest_23 : decode M_Pri_greatest.2.1 23 = .ok (.goto 4, 3) := by decide +kernel
theorem d_Pri_greatest_26 : decode M_Pri_greatest.2.1 26 = .ok (.iload_n 1, 1) := by decide +kernel
theorem d_Pri_greatest_27 : decode M_Pri_greatest.2.1 27 = .ok (.istore_n 1, 1) := by decide +kernel
theorem d_Pri_greatest_28 : decode M_Pri_greatest.2.1 28 = .ok (.iinc 2 1, 3) := by decide +kernel
theorem d_Pri_greatest_31 : decode M_Pri_greatest.2.1 31 = .ok (.goto (-27), 3) := by decide +kernel
theorem d_Pri_greatest_34 : decode M_Pri_greatest.2.1 34 = .ok (.iload_n 1, 1) := by decide +kernel
theorem d_Pri_greatest_35 : decode M_Pri_greatest.2.1 35 = .ok (.ireturn, 1) := by decide +kernel
theorem d_Pri_at_0 : decode M_Pri_at.2.1 0 = .ok (.iload_n 0, 1) := by decide +kernel
theorem d_Pri_at_1 : decode M_Pri_at.2.1 1 = .ok (.ifCond .lt 19, 3) := by decide +kernel
theorem d_Pri_at_4 : decode M_Pri_at.2.1 4 = .ok (.iload_n 0, 1) := by decide +kernel
theorem d_Pri_at_5 : decode M_Pri_at.2.1 5 = .ok (.getstatic 9, 3) := by decide +kernel
theorem d_Pri_at_8 : decode M_Pri_at.2.1 8 = .ok (.arraylength, 1) := by decide +kernel
theorem d_Pri_at_9 : decode M_Pri_at.2.1 9 = .ok (.if_icmp .ge 11, 3) := by decide +kernel
theorem d_Pri_at_12 : decode M_Pri_at.2.1 12 = .ok (.getstatic 9, 3) := by decide +kernel
theorem d_Pri_at_15 : decode M_Pri_at.2.1 15 = .ok (.iload_n 0, 1) := by decide +kernel
theorem d_Pri_at_16 : decode M_Pri_at.2.1 16 = .ok (.iaload, 1) := by decide +kernel
theorem d_Pri_at_17 : decode M_Pri_at.2.1 17 = .ok (.goto 4, 3) := by decide +kernel
theorem d_Pri_at_20 : decode M_Pri_at.2.1 20 = .ok (.iconst 1, 1) := by decide +kernel
theorem d_Pri_at_21 : decode M_Pri_at.2.1 21 = .ok (.ireturn, 1) := by decide +kernel
theorem d_Sea_isClassOf_0 : decode M_Sea_isClassOf.2.1 0 = .ok (.iload_n 1, 1) := by decide +kernel
theorem d_Sea_isClassOf_1 : decode M_Sea_isClassOf.2.1 1 = .ok (.iload_n 2, 1) := by decide +kernel
theorem d_Sea_isClassOf_2 : decode M_Sea_isClassOf.2.1 2 = .ok (.iconst (-1), 1) := by decide +kernel
theorem d_Sea_isClassOf_3 : decode M_Sea_isClassOf.2.1 3 = .ok (.ixor, 1) := by decide +kernel
theorem d_Sea_isClassOf_4 : decode M_Sea_isClassOf.2.1 4 = .ok (.iand, 1) := by decide +kernel
theorem d_Sea_isClassOf_5 : decode M_Sea_isClassOf.2.1 5 = .ok (.ifCond .ne 24, 3) := by decide +kernel
theorem d_Sea_isClassOf_8 : decode M_Sea_isClassOf.2.1 8 = .ok (.iload_n 1, 1) := by decide +kernel
theorem d_Sea_isClassOf_9 : decode M_Sea_isClassOf.2.1 9 = .ok (.aload_n 0, 1) := by decide +kernel
theorem d_Sea_isClassOf_10 : decode M_Sea_isClassOf.2.1 10 = .ok (.getfield 60, 3) := by decide +kernel
theorem d_Sea_isClassOf_13 : decode M_Sea_isClassOf.2.1 13 = .ok (.iconst 1, 1) := by decide +kernel
theorem d_Sea_isClassOf_14 : decode M_Sea_isClassOf.2.1 14 = .ok (.if_icmp .ne 7, 3) := by decide +kernel
theorem d_Sea_isClassOf_17 : decode M_Sea_isClassOf.2.1 17 = .ok (.iconst 1, 1) := by decide +kernel
theorem d_Sea_isClassOf_18 : decode M_Sea_isClassOf.2.1 18 = .ok (.goto 4, 3) := by decide +kernel
theorem d_Sea_isClassOf_21 : decode M_Sea_isClassOf.2.1 21 = .ok (.iconst 0, 1) := by decide +kernel
theorem d_Sea_isClassOf_22 : decode M_Sea_isClassOf.2.1 22 = .ok (.if_icmp .eq 7, 3) := by decide +kernel
theorem d_Sea_isClassOf_25 : decode M_Sea_isClassOf.2.1 25 = .ok (.iconst 1, 1) := by decide +kernel
theorem d_Sea_isClassOf_26 : decode M_Sea_isClassOf.2.1 26 = .ok (.goto 4, 3) := by decide +kernel
theorem d_Sea_isClassOf_29 : decode M_Sea_isClassOf.2.1 29 = .ok (.iconst 0, 1) := by decide +kernel
theorem d_Sea_isClassOf_30 : decode M_Sea_isClassOf.2.1 30 = .ok (.ireturn, 1) := by decide +kernel
theorem d_Sea_unitOf_0 : decode M_Sea_unitOf.2.1 0 = .ok (.iload_n 1, 1) := by decide +kernel
theorem d_Sea_unitOf_1 : decode M_Sea_unitOf.2.1 1 = .ok (.ifCond .lt 12, 3) := by decide +kernel
theorem d_Sea_unitOf_4 : decode M_Sea_unitOf.2.1 4 = .ok (.iload_n 1, 1) := by decide +kernel
theorem d_Sea_unitOf_5 : decode M_Sea_unitOf.2.1 5 = .ok (.aload_n 0, 1) := by decide +kernel
theorem d_Sea_unitOf_6 : decode M_Sea_unitOf.2.1 6 = .ok (.getfield 41, 3) := by decide +kernel
theorem d_Sea_unitOf_9 : decode M_Sea_unitOf.2.1 9 = .ok (.arraylength, 1) := by decide +kernel
theorem d_Sea_unitOf_10 : decode M_Sea_unitOf.2.1 10 = .ok (.if_icmp .lt 8, 3) := by decide +kernel
theorem d_Sea_unitOf_13 : decode M_Sea_unitOf.2.1 13 = .ok (.aload_n 0, 1) := by decide +kernel
theorem d_Sea_unitOf_14 : decode M_Sea_unitOf.2.1 14 = .ok (.getfield 23, 3) := by decide +kernel
theorem d_Sea_unitOf_17 : decode M_Sea_unitOf.2.1 17 = .ok (.areturn, 1) := by decide +kernel
theorem d_Sea_unitOf_18 : decode M_Sea_unitOf.2.1 18 = .ok (.aload_n 0, 1) := by decide +kernel
theorem d_Sea_unitOf_19 : decode M_Sea_unitOf.2.1 19 = .ok (.getfield 41, 3) := by decide +kernel
theorem d_Sea_unitOf_22 : decode M_Sea_unitOf.2.1 22 = .ok (.iload_n 1, 1) := by decide +kernel
theorem d_Sea_unitOf_23 : decode M_Sea_unitOf.2.1 23 = .ok (.aaload, 1) := by decide +kernel
theorem d_Sea_unitOf_24 : decode M_Sea_unitOf.2.1 24 = .ok (.astore_n 2, 1) := by decide +kernel
theorem d_Sea_unitOf_25 : decode M_Sea_unitOf.2.1 25 = .ok (.aload_n 2, 1) := by decide +kernel
theorem d_Sea_unitOf_26 : decode M_Sea_unitOf.2.1 26 = .ok (.ifnonnull 85, 3) := by decide +kernel
theorem d_Sea_unitOf_29 : decode M_Sea_unitOf.2.1 29 = .ok (.iload_n 1, 1) := by decide +kernel
theorem d_Sea_unitOf_30 : decode M_Sea_unitOf.2.1 30 = .ok (.invokestatic 116, 3) := by decide +kernel
theorem d_Sea_unitOf_33 : decode M_Sea_unitOf.2.1 33 = .ok (.istore_n 3, 1) := by decide +kernel
theorem d_Sea_unitOf_34 : decode M_Sea_unitOf.2.1 34 = .ok (.new 18, 3) := by decide +kernel
theorem d_Sea_unitOf_37 : decode M_Sea_unitOf.2.1 37 = .ok (.dup, 1) := by decide +kernel
theorem d_Sea_unitOf_38 : decode M_Sea_unitOf.2.1 38 = .ok (.iload_n 3, 1) := by decide +kernel
theorem d_Sea_unitOf_39 : decode M_Sea_unitOf.2.1 39 = .ok (.aload_n 0, 1) := by decide +kernel
theorem d_Sea_unitOf_40 : decode M_Sea_unitOf.2.1 40 = .ok (.getfield 60, 3) := by decide +kernel
theorem d_Sea_unitOf_43 : decode M_Sea_unitOf.2.1 43 = .ok (.iconst 1, 1) := by decide +kernel
theorem d_Sea_unitOf_44 : decode M_Sea_unitOf.2.1 44 = .ok (.if_icmp .ne 9, 3) := by decide +kernel
theorem d_Sea_unitOf_47 : decode M_Sea_unitOf.2.1 47 = .ok (.iconst 2, 1) := by decide +kernel
theorem d_Sea_unitOf_48 : decode M_Sea_unitOf.2.1 48 = .ok (.iload_n 3, 1) := by decide +kernel
theorem d_Sea_unitOf_49 : decode M_Sea_unitOf.2.1 49 = .ok (.imul, 1) := by decide +kernel
theorem d_Sea_unitOf_50 : decode M_Sea_unitOf.2.1 50 = .ok (.goto 4, 3) := by decide +kernel
theorem d_Sea_unitOf_53 : decode M_Sea_unitOf.2.1 53 = .ok (.iload_n 3, 1) := by decide +kernel
theorem d_Sea_unitOf_54 : decode M_Sea_unitOf.2.1 54 = .ok (.aload_n 0, 1) := by decide +kernel
theorem d_Sea_unitOf_55 : decode M_Sea_unitOf.2.1 55 = .ok (.getfield 12, 3) := by decide +kernel
theorem d_Sea_unitOf_58 : decode M_Sea_unitOf.2.1 58 = .ok (.invokespecial 20, 3) := by decide +kernel
theorem d_Sea_unitOf_61 : decode M_Sea_unitOf.2.1 61 = .ok (.astore_n 2, 1) := by decide +kernel
theorem d_Sea_unitOf_62 : decode M_Sea_unitOf.2.1 62 = .ok (.aload_n 0, 1) := by decide +kernel
theorem d_Sea_unitOf_63 : decode M_Sea_unitOf.2.1 63 = .ok (.getfield 66, 3) := by decide +kernel
theorem d_Sea_unitOf_66 : decode M_Sea_unitOf.2.1 66 = .ok (.aload_n 2, 1) := by decide +kernel
theorem d_Sea_unitOf_67 : decode M_Sea_unitOf.2.1 67 = .ok (.invokevirtual 119, 3) := by decide +kernel
theorem d_Sea_unitOf_70 : decode M_Sea_unitOf.2.1 70 = .ok (.iconst 1, 1) := by decide +kernel
theorem d_Sea_unitOf_71 : decode M_Sea_unitOf.2.1 71 = .ok (.istore 4, 2) := by decide +kernel
theorem d_Sea_unitOf_73 : decode M_Sea_unitOf.2.1 73 = .ok (.iload 4, 2) := by decide +kernel
theorem d_Sea_unitOf_75 : decode M_Sea_unitOf.2.1 75 = .ok (.bipush 9, 2) := by decide +kernel
theorem d_Sea_unitOf_77 : decode M_Sea_unitOf.2.1 77 = .ok (.if_icmp .gt 27, 3) := by decide +kernel
theorem d_Sea_unitOf_80 : decode M_Sea_unitOf.2.1 80 = .ok (.aload_n 0, 1) := by decide +kernel
theorem d_Sea_unitOf_81 : decode M_Sea_unitOf.2.1 81 = .ok (.getfield 66, 3) := by decide +kernel
theorem d_Sea_unitOf_84 : decode M_Sea_unitOf.2.1 84 = .ok (.aload_n 2, 1) := by decide +kernel
theorem d_Sea_unitOf_85 : decode M_Sea_unitOf.2.1 85 = .ok (.iload 4, 2) := by decide +kernel
theorem d_Sea_unitOf_87 : decode M_Sea_unitOf.2.1 87 = .ok (.invokevirtual 122, 3) := by decide +kernel
theorem d_Sea_unitOf_90 : decode M_Sea_unitOf.2.1 90 = .ok (.aload_n 0, 1) := by decide +kernel
theorem d_Sea_unitOf_91 : decode M_Sea_unitOf.2.1 91 = .ok (.getfield 66, 3) := by decide +kernel
theorem d_Sea_unitOf_94 : decode M_Sea_unitOf.2.1 94 = .ok (.aload_n 2, 1) := by decide +kernel
theorem d_Sea_unitOf_95 : decode M_Sea_unitOf.2.1 95 = .ok (.invokevirtual 126, 3) := by decide +kernel
theorem d_Sea_unitOf_98 : decode M_Sea_unitOf.2.1 98 = .ok (.iinc 4 1, 3) := by decide +kernel
theorem d_Sea_unitOf_101 : decode M_Sea_unitOf.2.1 101 = .ok (.goto (-28), 3) := by decide +kernel
theorem d_Sea_unitOf_104 : decode M_Sea_unitOf.2.1 104 = .ok (.aload_n 0, 1) := by decide +kernel
theorem d_Sea_unitOf_105 : decode M_Sea_unitOf.2.1 105 = .ok (.getfield 41, 3) := by decide +kernel
theorem d_Sea_unitOf_108 : decode M_Sea_unitOf.2.1 108 = .ok (.iload_n 1, 1) := by decide +kernel
theorem d_Sea_unitOf_109 : decode M_Sea_unitOf.2.1 109 = .ok (.aload_n 2, 1) := by decide +kernel
theorem d_Sea_unitOf_110 : decode M_Sea_unitOf.2.1 110 = .ok (.aastore, 1) := by decide +kernel
theorem d_Sea_unitOf_111 : decode M_Sea_unitOf.2.1 111 = .ok (.aload_n 2, 1) := by decide +kernel
theorem d_Sea_unitOf_112 : decode M_Sea_unitOf.2.1 112 = .ok (.areturn, 1) := by decide +kernel
theorem d_Pri_product_0 : decode M_Pri_product.2.1 0 = .ok (.iconst 1, 1) := by decide +kernel
theorem d_Pri_product_1 : decode M_Pri_product.2.1 1 = .ok (.istore_n 1, 1) := by decide +kernel
theorem d_Pri_product_2 : decode M_Pri_product.2.1 2 = .ok (.iconst 0, 1) := by decide +kernel
theorem d_Pri_product_3 : decode M_Pri_product.2.1 3 = .ok (.istore_n 2, 1) := by decide +kernel
theorem d_Pri_product_4 : decode M_Pri_product.2.1 4 = .ok (.iload_n 2, 1) := by decide +kernel
theorem d_Pri_product_5 : decode M_Pri_product.2.1 5 = .ok (.bipush 7, 2) := by decide +kernel
theorem d_Pri_product_7 : decode M_Pri_product.2.1 7 = .ok (.if_icmp .ge 29, 3) := by decide +kernel
theorem d_Pri_product_10 : decode M_Pri_product.2.1 10 = .ok (.iload_n 1, 1) := by decide +kernel
theorem d_Pri_product_11 : decode M_Pri_product.2.1 11 = .ok (.iload_n 0, 1) := by decide +kernel
theorem d_Pri_product_12 : decode M_Pri_product.2.1 12 = .ok (.iload_n 2, 1) := by decide +kernel
theorem d_Pri_product_13 : decode M_Pri_product.2.1 13 = .ok (.ishr, 1) := by decide +kernel
theorem d_Pri_product_14 : decode M_Pri_product.2.1 14 = .ok (.iconst 1, 1) := by decide +kernel
theorem d_Pri_product_15 : decode M_Pri_product.2.1 15 = .ok (.iand, 1) := by decide +kernel
theorem d_Pri_product_16 : decode M_Pri_product.2.1 16 = .ok (.iconst 1, 1) := by decide +kernel
theorem d_Pri_product_17 : decode M_Pri_product.2.1 17 = .ok (.if_icmp .ne 10, 3) := by decide +kernel
theorem d_Pri_product_20 : decode M_Pri_product.2.1 20 = .ok (.iload_n 2, 1) := by decide +kernel
theorem d_Pri_product_21 : decode M_Pri_product.2.1 21 = .ok (.invokestatic 15, 3) := by decide +kernel
theorem d_Pri_product_24 : decode M_Pri_product.2.1 24 = .ok (.goto 4, 3) := by decide +kernel
theorem d_Pri_product_27 : decode M_Pri_product.2.1 27 = .ok (.iconst 1, 1) := by decide +kernel
theorem d_Pri_product_28 : decode M_Pri_product.2.1 28 = .ok (.imul, 1) := by decide +kernel
theorem d_Pri_product_29 : decode M_Pri_product.2.1 29 = .ok (.istore_n 1, 1) := by decide +kernel
theorem d_Pri_product_30 : decode M_Pri_product.2.1 30 = .ok (.iinc 2 1, 3) := by decide +kernel
theorem d_Pri_product_33 : decode M_Pri_product.2.1 33 = .ok (.goto (-29), 3) := by decide +kernel
theorem d_Pri_product_36 : decode M_Pri_product.2.1 36 = .ok (.iload_n 1, 1) := by decide +kernel
theorem d_Pri_product_37 : decode M_Pri_product.2.1 37 = .ok (.ireturn, 1) := by decide +kernel
theorem d_Pow_begin_0 : decode M_Pow_begin.2.1 0 = .ok (.aload_n 0, 1) := by decide +kernel
theorem d_Pow_begin_1 : decode M_Pow_begin.2.1 1 = .ok (.getfield 14, 3) := by decide +kernel
theorem d_Pow_begin_4 : decode M_Pow_begin.2.1 4 = .ok (.iconst 1, 1) := by decide +kernel
theorem d_Pow_begin_5 : decode M_Pow_begin.2.1 5 = .ok (.invokevirtual 43, 3) := by decide +kernel
theorem d_Pow_begin_8 : decode M_Pow_begin.2.1 8 = .ok (.aload_n 0, 1) := by decide +kernel
theorem d_Pow_begin_9 : decode M_Pow_begin.2.1 9 = .ok (.getfield 18, 3) := by decide +kernel
theorem d_Pow_begin_12 : decode M_Pow_begin.2.1 12 = .ok (.aload_n 1, 1) := by decide +kernel
theorem d_Pow_begin_13 : decode M_Pow_begin.2.1 13 = .ok (.getfield 46, 3) := by decide +kernel
theorem d_Pow_begin_16 : decode M_Pow_begin.2.1 16 = .ok (.invokevirtual 51, 3) := by decide +kernel
theorem d_Pow_begin_19 : decode M_Pow_begin.2.1 19 = .ok (.return_, 1) := by decide +kernel
theorem d_Pow_tell_0 : decode M_Pow_tell.2.1 0 = .ok (.aload_n 0, 1) := by decide +kernel
theorem d_Pow_tell_1 : decode M_Pow_tell.2.1 1 = .ok (.getfield 24, 3) := by decide +kernel
theorem d_Pow_tell_4 : decode M_Pow_tell.2.1 4 = .ok (.aload_n 0, 1) := by decide +kernel
theorem d_Pow_tell_5 : decode M_Pow_tell.2.1 5 = .ok (.getfield 18, 3) := by decide +kernel
theorem d_Pow_tell_8 : decode M_Pow_tell.2.1 8 = .ok (.invokevirtual 51, 3) := by decide +kernel
theorem d_Pow_tell_11 : decode M_Pow_tell.2.1 11 = .ok (.aload_n 0, 1) := by decide +kernel
theorem d_Pow_tell_12 : decode M_Pow_tell.2.1 12 = .ok (.getfield 24, 3) := by decide +kernel
theorem d_Pow_tell_15 : decode M_Pow_tell.2.1 15 = .ok (.invokevirtual 65, 3) := by decide +kernel
theorem d_Pow_tell_18 : decode M_Pow_tell.2.1 18 = .ok (.aload_n 0, 1) := by decide +kernel
theorem d_Pow_tell_19 : decode M_Pow_tell.2.1 19 = .ok (.getfield 39, 3) := by decide +kernel
theorem d_Pow_tell_22 : decode M_Pow_tell.2.1 22 = .ok (.iconst 1, 1) := by decide +kernel
theorem d_Pow_tell_23 : decode M_Pow_tell.2.1 23 = .ok (.if_icmp .ne 11, 3) := by decide +kernel
theorem d_Pow_tell_26 : decode M_Pow_tell.2.1 26 = .ok (.aload_n 0, 1) := by decide +kernel
theorem d_Pow_tell_27 : decode M_Pow_tell.2.1 27 = .ok (.getfield 24, 3) := by decide +kernel
theorem d_Pow_tell_30 : decode M_Pow_tell.2.1 30 = .ok (.iconst 2, 1) := by decide +kernel
theorem d_Pow_tell_31 : decode M_Pow_tell.2.1 31 = .ok (.invokevirtual 68, 3) := by decide +kernel
theorem d_Pow_tell_34 : decode M_Pow_tell.2.1 34 = .ok (.aload_n 0, 1) := by decide +kernel
theorem d_Pow_tell_35 : decode M_Pow_tell.2.1 35 = .ok (.getfield 27, 3) := by decide +kernel
theorem d_Pow_tell_38 : decode M_Pow_tell.2.1 38 = .ok (.aload_n 0, 1) := by decide +kernel
theorem d_Pow_tell_39 : decode M_Pow_tell.2.1 39 = .ok (.getfield 24, 3) := by decide +kernel
theorem d_Pow_tell_42 : decode M_Pow_tell.2.1 42 = .ok (.invokevirtual 51, 3) := by decide +kernel
theorem d_Pow_tell_45 : decode M_Pow_tell.2.1 45 = .ok (.aload_n 0, 1) := by decide +kernel
theorem d_Pow_tell_46 : decode M_Pow_tell.2.1 46 = .ok (.aload_n 0, 1) := by decide +kernel
theorem d_Pow_tell_47 : decode M_Pow_tell.2.1 47 = .ok (.getfield 32, 3) := by decide +kernel
theorem d_Pow_tell_50 : decode M_Pow_tell.2.1 50 = .ok (.invokevirtual 71, 3) := by decide +kernel
theorem d_Pow_tell_53 : decode M_Pow_tell.2.1 53 = .ok (.istore_n 3, 1) := by decide +kernel
theorem d_Pow_tell_54 : decode M_Pow_tell.2.1 54 = .ok (.aload_n 0, 1) := by decide +kernel
theorem d_Pow_tell_55 : decode M_Pow_tell.2.1 55 = .ok (.getfield 27, 3) := by decide +kernel
theorem d_Pow_tell_58 : decode M_Pow_tell.2.1 58 = .ok (.invokevirtual 75, 3) := by decide +kernel
theorem d_Pow_tell_61 : decode M_Pow_tell.2.1 61 = .ok (.iconst 1, 1) := by decide +kernel
theorem d_Pow_tell_62 : decode M_Pow_tell.2.1 62 = .ok (.if_icmp .ne 7, 3) := by decide +kernel
theorem d_Pow_tell_65 : decode M_Pow_tell.2.1 65 = .ok (.iconst 1, 1) := by decide +kernel
theorem d_Pow_tell_66 : decode M_Pow_tell.2.1 66 = .ok (.goto 4, 3) := by decide +kernel
theorem d_Pow_tell_69 : decode M_Pow_tell.2.1 69 = .ok (.iconst 0, 1) := by decide +kernel
theorem d_Pow_tell_70 : decode M_Pow_tell.2.1 70 = .ok (.istore 4, 2) := by decide +kernel
theorem d_Pow_tell_72 : decode M_Pow_tell.2.1 72 = .ok (.aload_n 0, 1) := by decide +kernel
theorem d_Pow_tell_73 : decode M_Pow_tell.2.1 73 = .ok (.getfield 27, 3) := by decide +kernel
theorem d_Pow_tell_76 : decode M_Pow_tell.2.1 76 = .ok (.aload_n 0, 1) := by decide +kernel
theorem d_Pow_tell_77 : decode M_Pow_tell.2.1 77 = .ok (.getfield 24, 3) := by decide +kernel
theorem d_Pow_tell_80 : decode M_Pow_tell.2.1 80 = .ok (.invokevirtual 51, 3) := by decide +kernel
theorem d_Pow_tell_83 : decode M_Pow_tell.2.1 83 = .ok (.aload_n 0, 1) := by decide +kernel
theorem d_Pow_tell_84 : decode M_Pow_tell.2.1 84 = .ok (.getfield 27, 3) := by decide +kernel
theorem d_Pow_tell_87 : decode M_Pow_tell.2.1 87 = .ok (.aload_n 0, 1) := by decide +kernel
theorem d_Pow_tell_88 : decode M_Pow_tell.2.1 88 = .ok (.getfield 39, 3) := by decide +kernel
theorem d_Pow_tell_91 : decode M_Pow_tell.2.1 91 = .ok (.invokevirtual 79, 3) := by decide +kernel
theorem d_Pow_tell_94 : decode M_Pow_tell.2.1 94 = .ok (.iload_n 3, 1) := by decide +kernel
theorem d_Pow_tell_95 : decode M_Pow_tell.2.1 95 = .ok (.aload_n 0, 1) := by decide +kernel
theorem d_Pow_tell_96 : decode M_Pow_tell.2.1 96 = .ok (.aload_n 0, 1) := by decide +kernel
theorem d_Pow_tell_97 : decode M_Pow_tell.2.1 97 = .ok (.getfield 36, 3) := by decide +kernel
theorem d_Pow_tell_100 : decode M_Pow_tell.2.1 100 = .ok (.invokevirtual 71, 3) := by decide +kernel
theorem d_Pow_tell_103 : decode M_Pow_tell.2.1 103 = .ok (.ior, 1) := by decide +kernel
theorem d_Pow_tell_104 : decode M_Pow_tell.2.1 104 = .ok (.istore_n 3, 1) := by decide +kernel
theorem d_Pow_tell_105 : decode M_Pow_tell.2.1 105 = .ok (.iload 4, 2) := by decide +kernel
theorem d_Pow_tell_107 : decode M_Pow_tell.2.1 107 = .ok (.ifCond .eq 18, 3) := by decide +kernel
theorem d_Pow_tell_110 : decode M_Pow_tell.2.1 110 = .ok (.aload_n 0, 1) := by decide +kernel
theorem d_Pow_tell_111 : decode M_Pow_tell.2.1 111 = .ok (.getfield 27, 3) := by decide +kernel
theorem d_Pow_tell_114 : decode M_Pow_tell.2.1 114 = .ok (.invokevirtual 75, 3) := by decide +kernel
theorem d_Pow_tell_117 : decode M_Pow_tell.2.1 117 = .ok (.iconst 1, 1) := by decide +kernel
theorem d_Pow_tell_118 : decode M_Pow_tell.2.1 118 = .ok (.if_icmp .ne 7, 3) := by decide +kernel
theorem d_Pow_tell_121 : decode M_Pow_tell.2.1 121 = .ok (.iconst 1, 1) := by decide +kernel
theorem d_Pow_tell_122 : decode M_Pow_tell.2.1 122 = .ok (.goto 4, 3) := by decide +kernel
theorem d_Pow_tell_125 : decode M_Pow_tell.2.1 125 = .ok (.iconst 0, 1) := by decide +kernel
theorem d_Pow_tell_126 : decode M_Pow_tell.2.1 126 = .ok (.istore 4, 2) := by decide +kernel
theorem d_Pow_tell_128 : decode M_Pow_tell.2.1 128 = .ok (.aload_n 1, 1) := by decide +kernel
theorem d_Pow_tell_129 : decode M_Pow_tell.2.1 129 = .ok (.iload_n 2, 1) := by decide +kernel
theorem d_Pow_tell_130 : decode M_Pow_tell.2.1 130 = .ok (.aload_n 0, 1) := by decide +kernel
theorem d_Pow_tell_131 : decode M_Pow_tell.2.1 131 = .ok (.getfield 18, 3) := by decide +kernel
theorem d_Pow_tell_134 : decode M_Pow_tell.2.1 134 = .ok (.invokevirtual 82, 3) := by decide +kernel
theorem d_Pow_tell_137 : decode M_Pow_tell.2.1 137 = .ok (.iload_n 3, 1) := by decide +kernel
theorem d_Pow_tell_138 : decode M_Pow_tell.2.1 138 = .ok (.iload 4, 2) := by decide +kernel
theorem d_Pow_tell_140 : decode M_Pow_tell.2.1 140 = .ok (.ifCond .eq 26, 3) := by decide +kernel
theorem d_Pow_tell_143 : decode M_Pow_tell.2.1 143 = .ok (.new 85, 3) := by decide +kernel
theorem d_Pow_tell_146 : decode M_Pow_tell.2.1 146 = .ok (.dup, 1) := by decide +kernel
theorem d_Pow_tell_147 : decode M_Pow_tell.2.1 147 = .ok (.aload_n 0, 1) := by decide +kernel
theorem d_Pow_tell_148 : decode M_Pow_tell.2.1 148 = .ok (.getfield 24, 3) := by decide +kernel
theorem d_Pow_tell_151 : decode M_Pow_tell.2.1 151 = .ok (.iload_n 2, 1) := by decide +kernel
theorem d_Pow_tell_152 : decode M_Pow_tell.2.1 152 = .ok (.aload_n 0, 1) := by decide +kernel
theorem d_Pow_tell_153 : decode M_Pow_tell.2.1 153 = .ok (.getfield 32, 3) := by decide +kernel
theorem d_Pow_tell_156 : decode M_Pow_tell.2.1 156 = .ok (.aload_n 0, 1) := by decide +kernel
theorem d_Pow_tell_157 : decode M_Pow_tell.2.1 157 = .ok (.getfield 36, 3) := by decide +kernel
theorem d_Pow_tell_160 : decode M_Pow_tell.2.1 160 = .ok (.invokespecial 87, 3) := by decide +kernel
theorem d_Pow_tell_163 : decode M_Pow_tell.2.1 163 = .ok (.goto 4, 3) := by decide +kernel
theorem d_Pow_tell_166 : decode M_Pow_tell.2.1 166 = .ok (.aconst_null, 1) := by decide +kernel
theorem d_Pow_tell_167 : decode M_Pow_tell.2.1 167 = .ok (.invokevirtual 90, 3) := by decide +kernel
theorem d_Pow_tell_170 : decode M_Pow_tell.2.1 170 = .ok (.return_, 1) := by decide +kernel
theorem d_Big_decrease_0 : decode M_Big_decrease.2.1 0 = .ok (.iconst 1, 1) := by decide +kernel
theorem d_Big_decrease_1 : decode M_Big_decrease.2.1 1 = .ok (.istore_n 1, 1) := by decide +kernel
theorem d_Big_decrease_2 : decode M_Big_decrease.2.1 2 = .ok (.iconst 0, 1) := by decide +kernel
theorem d_Big_decrease_3 : decode M_Big_decrease.2.1 3 = .ok (.istore_n 2, 1) := by decide +kernel
theorem d_Big_decrease_4 : decode M_Big_decrease.2.1 4 = .ok (.iload_n 2, 1) := by decide +kernel
theorem d_Big_decrease_5 : decode M_Big_decrease.2.1 5 = .ok (.aload_n 0, 1) := by decide +kernel
theorem d_Big_decrease_6 : decode M_Big_decrease.2.1 6 = .ok (.getfield 15, 3) := by decide +kernel
theorem d_Big_decrease_9 : decode M_Big_decrease.2.1 9 = .ok (.if_icmp .ge 61, 3) := by decide +kernel
theorem d_Big_decrease_12 : decode M_Big_decrease.2.1 12 = .ok (.iload_n 2, 1) := by decide +kernel
theorem d_Big_decrease_13 : decode M_Big_decrease.2.1 13 = .ok (.aload_n 0, 1) := by decide +kernel
theorem d_Big_decrease_14 : decode M_Big_decrease.2.1 14 = .ok (.getfield 9, 3) := by decide +kernel
theorem d_Big_decrease_17 : decode M_Big_decrease.2.1 17 = .ok (.arraylength, 1) := by decide +kernel
theorem d_Big_decrease_18 : decode M_Big_decrease.2.1 18 = .ok (.if_icmp .ge 52, 3) := by decide +kernel
theorem d_Big_decrease_21 : decode M_Big_decrease.2.1 21 = .ok (.iload_n 1, 1) := by decide +kernel
theorem d_Big_decrease_22 : decode M_Big_decrease.2.1 22 = .ok (.ifCond .le 48, 3) := by decide +kernel
theorem d_Big_decrease_25 : decode M_Big_decrease.2.1 25 = .ok (.aload_n 0, 1) := by decide +kernel
theorem d_Big_decrease_26 : decode M_Big_decrease.2.1 26 = .ok (.getfield 9, 3) := by decide +kernel
theorem d_Big_decrease_29 : decode M_Big_decrease.2.1 29 = .ok (.iload_n 2, 1) := by decide +kernel
theorem d_Big_decrease_30 : decode M_Big_decrease.2.1 30 = .ok (.iaload, 1) := by decide +kernel
theorem d_Big_decrease_31 : decode M_Big_decrease.2.1 31 = .ok (.ifCond .ne 7, 3) := by decide +kernel
theorem d_Big_decrease_34 : decode M_Big_decrease.2.1 34 = .ok (.iconst 1, 1) := by decide +kernel
theorem d_Big_decrease_35 : decode M_Big_decrease.2.1 35 = .ok (.goto 4, 3) := by decide +kernel
theorem d_Big_decrease_38 : decode M_Big_decrease.2.1 38 = .ok (.iconst 0, 1) := by decide +kernel
theorem d_Big_decrease_39 : decode M_Big_decrease.2.1 39 = .ok (.istore_n 1, 1) := by decide +kernel
theorem d_Big_decrease_40 : decode M_Big_decrease.2.1 40 = .ok (.aload_n 0, 1) := by decide +kernel
theorem d_Big_decrease_41 : decode M_Big_decrease.2.1 41 = .ok (.getfield 9, 3) := by decide +kernel
theorem d_Big_decrease_44 : decode M_Big_decrease.2.1 44 = .ok (.iload_n 2, 1) := by decide +kernel
theorem d_Big_decrease_45 : decode M_Big_decrease.2.1 45 = .ok (.iload_n 1, 1) := by decide +kernel
theorem d_Big_decrease_46 : decode M_Big_decrease.2.1 46 = .ok (.iconst 1, 1) := by decide +kernel
theorem d_Big_decrease_47 : decode M_Big_decrease.2.1 47 = .ok (.if_icmp .ne 8, 3) := by decide +kernel
theorem d_Big_decrease_50 : decode M_Big_decrease.2.1 50 = .ok (.ldc 44, 2) := by decide +kernel
theorem d_Big_decrease_52 : decode M_Big_decrease.2.1 52 = .ok (.goto 11, 3) := by decide +kernel
theorem d_Big_decrease_55 : decode M_Big_decrease.2.1 55 = .ok (.aload_n 0, 1) := by decide +kernel
theorem d_Big_decrease_56 : decode M_Big_decrease.2.1 56 = .ok (.getfield 9, 3) := by decide +kernel
theorem d_Big_decrease_59 : decode M_Big_decrease.2.1 59 = .ok (.iload_n 2, 1) := by decide +kernel
theorem d_Big_decrease_60 : decode M_Big_decrease.2.1 60 = .ok (.iaload, 1) := by decide +kernel
theorem d_Big_decrease_61 : decode M_Big_decrease.2.1 61 = .ok (.iconst 1, 1) := by decide +kernel
theorem d_Big_decrease_62 : decode M_Big_decrease.2.1 62 = .ok (.isub, 1) := by decide +kernel
theorem d_Big_decrease_63 : decode M_Big_decrease.2.1 63 = .ok (.iastore, 1) := by decide +kernel
theorem d_Big_decrease_64 : decode M_Big_decrease.2.1 64 = .ok (.iinc 2 1, 3) := by decide +kernel
theorem d_Big_decrease_67 : decode M_Big_decrease.2.1 67 = .ok (.goto (-63), 3) := by decide +kernel
theorem d_Big_decrease_70 : decode M_Big_decrease.2.1 70 = .ok (.aload_n 0, 1) := by decide +kernel
theorem d_Big_decrease_71 : decode M_Big_decrease.2.1 71 = .ok (.invokevirtual 40, 3) := by decide +kernel
theorem d_Big_decrease_74 : decode M_Big_decrease.2.1 74 = .ok (.return_, 1) := by decide +kernel
theorem d_Big_divide_0 : decode M_Big_divide.2.1 0 = .ok (.lconst 0, 1) := by decide +kernel
theorem d_Big_divide_1 : decode M_Big_divide.2.1 1 = .ok (.lstore_n 2, 1) := by decide +kernel
theorem d_Big_divide_2 : decode M_Big_divide.2.1 2 = .ok (.aload_n 0, 1) := by decide +kernel
theorem d_Big_divide_3 : decode M_Big_divide.2.1 3 = .ok (.getfield 15, 3) := by decide +kernel
theorem d_Big_divide_6 : decode M_Big_divide.2.1 6 = .ok (.aload_n 0, 1) := by decide +kernel
theorem d_Big_divide_7 : decode M_Big_divide.2.1 7 = .ok (.getfield 9, 3) := by decide +kernel
theorem d_Big_divide_10 : decode M_Big_divide.2.1 10 = .ok (.arraylength, 1) := by decide +kernel
theorem d_Big_divide_11 : decode M_Big_divide.2.1 11 = .ok (.invokestatic 19, 3) := by decide +kernel
theorem d_Big_divide_14 : decode M_Big_divide.2.1 14 = .ok (.iconst 1, 1) := by decide +kernel
theorem d_Big_divide_15 : decode M_Big_divide.2.1 15 = .ok (.isub, 1) := by decide +kernel
theorem d_Big_divide_16 : decode M_Big_divide.2.1 16 = .ok (.istore 4, 2) := by decide +kernel
theorem d_Big_divide_18 : decode M_Big_divide.2.1 18 = .ok (.iload 4, 2) := by decide +kernel
theorem d_Big_divide_20 : decode M_Big_divide.2.1 20 = .ok (.ifCond .lt 75, 3) := by decide +kernel
theorem d_Big_divide_23 : decode M_Big_divide.2.1 23 = .ok (.iload_n 1, 1) := by decide +kernel
theorem d_Big_divide_24 : decode M_Big_divide.2.1 24 = .ok (.ifCond .le 71, 3) := by decide +kernel
theorem d_Big_divide_27 : decode M_Big_divide.2.1 27 = .ok (.lload_n 2, 1) := by decide +kernel
theorem d_Big_divide_28 : decode M_Big_divide.2.1 28 = .ok (.ldc2_w 29, 3) := by decide +kernel
theorem d_Big_divide_31 : decode M_Big_divide.2.1 31 = .ok (.lmul, 1) := by decide +kernel
theorem d_Big_divide_32 : decode M_Big_divide.2.1 32 = .ok (.aload_n 0, 1) := by decide +kernel
theorem d_Big_divide_33 : decode M_Big_divide.2.1 33 = .ok (.getfield 9, 3) := by decide +kernel
theorem d_Big_divide_36 : decode M_Big_divide.2.1 36 = .ok (.iload 4, 2) := by decide +kernel
theorem d_Big_divide_38 : decode M_Big_divide.2.1 38 = .ok (.iaload, 1) := by decide +kernel
theorem d_Big_divide_39 : decode M_Big_divide.2.1 39 = .ok (.i2l, 1) := by decide +kernel
theorem d_Big_divide_40 : decode M_Big_divide.2.1 40 = .ok (.ladd, 1) := by decide +kernel
theorem d_Big_divide_41 : decode M_Big_divide.2.1 41 = .ok (.lstore 5, 2) := by decide +kernel
theorem d_Big_divide_43 : decode M_Big_divide.2.1 43 = .ok (.aload_n 0, 1) := by decide +kernel
theorem d_Big_divide_44 : decode M_Big_divide.2.1 44 = .ok (.getfield 9, 3) := by decide +kernel
theorem d_Big_divide_47 : decode M_Big_divide.2.1 47 = .ok (.iload 4, 2) := by decide +kernel
theorem d_Big_divide_49 : decode M_Big_divide.2.1 49 = .ok (.lload 5, 2) := by decide +kernel
theorem d_Big_divide_51 : decode M_Big_divide.2.1 51 = .ok (.iload_n 1, 1) := by decide +kernel
theorem d_Big_divide_52 : decode M_Big_divide.2.1 52 = .ok (.i2l, 1) := by decide +kernel
theorem d_Big_divide_53 : decode M_Big_divide.2.1 53 = .ok (.ldiv, 1) := by decide +kernel
theorem d_Big_divide_54 : decode M_Big_divide.2.1 54 = .ok (.l2i, 1) := by decide +kernel
theorem d_Big_divide_55 : decode M_Big_divide.2.1 55 = .ok (.iastore, 1) := by decide +kernel
theorem d_Big_divide_56 : decode M_Big_divide.2.1 56 = .ok (.lload 5, 2) := by decide +kernel
theorem d_Big_divide_58 : decode M_Big_divide.2.1 58 = .ok (.iload_n 1, 1) := by decide +kernel
theorem d_Big_divide_59 : decode M_Big_divide.2.1 59 = .ok (.i2l, 1) := by decide +kernel
theorem d_Big_divide_60 : decode M_Big_divide.2.1 60 = .ok (.lrem, 1) := by decide +kernel
theorem d_Big_divide_61 : decode M_Big_divide.2.1 61 = .ok (.lstore_n 2, 1) := by decide +kernel
theorem d_Big_divide_62 : decode M_Big_divide.2.1 62 = .ok (.aload_n 0, 1) := by decide +kernel
theorem d_Big_divide_63 : decode M_Big_divide.2.1 63 = .ok (.getfield 9, 3) := by decide +kernel
theorem d_Big_divide_66 : decode M_Big_divide.2.1 66 = .ok (.iload 4, 2) := by decide +kernel
theorem d_Big_divide_68 : decode M_Big_divide.2.1 68 = .ok (.iaload, 1) := by decide +kernel
theorem d_Big_divide_69 : decode M_Big_divide.2.1 69 = .ok (.ifCond .ne 20, 3) := by decide +kernel
theorem d_Big_divide_72 : decode M_Big_divide.2.1 72 = .ok (.iload 4, 2) := by decide +kernel
theorem d_Big_divide_74 : decode M_Big_divide.2.1 74 = .ok (.aload_n 0, 1) := by decide +kernel
theorem d_Big_divide_75 : decode M_Big_divide.2.1 75 = .ok (.getfield 15, 3) := by decide +kernel
theorem d_Big_divide_78 : decode M_Big_divide.2.1 78 = .ok (.iconst 1, 1) := by decide +kernel
theorem d_Big_divide_79 : decode M_Big_divide.2.1 79 = .ok (.isub, 1) := by decide +kernel
theorem d_Big_divide_80 : decode M_Big_divide.2.1 80 = .ok (.if_icmp .ne 9, 3) := by decide +kernel
theorem d_Big_divide_83 : decode M_Big_divide.2.1 83 = .ok (.aload_n 0, 1) := by decide +kernel
theorem d_Big_divide_84 : decode M_Big_divide.2.1 84 = .ok (.iload 4, 2) := by decide +kernel
theorem d_Big_divide_86 : decode M_Big_divide.2.1 86 = .ok (.putfield 15, 3) := by decide +kernel
theorem d_Big_divide_89 : decode M_Big_divide.2.1 89 = .ok (.iinc 4 (-1), 3) := by decide +kernel
theorem d_Big_divide_92 : decode M_Big_divide.2.1 92 = .ok (.goto (-74), 3) := by decide +kernel
theorem d_Big_divide_95 : decode M_Big_divide.2.1 95 = .ok (.return_, 1) := by decide +kernel
theorem d_Pow_factor_0 : decode M_Pow_factor.2.1 0 = .ok (.iconst 0, 1) := by decide +kernel
theorem d_Pow_factor_1 : decode M_Pow_factor.2.1 1 = .ok (.istore_n 2, 1) := by decide +kernel
theorem d_Pow_factor_2 : decode M_Pow_factor.2.1 2 = .ok (.iconst 0, 1) := by decide +kernel
theorem d_Pow_factor_3 : decode M_Pow_factor.2.1 3 = .ok (.istore_n 3, 1) := by decide +kernel
theorem d_Pow_factor_4 : decode M_Pow_factor.2.1 4 = .ok (.iload_n 3, 1) := by decide +kernel
theorem d_Pow_factor_5 : decode M_Pow_factor.2.1 5 = .ok (.bipush 7, 2) := by decide +kernel
theorem d_Pow_factor_7 : decode M_Pow_factor.2.1 7 = .ok (.if_icmp .ge 45, 3) := by decide +kernel
theorem d_Pow_factor_10 : decode M_Pow_factor.2.1 10 = .ok (.iload_n 3, 1) := by decide +kernel
theorem d_Pow_factor_11 : decode M_Pow_factor.2.1 11 = .ok (.aload_n 1, 1) := by decide +kernel
theorem d_Pow_factor_12 : decode M_Pow_factor.2.1 12 = .ok (.arraylength, 1) := by decide +kernel
theorem d_Pow_factor_13 : decode M_Pow_factor.2.1 13 = .ok (.if_icmp .ge 39, 3) := by decide +kernel
theorem d_Pow_factor_16 : decode M_Pow_factor.2.1 16 = .ok (.aload_n 1, 1) := by decide +kernel
theorem d_Pow_factor_17 : decode M_Pow_factor.2.1 17 = .ok (.iload_n 3, 1) := by decide +kernel
theorem d_Pow_factor_18 : decode M_Pow_factor.2.1 18 = .ok (.aload_n 0, 1) := by decide +kernel
theorem d_Pow_factor_19 : decode M_Pow_factor.2.1 19 = .ok (.getfield 27, 3) := by decide +kernel
theorem d_Pow_factor_22 : decode M_Pow_factor.2.1 22 = .ok (.iload_n 3, 1) := by decide +kernel
theorem d_Pow_factor_23 : decode M_Pow_factor.2.1 23 = .ok (.invokestatic 94, 3) := by decide +kernel
theorem d_Pow_factor_26 : decode M_Pow_factor.2.1 26 = .ok (.invokevirtual 98, 3) := by decide +kernel
theorem d_Pow_factor_29 : decode M_Pow_factor.2.1 29 = .ok (.iastore, 1) := by decide +kernel
theorem d_Pow_factor_30 : decode M_Pow_factor.2.1 30 = .ok (.iload_n 2, 1) := by decide +kernel
theorem d_Pow_factor_31 : decode M_Pow_factor.2.1 31 = .ok (.aload_n 1, 1) := by decide +kernel
theorem d_Pow_factor_32 : decode M_Pow_factor.2.1 32 = .ok (.iload_n 3, 1) := by decide +kernel
theorem d_Pow_factor_33 : decode M_Pow_factor.2.1 33 = .ok (.iaload, 1) := by decide +kernel
theorem d_Pow_factor_34 : decode M_Pow_factor.2.1 34 = .ok (.ifCond .le 9, 3) := by decide +kernel
theorem d_Pow_factor_37 : decode M_Pow_factor.2.1 37 = .ok (.iconst 1, 1) := by decide +kernel
theorem d_Pow_factor_38 : decode M_Pow_factor.2.1 38 = .ok (.iload_n 3, 1) := by decide +kernel
theorem d_Pow_factor_39 : decode M_Pow_factor.2.1 39 = .ok (.ishl, 1) := by decide +kernel
theorem d_Pow_factor_40 : decode M_Pow_factor.2.1 40 = .ok (.goto 4, 3) := by decide +kernel
theorem d_Pow_factor_43 : decode M_Pow_factor.2.1 43 = .ok (.iconst 0, 1) := by decide +kernel
theorem d_Pow_factor_44 : decode M_Pow_factor.2.1 44 = .ok (.ior, 1) := by decide +kernel
theorem d_Pow_factor_45 : decode M_Pow_factor.2.1 45 = .ok (.istore_n 2, 1) := by decide +kernel
theorem d_Pow_factor_46 : decode M_Pow_factor.2.1 46 = .ok (.iinc 3 1, 3) := by decide +kernel
theorem d_Pow_factor_49 : decode M_Pow_factor.2.1 49 = .ok (.goto (-45), 3) := by decide +kernel
theorem d_Pow_factor_52 : decode M_Pow_factor.2.1 52 = .ok (.iload_n 2, 1) := by decide +kernel
theorem d_Pow_factor_53 : decode M_Pow_factor.2.1 53 = .ok (.ireturn, 1) := by decide +kernel
theorem d_Big_strip_0 : decode M_Big_strip.2.1 0 = .ok (.iconst 0, 1) := by decide +kernel
theorem d_Big_strip_1 : decode M_Big_strip.2.1 1 = .ok (.istore_n 2, 1) := by decide +kernel
theorem d_Big_strip_2 : decode M_Big_strip.2.1 2 = .ok (.iconst 0, 1) := by decide +kernel
theorem d_Big_strip_3 : decode M_Big_strip.2.1 3 = .ok (.istore_n 3, 1) := by decide +kernel
theorem d_Big_strip_4 : decode M_Big_strip.2.1 4 = .ok (.iload_n 3, 1) := by decide +kernel
theorem d_Big_strip_5 : decode M_Big_strip.2.1 5 = .ok (.aload_n 0, 1) := by decide +kernel
theorem d_Big_strip_6 : decode M_Big_strip.2.1 6 = .ok (.getfield 9, 3) := by decide +kernel
theorem d_Big_strip_9 : decode M_Big_strip.2.1 9 = .ok (.arraylength, 1) := by decide +kernel
theorem d_Big_strip_10 : decode M_Big_strip.2.1 10 = .ok (.bipush 30, 2) := by decide +kernel
theorem d_Big_strip_12 : decode M_Big_strip.2.1 12 = .ok (.imul, 1) := by decide +kernel
theorem d_Big_strip_13 : decode M_Big_strip.2.1 13 = .ok (.if_icmp .ge 40, 3) := by decide +kernel
theorem d_Big_strip_16 : decode M_Big_strip.2.1 16 = .ok (.aload_n 0, 1) := by decide +kernel
theorem d_Big_strip_17 : decode M_Big_strip.2.1 17 = .ok (.getfield 15, 3) := by decide +kernel
theorem d_Big_strip_20 : decode M_Big_strip.2.1 20 = .ok (.ifCond .le 33, 3) := by decide +kernel
theorem d_Big_strip_23 : decode M_Big_strip.2.1 23 = .ok (.iload_n 1, 1) := by decide +kernel
theorem d_Big_strip_24 : decode M_Big_strip.2.1 24 = .ok (.iconst 1, 1) := by decide +kernel
theorem d_Big_strip_25 : decode M_Big_strip.2.1 25 = .ok (.if_icmp .le 28, 3) := by decide +kernel
theorem d_Big_strip_28 : decode M_Big_strip.2.1 28 = .ok (.aload_n 0, 1) := by decide +kernel
theorem d_Big_strip_29 : decode M_Big_strip.2.1 29 = .ok (.iload_n 1, 1) := by decide +kernel
theorem d_Big_strip_30 : decode M_Big_strip.2.1 30 = .ok (.invokevirtual 45, 3) := by decide +kernel
theorem d_Big_strip_33 : decode M_Big_strip.2.1 33 = .ok (.ifCond .eq 6, 3) := by decide +kernel
theorem d_Big_strip_36 : decode M_Big_strip.2.1 36 = .ok (.goto 17, 3) := by decide +kernel
theorem d_Big_strip_39 : decode M_Big_strip.2.1 39 = .ok (.aload_n 0, 1) := by decide +kernel
theorem d_Big_strip_40 : decode M_Big_strip.2.1 40 = .ok (.iload_n 1, 1) := by decide +kernel
theorem d_Big_strip_41 : decode M_Big_strip.2.1 41 = .ok (.invokevirtual 48, 3) := by decide +kernel
theorem d_Big_strip_44 : decode M_Big_strip.2.1 44 = .ok (.iinc 2 1, 3) := by decide +kernel
theorem d_Big_strip_47 : decode M_Big_strip.2.1 47 = .ok (.iinc 3 1, 3) := by decide +kernel
theorem d_Big_strip_50 : decode M_Big_strip.2.1 50 = .ok (.goto (-46), 3) := by decide +kernel
theorem d_Big_strip_53 : decode M_Big_strip.2.1 53 = .ok (.iload_n 2, 1) := by decide +kernel
theorem d_Big_strip_54 : decode M_Big_strip.2.1 54 = .ok (.ireturn, 1) := by decide +kernel
theorem d_Big_remainder_0 : decode M_Big_remainder.2.1 0 = .ok (.lconst 0, 1) := by decide +kernel
theorem d_Big_remainder_1 : decode M_Big_remainder.2.1 1 = .ok (.lstore_n 2, 1) := by decide +kernel
theorem d_Big_remainder_2 : decode M_Big_remainder.2.1 2 = .ok (.aload_n 0, 1) := by decide +kernel
theorem d_Big_remainder_3 : decode M_Big_remainder.2.1 3 = .ok (.getfield 15, 3) := by decide +kernel
theorem d_Big_remainder_6 : decode M_Big_remainder.2.1 6 = .ok (.aload_n 0, 1) := by decide +kernel
theorem d_Big_remainder_7 : decode M_Big_remainder.2.1 7 = .ok (.getfield 9, 3) := by decide +kernel
theorem d_Big_remainder_10 : decode M_Big_remainder.2.1 10 = .ok (.arraylength, 1) := by decide +kernel
theorem d_Big_remainder_11 : decode M_Big_remainder.2.1 11 = .ok (.invokestatic 19, 3) := by decide +kernel
theorem d_Big_remainder_14 : decode M_Big_remainder.2.1 14 = .ok (.iconst 1, 1) := by decide +kernel
theorem d_Big_remainder_15 : decode M_Big_remainder.2.1 15 = .ok (.isub, 1) := by decide +kernel
theorem d_Big_remainder_16 : decode M_Big_remainder.2.1 16 = .ok (.istore 4, 2) := by decide +kernel
theorem d_Big_remainder_18 : decode M_Big_remainder.2.1 18 = .ok (.iload 4, 2) := by decide +kernel
theorem d_Big_remainder_20 : decode M_Big_remainder.2.1 20 = .ok (.ifCond .lt 31, 3) := by decide +kernel
theorem d_Big_remainder_23 : decode M_Big_remainder.2.1 23 = .ok (.iload_n 1, 1) := by decide +kernel
theorem d_Big_remainder_24 : decode M_Big_remainder.2.1 24 = .ok (.ifCond .le 27, 3) := by decide +kernel
theorem d_Big_remainder_27 : decode M_Big_remainder.2.1 27 = .ok (.lload_n 2, 1) := by decide +kernel
theorem d_Big_remainder_28 : decode M_Big_remainder.2.1 28 = .ok (.ldc2_w 29, 3) := by decide +kernel
theorem d_Big_remainder_31 : decode M_Big_remainder.2.1 31 = .ok (.lmul, 1) := by decide +kernel
theorem d_Big_remainder_32 : decode M_Big_remainder.2.1 32 = .ok (.aload_n 0, 1) := by decide +kernel
theorem d_Big_remainder_33 : decode M_Big_remainder.2.1 33 = .ok (.getfield 9, 3) := by decide +kernel
theorem d_Big_remainder_36 : decode M_Big_remainder.2.1 36 = .ok (.iload 4, 2) := by decide +kernel
theorem d_Big_remainder_38 : decode M_Big_remainder.2.1 38 = .ok (.iaload, 1) := by decide +kernel
theorem d_Big_remainder_39 : decode M_Big_remainder.2.1 39 = .ok (.i2l, 1) := by decide +kernel
theorem d_Big_remainder_40 : decode M_Big_remainder.2.1 40 = .ok (.ladd, 1) := by decide +kernel
theorem d_Big_remainder_41 : decode M_Big_remainder.2.1 41 = .ok (.iload_n 1, 1) := by decide +kernel
theorem d_Big_remainder_42 : decode M_Big_remainder.2.1 42 = .ok (.i2l, 1) := by decide +kernel
theorem d_Big_remainder_43 : decode M_Big_remainder.2.1 43 = .ok (.lrem, 1) := by decide +kernel
theorem d_Big_remainder_44 : decode M_Big_remainder.2.1 44 = .ok (.lstore_n 2, 1) := by decide +kernel
theorem d_Big_remainder_45 : decode M_Big_remainder.2.1 45 = .ok (.iinc 4 (-1), 3) := by decide +kernel
theorem d_Big_remainder_48 : decode M_Big_remainder.2.1 48 = .ok (.goto (-30), 3) := by decide +kernel
theorem d_Big_remainder_51 : decode M_Big_remainder.2.1 51 = .ok (.lload_n 2, 1) := by decide +kernel
theorem d_Big_remainder_52 : decode M_Big_remainder.2.1 52 = .ok (.l2i, 1) := by decide +kernel
theorem d_Big_remainder_53 : decode M_Big_remainder.2.1 53 = .ok (.ireturn, 1) := by decide +kernel
theorem d_Big_asInt_0 : decode M_Big_asInt.2.1 0 = .ok (.aload_n 0, 1) := by decide +kernel
theorem d_Big_asInt_1 : decode M_Big_asInt.2.1 1 = .ok (.getfield 15, 3) := by decide +kernel
theorem d_Big_asInt_4 : decode M_Big_asInt.2.1 4 = .ok (.iconst 1, 1) := by decide +kernel
theorem d_Big_asInt_5 : decode M_Big_asInt.2.1 5 = .ok (.if_icmp .le 7, 3) := by decide +kernel
theorem d_Big_asInt_8 : decode M_Big_asInt.2.1 8 = .ok (.iconst (-1), 1) := by decide +kernel
theorem d_Big_asInt_9 : decode M_Big_asInt.2.1 9 = .ok (.goto 8, 3) := by decide +kernel
theorem d_Big_asInt_12 : decode M_Big_asInt.2.1 12 = .ok (.aload_n 0, 1) := by decide +kernel
theorem d_Big_asInt_13 : decode M_Big_asInt.2.1 13 = .ok (.iconst 0, 1) := by decide +kernel
theorem d_Big_asInt_14 : decode M_Big_asInt.2.1 14 = .ok (.invokevirtual 25, 3) := by decide +kernel
theorem d_Big_asInt_17 : decode M_Big_asInt.2.1 17 = .ok (.ireturn, 1) := by decide +kernel
theorem d_Big_increase_0 : decode M_Big_increase.2.1 0 = .ok (.iload_n 1, 1) := by decide +kernel
theorem d_Big_increase_1 : decode M_Big_increase.2.1 1 = .ok (.istore_n 2, 1) := by decide +kernel
theorem d_Big_increase_2 : decode M_Big_increase.2.1 2 = .ok (.iconst 0, 1) := by decide +kernel
theorem d_Big_increase_3 : decode M_Big_increase.2.1 3 = .ok (.istore_n 3, 1) := by decide +kernel
theorem d_Big_increase_4 : decode M_Big_increase.2.1 4 = .ok (.iload_n 3, 1) := by decide +kernel
theorem d_Big_increase_5 : decode M_Big_increase.2.1 5 = .ok (.aload_n 0, 1) := by decide +kernel
theorem d_Big_increase_6 : decode M_Big_increase.2.1 6 = .ok (.getfield 9, 3) := by decide +kernel
theorem d_Big_increase_9 : decode M_Big_increase.2.1 9 = .ok (.arraylength, 1) := by decide +kernel
theorem d_Big_increase_10 : decode M_Big_increase.2.1 10 = .ok (.if_icmp .ge 53, 3) := by decide +kernel
theorem d_Big_increase_13 : decode M_Big_increase.2.1 13 = .ok (.iload_n 2, 1) := by decide +kernel
theorem d_Big_increase_14 : decode M_Big_increase.2.1 14 = .ok (.ifCond .le 49, 3) := by decide +kernel
theorem d_Big_increase_17 : decode M_Big_increase.2.1 17 = .ok (.aload_n 0, 1) := by decide +kernel
theorem d_Big_increase_18 : decode M_Big_increase.2.1 18 = .ok (.iload_n 3, 1) := by decide +kernel
theorem d_Big_increase_19 : decode M_Big_increase.2.1 19 = .ok (.invokevirtual 25, 3) := by decide +kernel
theorem d_Big_increase_22 : decode M_Big_increase.2.1 22 = .ok (.iload_n 2, 1) := by decide +kernel
theorem d_Big_increase_23 : decode M_Big_increase.2.1 23 = .ok (.iadd, 1) := by decide +kernel
theorem d_Big_increase_24 : decode M_Big_increase.2.1 24 = .ok (.istore 4, 2) := by decide +kernel
theorem d_Big_increase_26 : decode M_Big_increase.2.1 26 = .ok (.aload_n 0, 1) := by decide +kernel
theorem d_Big_increase_27 : decode M_Big_increase.2.1 27 = .ok (.getfield 9, 3) := by decide +kernel
theorem d_Big_increase_30 : decode M_Big_increase.2.1 30 = .ok (.iload_n 3, 1) := by decide +kernel
theorem d_Big_increase_31 : decode M_Big_increase.2.1 31 = .ok (.iload 4, 2) := by decide +kernel
theorem d_Big_increase_33 : decode M_Big_increase.2.1 33 = .ok (.ldc 43, 2) := by decide +kernel
theorem d_Big_increase_35 : decode M_Big_increase.2.1 35 = .ok (.irem, 1) := by decide +kernel
theorem d_Big_increase_36 : decode M_Big_increase.2.1 36 = .ok (.iastore, 1) := by decide +kernel
theorem d_Big_increase_37 : decode M_Big_increase.2.1 37 = .ok (.iload 4, 2) := by decide +kernel
theorem d_Big_increase_39 : decode M_Big_increase.2.1 39 = .ok (.ldc 43, 2) := by decide +kernel
theorem d_Big_increase_41 : decode M_Big_increase.2.1 41 = .ok (.idiv, 1) := by decide +kernel
theorem d_Big_increase_42 : decode M_Big_increase.2.1 42 = .ok (.istore_n 2, 1) := by decide +kernel
theorem d_Big_increase_43 : decode M_Big_increase.2.1 43 = .ok (.aload_n 0, 1) := by decide +kernel
theorem d_Big_increase_44 : decode M_Big_increase.2.1 44 = .ok (.aload_n 0, 1) := by decide +kernel
theorem d_Big_increase_45 : decode M_Big_increase.2.1 45 = .ok (.getfield 15, 3) := by decide +kernel
theorem d_Big_increase_48 : decode M_Big_increase.2.1 48 = .ok (.iload_n 3, 1) := by decide +kernel
theorem d_Big_increase_49 : decode M_Big_increase.2.1 49 = .ok (.iconst 1, 1) := by decide +kernel
theorem d_Big_increase_50 : decode M_Big_increase.2.1 50 = .ok (.iadd, 1) := by decide +kernel
theorem d_Big_increase_51 : decode M_Big_increase.2.1 51 = .ok (.invokestatic 31, 3) := by decide +kernel
theorem d_Big_increase_54 : decode M_Big_increase.2.1 54 = .ok (.putfield 15, 3) := by decide +kernel
theorem d_Big_increase_57 : decode M_Big_increase.2.1 57 = .ok (.iinc 3 1, 3) := by decide +kernel
theorem d_Big_increase_60 : decode M_Big_increase.2.1 60 = .ok (.goto (-56), 3) := by decide +kernel
theorem d_Big_increase_63 : decode M_Big_increase.2.1 63 = .ok (.return_, 1) := by decide +kernel
theorem d_Big_digits_0 : decode M_Big_digits.2.1 0 = .ok (.iconst 1, 1) := by decide +kernel
theorem d_Big_digits_1 : decode M_Big_digits.2.1 1 = .ok (.istore_n 1, 1) := by decide +kernel
theorem d_Big_digits_2 : decode M_Big_digits.2.1 2 = .ok (.aload_n 0, 1) := by decide +kernel
theorem d_Big_digits_3 : decode M_Big_digits.2.1 3 = .ok (.aload_n 0, 1) := by decide +kernel
theorem d_Big_digits_4 : decode M_Big_digits.2.1 4 = .ok (.getfield 15, 3) := by decide +kernel
theorem d_Big_digits_7 : decode M_Big_digits.2.1 7 = .ok (.iconst 1, 1) := by decide +kernel
theorem d_Big_digits_8 : decode M_Big_digits.2.1 8 = .ok (.isub, 1) := by decide +kernel
theorem d_Big_digits_9 : decode M_Big_digits.2.1 9 = .ok (.invokevirtual 25, 3) := by decide +kernel
theorem d_Big_digits_12 : decode M_Big_digits.2.1 12 = .ok (.istore_n 2, 1) := by decide +kernel
theorem d_Big_digits_13 : decode M_Big_digits.2.1 13 = .ok (.iload_n 2, 1) := by decide +kernel
theorem d_Big_digits_14 : decode M_Big_digits.2.1 14 = .ok (.bipush 10, 2) := by decide +kernel
theorem d_Big_digits_16 : decode M_Big_digits.2.1 16 = .ok (.if_icmp .lt 14, 3) := by decide +kernel
theorem d_Big_digits_19 : decode M_Big_digits.2.1 19 = .ok (.iinc 1 1, 3) := by decide +kernel
theorem d_Big_digits_22 : decode M_Big_digits.2.1 22 = .ok (.iload_n 2, 1) := by decide +kernel
theorem d_Big_digits_23 : decode M_Big_digits.2.1 23 = .ok (.bipush 10, 2) := by decide +kernel
theorem d_Big_digits_25 : decode M_Big_digits.2.1 25 = .ok (.idiv, 1) := by decide +kernel
theorem d_Big_digits_26 : decode M_Big_digits.2.1 26 = .ok (.istore_n 2, 1) := by decide +kernel
theorem d_Big_digits_27 : decode M_Big_digits.2.1 27 = .ok (.goto (-14), 3) := by decide +kernel
theorem d_Big_digits_30 : decode M_Big_digits.2.1 30 = .ok (.aload_n 0, 1) := by decide +kernel
theorem d_Big_digits_31 : decode M_Big_digits.2.1 31 = .ok (.getfield 15, 3) := by decide +kernel
theorem d_Big_digits_34 : decode M_Big_digits.2.1 34 = .ok (.iconst 1, 1) := by decide +kernel
theorem d_Big_digits_35 : decode M_Big_digits.2.1 35 = .ok (.if_icmp .ge 7, 3) := by decide +kernel
theorem d_Big_digits_38 : decode M_Big_digits.2.1 38 = .ok (.iconst 1, 1) := by decide +kernel
theorem d_Big_digits_39 : decode M_Big_digits.2.1 39 = .ok (.goto 14, 3) := by decide +kernel
theorem d_Big_digits_42 : decode M_Big_digits.2.1 42 = .ok (.aload_n 0, 1) := by decide +kernel
theorem d_Big_digits_43 : decode M_Big_digits.2.1 43 = .ok (.getfield 15, 3) := by decide +kernel
theorem d_Big_digits_46 : decode M_Big_digits.2.1 46 = .ok (.iconst 1, 1) := by decide +kernel
theorem d_Big_digits_47 : decode M_Big_digits.2.1 47 = .ok (.isub, 1) := by decide +kernel
theorem d_Big_digits_48 : decode M_Big_digits.2.1 48 = .ok (.bipush 9, 2) := by decide +kernel
theorem d_Big_digits_50 : decode M_Big_digits.2.1 50 = .ok (.imul, 1) := by decide +kernel
theorem d_Big_digits_51 : decode M_Big_digits.2.1 51 = .ok (.iload_n 1, 1) := by decide +kernel
theorem d_Big_digits_52 : decode M_Big_digits.2.1 52 = .ok (.iadd, 1) := by decide +kernel
theorem d_Big_digits_53 : decode M_Big_digits.2.1 53 = .ok (.ireturn, 1) := by decide +kernel
theorem d_Uni_note_0 : decode M_Uni_note.2.1 0 = .ok (.iload_n 1, 1) := by decide +kernel
theorem d_Uni_note_1 : decode M_Uni_note.2.1 1 = .ok (.ifCond .lt 52, 3) := by decide +kernel
theorem d_Uni_note_4 : decode M_Uni_note.2.1 4 = .ok (.iload_n 1, 1) := by decide +kernel
theorem d_Uni_note_5 : decode M_Uni_note.2.1 5 = .ok (.aload_n 0, 1) := by decide +kernel
theorem d_Uni_note_6 : decode M_Uni_note.2.1 6 = .ok (.getfield 23, 3) := by decide +kernel
theorem d_Uni_note_9 : decode M_Uni_note.2.1 9 = .ok (.arraylength, 1) := by decide +kernel
theorem d_Uni_note_10 : decode M_Uni_note.2.1 10 = .ok (.if_icmp .ge 43, 3) := by decide +kernel
theorem d_Uni_note_13 : decode M_Uni_note.2.1 13 = .ok (.iload_n 1, 1) := by decide +kernel
theorem d_Uni_note_14 : decode M_Uni_note.2.1 14 = .ok (.aload_n 0, 1) := by decide +kernel
theorem d_Uni_note_15 : decode M_Uni_note.2.1 15 = .ok (.getfield 27, 3) := by decide +kernel
theorem d_Uni_note_18 : decode M_Uni_note.2.1 18 = .ok (.arraylength, 1) := by decide +kernel
theorem d_Uni_note_19 : decode M_Uni_note.2.1 19 = .ok (.if_icmp .ge 34, 3) := by decide +kernel
theorem d_Uni_note_22 : decode M_Uni_note.2.1 22 = .ok (.iload_n 1, 1) := by decide +kernel
theorem d_Uni_note_23 : decode M_Uni_note.2.1 23 = .ok (.aload_n 0, 1) := by decide +kernel
theorem d_Uni_note_24 : decode M_Uni_note.2.1 24 = .ok (.getfield 35, 3) := by decide +kernel
theorem d_Uni_note_27 : decode M_Uni_note.2.1 27 = .ok (.arraylength, 1) := by decide +kernel
theorem d_Uni_note_28 : decode M_Uni_note.2.1 28 = .ok (.if_icmp .ge 25, 3) := by decide +kernel
theorem d_Uni_note_31 : decode M_Uni_note.2.1 31 = .ok (.aload_n 0, 1) := by decide +kernel
theorem d_Uni_note_32 : decode M_Uni_note.2.1 32 = .ok (.getfield 23, 3) := by decide +kernel
theorem d_Uni_note_35 : decode M_Uni_note.2.1 35 = .ok (.iload_n 1, 1) := by decide +kernel
theorem d_Uni_note_36 : decode M_Uni_note.2.1 36 = .ok (.iload_n 2, 1) := by decide +kernel
theorem d_Uni_note_37 : decode M_Uni_note.2.1 37 = .ok (.iastore, 1) := by decide +kernel
theorem d_Uni_note_38 : decode M_Uni_note.2.1 38 = .ok (.aload_n 0, 1) := by decide +kernel
theorem d_Uni_note_39 : decode M_Uni_note.2.1 39 = .ok (.getfield 27, 3) := by decide +kernel
theorem d_Uni_note_42 : decode M_Uni_note.2.1 42 = .ok (.iload_n 1, 1) := by decide +kernel
theorem d_Uni_note_43 : decode M_Uni_note.2.1 43 = .ok (.iload_n 3, 1) := by decide +kernel
theorem d_Uni_note_44 : decode M_Uni_note.2.1 44 = .ok (.iastore, 1) := by decide +kernel
theorem d_Uni_note_45 : decode M_Uni_note.2.1 45 = .ok (.aload_n 0, 1) := by decide +kernel
theorem d_Uni_note_46 : decode M_Uni_note.2.1 46 = .ok (.getfield 35, 3) := by decide +kernel
theorem d_Uni_note_49 : decode M_Uni_note.2.1 49 = .ok (.iload_n 1, 1) := by decide +kernel
theorem d_Uni_note_50 : decode M_Uni_note.2.1 50 = .ok (.aload 4, 2) := by decide +kernel
theorem d_Uni_note_52 : decode M_Uni_note.2.1 52 = .ok (.aastore, 1) := by decide +kernel
theorem d_Uni_note_53 : decode M_Uni_note.2.1 53 = .ok (.return_, 1) := by decide +kernel
theorem d_Pow_advance_0 : decode M_Pow_advance.2.1 0 = .ok (.aload_n 0, 1) := by decide +kernel
theorem d_Pow_advance_1 : decode M_Pow_advance.2.1 1 = .ok (.getfield 21, 3) := by decide +kernel
theorem d_Pow_advance_4 : decode M_Pow_advance.2.1 4 = .ok (.aload_n 1, 1) := by decide +kernel
theorem d_Pow_advance_5 : decode M_Pow_advance.2.1 5 = .ok (.getfield 46, 3) := by decide +kernel
theorem d_Pow_advance_8 : decode M_Pow_advance.2.1 8 = .ok (.aload_n 0, 1) := by decide +kernel
theorem d_Pow_advance_9 : decode M_Pow_advance.2.1 9 = .ok (.getfield 18, 3) := by decide +kernel
theorem d_Pow_advance_12 : decode M_Pow_advance.2.1 12 = .ok (.invokevirtual 55, 3) := by decide +kernel
theorem d_Pow_advance_15 : decode M_Pow_advance.2.1 15 = .ok (.aload_n 0, 1) := by decide +kernel
theorem d_Pow_advance_16 : decode M_Pow_advance.2.1 16 = .ok (.getfield 21, 3) := by decide +kernel
theorem d_Pow_advance_19 : decode M_Pow_advance.2.1 19 = .ok (.iconst 2, 1) := by decide +kernel
theorem d_Pow_advance_20 : decode M_Pow_advance.2.1 20 = .ok (.invokevirtual 59, 3) := by decide +kernel
theorem d_Pow_advance_23 : decode M_Pow_advance.2.1 23 = .ok (.aload_n 0, 1) := by decide +kernel
theorem d_Pow_advance_24 : decode M_Pow_advance.2.1 24 = .ok (.getfield 21, 3) := by decide +kernel
theorem d_Pow_advance_27 : decode M_Pow_advance.2.1 27 = .ok (.aload_n 0, 1) := by decide +kernel
theorem d_Pow_advance_28 : decode M_Pow_advance.2.1 28 = .ok (.getfield 14, 3) := by decide +kernel
theorem d_Pow_advance_31 : decode M_Pow_advance.2.1 31 = .ok (.invokevirtual 62, 3) := by decide +kernel
theorem d_Pow_advance_34 : decode M_Pow_advance.2.1 34 = .ok (.aload_n 0, 1) := by decide +kernel
theorem d_Pow_advance_35 : decode M_Pow_advance.2.1 35 = .ok (.getfield 14, 3) := by decide +kernel
theorem d_Pow_advance_38 : decode M_Pow_advance.2.1 38 = .ok (.aload_n 0, 1) := by decide +kernel
theorem d_Pow_advance_39 : decode M_Pow_advance.2.1 39 = .ok (.getfield 18, 3) := by decide +kernel
theorem d_Pow_advance_42 : decode M_Pow_advance.2.1 42 = .ok (.invokevirtual 51, 3) := by decide +kernel
theorem d_Pow_advance_45 : decode M_Pow_advance.2.1 45 = .ok (.aload_n 0, 1) := by decide +kernel
theorem d_Pow_advance_46 : decode M_Pow_advance.2.1 46 = .ok (.getfield 18, 3) := by decide +kernel
theorem d_Pow_advance_49 : decode M_Pow_advance.2.1 49 = .ok (.aload_n 0, 1) := by decide +kernel
theorem d_Pow_advance_50 : decode M_Pow_advance.2.1 50 = .ok (.getfield 21, 3) := by decide +kernel
theorem d_Pow_advance_53 : decode M_Pow_advance.2.1 53 = .ok (.invokevirtual 51, 3) := by decide +kernel
theorem d_Pow_advance_56 : decode M_Pow_advance.2.1 56 = .ok (.return_, 1) := by decide +kernel
theorem d_Big_minus_0 : decode M_Big_minus.2.1 0 = .ok (.iconst 0, 1) := by decide +kernel
theorem d_Big_minus_1 : decode M_Big_minus.2.1 1 = .ok (.istore_n 2, 1) := by decide +kernel
theorem d_Big_minus_2 : decode M_Big_minus.2.1 2 = .ok (.iconst 0, 1) := by decide +kernel
theorem d_Big_minus_3 : decode M_Big_minus.2.1 3 = .ok (.istore_n 3, 1) := by decide +kernel
theorem d_Big_minus_4 : decode M_Big_minus.2.1 4 = .ok (.iload_n 3, 1) := by decide +kernel
theorem d_Big_minus_5 : decode M_Big_minus.2.1 5 = .ok (.aload_n 0, 1) := by decide +kernel
theorem d_Big_minus_6 : decode M_Big_minus.2.1 6 = .ok (.getfield 15, 3) := by decide +kernel
theorem d_Big_minus_9 : decode M_Big_minus.2.1 9 = .ok (.if_icmp .ge 58, 3) := by decide +kernel
theorem d_Big_minus_12 : decode M_Big_minus.2.1 12 = .ok (.iload_n 3, 1) := by decide +kernel
theorem d_Big_minus_13 : decode M_Big_minus.2.1 13 = .ok (.aload_n 0, 1) := by decide +kernel
theorem d_Big_minus_14 : decode M_Big_minus.2.1 14 = .ok (.getfield 9, 3) := by decide +kernel
theorem d_Big_minus_17 : decode M_Big_minus.2.1 17 = .ok (.arraylength, 1) := by decide +kernel
theorem d_Big_minus_18 : decode M_Big_minus.2.1 18 = .ok (.if_icmp .ge 49, 3) := by decide +kernel
theorem d_Big_minus_21 : decode M_Big_minus.2.1 21 = .ok (.aload_n 0, 1) := by decide +kernel
theorem d_Big_minus_22 : decode M_Big_minus.2.1 22 = .ok (.getfield 9, 3) := by decide +kernel
theorem d_Big_minus_25 : decode M_Big_minus.2.1 25 = .ok (.iload_n 3, 1) := by decide +kernel
theorem d_Big_minus_26 : decode M_Big_minus.2.1 26 = .ok (.iaload, 1) := by decide +kernel
theorem d_Big_minus_27 : decode M_Big_minus.2.1 27 = .ok (.aload_n 1, 1) := by decide +kernel
theorem d_Big_minus_28 : decode M_Big_minus.2.1 28 = .ok (.iload_n 3, 1) := by decide +kernel
theorem d_Big_minus_29 : decode M_Big_minus.2.1 29 = .ok (.invokevirtual 25, 3) := by decide +kernel
theorem d_Big_minus_32 : decode M_Big_minus.2.1 32 = .ok (.isub, 1) := by decide +kernel
theorem d_Big_minus_33 : decode M_Big_minus.2.1 33 = .ok (.iload_n 2, 1) := by decide +kernel
theorem d_Big_minus_34 : decode M_Big_minus.2.1 34 = .ok (.isub, 1) := by decide +kernel
theorem d_Big_minus_35 : decode M_Big_minus.2.1 35 = .ok (.istore 4, 2) := by decide +kernel
theorem d_Big_minus_37 : decode M_Big_minus.2.1 37 = .ok (.iload 4, 2) := by decide +kernel
theorem d_Big_minus_39 : decode M_Big_minus.2.1 39 = .ok (.ifCond .ge 7, 3) := by decide +kernel
theorem d_Big_minus_42 : decode M_Big_minus.2.1 42 = .ok (.iconst 1, 1) := by decide +kernel
theorem d_Big_minus_43 : decode M_Big_minus.2.1 43 = .ok (.goto 4, 3) := by decide +kernel
theorem d_Big_minus_46 : decode M_Big_minus.2.1 46 = .ok (.iconst 0, 1) := by decide +kernel
theorem d_Big_minus_47 : decode M_Big_minus.2.1 47 = .ok (.istore_n 2, 1) := by decide +kernel
theorem d_Big_minus_48 : decode M_Big_minus.2.1 48 = .ok (.aload_n 0, 1) := by decide +kernel
theorem d_Big_minus_49 : decode M_Big_minus.2.1 49 = .ok (.getfield 9, 3) := by decide +kernel
theorem d_Big_minus_52 : decode M_Big_minus.2.1 52 = .ok (.iload_n 3, 1) := by decide +kernel
theorem d_Big_minus_53 : decode M_Big_minus.2.1 53 = .ok (.iload 4, 2) := by decide +kernel
theorem d_Big_minus_55 : decode M_Big_minus.2.1 55 = .ok (.iload_n 2, 1) := by decide +kernel
theorem d_Big_minus_56 : decode M_Big_minus.2.1 56 = .ok (.ldc 43, 2) := by decide +kernel
theorem d_Big_minus_58 : decode M_Big_minus.2.1 58 = .ok (.imul, 1) := by decide +kernel
theorem d_Big_minus_59 : decode M_Big_minus.2.1 59 = .ok (.iadd, 1) := by decide +kernel
theorem d_Big_minus_60 : decode M_Big_minus.2.1 60 = .ok (.iastore, 1) := by decide +kernel
theorem d_Big_minus_61 : decode M_Big_minus.2.1 61 = .ok (.iinc 3 1, 3) := by decide +kernel
theorem d_Big_minus_64 : decode M_Big_minus.2.1 64 = .ok (.goto (-60), 3) := by decide +kernel
theorem d_Big_minus_67 : decode M_Big_minus.2.1 67 = .ok (.aload_n 0, 1) := by decide +kernel
theorem d_Big_minus_68 : decode M_Big_minus.2.1 68 = .ok (.invokevirtual 40, 3) := by decide +kernel
theorem d_Big_minus_71 : decode M_Big_minus.2.1 71 = .ok (.return_, 1) := by decide +kernel
theorem d_Sea_enterUnit_0 : decode M_Sea_enterUnit.2.1 0 = .ok (.aload_n 0, 1) := by decide +kernel
theorem d_Sea_enterUnit_1 : decode M_Sea_enterUnit.2.1 1 = .ok (.getfield 79, 3) := by decide +kernel
theorem d_Sea_enterUnit_4 : decode M_Sea_enterUnit.2.1 4 = .ok (.istore_n 2, 1) := by decide +kernel
theorem d_Sea_enterUnit_5 : decode M_Sea_enterUnit.2.1 5 = .ok (.iload_n 2, 1) := by decide +kernel
theorem d_Sea_enterUnit_6 : decode M_Sea_enterUnit.2.1 6 = .ok (.ifCond .lt 12, 3) := by decide +kernel
theorem d_Sea_enterUnit_9 : decode M_Sea_enterUnit.2.1 9 = .ok (.iload_n 2, 1) := by decide +kernel
theorem d_Sea_enterUnit_10 : decode M_Sea_enterUnit.2.1 10 = .ok (.aload_n 0, 1) := by decide +kernel
theorem d_Sea_enterUnit_11 : decode M_Sea_enterUnit.2.1 11 = .ok (.getfield 45, 3) := by decide +kernel
theorem d_Sea_enterUnit_14 : decode M_Sea_enterUnit.2.1 14 = .ok (.arraylength, 1) := by decide +kernel
theorem d_Sea_enterUnit_15 : decode M_Sea_enterUnit.2.1 15 = .ok (.if_icmp .lt 4, 3) := by decide +kernel
theorem d_Sea_enterUnit_18 : decode M_Sea_enterUnit.2.1 18 = .ok (.return_, 1) := by decide +kernel
theorem d_Sea_enterUnit_19 : decode M_Sea_enterUnit.2.1 19 = .ok (.iload_n 2, 1) := by decide +kernel
theorem d_Sea_enterUnit_20 : decode M_Sea_enterUnit.2.1 20 = .ok (.ifCond .le 39, 3) := by decide +kernel
theorem d_Sea_enterUnit_23 : decode M_Sea_enterUnit.2.1 23 = .ok (.aload_n 0, 1) := by decide +kernel
theorem d_Sea_enterUnit_24 : decode M_Sea_enterUnit.2.1 24 = .ok (.iload_n 2, 1) := by decide +kernel
theorem d_Sea_enterUnit_25 : decode M_Sea_enterUnit.2.1 25 = .ok (.iconst 1, 1) := by decide +kernel
theorem d_Sea_enterUnit_26 : decode M_Sea_enterUnit.2.1 26 = .ok (.isub, 1) := by decide +kernel
theorem d_Sea_enterUnit_27 : decode M_Sea_enterUnit.2.1 27 = .ok (.invokevirtual 97, 3) := by decide +kernel
theorem d_Sea_enterUnit_30 : decode M_Sea_enterUnit.2.1 30 = .ok (.getfield 129, 3) := by decide +kernel
theorem d_Sea_enterUnit_33 : decode M_Sea_enterUnit.2.1 33 = .ok (.aload_n 1, 1) := by decide +kernel
theorem d_Sea_enterUnit_34 : decode M_Sea_enterUnit.2.1 34 = .ok (.getfield 129, 3) := by decide +kernel
theorem d_Sea_enterUnit_37 : decode M_Sea_enterUnit.2.1 37 = .ok (.if_icmp .le 22, 3) := by decide +kernel
theorem d_Sea_enterUnit_40 : decode M_Sea_enterUnit.2.1 40 = .ok (.aload_n 0, 1) := by decide +kernel
theorem d_Sea_enterUnit_41 : decode M_Sea_enterUnit.2.1 41 = .ok (.getfield 45, 3) := by decide +kernel
theorem d_Sea_enterUnit_44 : decode M_Sea_enterUnit.2.1 44 = .ok (.iload_n 2, 1) := by decide +kernel
theorem d_Sea_enterUnit_45 : decode M_Sea_enterUnit.2.1 45 = .ok (.aload_n 0, 1) := by decide +kernel
theorem d_Sea_enterUnit_46 : decode M_Sea_enterUnit.2.1 46 = .ok (.iload_n 2, 1) := by decide +kernel
theorem d_Sea_enterUnit_47 : decode M_Sea_enterUnit.2.1 47 = .ok (.iconst 1, 1) := by decide +kernel
theorem d_Sea_enterUnit_48 : decode M_Sea_enterUnit.2.1 48 = .ok (.isub, 1) := by decide +kernel
theorem d_Sea_enterUnit_49 : decode M_Sea_enterUnit.2.1 49 = .ok (.invokevirtual 97, 3) := by decide +kernel
theorem d_Sea_enterUnit_52 : decode M_Sea_enterUnit.2.1 52 = .ok (.aastore, 1) := by decide +kernel
theorem d_Sea_enterUnit_53 : decode M_Sea_enterUnit.2.1 53 = .ok (.iinc 2 (-1), 3) := by decide +kernel
theorem d_Sea_enterUnit_56 : decode M_Sea_enterUnit.2.1 56 = .ok (.goto (-37), 3) := by decide +kernel
theorem d_Sea_enterUnit_59 : decode M_Sea_enterUnit.2.1 59 = .ok (.aload_n 0, 1) := by decide +kernel
theorem d_Sea_enterUnit_60 : decode M_Sea_enterUnit.2.1 60 = .ok (.getfield 45, 3) := by decide +kernel
theorem d_Sea_enterUnit_63 : decode M_Sea_enterUnit.2.1 63 = .ok (.iload_n 2, 1) := by decide +kernel
theorem d_Sea_enterUnit_64 : decode M_Sea_enterUnit.2.1 64 = .ok (.aload_n 1, 1) := by decide +kernel
theorem d_Sea_enterUnit_65 : decode M_Sea_enterUnit.2.1 65 = .ok (.aastore, 1) := by decide +kernel
theorem d_Sea_enterUnit_66 : decode M_Sea_enterUnit.2.1 66 = .ok (.aload_n 0, 1) := by decide +kernel
theorem d_Sea_enterUnit_67 : decode M_Sea_enterUnit.2.1 67 = .ok (.dup, 1) := by decide +kernel
theorem d_Sea_enterUnit_68 : decode M_Sea_enterUnit.2.1 68 = .ok (.getfield 79, 3) := by decide +kernel
theorem d_Sea_enterUnit_71 : decode M_Sea_enterUnit.2.1 71 = .ok (.iconst 1, 1) := by decide +kernel
theorem d_Sea_enterUnit_72 : decode M_Sea_enterUnit.2.1 72 = .ok (.iadd, 1) := by decide +kernel
theorem d_Sea_enterUnit_73 : decode M_Sea_enterUnit.2.1 73 = .ok (.putfield 79, 3) := by decide +kernel
theorem d_Sea_enterUnit_76 : decode M_Sea_enterUnit.2.1 76 = .ok (.return_, 1) := by decide +kernel
theorem d_Sea_unitAt_0 : decode M_Sea_unitAt.2.1 0 = .ok (.iload_n 1, 1) := by decide +kernel
theorem d_Sea_unitAt_1 : decode M_Sea_unitAt.2.1 1 = .ok (.ifCond .lt 29, 3) := by decide +kernel
theorem d_Sea_unitAt_4 : decode M_Sea_unitAt.2.1 4 = .ok (.iload_n 1, 1) := by decide +kernel
theorem d_Sea_unitAt_5 : decode M_Sea_unitAt.2.1 5 = .ok (.aload_n 0, 1) := by decide +kernel
theorem d_Sea_unitAt_6 : decode M_Sea_unitAt.2.1 6 = .ok (.getfield 79, 3) := by decide +kernel
theorem d_Sea_unitAt_9 : decode M_Sea_unitAt.2.1 9 = .ok (.if_icmp .ge 21, 3) := by decide +kernel
theorem d_Sea_unitAt_12 : decode M_Sea_unitAt.2.1 12 = .ok (.iload_n 1, 1) := by decide +kernel
theorem d_Sea_unitAt_13 : decode M_Sea_unitAt.2.1 13 = .ok (.aload_n 0, 1) := by decide +kernel
theorem d_Sea_unitAt_14 : decode M_Sea_unitAt.2.1 14 = .ok (.getfield 45, 3) := by decide +kernel
theorem d_Sea_unitAt_17 : decode M_Sea_unitAt.2.1 17 = .ok (.arraylength, 1) := by decide +kernel
theorem d_Sea_unitAt_18 : decode M_Sea_unitAt.2.1 18 = .ok (.if_icmp .ge 12, 3) := by decide +kernel
theorem d_Sea_unitAt_21 : decode M_Sea_unitAt.2.1 21 = .ok (.aload_n 0, 1) := by decide +kernel
theorem d_Sea_unitAt_22 : decode M_Sea_unitAt.2.1 22 = .ok (.getfield 45, 3) := by decide +kernel
theorem d_Sea_unitAt_25 : decode M_Sea_unitAt.2.1 25 = .ok (.iload_n 1, 1) := by decide +kernel
theorem d_Sea_unitAt_26 : decode M_Sea_unitAt.2.1 26 = .ok (.aaload, 1) := by decide +kernel
theorem d_Sea_unitAt_27 : decode M_Sea_unitAt.2.1 27 = .ok (.goto 4, 3) := by decide +kernel
theorem d_Sea_unitAt_30 : decode M_Sea_unitAt.2.1 30 = .ok (.aconst_null, 1) := by decide +kernel
theorem d_Sea_unitAt_31 : decode M_Sea_unitAt.2.1 31 = .ok (.astore_n 2, 1) := by decide +kernel
theorem d_Sea_unitAt_32 : decode M_Sea_unitAt.2.1 32 = .ok (.aload_n 2, 1) := by decide +kernel
theorem d_Sea_unitAt_33 : decode M_Sea_unitAt.2.1 33 = .ok (.ifnonnull 10, 3) := by decide +kernel
theorem d_Sea_unitAt_36 : decode M_Sea_unitAt.2.1 36 = .ok (.aload_n 0, 1) := by decide +kernel
theorem d_Sea_unitAt_37 : decode M_Sea_unitAt.2.1 37 = .ok (.getfield 23, 3) := by decide +kernel
theorem d_Sea_unitAt_40 : decode M_Sea_unitAt.2.1 40 = .ok (.goto 4, 3) := by decide +kernel
theorem d_Sea_unitAt_43 : decode M_Sea_unitAt.2.1 43 = .ok (.aload_n 2, 1) := by decide +kernel
theorem d_Sea_unitAt_44 : decode M_Sea_unitAt.2.1 44 = .ok (.areturn, 1) := by decide +kernel
theorem d_Uni_coupleFor_0 : decode M_Uni_coupleFor.2.1 0 = .ok (.iload_n 1, 1) := by decide +kernel
theorem d_Uni_coupleFor_1 : decode M_Uni_coupleFor.2.1 1 = .ok (.ifCond .lt 21, 3) := by decide +kernel
theorem d_Uni_coupleFor_4 : decode M_Uni_coupleFor.2.1 4 = .ok (.iload_n 1, 1) := by decide +kernel
theorem d_Uni_coupleFor_5 : decode M_Uni_coupleFor.2.1 5 = .ok (.aload_n 0, 1) := by decide +kernel
theorem d_Uni_coupleFor_6 : decode M_Uni_coupleFor.2.1 6 = .ok (.getfield 35, 3) := by decide +kernel
theorem d_Uni_coupleFor_9 : decode M_Uni_coupleFor.2.1 9 = .ok (.arraylength, 1) := by decide +kernel
theorem d_Uni_coupleFor_10 : decode M_Uni_coupleFor.2.1 10 = .ok (.if_icmp .ge 12, 3) := by decide +kernel
theorem d_Uni_coupleFor_13 : decode M_Uni_coupleFor.2.1 13 = .ok (.aload_n 0, 1) := by decide +kernel
theorem d_Uni_coupleFor_14 : decode M_Uni_coupleFor.2.1 14 = .ok (.getfield 35, 3) := by decide +kernel
theorem d_Uni_coupleFor_17 : decode M_Uni_coupleFor.2.1 17 = .ok (.iload_n 1, 1) := by decide +kernel
theorem d_Uni_coupleFor_18 : decode M_Uni_coupleFor.2.1 18 = .ok (.aaload, 1) := by decide +kernel
theorem d_Uni_coupleFor_19 : decode M_Uni_coupleFor.2.1 19 = .ok (.goto 4, 3) := by decide +kernel
theorem d_Uni_coupleFor_22 : decode M_Uni_coupleFor.2.1 22 = .ok (.aconst_null, 1) := by decide +kernel
theorem d_Uni_coupleFor_23 : decode M_Uni_coupleFor.2.1 23 = .ok (.astore_n 3, 1) := by decide +kernel
theorem d_Uni_coupleFor_24 : decode M_Uni_coupleFor.2.1 24 = .ok (.aload_n 3, 1) := by decide +kernel
theorem d_Uni_coupleFor_25 : decode M_Uni_coupleFor.2.1 25 = .ok (.ifnull 18, 3) := by decide +kernel
theorem d_Uni_coupleFor_28 : decode M_Uni_coupleFor.2.1 28 = .ok (.aload_n 3, 1) := by decide +kernel
theorem d_Uni_coupleFor_29 : decode M_Uni_coupleFor.2.1 29 = .ok (.getfield 84, 3) := by decide +kernel
theorem d_Uni_coupleFor_32 : decode M_Uni_coupleFor.2.1 32 = .ok (.iload_n 2, 1) := by decide +kernel
theorem d_Uni_coupleFor_33 : decode M_Uni_coupleFor.2.1 33 = .ok (.iconst (-1), 1) := by decide +kernel
theorem d_Uni_coupleFor_34 : decode M_Uni_coupleFor.2.1 34 = .ok (.ixor, 1) := by decide +kernel
theorem d_Uni_coupleFor_35 : decode M_Uni_coupleFor.2.1 35 = .ok (.iand, 1) := by decide +kernel
theorem d_Uni_coupleFor_36 : decode M_Uni_coupleFor.2.1 36 = .ok (.ifCond .ne 7, 3) := by decide +kernel
theorem d_Uni_coupleFor_39 : decode M_Uni_coupleFor.2.1 39 = .ok (.aload_n 3, 1) := by decide +kernel
theorem d_Uni_coupleFor_40 : decode M_Uni_coupleFor.2.1 40 = .ok (.goto 4, 3) := by decide +kernel
theorem d_Uni_coupleFor_43 : decode M_Uni_coupleFor.2.1 43 = .ok (.aconst_null, 1) := by decide +kernel
theorem d_Uni_coupleFor_44 : decode M_Uni_coupleFor.2.1 44 = .ok (.areturn, 1) := by decide +kernel
theorem d_Sea_enterCouple_0 : decode M_Sea_enterCouple.2.1 0 = .ok (.aload_n 0, 1) := by decide +kernel
theorem d_Sea_enterCouple_1 : decode M_Sea_enterCouple.2.1 1 = .ok (.getfield 82, 3) := by decide +kernel
theorem d_Sea_enterCouple_4 : decode M_Sea_enterCouple.2.1 4 = .ok (.istore_n 3, 1) := by decide +kernel
theorem d_Sea_enterCouple_5 : decode M_Sea_enterCouple.2.1 5 = .ok (.aload_n 1, 1) := by decide +kernel
theorem d_Sea_enterCouple_6 : decode M_Sea_enterCouple.2.1 6 = .ok (.ifnull 16, 3) := by decide +kernel
theorem d_Sea_enterCouple_9 : decode M_Sea_enterCouple.2.1 9 = .ok (.iload_n 3, 1) := by decide +kernel
theorem d_Sea_enterCouple_10 : decode M_Sea_enterCouple.2.1 10 = .ok (.ifCond .lt 12, 3) := by decide +kernel
theorem d_Sea_enterCouple_13 : decode M_Sea_enterCouple.2.1 13 = .ok (.iload_n 3, 1) := by decide +kernel
theorem d_Sea_enterCouple_14 : decode M_Sea_enterCouple.2.1 14 = .ok (.aload_n 0, 1) := by decide +kernel
theorem d_Sea_enterCouple_15 : decode M_Sea_enterCouple.2.1 15 = .ok (.getfield 48, 3) := by decide +kernel
theorem d_Sea_enterCouple_18 : decode M_Sea_enterCouple.2.1 18 = .ok (.arraylength, 1) := by decide +kernel
theorem d_Sea_enterCouple_19 : decode M_Sea_enterCouple.2.1 19 = .ok (.if_icmp .lt 4, 3) := by decide +kernel
theorem d_Sea_enterCouple_22 : decode M_Sea_enterCouple.2.1 22 = .ok (.return_, 1) := by decide +kernel
theorem d_Sea_enterCouple_23 : decode M_Sea_enterCouple.2.1 23 = .ok (.aload_n 1, 1) := by decide +kernel
theorem d_Sea_enterCouple_24 : decode M_Sea_enterCouple.2.1 24 = .ok (.iload_n 2, 1) := by decide +kernel
theorem d_Sea_enterCouple_25 : decode M_Sea_enterCouple.2.1 25 = .ok (.putfield 132, 3) := by decide +kernel
theorem d_Sea_enterCouple_28 : decode M_Sea_enterCouple.2.1 28 = .ok (.aload_n 0, 1) := by decide +kernel
theorem d_Sea_enterCouple_29 : decode M_Sea_enterCouple.2.1 29 = .ok (.dup, 1) := by decide +kernel
theorem d_Sea_enterCouple_30 : decode M_Sea_enterCouple.2.1 30 = .ok (.getfield 82, 3) := by decide +kernel
theorem d_Sea_enterCouple_33 : decode M_Sea_enterCouple.2.1 33 = .ok (.iconst 1, 1) := by decide +kernel
theorem d_Sea_enterCouple_34 : decode M_Sea_enterCouple.2.1 34 = .ok (.iadd, 1) := by decide +kernel
theorem d_Sea_enterCouple_35 : decode M_Sea_enterCouple.2.1 35 = .ok (.putfield 82, 3) := by decide +kernel
theorem d_Sea_enterCouple_38 : decode M_Sea_enterCouple.2.1 38 = .ok (.iload_n 3, 1) := by decide +kernel
theorem d_Sea_enterCouple_39 : decode M_Sea_enterCouple.2.1 39 = .ok (.ifCond .le 42, 3) := by decide +kernel
theorem d_Sea_enterCouple_42 : decode M_Sea_enterCouple.2.1 42 = .ok (.aload_n 0, 1) := by decide +kernel
theorem d_Sea_enterCouple_43 : decode M_Sea_enterCouple.2.1 43 = .ok (.iload_n 3, 1) := by decide +kernel
theorem d_Sea_enterCouple_44 : decode M_Sea_enterCouple.2.1 44 = .ok (.iconst 1, 1) := by decide +kernel
theorem d_Sea_enterCouple_45 : decode M_Sea_enterCouple.2.1 45 = .ok (.isub, 1) := by decide +kernel
theorem d_Sea_enterCouple_46 : decode M_Sea_enterCouple.2.1 46 = .ok (.invokevirtual 135, 3) := by decide +kernel
theorem d_Sea_enterCouple_49 : decode M_Sea_enterCouple.2.1 49 = .ok (.getfield 139, 3) := by decide +kernel
theorem d_Sea_enterCouple_52 : decode M_Sea_enterCouple.2.1 52 = .ok (.aload_n 1, 1) := by decide +kernel
theorem d_Sea_enterCouple_53 : decode M_Sea_enterCouple.2.1 53 = .ok (.getfield 139, 3) := by decide +kernel
theorem d_Sea_enterCouple_56 : decode M_Sea_enterCouple.2.1 56 = .ok (.invokevirtual 142, 3) := by decide +kernel
theorem d_Sea_enterCouple_59 : decode M_Sea_enterCouple.2.1 59 = .ok (.ifCond .le 22, 3) := by decide +kernel
theorem d_Sea_enterCouple_62 : decode M_Sea_enterCouple.2.1 62 = .ok (.aload_n 0, 1) := by decide +kernel
theorem d_Sea_enterCouple_63 : decode M_Sea_enterCouple.2.1 63 = .ok (.getfield 48, 3) := by decide +kernel
theorem d_Sea_enterCouple_66 : decode M_Sea_enterCouple.2.1 66 = .ok (.iload_n 3, 1) := by decide +kernel
theorem d_Sea_enterCouple_67 : decode M_Sea_enterCouple.2.1 67 = .ok (.aload_n 0, 1) := by decide +kernel
theorem d_Sea_enterCouple_68 : decode M_Sea_enterCouple.2.1 68 = .ok (.iload_n 3, 1) := by decide +kernel
theorem d_Sea_enterCouple_69 : decode M_Sea_enterCouple.2.1 69 = .ok (.iconst 1, 1) := by decide +kernel
theorem d_Sea_enterCouple_70 : decode M_Sea_enterCouple.2.1 70 = .ok (.isub, 1) := by decide +kernel
theorem d_Sea_enterCouple_71 : decode M_Sea_enterCouple.2.1 71 = .ok (.invokevirtual 135, 3) := by decide +kernel
theorem d_Sea_enterCouple_74 : decode M_Sea_enterCouple.2.1 74 = .ok (.aastore, 1) := by decide +kernel
theorem d_Sea_enterCouple_75 : decode M_Sea_enterCouple.2.1 75 = .ok (.iinc 3 (-1), 3) := by decide +kernel
theorem d_Sea_enterCouple_78 : decode M_Sea_enterCouple.2.1 78 = .ok (.goto (-40), 3) := by decide +kernel
theorem d_Sea_enterCouple_81 : decode M_Sea_enterCouple.2.1 81 = .ok (.aload_n 0, 1) := by decide +kernel
theorem d_Sea_enterCouple_82 : decode M_Sea_enterCouple.2.1 82 = .ok (.getfield 48, 3) := by decide +kernel
theorem d_Sea_enterCouple_85 : decode M_Sea_enterCouple.2.1 85 = .ok (.iload_n 3, 1) := by decide +kernel
theorem d_Sea_enterCouple_86 : decode M_Sea_enterCouple.2.1 86 = .ok (.aload_n 1, 1) := by decide +kernel
theorem d_Sea_enterCouple_87 : decode M_Sea_enterCouple.2.1 87 = .ok (.aastore, 1) := by decide +kernel
theorem d_Sea_enterCouple_88 : decode M_Sea_enterCouple.2.1 88 = .ok (.return_, 1) := by decide +kernel
theorem d_Sea_coupleAt_0 : decode M_Sea_coupleAt.2.1 0 = .ok (.iload_n 1, 1) := by decide +kernel
theorem d_Sea_coupleAt_1 : decode M_Sea_coupleAt.2.1 1 = .ok (.ifCond .lt 29, 3) := by decide +kernel
theorem d_Sea_coupleAt_4 : decode M_Sea_coupleAt.2.1 4 = .ok (.iload_n 1, 1) := by decide +kernel
theorem d_Sea_coupleAt_5 : decode M_Sea_coupleAt.2.1 5 = .ok (.aload_n 0, 1) := by decide +kernel
theorem d_Sea_coupleAt_6 : decode M_Sea_coupleAt.2.1 6 = .ok (.getfield 82, 3) := by decide +kernel
theorem d_Sea_coupleAt_9 : decode M_Sea_coupleAt.2.1 9 = .ok (.if_icmp .ge 21, 3) := by decide +kernel
theorem d_Sea_coupleAt_12 : decode M_Sea_coupleAt.2.1 12 = .ok (.iload_n 1, 1) := by decide +kernel
theorem d_Sea_coupleAt_13 : decode M_Sea_coupleAt.2.1 13 = .ok (.aload_n 0, 1) := by decide +kernel
theorem d_Sea_coupleAt_14 : decode M_Sea_coupleAt.2.1 14 = .ok (.getfield 48, 3) := by decide +kernel
theorem d_Sea_coupleAt_17 : decode M_Sea_coupleAt.2.1 17 = .ok (.arraylength, 1) := by decide +kernel
theorem d_Sea_coupleAt_18 : decode M_Sea_coupleAt.2.1 18 = .ok (.if_icmp .ge 12, 3) := by decide +kernel
theorem d_Sea_coupleAt_21 : decode M_Sea_coupleAt.2.1 21 = .ok (.aload_n 0, 1) := by decide +kernel
theorem d_Sea_coupleAt_22 : decode M_Sea_coupleAt.2.1 22 = .ok (.getfield 48, 3) := by decide +kernel
theorem d_Sea_coupleAt_25 : decode M_Sea_coupleAt.2.1 25 = .ok (.iload_n 1, 1) := by decide +kernel
theorem d_Sea_coupleAt_26 : decode M_Sea_coupleAt.2.1 26 = .ok (.aaload, 1) := by decide +kernel
theorem d_Sea_coupleAt_27 : decode M_Sea_coupleAt.2.1 27 = .ok (.goto 4, 3) := by decide +kernel
theorem d_Sea_coupleAt_30 : decode M_Sea_coupleAt.2.1 30 = .ok (.aconst_null, 1) := by decide +kernel
theorem d_Sea_coupleAt_31 : decode M_Sea_coupleAt.2.1 31 = .ok (.astore_n 2, 1) := by decide +kernel
theorem d_Sea_coupleAt_32 : decode M_Sea_coupleAt.2.1 32 = .ok (.aload_n 2, 1) := by decide +kernel
theorem d_Sea_coupleAt_33 : decode M_Sea_coupleAt.2.1 33 = .ok (.ifnonnull 10, 3) := by decide +kernel
theorem d_Sea_coupleAt_36 : decode M_Sea_coupleAt.2.1 36 = .ok (.aload_n 0, 1) := by decide +kernel
theorem d_Sea_coupleAt_37 : decode M_Sea_coupleAt.2.1 37 = .ok (.getfield 37, 3) := by decide +kernel
theorem d_Sea_coupleAt_40 : decode M_Sea_coupleAt.2.1 40 = .ok (.goto 4, 3) := by decide +kernel
theorem d_Sea_coupleAt_43 : decode M_Sea_coupleAt.2.1 43 = .ok (.aload_n 2, 1) := by decide +kernel
theorem d_Sea_coupleAt_44 : decode M_Sea_coupleAt.2.1 44 = .ok (.areturn, 1) := by decide +kernel
theorem d_Big_compareWith_0 : decode M_Big_compareWith.2.1 0 = .ok (.aload_n 0, 1) := by decide +kernel
theorem d_Big_compareWith_1 : decode M_Big_compareWith.2.1 1 = .ok (.getfield 15, 3) := by decide +kernel
theorem d_Big_compareWith_4 : decode M_Big_compareWith.2.1 4 = .ok (.aload_n 1, 1) := by decide +kernel
theorem d_Big_compareWith_5 : decode M_Big_compareWith.2.1 5 = .ok (.getfield 15, 3) := by decide +kernel
theorem d_Big_compareWith_8 : decode M_Big_compareWith.2.1 8 = .ok (.if_icmp .eq 20, 3) := by decide +kernel
theorem d_Big_compareWith_11 : decode M_Big_compareWith.2.1 11 = .ok (.aload_n 0, 1) := by decide +kernel
theorem d_Big_compareWith_12 : decode M_Big_compareWith.2.1 12 = .ok (.getfield 15, 3) := by decide +kernel
theorem d_Big_compareWith_15 : decode M_Big_compareWith.2.1 15 = .ok (.aload_n 1, 1) := by decide +kernel
theorem d_Big_compareWith_16 : decode M_Big_compareWith.2.1 16 = .ok (.getfield 15, 3) := by decide +kernel
theorem d_Big_compareWith_19 : decode M_Big_compareWith.2.1 19 = .ok (.if_icmp .ge 7, 3) := by decide +kernel
theorem d_Big_compareWith_22 : decode M_Big_compareWith.2.1 22 = .ok (.iconst (-1), 1) := by decide +kernel
theorem d_Big_compareWith_23 : decode M_Big_compareWith.2.1 23 = .ok (.goto 4, 3) := by decide +kernel
theorem d_Big_compareWith_26 : decode M_Big_compareWith.2.1 26 = .ok (.iconst 1, 1) := by decide +kernel
theorem d_Big_compareWith_27 : decode M_Big_compareWith.2.1 27 = .ok (.ireturn, 1) := by decide +kernel
theorem d_Big_compareWith_28 : decode M_Big_compareWith.2.1 28 = .ok (.aload_n 0, 1) := by decide +kernel
theorem d_Big_compareWith_29 : decode M_Big_compareWith.2.1 29 = .ok (.getfield 15, 3) := by decide +kernel
theorem d_Big_compareWith_32 : decode M_Big_compareWith.2.1 32 = .ok (.iconst 1, 1) := by decide +kernel
theorem d_Big_compareWith_33 : decode M_Big_compareWith.2.1 33 = .ok (.isub, 1) := by decide +kernel
theorem d_Big_compareWith_34 : decode M_Big_compareWith.2.1 34 = .ok (.istore_n 2, 1) := by decide +kernel
theorem d_Big_compareWith_35 : decode M_Big_compareWith.2.1 35 = .ok (.iload_n 2, 1) := by decide +kernel
theorem d_Big_compareWith_36 : decode M_Big_compareWith.2.1 36 = .ok (.ifCond .lt 40, 3) := by decide +kernel
theorem d_Big_compareWith_39 : decode M_Big_compareWith.2.1 39 = .ok (.aload_n 0, 1) := by decide +kernel
theorem d_Big_compareWith_40 : decode M_Big_compareWith.2.1 40 = .ok (.iload_n 2, 1) := by decide +kernel
theorem d_Big_compareWith_41 : decode M_Big_compareWith.2.1 41 = .ok (.invokevirtual 25, 3) := by decide +kernel
theorem d_Big_compareWith_44 : decode M_Big_compareWith.2.1 44 = .ok (.istore_n 3, 1) := by decide +kernel
theorem d_Big_compareWith_45 : decode M_Big_compareWith.2.1 45 = .ok (.aload_n 1, 1) := by decide +kernel
theorem d_Big_compareWith_46 : decode M_Big_compareWith.2.1 46 = .ok (.iload_n 2, 1) := by decide +kernel
theorem d_Big_compareWith_47 : decode M_Big_compareWith.2.1 47 = .ok (.invokevirtual 25, 3) := by decide +kernel
theorem d_Big_compareWith_50 : decode M_Big_compareWith.2.1 50 = .ok (.istore 4, 2) := by decide +kernel
theorem d_Big_compareWith_52 : decode M_Big_compareWith.2.1 52 = .ok (.iload_n 3, 1) := by decide +kernel
theorem d_Big_compareWith_53 : decode M_Big_compareWith.2.1 53 = .ok (.iload 4, 2) := by decide +kernel
theorem d_Big_compareWith_55 : decode M_Big_compareWith.2.1 55 = .ok (.if_icmp .eq 15, 3) := by decide +kernel
theorem d_Big_compareWith_58 : decode M_Big_compareWith.2.1 58 = .ok (.iload_n 3, 1) := by decide +kernel
theorem d_Big_compareWith_59 : decode M_Big_compareWith.2.1 59 = .ok (.iload 4, 2) := by decide +kernel
theorem d_Big_compareWith_61 : decode M_Big_compareWith.2.1 61 = .ok (.if_icmp .ge 7, 3) := by decide +kernel
theorem d_Big_compareWith_64 : decode M_Big_compareWith.2.1 64 = .ok (.iconst (-1), 1) := by decide +kernel
theorem d_Big_compareWith_65 : decode M_Big_compareWith.2.1 65 = .ok (.goto 4, 3) := by decide +kernel
theorem d_Big_compareWith_68 : decode M_Big_compareWith.2.1 68 = .ok (.iconst 1, 1) := by decide +kernel
theorem d_Big_compareWith_69 : decode M_Big_compareWith.2.1 69 = .ok (.ireturn, 1) := by decide +kernel
theorem d_Big_compareWith_70 : decode M_Big_compareWith.2.1 70 = .ok (.iinc 2 (-1), 3) := by decide +kernel
theorem d_Big_compareWith_73 : decode M_Big_compareWith.2.1 73 = .ok (.goto (-38), 3) := by decide +kernel
theorem d_Big_compareWith_76 : decode M_Big_compareWith.2.1 76 = .ok (.iconst 0, 1) := by decide +kernel
theorem d_Big_compareWith_77 : decode M_Big_compareWith.2.1 77 = .ok (.ireturn, 1) := by decide +kernel
theorem d_SN_add_0 : decode M_SN_add.2.1 0 = .ok (.aload_n 0, 1) := by decide +kernel
theorem d_SN_add_1 : decode M_SN_add.2.1 1 = .ok (.iload_n 1, 1) := by decide +kernel
theorem d_SN_add_2 : decode M_SN_add.2.1 2 = .ok (.invokevirtual 83, 3) := by decide +kernel
theorem d_SN_add_5 : decode M_SN_add.2.1 5 = .ok (.ifCond .ne 5, 3) := by decide +kernel
theorem d_SN_add_8 : decode M_SN_add.2.1 8 = .ok (.iconst (-1), 1) := by decide +kernel
theorem d_SN_add_9 : decode M_SN_add.2.1 9 = .ok (.ireturn, 1) := by decide +kernel
theorem d_SN_add_10 : decode M_SN_add.2.1 10 = .ok (.aload_n 0, 1) := by decide +kernel
theorem d_SN_add_11 : decode M_SN_add.2.1 11 = .ok (.dup, 1) := by decide +kernel
theorem d_SN_add_12 : decode M_SN_add.2.1 12 = .ok (.getfield 72, 3) := by decide +kernel
theorem d_SN_add_15 : decode M_SN_add.2.1 15 = .ok (.iload_n 1, 1) := by decide +kernel
theorem d_SN_add_16 : decode M_SN_add.2.1 16 = .ok (.invokestatic 87, 3) := by decide +kernel
theorem d_SN_add_19 : decode M_SN_add.2.1 19 = .ok (.ior, 1) := by decide +kernel
theorem d_SN_add_20 : decode M_SN_add.2.1 20 = .ok (.putfield 72, 3) := by decide +kernel
theorem d_SN_add_23 : decode M_SN_add.2.1 23 = .ok (.aload_n 0, 1) := by decide +kernel
theorem d_SN_add_24 : decode M_SN_add.2.1 24 = .ok (.getfield 12, 3) := by decide +kernel
theorem d_SN_add_27 : decode M_SN_add.2.1 27 = .ok (.aload_n 0, 1) := by decide +kernel
theorem d_SN_add_28 : decode M_SN_add.2.1 28 = .ok (.getfield 72, 3) := by decide +kernel
theorem d_SN_add_31 : decode M_SN_add.2.1 31 = .ok (.invokevirtual 79, 3) := by decide +kernel
theorem d_SN_add_34 : decode M_SN_add.2.1 34 = .ok (.getfield 93, 3) := by decide +kernel
theorem d_SN_add_37 : decode M_SN_add.2.1 37 = .ok (.ireturn, 1) := by decide +kernel
theorem d_SN_canCome_0 : decode M_SN_canCome.2.1 0 = .ok (.iload_n 1, 1) := by decide +kernel
theorem d_SN_canCome_1 : decode M_SN_canCome.2.1 1 = .ok (.invokestatic 246, 3) := by decide +kernel
theorem d_SN_canCome_4 : decode M_SN_canCome.2.1 4 = .ok (.iconst (-1), 1) := by decide +kernel
theorem d_SN_canCome_5 : decode M_SN_canCome.2.1 5 = .ok (.if_icmp .eq 29, 3) := by decide +kernel
theorem d_SN_canCome_8 : decode M_SN_canCome.2.1 8 = .ok (.aload_n 0, 1) := by decide +kernel
theorem d_SN_canCome_9 : decode M_SN_canCome.2.1 9 = .ok (.getfield 72, 3) := by decide +kernel
theorem d_SN_canCome_12 : decode M_SN_canCome.2.1 12 = .ok (.iload_n 1, 1) := by decide +kernel
theorem d_SN_canCome_13 : decode M_SN_canCome.2.1 13 = .ok (.invokestatic 96, 3) := by decide +kernel
theorem d_SN_canCome_16 : decode M_SN_canCome.2.1 16 = .ok (.ifCond .ne 18, 3) := by decide +kernel
theorem d_SN_canCome_19 : decode M_SN_canCome.2.1 19 = .ok (.aload_n 0, 1) := by decide +kernel
theorem d_SN_canCome_20 : decode M_SN_canCome.2.1 20 = .ok (.getfield 72, 3) := by decide +kernel
theorem d_SN_canCome_23 : decode M_SN_canCome.2.1 23 = .ok (.invokestatic 100, 3) := by decide +kernel
theorem d_SN_canCome_26 : decode M_SN_canCome.2.1 26 = .ok (.iconst 5, 1) := by decide +kernel
theorem d_SN_canCome_27 : decode M_SN_canCome.2.1 27 = .ok (.if_icmp .ge 7, 3) := by decide +kernel
theorem d_SN_canCome_30 : decode M_SN_canCome.2.1 30 = .ok (.iconst 1, 1) := by decide +kernel
theorem d_SN_canCome_31 : decode M_SN_canCome.2.1 31 = .ok (.goto 4, 3) := by decide +kernel
theorem d_SN_canCome_34 : decode M_SN_canCome.2.1 34 = .ok (.iconst 0, 1) := by decide +kernel
theorem d_SN_canCome_35 : decode M_SN_canCome.2.1 35 = .ok (.ireturn, 1) := by decide +kernel
theorem d_Pri_placeOf_0 : decode M_Pri_placeOf.2.1 0 = .ok (.iconst 0, 1) := by decide +kernel
theorem d_Pri_placeOf_1 : decode M_Pri_placeOf.2.1 1 = .ok (.istore_n 1, 1) := by decide +kernel
theorem d_Pri_placeOf_2 : decode M_Pri_placeOf.2.1 2 = .ok (.iload_n 1, 1) := by decide +kernel
theorem d_Pri_placeOf_3 : decode M_Pri_placeOf.2.1 3 = .ok (.bipush 7, 2) := by decide +kernel
theorem d_Pri_placeOf_5 : decode M_Pri_placeOf.2.1 5 = .ok (.if_icmp .ge 19, 3) := by decide +kernel
theorem d_Pri_placeOf_8 : decode M_Pri_placeOf.2.1 8 = .ok (.iload_n 1, 1) := by decide +kernel
theorem d_Pri_placeOf_9 : decode M_Pri_placeOf.2.1 9 = .ok (.invokestatic 15, 3) := by decide +kernel
theorem d_Pri_placeOf_12 : decode M_Pri_placeOf.2.1 12 = .ok (.iload_n 0, 1) := by decide +kernel
theorem d_Pri_placeOf_13 : decode M_Pri_placeOf.2.1 13 = .ok (.if_icmp .ne 5, 3) := by decide +kernel
theorem d_Pri_placeOf_16 : decode M_Pri_placeOf.2.1 16 = .ok (.iload_n 1, 1) := by decide +kernel
theorem d_Pri_placeOf_17 : decode M_Pri_placeOf.2.1 17 = .ok (.ireturn, 1) := by decide +kernel
theorem d_Pri_placeOf_18 : decode M_Pri_placeOf.2.1 18 = .ok (.iinc 1 1, 3) := by decide +kernel
theorem d_Pri_placeOf_21 : decode M_Pri_placeOf.2.1 21 = .ok (.goto (-19), 3) := by decide +kernel
theorem d_Pri_placeOf_24 : decode M_Pri_placeOf.2.1 24 = .ok (.iconst (-1), 1) := by decide +kernel
theorem d_Pri_placeOf_25 : decode M_Pri_placeOf.2.1 25 = .ok (.ireturn, 1) := by decide +kernel
theorem d_Pri_has_0 : decode M_Pri_has.2.1 0 = .ok (.iload_n 0, 1) := by decide +kernel
theorem d_Pri_has_1 : decode M_Pri_has.2.1 1 = .ok (.iload_n 1, 1) := by decide +kernel
theorem d_Pri_has_2 : decode M_Pri_has.2.1 2 = .ok (.invokestatic 22, 3) := by decide +kernel
theorem d_Pri_has_5 : decode M_Pri_has.2.1 5 = .ok (.iand, 1) := by decide +kernel
theorem d_Pri_has_6 : decode M_Pri_has.2.1 6 = .ok (.ifCond .eq 7, 3) := by decide +kernel
theorem d_Pri_has_9 : decode M_Pri_has.2.1 9 = .ok (.iconst 1, 1) := by decide +kernel
theorem d_Pri_has_10 : decode M_Pri_has.2.1 10 = .ok (.goto 4, 3) := by decide +kernel
theorem d_Pri_has_13 : decode M_Pri_has.2.1 13 = .ok (.iconst 0, 1) := by decide +kernel
theorem d_Pri_has_14 : decode M_Pri_has.2.1 14 = .ok (.ireturn, 1) := by decide +kernel
theorem d_Pri_bitOf_0 : decode M_Pri_bitOf.2.1 0 = .ok (.iload_n 0, 1) := by decide +kernel
theorem d_Pri_bitOf_1 : decode M_Pri_bitOf.2.1 1 = .ok (.invokestatic 19, 3) := by decide +kernel
theorem d_Pri_bitOf_4 : decode M_Pri_bitOf.2.1 4 = .ok (.istore_n 1, 1) := by decide +kernel
theorem d_Pri_bitOf_5 : decode M_Pri_bitOf.2.1 5 = .ok (.iload_n 1, 1) := by decide +kernel
theorem d_Pri_bitOf_6 : decode M_Pri_bitOf.2.1 6 = .ok (.iconst (-1), 1) := by decide +kernel
theorem d_Pri_bitOf_7 : decode M_Pri_bitOf.2.1 7 = .ok (.if_icmp .ne 7, 3) := by decide +kernel
theorem d_Pri_bitOf_10 : decode M_Pri_bitOf.2.1 10 = .ok (.iconst 0, 1) := by decide +kernel
theorem d_Pri_bitOf_11 : decode M_Pri_bitOf.2.1 11 = .ok (.goto 6, 3) := by decide +kernel
theorem d_Pri_bitOf_14 : decode M_Pri_bitOf.2.1 14 = .ok (.iconst 1, 1) := by decide +kernel
theorem d_Pri_bitOf_15 : decode M_Pri_bitOf.2.1 15 = .ok (.iload_n 1, 1) := by decide +kernel
theorem d_Pri_bitOf_16 : decode M_Pri_bitOf.2.1 16 = .ok (.ishl, 1) := by decide +kernel
theorem d_Pri_bitOf_17 : decode M_Pri_bitOf.2.1 17 = .ok (.ireturn, 1) := by decide +kernel
theorem d_JInt_bitCount_0 : decode M_JInt_bitCount.2.1 0 = .ok (.iload_n 0, 1) := by decide +kernel
theorem d_JInt_bitCount_1 : decode M_JInt_bitCount.2.1 1 = .ok (.iload_n 0, 1) := by decide +kernel
theorem d_JInt_bitCount_2 : decode M_JInt_bitCount.2.1 2 = .ok (.iconst 1, 1) := by decide +kernel
theorem d_JInt_bitCount_3 : decode M_JInt_bitCount.2.1 3 = .ok (.iushr, 1) := by decide +kernel
theorem d_JInt_bitCount_4 : decode M_JInt_bitCount.2.1 4 = .ok (.ldc_w 265, 3) := by decide +kernel
theorem d_JInt_bitCount_7 : decode M_JInt_bitCount.2.1 7 = .ok (.iand, 1) := by decide +kernel
theorem d_JInt_bitCount_8 : decode M_JInt_bitCount.2.1 8 = .ok (.isub, 1) := by decide +kernel
theorem d_JInt_bitCount_9 : decode M_JInt_bitCount.2.1 9 = .ok (.istore_n 0, 1) := by decide +kernel
theorem d_JInt_bitCount_10 : decode M_JInt_bitCount.2.1 10 = .ok (.iload_n 0, 1) := by decide +kernel
theorem d_JInt_bitCount_11 : decode M_JInt_bitCount.2.1 11 = .ok (.ldc_w 266, 3) := by decide +kernel
theorem d_JInt_bitCount_14 : decode M_JInt_bitCount.2.1 14 = .ok (.iand, 1) := by decide +kernel
theorem d_JInt_bitCount_15 : decode M_JInt_bitCount.2.1 15 = .ok (.iload_n 0, 1) := by decide +kernel
theorem d_JInt_bitCount_16 : decode M_JInt_bitCount.2.1 16 = .ok (.iconst 2, 1) := by decide +kernel
theorem d_JInt_bitCount_17 : decode M_JInt_bitCount.2.1 17 = .ok (.iushr, 1) := by decide +kernel
theorem d_JInt_bitCount_18 : decode M_JInt_bitCount.2.1 18 = .ok (.ldc_w 266, 3) := by decide +kernel
theorem d_JInt_bitCount_21 : decode M_JInt_bitCount.2.1 21 = .ok (.iand, 1) := by decide +kernel
theorem d_JInt_bitCount_22 : decode M_JInt_bitCount.2.1 22 = .ok (.iadd, 1) := by decide +kernel
theorem d_JInt_bitCount_23 : decode M_JInt_bitCount.2.1 23 = .ok (.istore_n 0, 1) := by decide +kernel
theorem d_JInt_bitCount_24 : decode M_JInt_bitCount.2.1 24 = .ok (.iload_n 0, 1) := by decide +kernel
theorem d_JInt_bitCount_25 : decode M_JInt_bitCount.2.1 25 = .ok (.iload_n 0, 1) := by decide +kernel
theorem d_JInt_bitCount_26 : decode M_JInt_bitCount.2.1 26 = .ok (.iconst 4, 1) := by decide +kernel
theorem d_JInt_bitCount_27 : decode M_JInt_bitCount.2.1 27 = .ok (.iushr, 1) := by decide +kernel
theorem d_JInt_bitCount_28 : decode M_JInt_bitCount.2.1 28 = .ok (.iadd, 1) := by decide +kernel
theorem d_JInt_bitCount_29 : decode M_JInt_bitCount.2.1 29 = .ok (.ldc_w 267, 3) := by decide +kernel
theorem d_JInt_bitCount_32 : decode M_JInt_bitCount.2.1 32 = .ok (.iand, 1) := by decide +kernel
theorem d_JInt_bitCount_33 : decode M_JInt_bitCount.2.1 33 = .ok (.istore_n 0, 1) := by decide +kernel
theorem d_JInt_bitCount_34 : decode M_JInt_bitCount.2.1 34 = .ok (.iload_n 0, 1) := by decide +kernel
theorem d_JInt_bitCount_35 : decode M_JInt_bitCount.2.1 35 = .ok (.iload_n 0, 1) := by decide +kernel
theorem d_JInt_bitCount_36 : decode M_JInt_bitCount.2.1 36 = .ok (.bipush 8, 2) := by decide +kernel
theorem d_JInt_bitCount_38 : decode M_JInt_bitCount.2.1 38 = .ok (.iushr, 1) := by decide +kernel
theorem d_JInt_bitCount_39 : decode M_JInt_bitCount.2.1 39 = .ok (.iadd, 1) := by decide +kernel
theorem d_JInt_bitCount_40 : decode M_JInt_bitCount.2.1 40 = .ok (.istore_n 0, 1) := by decide +kernel
theorem d_JInt_bitCount_41 : decode M_JInt_bitCount.2.1 41 = .ok (.iload_n 0, 1) := by decide +kernel
theorem d_JInt_bitCount_42 : decode M_JInt_bitCount.2.1 42 = .ok (.iload_n 0, 1) := by decide +kernel
theorem d_JInt_bitCount_43 : decode M_JInt_bitCount.2.1 43 = .ok (.bipush 16, 2) := by decide +kernel
theorem d_JInt_bitCount_45 : decode M_JInt_bitCount.2.1 45 = .ok (.iushr, 1) := by decide +kernel
theorem d_JInt_bitCount_46 : decode M_JInt_bitCount.2.1 46 = .ok (.iadd, 1) := by decide +kernel
theorem d_JInt_bitCount_47 : decode M_JInt_bitCount.2.1 47 = .ok (.istore_n 0, 1) := by decide +kernel
theorem d_JInt_bitCount_48 : decode M_JInt_bitCount.2.1 48 = .ok (.iload_n 0, 1) := by decide +kernel
theorem d_JInt_bitCount_49 : decode M_JInt_bitCount.2.1 49 = .ok (.bipush 63, 2) := by decide +kernel
theorem d_JInt_bitCount_51 : decode M_JInt_bitCount.2.1 51 = .ok (.iand, 1) := by decide +kernel
theorem d_JInt_bitCount_52 : decode M_JInt_bitCount.2.1 52 = .ok (.ireturn, 1) := by decide +kernel
theorem d_SN_drop_0 : decode M_SN_drop.2.1 0 = .ok (.aload_n 0, 1) := by decide +kernel
theorem d_SN_drop_1 : decode M_SN_drop.2.1 1 = .ok (.getfield 72, 3) := by decide +kernel
theorem d_SN_drop_4 : decode M_SN_drop.2.1 4 = .ok (.iload_n 1, 1) := by decide +kernel
theorem d_SN_drop_5 : decode M_SN_drop.2.1 5 = .ok (.invokestatic 96, 3) := by decide +kernel
theorem d_SN_drop_8 : decode M_SN_drop.2.1 8 = .ok (.ifCond .ne 5, 3) := by decide +kernel
theorem d_SN_drop_11 : decode M_SN_drop.2.1 11 = .ok (.iconst (-1), 1) := by decide +kernel
theorem d_SN_drop_12 : decode M_SN_drop.2.1 12 = .ok (.ireturn, 1) := by decide +kernel
theorem d_SN_drop_13 : decode M_SN_drop.2.1 13 = .ok (.aload_n 0, 1) := by decide +kernel
theorem d_SN_drop_14 : decode M_SN_drop.2.1 14 = .ok (.dup, 1) := by decide +kernel
theorem d_SN_drop_15 : decode M_SN_drop.2.1 15 = .ok (.getfield 72, 3) := by decide +kernel
theorem d_SN_drop_18 : decode M_SN_drop.2.1 18 = .ok (.iload_n 1, 1) := by decide +kernel
theorem d_SN_drop_19 : decode M_SN_drop.2.1 19 = .ok (.invokestatic 87, 3) := by decide +kernel
theorem d_SN_drop_22 : decode M_SN_drop.2.1 22 = .ok (.iconst (-1), 1) := by decide +kernel
theorem d_SN_drop_23 : decode M_SN_drop.2.1 23 = .ok (.ixor, 1) := by decide +kernel
theorem d_SN_drop_24 : decode M_SN_drop.2.1 24 = .ok (.iand, 1) := by decide +kernel
theorem d_SN_drop_25 : decode M_SN_drop.2.1 25 = .ok (.putfield 72, 3) := by decide +kernel
theorem d_SN_drop_28 : decode M_SN_drop.2.1 28 = .ok (.aload_n 0, 1) := by decide +kernel
theorem d_SN_drop_29 : decode M_SN_drop.2.1 29 = .ok (.getfield 12, 3) := by decide +kernel
theorem d_SN_drop_32 : decode M_SN_drop.2.1 32 = .ok (.aload_n 0, 1) := by decide +kernel
theorem d_SN_drop_33 : decode M_SN_drop.2.1 33 = .ok (.getfield 72, 3) := by decide +kernel
theorem d_SN_drop_36 : decode M_SN_drop.2.1 36 = .ok (.invokevirtual 79, 3) := by decide +kernel
theorem d_SN_drop_39 : decode M_SN_drop.2.1 39 = .ok (.getfield 93, 3) := by decide +kernel
theorem d_SN_drop_42 : decode M_SN_drop.2.1 42 = .ok (.ireturn, 1) := by decide +kernel
theorem d_SN_choose_0 : decode M_SN_choose.2.1 0 = .ok (.iload_n 1, 1) := by decide +kernel
theorem d_SN_choose_1 : decode M_SN_choose.2.1 1 = .ok (.ifCond .lt 18, 3) := by decide +kernel
theorem d_SN_choose_4 : decode M_SN_choose.2.1 4 = .ok (.iload_n 1, 1) := by decide +kernel
theorem d_SN_choose_5 : decode M_SN_choose.2.1 5 = .ok (.sipush 128, 3) := by decide +kernel
theorem d_SN_choose_8 : decode M_SN_choose.2.1 8 = .ok (.if_icmp .ge 11, 3) := by decide +kernel
theorem d_SN_choose_11 : decode M_SN_choose.2.1 11 = .ok (.iload_n 1, 1) := by decide +kernel
theorem d_SN_choose_12 : decode M_SN_choose.2.1 12 = .ok (.invokestatic 100, 3) := by decide +kernel
theorem d_SN_choose_15 : decode M_SN_choose.2.1 15 = .ok (.iconst 5, 1) := by decide +kernel
theorem d_SN_choose_16 : decode M_SN_choose.2.1 16 = .ok (.if_icmp .le 5, 3) := by decide +kernel
theorem d_SN_choose_19 : decode M_SN_choose.2.1 19 = .ok (.iconst (-1), 1) := by decide +kernel
theorem d_SN_choose_20 : decode M_SN_choose.2.1 20 = .ok (.ireturn, 1) := by decide +kernel
theorem d_SN_choose_21 : decode M_SN_choose.2.1 21 = .ok (.aload_n 0, 1) := by decide +kernel
theorem d_SN_choose_22 : decode M_SN_choose.2.1 22 = .ok (.iload_n 1, 1) := by decide +kernel
theorem d_SN_choose_23 : decode M_SN_choose.2.1 23 = .ok (.putfield 72, 3) := by decide +kernel
theorem d_SN_choose_26 : decode M_SN_choose.2.1 26 = .ok (.aload_n 0, 1) := by decide +kernel
theorem d_SN_choose_27 : decode M_SN_choose.2.1 27 = .ok (.getfield 12, 3) := by decide +kernel
theorem d_SN_choose_30 : decode M_SN_choose.2.1 30 = .ok (.aload_n 0, 1) := by decide +kernel
theorem d_SN_choose_31 : decode M_SN_choose.2.1 31 = .ok (.getfield 72, 3) := by decide +kernel
theorem d_SN_choose_34 : decode M_SN_choose.2.1 34 = .ok (.invokevirtual 79, 3) := by decide +kernel
theorem d_SN_choose_37 : decode M_SN_choose.2.1 37 = .ok (.getfield 93, 3) := by decide +kernel
theorem d_SN_choose_40 : decode M_SN_choose.2.1 40 = .ok (.ireturn, 1) := by decide +kernel
theorem d_SN_is_0 : decode M_SN_is.2.1 0 = .ok (.iload_n 1, 1) := by decide +kernel
theorem d_SN_is_1 : decode M_SN_is.2.1 1 = .ok (.tableswitch 173 0 10 #[59, 64, 72, 80, 88, 96, 104, 112, 149, 157, 165], 59) := by decide +kernel
theorem d_SN_is_60 : decode M_SN_is.2.1 60 = .ok (.aload_n 0, 1) := by decide +kernel
theorem d_SN_is_61 : decode M_SN_is.2.1 61 = .ok (.getfield 72, 3) := by decide +kernel
theorem d_SN_is_64 : decode M_SN_is.2.1 64 = .ok (.ireturn, 1) := by decide +kernel
theorem d_SN_is_65 : decode M_SN_is.2.1 65 = .ok (.aload_n 0, 1) := by decide +kernel
theorem d_SN_is_66 : decode M_SN_is.2.1 66 = .ok (.getfield 72, 3) := by decide +kernel
theorem d_SN_is_69 : decode M_SN_is.2.1 69 = .ok (.invokestatic 100, 3) := by decide +kernel
theorem d_SN_is_72 : decode M_SN_is.2.1 72 = .ok (.ireturn, 1) := by decide +kernel
theorem d_SN_is_73 : decode M_SN_is.2.1 73 = .ok (.aload_n 0, 1) := by decide +kernel
theorem d_SN_is_74 : decode M_SN_is.2.1 74 = .ok (.getfield 12, 3) := by decide +kernel
theorem d_SN_is_77 : decode M_SN_is.2.1 77 = .ok (.getfield 105, 3) := by decide +kernel
theorem d_SN_is_80 : decode M_SN_is.2.1 80 = .ok (.ireturn, 1) := by decide +kernel
theorem d_SN_is_81 : decode M_SN_is.2.1 81 = .ok (.aload_n 0, 1) := by decide +kernel
theorem d_SN_is_82 : decode M_SN_is.2.1 82 = .ok (.getfield 12, 3) := by decide +kernel
theorem d_SN_is_85 : decode M_SN_is.2.1 85 = .ok (.getfield 108, 3) := by decide +kernel
theorem d_SN_is_88 : decode M_SN_is.2.1 88 = .ok (.ireturn, 1) := by decide +kernel
theorem d_SN_is_89 : decode M_SN_is.2.1 89 = .ok (.aload_n 0, 1) := by decide +kernel
theorem d_SN_is_90 : decode M_SN_is.2.1 90 = .ok (.getfield 12, 3) := by decide +kernel
theorem d_SN_is_93 : decode M_SN_is.2.1 93 = .ok (.getfield 93, 3) := by decide +kernel
theorem d_SN_is_96 : decode M_SN_is.2.1 96 = .ok (.ireturn, 1) := by decide +kernel
theorem d_SN_is_97 : decode M_SN_is.2.1 97 = .ok (.aload_n 0, 1) := by decide +kernel
theorem d_SN_is_98 : decode M_SN_is.2.1 98 = .ok (.getfield 12, 3) := by decide +kernel
theorem d_SN_is_101 : decode M_SN_is.2.1 101 = .ok (.invokevirtual 111, 3) := by decide +kernel
theorem d_SN_is_104 : decode M_SN_is.2.1 104 = .ok (.ireturn, 1) := by decide +kernel
theorem d_SN_is_105 : decode M_SN_is.2.1 105 = .ok (.aload_n 0, 1) := by decide +kernel
theorem d_SN_is_106 : decode M_SN_is.2.1 106 = .ok (.getfield 72, 3) := by decide +kernel
theorem d_SN_is_109 : decode M_SN_is.2.1 109 = .ok (.invokestatic 115, 3) := by decide +kernel
theorem d_SN_is_112 : decode M_SN_is.2.1 112 = .ok (.ireturn, 1) := by decide +kernel
theorem d_SN_is_113 : decode M_SN_is.2.1 113 = .ok (.aload_n 0, 1) := by decide +kernel
theorem d_SN_is_114 : decode M_SN_is.2.1 114 = .ok (.getfield 12, 3) := by decide +kernel
theorem d_SN_is_117 : decode M_SN_is.2.1 117 = .ok (.getfield 93, 3) := by decide +kernel
theorem d_SN_is_120 : decode M_SN_is.2.1 120 = .ok (.ifCond .ne 7, 3) := by decide +kernel
theorem d_SN_is_123 : decode M_SN_is.2.1 123 = .ok (.iconst 0, 1) := by decide +kernel
theorem d_SN_is_124 : decode M_SN_is.2.1 124 = .ok (.goto 25, 3) := by decide +kernel
theorem d_SN_is_127 : decode M_SN_is.2.1 127 = .ok (.aload_n 0, 1) := by decide +kernel
theorem d_SN_is_128 : decode M_SN_is.2.1 128 = .ok (.getfield 12, 3) := by decide +kernel
theorem d_SN_is_131 : decode M_SN_is.2.1 131 = .ok (.aload_n 0, 1) := by decide +kernel
theorem d_SN_is_132 : decode M_SN_is.2.1 132 = .ok (.getfield 12, 3) := by decide +kernel
theorem d_SN_is_135 : decode M_SN_is.2.1 135 = .ok (.getfield 93, 3) := by decide +kernel
theorem d_SN_is_138 : decode M_SN_is.2.1 138 = .ok (.iconst 1, 1) := by decide +kernel
theorem d_SN_is_139 : decode M_SN_is.2.1 139 = .ok (.isub, 1) := by decide +kernel
theorem d_SN_is_140 : decode M_SN_is.2.1 140 = .ok (.invokevirtual 118, 3) := by decide +kernel
theorem d_SN_is_143 : decode M_SN_is.2.1 143 = .ok (.getfield 122, 3) := by decide +kernel
theorem d_SN_is_146 : decode M_SN_is.2.1 146 = .ok (.invokevirtual 127, 3) := by decide +kernel
theorem d_SN_is_149 : decode M_SN_is.2.1 149 = .ok (.ireturn, 1) := by decide +kernel
theorem d_SN_is_150 : decode M_SN_is.2.1 150 = .ok (.aload_n 0, 1) := by decide +kernel
theorem d_SN_is_151 : decode M_SN_is.2.1 151 = .ok (.getfield 12, 3) := by decide +kernel
theorem d_SN_is_154 : decode M_SN_is.2.1 154 = .ok (.invokevirtual 130, 3) := by decide +kernel
theorem d_SN_is_157 : decode M_SN_is.2.1 157 = .ok (.ireturn, 1) := by decide +kernel
theorem d_SN_is_158 : decode M_SN_is.2.1 158 = .ok (.aload_n 0, 1) := by decide +kernel
theorem d_SN_is_159 : decode M_SN_is.2.1 159 = .ok (.getfield 12, 3) := by decide +kernel
theorem d_SN_is_162 : decode M_SN_is.2.1 162 = .ok (.invokevirtual 133, 3) := by decide +kernel
theorem d_SN_is_165 : decode M_SN_is.2.1 165 = .ok (.ireturn, 1) := by decide +kernel
theorem d_SN_is_166 : decode M_SN_is.2.1 166 = .ok (.aload_n 0, 1) := by decide +kernel
theorem d_SN_is_167 : decode M_SN_is.2.1 167 = .ok (.getfield 12, 3) := by decide +kernel
theorem d_SN_is_170 : decode M_SN_is.2.1 170 = .ok (.invokevirtual 136, 3) := by decide +kernel
theorem d_SN_is_173 : decode M_SN_is.2.1 173 = .ok (.ireturn, 1) := by decide +kernel
theorem d_SN_is_174 : decode M_SN_is.2.1 174 = .ok (.iconst (-1), 1) := by decide +kernel
theorem d_SN_is_175 : decode M_SN_is.2.1 175 = .ok (.ireturn, 1) := by decide +kernel
theorem d_Sea_runsOfThree_0 : decode M_Sea_runsOfThree.2.1 0 = .ok (.iconst 0, 1) := by decide +kernel
theorem d_Sea_runsOfThree_1 : decode M_Sea_runsOfThree.2.1 1 = .ok (.istore_n 1, 1) := by decide +kernel
theorem d_Sea_runsOfThree_2 : decode M_Sea_runsOfThree.2.1 2 = .ok (.iconst 0, 1) := by decide +kernel
theorem d_Sea_runsOfThree_3 : decode M_Sea_runsOfThree.2.1 3 = .ok (.istore_n 2, 1) := by decide +kernel
theorem d_Sea_runsOfThree_4 : decode M_Sea_runsOfThree.2.1 4 = .ok (.iload_n 2, 1) := by decide +kernel
theorem d_Sea_runsOfThree_5 : decode M_Sea_runsOfThree.2.1 5 = .ok (.aload_n 0, 1) := by decide +kernel
theorem d_Sea_runsOfThree_6 : decode M_Sea_runsOfThree.2.1 6 = .ok (.getfield 82, 3) := by decide +kernel
theorem d_Sea_runsOfThree_9 : decode M_Sea_runsOfThree.2.1 9 = .ok (.if_icmp .ge 25, 3) := by decide +kernel
theorem d_Sea_runsOfThree_12 : decode M_Sea_runsOfThree.2.1 12 = .ok (.iload_n 1, 1) := by decide +kernel
theorem d_Sea_runsOfThree_13 : decode M_Sea_runsOfThree.2.1 13 = .ok (.aload_n 0, 1) := by decide +kernel
theorem d_Sea_runsOfThree_14 : decode M_Sea_runsOfThree.2.1 14 = .ok (.iload_n 2, 1) := by decide +kernel
theorem d_Sea_runsOfThree_15 : decode M_Sea_runsOfThree.2.1 15 = .ok (.invokevirtual 174, 3) := by decide +kernel
theorem d_Sea_runsOfThree_18 : decode M_Sea_runsOfThree.2.1 18 = .ok (.ifCond .eq 7, 3) := by decide +kernel
theorem d_Sea_runsOfThree_21 : decode M_Sea_runsOfThree.2.1 21 = .ok (.iconst 1, 1) := by decide +kernel
theorem d_Sea_runsOfThree_22 : decode M_Sea_runsOfThree.2.1 22 = .ok (.goto 4, 3) := by decide +kernel
theorem d_Sea_runsOfThree_25 : decode M_Sea_runsOfThree.2.1 25 = .ok (.iconst 0, 1) := by decide +kernel
theorem d_Sea_runsOfThree_26 : decode M_Sea_runsOfThree.2.1 26 = .ok (.iadd, 1) := by decide +kernel
theorem d_Sea_runsOfThree_27 : decode M_Sea_runsOfThree.2.1 27 = .ok (.istore_n 1, 1) := by decide +kernel
theorem d_Sea_runsOfThree_28 : decode M_Sea_runsOfThree.2.1 28 = .ok (.iinc 2 1, 3) := by decide +kernel
theorem d_Sea_runsOfThree_31 : decode M_Sea_runsOfThree.2.1 31 = .ok (.goto (-27), 3) := by decide +kernel
theorem d_Sea_runsOfThree_34 : decode M_Sea_runsOfThree.2.1 34 = .ok (.iload_n 1, 1) := by decide +kernel
theorem d_Sea_runsOfThree_35 : decode M_Sea_runsOfThree.2.1 35 = .ok (.ireturn, 1) := by decide +kernel
theorem d_Sea_startsRun_0 : decode M_Sea_startsRun.2.1 0 = .ok (.aload_n 0, 1) := by decide +kernel
theorem d_Sea_startsRun_1 : decode M_Sea_startsRun.2.1 1 = .ok (.iload_n 1, 1) := by decide +kernel
theorem d_Sea_startsRun_2 : decode M_Sea_startsRun.2.1 2 = .ok (.iconst 1, 1) := by decide +kernel
theorem d_Sea_startsRun_3 : decode M_Sea_startsRun.2.1 3 = .ok (.iadd, 1) := by decide +kernel
theorem d_Sea_startsRun_4 : decode M_Sea_startsRun.2.1 4 = .ok (.invokevirtual 171, 3) := by decide +kernel
theorem d_Sea_startsRun_7 : decode M_Sea_startsRun.2.1 7 = .ok (.ifCond .eq 15, 3) := by decide +kernel
theorem d_Sea_startsRun_10 : decode M_Sea_startsRun.2.1 10 = .ok (.aload_n 0, 1) := by decide +kernel
theorem d_Sea_startsRun_11 : decode M_Sea_startsRun.2.1 11 = .ok (.iload_n 1, 1) := by decide +kernel
theorem d_Sea_startsRun_12 : decode M_Sea_startsRun.2.1 12 = .ok (.invokevirtual 171, 3) := by decide +kernel
theorem d_Sea_startsRun_15 : decode M_Sea_startsRun.2.1 15 = .ok (.ifCond .ne 7, 3) := by decide +kernel
theorem d_Sea_startsRun_18 : decode M_Sea_startsRun.2.1 18 = .ok (.iconst 1, 1) := by decide +kernel
theorem d_Sea_startsRun_19 : decode M_Sea_startsRun.2.1 19 = .ok (.goto 4, 3) := by decide +kernel
theorem d_Sea_startsRun_22 : decode M_Sea_startsRun.2.1 22 = .ok (.iconst 0, 1) := by decide +kernel
theorem d_Sea_startsRun_23 : decode M_Sea_startsRun.2.1 23 = .ok (.ireturn, 1) := by decide +kernel
theorem d_Sea_goesOn_0 : decode M_Sea_goesOn.2.1 0 = .ok (.iload_n 1, 1) := by decide +kernel
theorem d_Sea_goesOn_1 : decode M_Sea_goesOn.2.1 1 = .ok (.iconst 1, 1) := by decide +kernel
theorem d_Sea_goesOn_2 : decode M_Sea_goesOn.2.1 2 = .ok (.if_icmp .lt 11, 3) := by decide +kernel
theorem d_Sea_goesOn_5 : decode M_Sea_goesOn.2.1 5 = .ok (.aload_n 0, 1) := by decide +kernel
theorem d_Sea_goesOn_6 : decode M_Sea_goesOn.2.1 6 = .ok (.iload_n 1, 1) := by decide +kernel
theorem d_Sea_goesOn_7 : decode M_Sea_goesOn.2.1 7 = .ok (.invokevirtual 146, 3) := by decide +kernel
theorem d_Sea_goesOn_10 : decode M_Sea_goesOn.2.1 10 = .ok (.ifCond .ne 5, 3) := by decide +kernel
theorem d_Sea_goesOn_13 : decode M_Sea_goesOn.2.1 13 = .ok (.iconst 0, 1) := by decide +kernel
theorem d_Sea_goesOn_14 : decode M_Sea_goesOn.2.1 14 = .ok (.ireturn, 1) := by decide +kernel
theorem d_Sea_goesOn_15 : decode M_Sea_goesOn.2.1 15 = .ok (.aload_n 0, 1) := by decide +kernel
theorem d_Sea_goesOn_16 : decode M_Sea_goesOn.2.1 16 = .ok (.getfield 52, 3) := by decide +kernel
theorem d_Sea_goesOn_19 : decode M_Sea_goesOn.2.1 19 = .ok (.aload_n 0, 1) := by decide +kernel
theorem d_Sea_goesOn_20 : decode M_Sea_goesOn.2.1 20 = .ok (.iload_n 1, 1) := by decide +kernel
theorem d_Sea_goesOn_21 : decode M_Sea_goesOn.2.1 21 = .ok (.iconst 1, 1) := by decide +kernel
theorem d_Sea_goesOn_22 : decode M_Sea_goesOn.2.1 22 = .ok (.isub, 1) := by decide +kernel
theorem d_Sea_goesOn_23 : decode M_Sea_goesOn.2.1 23 = .ok (.invokevirtual 135, 3) := by decide +kernel
theorem d_Sea_goesOn_26 : decode M_Sea_goesOn.2.1 26 = .ok (.getfield 139, 3) := by decide +kernel
theorem d_Sea_goesOn_29 : decode M_Sea_goesOn.2.1 29 = .ok (.invokevirtual 164, 3) := by decide +kernel
theorem d_Sea_goesOn_32 : decode M_Sea_goesOn.2.1 32 = .ok (.aload_n 0, 1) := by decide +kernel
theorem d_Sea_goesOn_33 : decode M_Sea_goesOn.2.1 33 = .ok (.getfield 52, 3) := by decide +kernel
theorem d_Sea_goesOn_36 : decode M_Sea_goesOn.2.1 36 = .ok (.iconst 1, 1) := by decide +kernel
theorem d_Sea_goesOn_37 : decode M_Sea_goesOn.2.1 37 = .ok (.invokevirtual 168, 3) := by decide +kernel
theorem d_Sea_goesOn_40 : decode M_Sea_goesOn.2.1 40 = .ok (.aload_n 0, 1) := by decide +kernel
theorem d_Sea_goesOn_41 : decode M_Sea_goesOn.2.1 41 = .ok (.getfield 52, 3) := by decide +kernel
theorem d_Sea_goesOn_44 : decode M_Sea_goesOn.2.1 44 = .ok (.aload_n 0, 1) := by decide +kernel
theorem d_Sea_goesOn_45 : decode M_Sea_goesOn.2.1 45 = .ok (.iload_n 1, 1) := by decide +kernel
theorem d_Sea_goesOn_46 : decode M_Sea_goesOn.2.1 46 = .ok (.invokevirtual 135, 3) := by decide +kernel
theorem d_Sea_goesOn_49 : decode M_Sea_goesOn.2.1 49 = .ok (.getfield 139, 3) := by decide +kernel
theorem d_Sea_goesOn_52 : decode M_Sea_goesOn.2.1 52 = .ok (.invokevirtual 142, 3) := by decide +kernel
theorem d_Sea_goesOn_55 : decode M_Sea_goesOn.2.1 55 = .ok (.ifCond .ne 7, 3) := by decide +kernel
theorem d_Sea_goesOn_58 : decode M_Sea_goesOn.2.1 58 = .ok (.iconst 1, 1) := by decide +kernel
theorem d_Sea_goesOn_59 : decode M_Sea_goesOn.2.1 59 = .ok (.goto 4, 3) := by decide +kernel
theorem d_Sea_goesOn_62 : decode M_Sea_goesOn.2.1 62 = .ok (.iconst 0, 1) := by decide +kernel
theorem d_Sea_goesOn_63 : decode M_Sea_goesOn.2.1 63 = .ok (.ireturn, 1) := by decide +kernel
theorem d_Sea_isCouple_0 : decode M_Sea_isCouple.2.1 0 = .ok (.iload_n 1, 1) := by decide +kernel
theorem d_Sea_isCouple_1 : decode M_Sea_isCouple.2.1 1 = .ok (.ifCond .lt 15, 3) := by decide +kernel
theorem d_Sea_isCouple_4 : decode M_Sea_isCouple.2.1 4 = .ok (.iload_n 1, 1) := by decide +kernel
theorem d_Sea_isCouple_5 : decode M_Sea_isCouple.2.1 5 = .ok (.aload_n 0, 1) := by decide +kernel
theorem d_Sea_isCouple_6 : decode M_Sea_isCouple.2.1 6 = .ok (.getfield 82, 3) := by decide +kernel
theorem d_Sea_isCouple_9 : decode M_Sea_isCouple.2.1 9 = .ok (.if_icmp .ge 7, 3) := by decide +kernel
theorem d_Sea_isCouple_12 : decode M_Sea_isCouple.2.1 12 = .ok (.iconst 1, 1) := by decide +kernel
theorem d_Sea_isCouple_13 : decode M_Sea_isCouple.2.1 13 = .ok (.goto 4, 3) := by decide +kernel
theorem d_Sea_isCouple_16 : decode M_Sea_isCouple.2.1 16 = .ok (.iconst 0, 1) := by decide +kernel
theorem d_Sea_isCouple_17 : decode M_Sea_isCouple.2.1 17 = .ok (.ireturn, 1) := by decide +kernel
theorem d_Sea_negatives_0 : decode M_Sea_negatives.2.1 0 = .ok (.iconst 0, 1) := by decide +kernel
theorem d_Sea_negatives_1 : decode M_Sea_negatives.2.1 1 = .ok (.istore_n 1, 1) := by decide +kernel
theorem d_Sea_negatives_2 : decode M_Sea_negatives.2.1 2 = .ok (.iconst 0, 1) := by decide +kernel
theorem d_Sea_negatives_3 : decode M_Sea_negatives.2.1 3 = .ok (.istore_n 2, 1) := by decide +kernel
theorem d_Sea_negatives_4 : decode M_Sea_negatives.2.1 4 = .ok (.iload_n 2, 1) := by decide +kernel
theorem d_Sea_negatives_5 : decode M_Sea_negatives.2.1 5 = .ok (.aload_n 0, 1) := by decide +kernel
theorem d_Sea_negatives_6 : decode M_Sea_negatives.2.1 6 = .ok (.getfield 79, 3) := by decide +kernel
theorem d_Sea_negatives_9 : decode M_Sea_negatives.2.1 9 = .ok (.if_icmp .ge 28, 3) := by decide +kernel
theorem d_Sea_negatives_12 : decode M_Sea_negatives.2.1 12 = .ok (.iload_n 1, 1) := by decide +kernel
theorem d_Sea_negatives_13 : decode M_Sea_negatives.2.1 13 = .ok (.aload_n 0, 1) := by decide +kernel
theorem d_Sea_negatives_14 : decode M_Sea_negatives.2.1 14 = .ok (.iload_n 2, 1) := by decide +kernel
theorem d_Sea_negatives_15 : decode M_Sea_negatives.2.1 15 = .ok (.invokevirtual 97, 3) := by decide +kernel
theorem d_Sea_negatives_18 : decode M_Sea_negatives.2.1 18 = .ok (.invokevirtual 154, 3) := by decide +kernel
theorem d_Sea_negatives_21 : decode M_Sea_negatives.2.1 21 = .ok (.ifCond .eq 7, 3) := by decide +kernel
theorem d_Sea_negatives_24 : decode M_Sea_negatives.2.1 24 = .ok (.iconst 1, 1) := by decide +kernel
theorem d_Sea_negatives_25 : decode M_Sea_negatives.2.1 25 = .ok (.goto 4, 3) := by decide +kernel
theorem d_Sea_negatives_28 : decode M_Sea_negatives.2.1 28 = .ok (.iconst 0, 1) := by decide +kernel
theorem d_Sea_negatives_29 : decode M_Sea_negatives.2.1 29 = .ok (.iadd, 1) := by decide +kernel
theorem d_Sea_negatives_30 : decode M_Sea_negatives.2.1 30 = .ok (.istore_n 1, 1) := by decide +kernel
theorem d_Sea_negatives_31 : decode M_Sea_negatives.2.1 31 = .ok (.iinc 2 1, 3) := by decide +kernel
theorem d_Sea_negatives_34 : decode M_Sea_negatives.2.1 34 = .ok (.goto (-30), 3) := by decide +kernel
theorem d_Sea_negatives_37 : decode M_Sea_negatives.2.1 37 = .ok (.iload_n 1, 1) := by decide +kernel
theorem d_Sea_negatives_38 : decode M_Sea_negatives.2.1 38 = .ok (.ireturn, 1) := by decide +kernel
theorem d_Uni_isNegative_0 : decode M_Uni_isNegative.2.1 0 = .ok (.aload_n 0, 1) := by decide +kernel
theorem d_Uni_isNegative_1 : decode M_Uni_isNegative.2.1 1 = .ok (.getfield 61, 3) := by decide +kernel
theorem d_Uni_isNegative_4 : decode M_Uni_isNegative.2.1 4 = .ok (.iconst 2, 1) := by decide +kernel
theorem d_Uni_isNegative_5 : decode M_Uni_isNegative.2.1 5 = .ok (.irem, 1) := by decide +kernel
theorem d_Uni_isNegative_6 : decode M_Uni_isNegative.2.1 6 = .ok (.iconst 1, 1) := by decide +kernel
theorem d_Uni_isNegative_7 : decode M_Uni_isNegative.2.1 7 = .ok (.if_icmp .ne 7, 3) := by decide +kernel
theorem d_Uni_isNegative_10 : decode M_Uni_isNegative.2.1 10 = .ok (.iconst 1, 1) := by decide +kernel
theorem d_Uni_isNegative_11 : decode M_Uni_isNegative.2.1 11 = .ok (.goto 4, 3) := by decide +kernel
theorem d_Uni_isNegative_14 : decode M_Uni_isNegative.2.1 14 = .ok (.iconst 0, 1) := by decide +kernel
theorem d_Uni_isNegative_15 : decode M_Uni_isNegative.2.1 15 = .ok (.ireturn, 1) := by decide +kernel
theorem d_Sea_classesWithCouples_0 : decode M_Sea_classesWithCouples.2.1 0 = .ok (.iconst 0, 1) := by decide +kernel
theorem d_Sea_classesWithCouples_1 : decode M_Sea_classesWithCouples.2.1 1 = .ok (.istore_n 1, 1) := by decide +kernel
theorem d_Sea_classesWithCouples_2 : decode M_Sea_classesWithCouples.2.1 2 = .ok (.iconst 0, 1) := by decide +kernel
theorem d_Sea_classesWithCouples_3 : decode M_Sea_classesWithCouples.2.1 3 = .ok (.istore_n 2, 1) := by decide +kernel
theorem d_Sea_classesWithCouples_4 : decode M_Sea_classesWithCouples.2.1 4 = .ok (.iload_n 2, 1) := by decide +kernel
theorem d_Sea_classesWithCouples_5 : decode M_Sea_classesWithCouples.2.1 5 = .ok (.aload_n 0, 1) := by decide +kernel
theorem d_Sea_classesWithCouples_6 : decode M_Sea_classesWithCouples.2.1 6 = .ok (.getfield 79, 3) := by decide +kernel
theorem d_Sea_classesWithCouples_9 : decode M_Sea_classesWithCouples.2.1 9 = .ok (.if_icmp .ge 25, 3) := by decide +kernel
theorem d_Sea_classesWithCouples_12 : decode M_Sea_classesWithCouples.2.1 12 = .ok (.iload_n 1, 1) := by decide +kernel
theorem d_Sea_classesWithCouples_13 : decode M_Sea_classesWithCouples.2.1 13 = .ok (.aload_n 0, 1) := by decide +kernel
theorem d_Sea_classesWithCouples_14 : decode M_Sea_classesWithCouples.2.1 14 = .ok (.iload_n 2, 1) := by decide +kernel
theorem d_Sea_classesWithCouples_15 : decode M_Sea_classesWithCouples.2.1 15 = .ok (.invokevirtual 158, 3) := by decide +kernel
theorem d_Sea_classesWithCouples_18 : decode M_Sea_classesWithCouples.2.1 18 = .ok (.ifCond .eq 7, 3) := by decide +kernel
theorem d_Sea_classesWithCouples_21 : decode M_Sea_classesWithCouples.2.1 21 = .ok (.iconst 1, 1) := by decide +kernel
theorem d_Sea_classesWithCouples_22 : decode M_Sea_classesWithCouples.2.1 22 = .ok (.goto 4, 3) := by decide +kernel
theorem d_Sea_classesWithCouples_25 : decode M_Sea_classesWithCouples.2.1 25 = .ok (.iconst 0, 1) := by decide +kernel
theorem d_Sea_classesWithCouples_26 : decode M_Sea_classesWithCouples.2.1 26 = .ok (.iadd, 1) := by decide +kernel
theorem d_Sea_classesWithCouples_27 : decode M_Sea_classesWithCouples.2.1 27 = .ok (.istore_n 1, 1) := by decide +kernel
theorem d_Sea_classesWithCouples_28 : decode M_Sea_classesWithCouples.2.1 28 = .ok (.iinc 2 1, 3) := by decide +kernel
theorem d_Sea_classesWithCouples_31 : decode M_Sea_classesWithCouples.2.1 31 = .ok (.goto (-27), 3) := by decide +kernel
theorem d_Sea_classesWithCouples_34 : decode M_Sea_classesWithCouples.2.1 34 = .ok (.iload_n 1, 1) := by decide +kernel
theorem d_Sea_classesWithCouples_35 : decode M_Sea_classesWithCouples.2.1 35 = .ok (.ireturn, 1) := by decide +kernel
theorem d_Sea_indexesOf_0 : decode M_Sea_indexesOf.2.1 0 = .ok (.aload_n 0, 1) := by decide +kernel
theorem d_Sea_indexesOf_1 : decode M_Sea_indexesOf.2.1 1 = .ok (.iload_n 1, 1) := by decide +kernel
theorem d_Sea_indexesOf_2 : decode M_Sea_indexesOf.2.1 2 = .ok (.invokevirtual 97, 3) := by decide +kernel
theorem d_Sea_indexesOf_5 : decode M_Sea_indexesOf.2.1 5 = .ok (.aload_n 0, 1) := by decide +kernel
theorem d_Sea_indexesOf_6 : decode M_Sea_indexesOf.2.1 6 = .ok (.getfield 56, 3) := by decide +kernel
theorem d_Sea_indexesOf_9 : decode M_Sea_indexesOf.2.1 9 = .ok (.invokevirtual 108, 3) := by decide +kernel
theorem d_Sea_indexesOf_12 : decode M_Sea_indexesOf.2.1 12 = .ok (.ireturn, 1) := by decide +kernel
theorem d_Uni_indexesFor_0 : decode M_Uni_indexesFor.2.1 0 = .ok (.iload_n 1, 1) := by decide +kernel
theorem d_Uni_indexesFor_1 : decode M_Uni_indexesFor.2.1 1 = .ok (.invokestatic 87, 3) := by decide +kernel
theorem d_Uni_indexesFor_4 : decode M_Uni_indexesFor.2.1 4 = .ok (.istore_n 2, 1) := by decide +kernel
theorem d_Uni_indexesFor_5 : decode M_Uni_indexesFor.2.1 5 = .ok (.iconst 0, 1) := by decide +kernel
theorem d_Uni_indexesFor_6 : decode M_Uni_indexesFor.2.1 6 = .ok (.istore_n 3, 1) := by decide +kernel
theorem d_Uni_indexesFor_7 : decode M_Uni_indexesFor.2.1 7 = .ok (.iconst 1, 1) := by decide +kernel
theorem d_Uni_indexesFor_8 : decode M_Uni_indexesFor.2.1 8 = .ok (.istore 4, 2) := by decide +kernel
theorem d_Uni_indexesFor_10 : decode M_Uni_indexesFor.2.1 10 = .ok (.iload 4, 2) := by decide +kernel
theorem d_Uni_indexesFor_12 : decode M_Uni_indexesFor.2.1 12 = .ok (.iload_n 2, 1) := by decide +kernel
theorem d_Uni_indexesFor_13 : decode M_Uni_indexesFor.2.1 13 = .ok (.if_icmp .gt 32, 3) := by decide +kernel
theorem d_Uni_indexesFor_16 : decode M_Uni_indexesFor.2.1 16 = .ok (.iload_n 3, 1) := by decide +kernel
theorem d_Uni_indexesFor_17 : decode M_Uni_indexesFor.2.1 17 = .ok (.aload_n 0, 1) := by decide +kernel
theorem d_Uni_indexesFor_18 : decode M_Uni_indexesFor.2.1 18 = .ok (.iload 4, 2) := by decide +kernel
theorem d_Uni_indexesFor_20 : decode M_Uni_indexesFor.2.1 20 = .ok (.iload_n 1, 1) := by decide +kernel
theorem d_Uni_indexesFor_21 : decode M_Uni_indexesFor.2.1 21 = .ok (.invokevirtual 90, 3) := by decide +kernel
theorem d_Uni_indexesFor_24 : decode M_Uni_indexesFor.2.1 24 = .ok (.ifnull 12, 3) := by decide +kernel
theorem d_Uni_indexesFor_27 : decode M_Uni_indexesFor.2.1 27 = .ok (.iconst 1, 1) := by decide +kernel
theorem d_Uni_indexesFor_28 : decode M_Uni_indexesFor.2.1 28 = .ok (.iload 4, 2) := by decide +kernel
theorem d_Uni_indexesFor_30 : decode M_Uni_indexesFor.2.1 30 = .ok (.iconst 1, 1) := by decide +kernel
theorem d_Uni_indexesFor_31 : decode M_Uni_indexesFor.2.1 31 = .ok (.isub, 1) := by decide +kernel
theorem d_Uni_indexesFor_32 : decode M_Uni_indexesFor.2.1 32 = .ok (.ishl, 1) := by decide +kernel
theorem d_Uni_indexesFor_33 : decode M_Uni_indexesFor.2.1 33 = .ok (.goto 4, 3) := by decide +kernel
theorem d_Uni_indexesFor_36 : decode M_Uni_indexesFor.2.1 36 = .ok (.iconst 0, 1) := by decide +kernel
theorem d_Uni_indexesFor_37 : decode M_Uni_indexesFor.2.1 37 = .ok (.ior, 1) := by decide +kernel
theorem d_Uni_indexesFor_38 : decode M_Uni_indexesFor.2.1 38 = .ok (.istore_n 3, 1) := by decide +kernel
theorem d_Uni_indexesFor_39 : decode M_Uni_indexesFor.2.1 39 = .ok (.iinc 4 1, 3) := by decide +kernel
theorem d_Uni_indexesFor_42 : decode M_Uni_indexesFor.2.1 42 = .ok (.goto (-32), 3) := by decide +kernel
theorem d_Uni_indexesFor_45 : decode M_Uni_indexesFor.2.1 45 = .ok (.iload_n 3, 1) := by decide +kernel
theorem d_Uni_indexesFor_46 : decode M_Uni_indexesFor.2.1 46 = .ok (.ireturn, 1) := by decide +kernel
theorem d_Sea_allRounds_0 : decode M_Sea_allRounds.2.1 0 = .ok (.iconst 0, 1) := by decide +kernel
theorem d_Sea_allRounds_1 : decode M_Sea_allRounds.2.1 1 = .ok (.istore_n 1, 1) := by decide +kernel
theorem d_Sea_allRounds_2 : decode M_Sea_allRounds.2.1 2 = .ok (.iconst 0, 1) := by decide +kernel
theorem d_Sea_allRounds_3 : decode M_Sea_allRounds.2.1 3 = .ok (.istore_n 2, 1) := by decide +kernel
theorem d_Sea_allRounds_4 : decode M_Sea_allRounds.2.1 4 = .ok (.iload_n 2, 1) := by decide +kernel
theorem d_Sea_allRounds_5 : decode M_Sea_allRounds.2.1 5 = .ok (.aload_n 0, 1) := by decide +kernel
theorem d_Sea_allRounds_6 : decode M_Sea_allRounds.2.1 6 = .ok (.getfield 79, 3) := by decide +kernel
theorem d_Sea_allRounds_9 : decode M_Sea_allRounds.2.1 9 = .ok (.if_icmp .ge 20, 3) := by decide +kernel
theorem d_Sea_allRounds_12 : decode M_Sea_allRounds.2.1 12 = .ok (.iload_n 1, 1) := by decide +kernel
theorem d_Sea_allRounds_13 : decode M_Sea_allRounds.2.1 13 = .ok (.aload_n 0, 1) := by decide +kernel
theorem d_Sea_allRounds_14 : decode M_Sea_allRounds.2.1 14 = .ok (.iload_n 2, 1) := by decide +kernel
theorem d_Sea_allRounds_15 : decode M_Sea_allRounds.2.1 15 = .ok (.invokevirtual 97, 3) := by decide +kernel
theorem d_Sea_allRounds_18 : decode M_Sea_allRounds.2.1 18 = .ok (.getfield 161, 3) := by decide +kernel
theorem d_Sea_allRounds_21 : decode M_Sea_allRounds.2.1 21 = .ok (.iadd, 1) := by decide +kernel
theorem d_Sea_allRounds_22 : decode M_Sea_allRounds.2.1 22 = .ok (.istore_n 1, 1) := by decide +kernel
theorem d_Sea_allRounds_23 : decode M_Sea_allRounds.2.1 23 = .ok (.iinc 2 1, 3) := by decide +kernel
theorem d_Sea_allRounds_26 : decode M_Sea_allRounds.2.1 26 = .ok (.goto (-22), 3) := by decide +kernel
theorem d_Sea_allRounds_29 : decode M_Sea_allRounds.2.1 29 = .ok (.iload_n 1, 1) := by decide +kernel
theorem d_Sea_allRounds_30 : decode M_Sea_allRounds.2.1 30 = .ok (.ireturn, 1) := by decide +kernel
theorem d_SN_of_0 : decode M_SN_of.2.1 0 = .ok (.aload_n 0, 1) := by decide +kernel
theorem d_SN_of_1 : decode M_SN_of.2.1 1 = .ok (.getfield 12, 3) := by decide +kernel
theorem d_SN_of_4 : decode M_SN_of.2.1 4 = .ok (.iload_n 1, 1) := by decide +kernel
theorem d_SN_of_5 : decode M_SN_of.2.1 5 = .ok (.invokevirtual 139, 3) := by decide +kernel
theorem d_SN_of_8 : decode M_SN_of.2.1 8 = .ok (.ifCond .ne 5, 3) := by decide +kernel
theorem d_SN_of_11 : decode M_SN_of.2.1 11 = .ok (.iconst (-1), 1) := by decide +kernel
theorem d_SN_of_12 : decode M_SN_of.2.1 12 = .ok (.ireturn, 1) := by decide +kernel
theorem d_SN_of_13 : decode M_SN_of.2.1 13 = .ok (.aload_n 0, 1) := by decide +kernel
theorem d_SN_of_14 : decode M_SN_of.2.1 14 = .ok (.getfield 12, 3) := by decide +kernel
theorem d_SN_of_17 : decode M_SN_of.2.1 17 = .ok (.iload_n 1, 1) := by decide +kernel
theorem d_SN_of_18 : decode M_SN_of.2.1 18 = .ok (.invokevirtual 142, 3) := by decide +kernel
theorem d_SN_of_21 : decode M_SN_of.2.1 21 = .ok (.astore_n 3, 1) := by decide +kernel
theorem d_SN_of_22 : decode M_SN_of.2.1 22 = .ok (.iload_n 2, 1) := by decide +kernel
theorem d_SN_of_23 : decode M_SN_of.2.1 23 = .ok (.tableswitch 119 0 8 #[49, 54, 59, 64, 69, 82, 94, 102, 110], 49) := by decide +kernel
theorem d_SN_of_72 : decode M_SN_of.2.1 72 = .ok (.aload_n 3, 1) := by decide +kernel
theorem d_SN_of_73 : decode M_SN_of.2.1 73 = .ok (.getfield 146, 3) := by decide +kernel
theorem d_SN_of_76 : decode M_SN_of.2.1 76 = .ok (.ireturn, 1) := by decide +kernel
theorem d_SN_of_77 : decode M_SN_of.2.1 77 = .ok (.aload_n 3, 1) := by decide +kernel
theorem d_SN_of_78 : decode M_SN_of.2.1 78 = .ok (.getfield 151, 3) := by decide +kernel
theorem d_SN_of_81 : decode M_SN_of.2.1 81 = .ok (.ireturn, 1) := by decide +kernel
theorem d_SN_of_82 : decode M_SN_of.2.1 82 = .ok (.aload_n 3, 1) := by decide +kernel
theorem d_SN_of_83 : decode M_SN_of.2.1 83 = .ok (.getfield 154, 3) := by decide +kernel
theorem d_SN_of_86 : decode M_SN_of.2.1 86 = .ok (.ireturn, 1) := by decide +kernel
theorem d_SN_of_87 : decode M_SN_of.2.1 87 = .ok (.aload_n 3, 1) := by decide +kernel
theorem d_SN_of_88 : decode M_SN_of.2.1 88 = .ok (.getfield 157, 3) := by decide +kernel
theorem d_SN_of_91 : decode M_SN_of.2.1 91 = .ok (.ireturn, 1) := by decide +kernel
theorem d_SN_of_92 : decode M_SN_of.2.1 92 = .ok (.aload_n 3, 1) := by decide +kernel
theorem d_SN_of_93 : decode M_SN_of.2.1 93 = .ok (.invokevirtual 160, 3) := by decide +kernel
theorem d_SN_of_96 : decode M_SN_of.2.1 96 = .ok (.ifCond .eq 7, 3) := by decide +kernel
theorem d_SN_of_99 : decode M_SN_of.2.1 99 = .ok (.iconst 1, 1) := by decide +kernel
theorem d_SN_of_100 : decode M_SN_of.2.1 100 = .ok (.goto 4, 3) := by decide +kernel
theorem d_SN_of_103 : decode M_SN_of.2.1 103 = .ok (.iconst 0, 1) := by decide +kernel
theorem d_SN_of_104 : decode M_SN_of.2.1 104 = .ok (.ireturn, 1) := by decide +kernel
theorem d_SN_of_105 : decode M_SN_of.2.1 105 = .ok (.aload_n 0, 1) := by decide +kernel
theorem d_SN_of_106 : decode M_SN_of.2.1 106 = .ok (.getfield 12, 3) := by decide +kernel
theorem d_SN_of_109 : decode M_SN_of.2.1 109 = .ok (.iload_n 1, 1) := by decide +kernel
theorem d_SN_of_110 : decode M_SN_of.2.1 110 = .ok (.invokevirtual 164, 3) := by decide +kernel
theorem d_SN_of_113 : decode M_SN_of.2.1 113 = .ok (.invokestatic 100, 3) := by decide +kernel
theorem d_SN_of_116 : decode M_SN_of.2.1 116 = .ok (.ireturn, 1) := by decide +kernel
theorem d_SN_of_117 : decode M_SN_of.2.1 117 = .ok (.aload_n 3, 1) := by decide +kernel
theorem d_SN_of_118 : decode M_SN_of.2.1 118 = .ok (.getfield 167, 3) := by decide +kernel
theorem d_SN_of_121 : decode M_SN_of.2.1 121 = .ok (.invokevirtual 127, 3) := by decide +kernel
theorem d_SN_of_124 : decode M_SN_of.2.1 124 = .ok (.ireturn, 1) := by decide +kernel
theorem d_SN_of_125 : decode M_SN_of.2.1 125 = .ok (.aload_n 3, 1) := by decide +kernel
theorem d_SN_of_126 : decode M_SN_of.2.1 126 = .ok (.getfield 170, 3) := by decide +kernel
theorem d_SN_of_129 : decode M_SN_of.2.1 129 = .ok (.invokevirtual 127, 3) := by decide +kernel
theorem d_SN_of_132 : decode M_SN_of.2.1 132 = .ok (.ireturn, 1) := by decide +kernel
theorem d_SN_of_133 : decode M_SN_of.2.1 133 = .ok (.aload_n 0, 1) := by decide +kernel
theorem d_SN_of_134 : decode M_SN_of.2.1 134 = .ok (.getfield 12, 3) := by decide +kernel
theorem d_SN_of_137 : decode M_SN_of.2.1 137 = .ok (.iload_n 1, 1) := by decide +kernel
theorem d_SN_of_138 : decode M_SN_of.2.1 138 = .ok (.invokevirtual 164, 3) := by decide +kernel
theorem d_SN_of_141 : decode M_SN_of.2.1 141 = .ok (.ireturn, 1) := by decide +kernel
theorem d_SN_of_142 : decode M_SN_of.2.1 142 = .ok (.iconst (-1), 1) := by decide +kernel
theorem d_SN_of_143 : decode M_SN_of.2.1 143 = .ok (.ireturn, 1) := by decide +kernel
theorem d_Sea_isClass_0 : decode M_Sea_isClass.2.1 0 = .ok (.iload_n 1, 1) := by decide +kernel
theorem d_Sea_isClass_1 : decode M_Sea_isClass.2.1 1 = .ok (.ifCond .lt 15, 3) := by decide +kernel
theorem d_Sea_isClass_4 : decode M_Sea_isClass.2.1 4 = .ok (.iload_n 1, 1) := by decide +kernel
theorem d_Sea_isClass_5 : decode M_Sea_isClass.2.1 5 = .ok (.aload_n 0, 1) := by decide +kernel
theorem d_Sea_isClass_6 : decode M_Sea_isClass.2.1 6 = .ok (.getfield 79, 3) := by decide +kernel
theorem d_Sea_isClass_9 : decode M_Sea_isClass.2.1 9 = .ok (.if_icmp .ge 7, 3) := by decide +kernel
theorem d_Sea_isClass_12 : decode M_Sea_isClass.2.1 12 = .ok (.iconst 1, 1) := by decide +kernel
theorem d_Sea_isClass_13 : decode M_Sea_isClass.2.1 13 = .ok (.goto 4, 3) := by decide +kernel
theorem d_Sea_isClass_16 : decode M_Sea_isClass.2.1 16 = .ok (.iconst 0, 1) := by decide +kernel
theorem d_Sea_isClass_17 : decode M_Sea_isClass.2.1 17 = .ok (.ireturn, 1) := by decide +kernel
theorem d_SN_step_0 : decode M_SN_step.2.1 0 = .ok (.aload_n 0, 1) := by decide +kernel
theorem d_SN_step_1 : decode M_SN_step.2.1 1 = .ok (.iload_n 1, 1) := by decide +kernel
theorem d_SN_step_2 : decode M_SN_step.2.1 2 = .ok (.iload_n 2, 1) := by decide +kernel
theorem d_SN_step_3 : decode M_SN_step.2.1 3 = .ok (.invokevirtual 173, 3) := by decide +kernel
theorem d_SN_step_6 : decode M_SN_step.2.1 6 = .ok (.ifCond .eq 19, 3) := by decide +kernel
theorem d_SN_step_9 : decode M_SN_step.2.1 9 = .ok (.aload_n 0, 1) := by decide +kernel
theorem d_SN_step_10 : decode M_SN_step.2.1 10 = .ok (.getfield 45, 3) := by decide +kernel
theorem d_SN_step_13 : decode M_SN_step.2.1 13 = .ok (.aload_n 0, 1) := by decide +kernel
theorem d_SN_step_14 : decode M_SN_step.2.1 14 = .ok (.iload_n 1, 1) := by decide +kernel
theorem d_SN_step_15 : decode M_SN_step.2.1 15 = .ok (.invokevirtual 176, 3) := by decide +kernel
theorem d_SN_step_18 : decode M_SN_step.2.1 18 = .ok (.iload_n 2, 1) := by decide +kernel
theorem d_SN_step_19 : decode M_SN_step.2.1 19 = .ok (.invokevirtual 179, 3) := by decide +kernel
theorem d_SN_step_22 : decode M_SN_step.2.1 22 = .ok (.goto 4, 3) := by decide +kernel
theorem d_SN_step_25 : decode M_SN_step.2.1 25 = .ok (.iconst (-1), 1) := by decide +kernel
theorem d_SN_step_26 : decode M_SN_step.2.1 26 = .ok (.ireturn, 1) := by decide +kernel
theorem d_SN_isStep_0 : decode M_SN_isStep.2.1 0 = .ok (.aload_n 0, 1) := by decide +kernel
theorem d_SN_isStep_1 : decode M_SN_isStep.2.1 1 = .ok (.getfield 12, 3) := by decide +kernel
theorem d_SN_isStep_4 : decode M_SN_isStep.2.1 4 = .ok (.iload_n 1, 1) := by decide +kernel
theorem d_SN_isStep_5 : decode M_SN_isStep.2.1 5 = .ok (.invokevirtual 139, 3) := by decide +kernel
theorem d_SN_isStep_8 : decode M_SN_isStep.2.1 8 = .ok (.ifCond .eq 28, 3) := by decide +kernel
theorem d_SN_isStep_11 : decode M_SN_isStep.2.1 11 = .ok (.iload_n 2, 1) := by decide +kernel
theorem d_SN_isStep_12 : decode M_SN_isStep.2.1 12 = .ok (.ifCond .lt 24, 3) := by decide +kernel
theorem d_SN_isStep_15 : decode M_SN_isStep.2.1 15 = .ok (.iload_n 2, 1) := by decide +kernel
theorem d_SN_isStep_16 : decode M_SN_isStep.2.1 16 = .ok (.iconst 2, 1) := by decide +kernel
theorem d_SN_isStep_17 : decode M_SN_isStep.2.1 17 = .ok (.aload_n 0, 1) := by decide +kernel
theorem d_SN_isStep_18 : decode M_SN_isStep.2.1 18 = .ok (.getfield 12, 3) := by decide +kernel
theorem d_SN_isStep_21 : decode M_SN_isStep.2.1 21 = .ok (.iload_n 1, 1) := by decide +kernel
theorem d_SN_isStep_22 : decode M_SN_isStep.2.1 22 = .ok (.invokevirtual 142, 3) := by decide +kernel
theorem d_SN_isStep_25 : decode M_SN_isStep.2.1 25 = .ok (.getfield 157, 3) := by decide +kernel
theorem d_SN_isStep_28 : decode M_SN_isStep.2.1 28 = .ok (.imul, 1) := by decide +kernel
theorem d_SN_isStep_29 : decode M_SN_isStep.2.1 29 = .ok (.if_icmp .gt 7, 3) := by decide +kernel
theorem d_SN_isStep_32 : decode M_SN_isStep.2.1 32 = .ok (.iconst 1, 1) := by decide +kernel
theorem d_SN_isStep_33 : decode M_SN_isStep.2.1 33 = .ok (.goto 4, 3) := by decide +kernel
theorem d_SN_isStep_36 : decode M_SN_isStep.2.1 36 = .ok (.iconst 0, 1) := by decide +kernel
theorem d_SN_isStep_37 : decode M_SN_isStep.2.1 37 = .ok (.ireturn, 1) := by decide +kernel
theorem d_SN_squareOf_0 : decode M_SN_squareOf.2.1 0 = .ok (.aload_n 0, 1) := by decide +kernel
theorem d_SN_squareOf_1 : decode M_SN_squareOf.2.1 1 = .ok (.getfield 12, 3) := by decide +kernel
theorem d_SN_squareOf_4 : decode M_SN_squareOf.2.1 4 = .ok (.iload_n 1, 1) := by decide +kernel
theorem d_SN_squareOf_5 : decode M_SN_squareOf.2.1 5 = .ok (.invokevirtual 142, 3) := by decide +kernel
theorem d_SN_squareOf_8 : decode M_SN_squareOf.2.1 8 = .ok (.getfield 151, 3) := by decide +kernel
theorem d_SN_squareOf_11 : decode M_SN_squareOf.2.1 11 = .ok (.ireturn, 1) := by decide +kernel
theorem d_Fra_wholeBehind_0 : decode M_Fra_wholeBehind.2.1 0 = .ok (.aload_n 0, 1) := by decide +kernel
theorem d_Fra_wholeBehind_1 : decode M_Fra_wholeBehind.2.1 1 = .ok (.iload_n 1, 1) := by decide +kernel
theorem d_Fra_wholeBehind_2 : decode M_Fra_wholeBehind.2.1 2 = .ok (.iload_n 2, 1) := by decide +kernel
theorem d_Fra_wholeBehind_3 : decode M_Fra_wholeBehind.2.1 3 = .ok (.invokevirtual 65, 3) := by decide +kernel
theorem d_Fra_wholeBehind_6 : decode M_Fra_wholeBehind.2.1 6 = .ok (.aload_n 0, 1) := by decide +kernel
theorem d_Fra_wholeBehind_7 : decode M_Fra_wholeBehind.2.1 7 = .ok (.getfield 48, 3) := by decide +kernel
theorem d_Fra_wholeBehind_10 : decode M_Fra_wholeBehind.2.1 10 = .ok (.ireturn, 1) := by decide +kernel
theorem d_Fra_walk_0 : decode M_Fra_walk.2.1 0 = .ok (.aload_n 0, 1) := by decide +kernel
theorem d_Fra_walk_1 : decode M_Fra_walk.2.1 1 = .ok (.iload_n 1, 1) := by decide +kernel
theorem d_Fra_walk_2 : decode M_Fra_walk.2.1 2 = .ok (.invokevirtual 51, 3) := by decide +kernel
theorem d_Fra_walk_5 : decode M_Fra_walk.2.1 5 = .ok (.iconst 0, 1) := by decide +kernel
theorem d_Fra_walk_6 : decode M_Fra_walk.2.1 6 = .ok (.istore_n 3, 1) := by decide +kernel
theorem d_Fra_walk_7 : decode M_Fra_walk.2.1 7 = .ok (.iload_n 3, 1) := by decide +kernel
theorem d_Fra_walk_8 : decode M_Fra_walk.2.1 8 = .ok (.iload_n 2, 1) := by decide +kernel
theorem d_Fra_walk_9 : decode M_Fra_walk.2.1 9 = .ok (.if_icmp .ge 19, 3) := by decide +kernel
theorem d_Fra_walk_12 : decode M_Fra_walk.2.1 12 = .ok (.iload_n 3, 1) := by decide +kernel
theorem d_Fra_walk_13 : decode M_Fra_walk.2.1 13 = .ok (.ldc 54, 2) := by decide +kernel
theorem d_Fra_walk_15 : decode M_Fra_walk.2.1 15 = .ok (.if_icmp .ge 13, 3) := by decide +kernel
theorem d_Fra_walk_18 : decode M_Fra_walk.2.1 18 = .ok (.aload_n 0, 1) := by decide +kernel
theorem d_Fra_walk_19 : decode M_Fra_walk.2.1 19 = .ok (.invokevirtual 55, 3) := by decide +kernel
theorem d_Fra_walk_22 : decode M_Fra_walk.2.1 22 = .ok (.iinc 3 1, 3) := by decide +kernel
theorem d_Fra_walk_25 : decode M_Fra_walk.2.1 25 = .ok (.goto (-18), 3) := by decide +kernel
theorem d_Fra_walk_28 : decode M_Fra_walk.2.1 28 = .ok (.return_, 1) := by decide +kernel
theorem d_SN_unit_0 : decode M_SN_unit.2.1 0 = .ok (.aload_n 0, 1) := by decide +kernel
theorem d_SN_unit_1 : decode M_SN_unit.2.1 1 = .ok (.getfield 12, 3) := by decide +kernel
theorem d_SN_unit_4 : decode M_SN_unit.2.1 4 = .ok (.iload_n 1, 1) := by decide +kernel
theorem d_SN_unit_5 : decode M_SN_unit.2.1 5 = .ok (.invokevirtual 139, 3) := by decide +kernel
theorem d_SN_unit_8 : decode M_SN_unit.2.1 8 = .ok (.ifCond .eq 10, 3) := by decide +kernel
theorem d_SN_unit_11 : decode M_SN_unit.2.1 11 = .ok (.iload_n 2, 1) := by decide +kernel
theorem d_SN_unit_12 : decode M_SN_unit.2.1 12 = .ok (.invokestatic 183, 3) := by decide +kernel
theorem d_SN_unit_15 : decode M_SN_unit.2.1 15 = .ok (.ifCond .ne 5, 3) := by decide +kernel
theorem d_SN_unit_18 : decode M_SN_unit.2.1 18 = .ok (.iconst (-1), 1) := by decide +kernel
theorem d_SN_unit_19 : decode M_SN_unit.2.1 19 = .ok (.ireturn, 1) := by decide +kernel
theorem d_SN_unit_20 : decode M_SN_unit.2.1 20 = .ok (.aload_n 0, 1) := by decide +kernel
theorem d_SN_unit_21 : decode M_SN_unit.2.1 21 = .ok (.getfield 12, 3) := by decide +kernel
theorem d_SN_unit_24 : decode M_SN_unit.2.1 24 = .ok (.iload_n 1, 1) := by decide +kernel
theorem d_SN_unit_25 : decode M_SN_unit.2.1 25 = .ok (.invokevirtual 142, 3) := by decide +kernel
theorem d_SN_unit_28 : decode M_SN_unit.2.1 28 = .ok (.astore 4, 2) := by decide +kernel
theorem d_SN_unit_30 : decode M_SN_unit.2.1 30 = .ok (.iload_n 2, 1) := by decide +kernel
theorem d_SN_unit_31 : decode M_SN_unit.2.1 31 = .ok (.ifCond .ne 11, 3) := by decide +kernel
theorem d_SN_unit_34 : decode M_SN_unit.2.1 34 = .ok (.aload 4, 2) := by decide +kernel
theorem d_SN_unit_36 : decode M_SN_unit.2.1 36 = .ok (.getfield 167, 3) := by decide +kernel
theorem d_SN_unit_39 : decode M_SN_unit.2.1 39 = .ok (.goto 8, 3) := by decide +kernel
theorem d_SN_unit_42 : decode M_SN_unit.2.1 42 = .ok (.aload 4, 2) := by decide +kernel
theorem d_SN_unit_44 : decode M_SN_unit.2.1 44 = .ok (.getfield 170, 3) := by decide +kernel
theorem d_SN_unit_47 : decode M_SN_unit.2.1 47 = .ok (.iload_n 3, 1) := by decide +kernel
theorem d_SN_unit_48 : decode M_SN_unit.2.1 48 = .ok (.invokevirtual 186, 3) := by decide +kernel
theorem d_SN_unit_51 : decode M_SN_unit.2.1 51 = .ok (.ireturn, 1) := by decide +kernel
theorem d_SN_isOneOfTwo_0 : decode M_SN_isOneOfTwo.2.1 0 = .ok (.iload_n 0, 1) := by decide +kernel
theorem d_SN_isOneOfTwo_1 : decode M_SN_isOneOfTwo.2.1 1 = .ok (.ifCond .eq 8, 3) := by decide +kernel
theorem d_SN_isOneOfTwo_4 : decode M_SN_isOneOfTwo.2.1 4 = .ok (.iload_n 0, 1) := by decide +kernel
theorem d_SN_isOneOfTwo_5 : decode M_SN_isOneOfTwo.2.1 5 = .ok (.iconst 1, 1) := by decide +kernel
theorem d_SN_isOneOfTwo_6 : decode M_SN_isOneOfTwo.2.1 6 = .ok (.if_icmp .ne 7, 3) := by decide +kernel
theorem d_SN_isOneOfTwo_9 : decode M_SN_isOneOfTwo.2.1 9 = .ok (.iconst 1, 1) := by decide +kernel
theorem d_SN_isOneOfTwo_10 : decode M_SN_isOneOfTwo.2.1 10 = .ok (.goto 4, 3) := by decide +kernel
theorem d_SN_isOneOfTwo_13 : decode M_SN_isOneOfTwo.2.1 13 = .ok (.iconst 0, 1) := by decide +kernel
theorem d_SN_isOneOfTwo_14 : decode M_SN_isOneOfTwo.2.1 14 = .ok (.ireturn, 1) := by decide +kernel
theorem d_Big_digitAt_0 : decode M_Big_digitAt.2.1 0 = .ok (.iload_n 1, 1) := by decide +kernel
theorem d_Big_digitAt_1 : decode M_Big_digitAt.2.1 1 = .ok (.ifCond .lt 11, 3) := by decide +kernel
theorem d_Big_digitAt_4 : decode M_Big_digitAt.2.1 4 = .ok (.iload_n 1, 1) := by decide +kernel
theorem d_Big_digitAt_5 : decode M_Big_digitAt.2.1 5 = .ok (.aload_n 0, 1) := by decide +kernel
theorem d_Big_digitAt_6 : decode M_Big_digitAt.2.1 6 = .ok (.invokevirtual 52, 3) := by decide +kernel
theorem d_Big_digitAt_9 : decode M_Big_digitAt.2.1 9 = .ok (.if_icmp .lt 5, 3) := by decide +kernel
theorem d_Big_digitAt_12 : decode M_Big_digitAt.2.1 12 = .ok (.iconst (-1), 1) := by decide +kernel
theorem d_Big_digitAt_13 : decode M_Big_digitAt.2.1 13 = .ok (.ireturn, 1) := by decide +kernel
theorem d_Big_digitAt_14 : decode M_Big_digitAt.2.1 14 = .ok (.aload_n 0, 1) := by decide +kernel
theorem d_Big_digitAt_15 : decode M_Big_digitAt.2.1 15 = .ok (.iload_n 1, 1) := by decide +kernel
theorem d_Big_digitAt_16 : decode M_Big_digitAt.2.1 16 = .ok (.bipush 9, 2) := by decide +kernel
theorem d_Big_digitAt_18 : decode M_Big_digitAt.2.1 18 = .ok (.idiv, 1) := by decide +kernel
theorem d_Big_digitAt_19 : decode M_Big_digitAt.2.1 19 = .ok (.invokevirtual 25, 3) := by decide +kernel
theorem d_Big_digitAt_22 : decode M_Big_digitAt.2.1 22 = .ok (.istore_n 2, 1) := by decide +kernel
theorem d_Big_digitAt_23 : decode M_Big_digitAt.2.1 23 = .ok (.iload_n 1, 1) := by decide +kernel
theorem d_Big_digitAt_24 : decode M_Big_digitAt.2.1 24 = .ok (.bipush 9, 2) := by decide +kernel
theorem d_Big_digitAt_26 : decode M_Big_digitAt.2.1 26 = .ok (.irem, 1) := by decide +kernel
theorem d_Big_digitAt_27 : decode M_Big_digitAt.2.1 27 = .ok (.istore_n 3, 1) := by decide +kernel
theorem d_Big_digitAt_28 : decode M_Big_digitAt.2.1 28 = .ok (.iload_n 3, 1) := by decide +kernel
theorem d_Big_digitAt_29 : decode M_Big_digitAt.2.1 29 = .ok (.ifCond .le 14, 3) := by decide +kernel
theorem d_Big_digitAt_32 : decode M_Big_digitAt.2.1 32 = .ok (.iload_n 2, 1) := by decide +kernel
theorem d_Big_digitAt_33 : decode M_Big_digitAt.2.1 33 = .ok (.bipush 10, 2) := by decide +kernel
theorem d_Big_digitAt_35 : decode M_Big_digitAt.2.1 35 = .ok (.idiv, 1) := by decide +kernel
theorem d_Big_digitAt_36 : decode M_Big_digitAt.2.1 36 = .ok (.istore_n 2, 1) := by decide +kernel
theorem d_Big_digitAt_37 : decode M_Big_digitAt.2.1 37 = .ok (.iinc 3 (-1), 3) := by decide +kernel
theorem d_Big_digitAt_40 : decode M_Big_digitAt.2.1 40 = .ok (.goto (-12), 3) := by decide +kernel
theorem d_Big_digitAt_43 : decode M_Big_digitAt.2.1 43 = .ok (.iload_n 2, 1) := by decide +kernel
theorem d_Big_digitAt_44 : decode M_Big_digitAt.2.1 44 = .ok (.bipush 10, 2) := by decide +kernel
theorem d_Big_digitAt_46 : decode M_Big_digitAt.2.1 46 = .ok (.irem, 1) := by decide +kernel
theorem d_Big_digitAt_47 : decode M_Big_digitAt.2.1 47 = .ok (.ireturn, 1) := by decide +kernel
theorem d_SN_power_0 : decode M_SN_power.2.1 0 = .ok (.aload_n 0, 1) := by decide +kernel
theorem d_SN_power_1 : decode M_SN_power.2.1 1 = .ok (.getfield 12, 3) := by decide +kernel
theorem d_SN_power_4 : decode M_SN_power.2.1 4 = .ok (.iload_n 1, 1) := by decide +kernel
theorem d_SN_power_5 : decode M_SN_power.2.1 5 = .ok (.invokevirtual 139, 3) := by decide +kernel
theorem d_SN_power_8 : decode M_SN_power.2.1 8 = .ok (.ifCond .eq 20, 3) := by decide +kernel
theorem d_SN_power_11 : decode M_SN_power.2.1 11 = .ok (.iload_n 2, 1) := by decide +kernel
theorem d_SN_power_12 : decode M_SN_power.2.1 12 = .ok (.ifCond .lt 16, 3) := by decide +kernel
theorem d_SN_power_15 : decode M_SN_power.2.1 15 = .ok (.iload_n 2, 1) := by decide +kernel
theorem d_SN_power_16 : decode M_SN_power.2.1 16 = .ok (.bipush 60, 2) := by decide +kernel
theorem d_SN_power_18 : decode M_SN_power.2.1 18 = .ok (.if_icmp .gt 10, 3) := by decide +kernel
theorem d_SN_power_21 : decode M_SN_power.2.1 21 = .ok (.iload_n 3, 1) := by decide +kernel
theorem d_SN_power_22 : decode M_SN_power.2.1 22 = .ok (.invokestatic 189, 3) := by decide +kernel
theorem d_SN_power_25 : decode M_SN_power.2.1 25 = .ok (.ifCond .ne 5, 3) := by decide +kernel
theorem d_SN_power_28 : decode M_SN_power.2.1 28 = .ok (.iconst (-1), 1) := by decide +kernel
theorem d_SN_power_29 : decode M_SN_power.2.1 29 = .ok (.ireturn, 1) := by decide +kernel
theorem d_SN_power_30 : decode M_SN_power.2.1 30 = .ok (.aload_n 0, 1) := by decide +kernel
theorem d_SN_power_31 : decode M_SN_power.2.1 31 = .ok (.getfield 12, 3) := by decide +kernel
theorem d_SN_power_34 : decode M_SN_power.2.1 34 = .ok (.iload_n 1, 1) := by decide +kernel
theorem d_SN_power_35 : decode M_SN_power.2.1 35 = .ok (.invokevirtual 142, 3) := by decide +kernel
theorem d_SN_power_38 : decode M_SN_power.2.1 38 = .ok (.iload_n 2, 1) := by decide +kernel
theorem d_SN_power_39 : decode M_SN_power.2.1 39 = .ok (.iload_n 3, 1) := by decide +kernel
theorem d_SN_power_40 : decode M_SN_power.2.1 40 = .ok (.invokevirtual 192, 3) := by decide +kernel
theorem d_SN_power_43 : decode M_SN_power.2.1 43 = .ok (.ireturn, 1) := by decide +kernel
theorem d_SN_isModulus_0 : decode M_SN_isModulus.2.1 0 = .ok (.iload_n 0, 1) := by decide +kernel
theorem d_SN_isModulus_1 : decode M_SN_isModulus.2.1 1 = .ok (.iconst 2, 1) := by decide +kernel
theorem d_SN_isModulus_2 : decode M_SN_isModulus.2.1 2 = .ok (.if_icmp .lt 14, 3) := by decide +kernel
theorem d_SN_isModulus_5 : decode M_SN_isModulus.2.1 5 = .ok (.iload_n 0, 1) := by decide +kernel
theorem d_SN_isModulus_6 : decode M_SN_isModulus.2.1 6 = .ok (.sipush 10000, 3) := by decide +kernel
theorem d_SN_isModulus_9 : decode M_SN_isModulus.2.1 9 = .ok (.if_icmp .gt 7, 3) := by decide +kernel
theorem d_SN_isModulus_12 : decode M_SN_isModulus.2.1 12 = .ok (.iconst 1, 1) := by decide +kernel
theorem d_SN_isModulus_13 : decode M_SN_isModulus.2.1 13 = .ok (.goto 4, 3) := by decide +kernel
theorem d_SN_isModulus_16 : decode M_SN_isModulus.2.1 16 = .ok (.iconst 0, 1) := by decide +kernel
theorem d_SN_isModulus_17 : decode M_SN_isModulus.2.1 17 = .ok (.ireturn, 1) := by decide +kernel
theorem d_Uni_powerLeft_0 : decode M_Uni_powerLeft.2.1 0 = .ok (.iload_n 2, 1) := by decide +kernel
theorem d_Uni_powerLeft_1 : decode M_Uni_powerLeft.2.1 1 = .ok (.iconst 2, 1) := by decide +kernel
theorem d_Uni_powerLeft_2 : decode M_Uni_powerLeft.2.1 2 = .ok (.if_icmp .lt 8, 3) := by decide +kernel
theorem d_Uni_powerLeft_5 : decode M_Uni_powerLeft.2.1 5 = .ok (.iload_n 1, 1) := by decide +kernel
theorem d_Uni_powerLeft_6 : decode M_Uni_powerLeft.2.1 6 = .ok (.iconst 1, 1) := by decide +kernel
theorem d_Uni_powerLeft_7 : decode M_Uni_powerLeft.2.1 7 = .ok (.if_icmp .ge 5, 3) := by decide +kernel
theorem d_Uni_powerLeft_10 : decode M_Uni_powerLeft.2.1 10 = .ok (.iconst 1, 1) := by decide +kernel
theorem d_Uni_powerLeft_11 : decode M_Uni_powerLeft.2.1 11 = .ok (.ireturn, 1) := by decide +kernel
theorem d_Uni_powerLeft_12 : decode M_Uni_powerLeft.2.1 12 = .ok (.aload_n 0, 1) := by decide +kernel
theorem d_Uni_powerLeft_13 : decode M_Uni_powerLeft.2.1 13 = .ok (.getfield 16, 3) := by decide +kernel
theorem d_Uni_powerLeft_16 : decode M_Uni_powerLeft.2.1 16 = .ok (.iload_n 2, 1) := by decide +kernel
theorem d_Uni_powerLeft_17 : decode M_Uni_powerLeft.2.1 17 = .ok (.invokevirtual 107, 3) := by decide +kernel
theorem d_Uni_powerLeft_20 : decode M_Uni_powerLeft.2.1 20 = .ok (.i2l, 1) := by decide +kernel
theorem d_Uni_powerLeft_21 : decode M_Uni_powerLeft.2.1 21 = .ok (.lstore_n 3, 1) := by decide +kernel
theorem d_Uni_powerLeft_22 : decode M_Uni_powerLeft.2.1 22 = .ok (.lconst 1, 1) := by decide +kernel
theorem d_Uni_powerLeft_23 : decode M_Uni_powerLeft.2.1 23 = .ok (.lstore 5, 2) := by decide +kernel
theorem d_Uni_powerLeft_25 : decode M_Uni_powerLeft.2.1 25 = .ok (.lload_n 3, 1) := by decide +kernel
theorem d_Uni_powerLeft_26 : decode M_Uni_powerLeft.2.1 26 = .ok (.lstore 7, 2) := by decide +kernel
theorem d_Uni_powerLeft_28 : decode M_Uni_powerLeft.2.1 28 = .ok (.iconst 1, 1) := by decide +kernel
theorem d_Uni_powerLeft_29 : decode M_Uni_powerLeft.2.1 29 = .ok (.istore 9, 2) := by decide +kernel
theorem d_Uni_powerLeft_31 : decode M_Uni_powerLeft.2.1 31 = .ok (.iload 9, 2) := by decide +kernel
theorem d_Uni_powerLeft_33 : decode M_Uni_powerLeft.2.1 33 = .ok (.iload_n 1, 1) := by decide +kernel
theorem d_Uni_powerLeft_34 : decode M_Uni_powerLeft.2.1 34 = .ok (.if_icmp .ge 42, 3) := by decide +kernel
theorem d_Uni_powerLeft_37 : decode M_Uni_powerLeft.2.1 37 = .ok (.iload 9, 2) := by decide +kernel
theorem d_Uni_powerLeft_39 : decode M_Uni_powerLeft.2.1 39 = .ok (.bipush 60, 2) := by decide +kernel
theorem d_Uni_powerLeft_41 : decode M_Uni_powerLeft.2.1 41 = .ok (.if_icmp .ge 35, 3) := by decide +kernel
theorem d_Uni_powerLeft_44 : decode M_Uni_powerLeft.2.1 44 = .ok (.ldc2_w 110, 3) := by decide +kernel
theorem d_Uni_powerLeft_47 : decode M_Uni_powerLeft.2.1 47 = .ok (.lload_n 3, 1) := by decide +kernel
theorem d_Uni_powerLeft_48 : decode M_Uni_powerLeft.2.1 48 = .ok (.lmul, 1) := by decide +kernel
theorem d_Uni_powerLeft_49 : decode M_Uni_powerLeft.2.1 49 = .ok (.lload 7, 2) := by decide +kernel
theorem d_Uni_powerLeft_51 : decode M_Uni_powerLeft.2.1 51 = .ok (.lmul, 1) := by decide +kernel
theorem d_Uni_powerLeft_52 : decode M_Uni_powerLeft.2.1 52 = .ok (.lload 5, 2) := by decide +kernel
theorem d_Uni_powerLeft_54 : decode M_Uni_powerLeft.2.1 54 = .ok (.lsub, 1) := by decide +kernel
theorem d_Uni_powerLeft_55 : decode M_Uni_powerLeft.2.1 55 = .ok (.iload_n 2, 1) := by decide +kernel
theorem d_Uni_powerLeft_56 : decode M_Uni_powerLeft.2.1 56 = .ok (.i2l, 1) := by decide +kernel
theorem d_Uni_powerLeft_57 : decode M_Uni_powerLeft.2.1 57 = .ok (.invokestatic 112, 3) := by decide +kernel
theorem d_Uni_powerLeft_60 : decode M_Uni_powerLeft.2.1 60 = .ok (.lstore 10, 2) := by decide +kernel
theorem d_Uni_powerLeft_62 : decode M_Uni_powerLeft.2.1 62 = .ok (.lload 7, 2) := by decide +kernel
theorem d_Uni_powerLeft_64 : decode M_Uni_powerLeft.2.1 64 = .ok (.lstore 5, 2) := by decide +kernel
theorem d_Uni_powerLeft_66 : decode M_Uni_powerLeft.2.1 66 = .ok (.lload 10, 2) := by decide +kernel
theorem d_Uni_powerLeft_68 : decode M_Uni_powerLeft.2.1 68 = .ok (.lstore 7, 2) := by decide +kernel
theorem d_Uni_powerLeft_70 : decode M_Uni_powerLeft.2.1 70 = .ok (.iinc 9 1, 3) := by decide +kernel
theorem d_Uni_powerLeft_73 : decode M_Uni_powerLeft.2.1 73 = .ok (.goto (-42), 3) := by decide +kernel
theorem d_Uni_powerLeft_76 : decode M_Uni_powerLeft.2.1 76 = .ok (.lload 7, 2) := by decide +kernel
theorem d_Uni_powerLeft_78 : decode M_Uni_powerLeft.2.1 78 = .ok (.l2i, 1) := by decide +kernel
theorem d_Uni_powerLeft_79 : decode M_Uni_powerLeft.2.1 79 = .ok (.ireturn, 1) := by decide +kernel
theorem d_JMath_floorModJ_0 : decode M_JMath_floorModJ.2.1 0 = .ok (.lload_n 0, 1) := by decide +kernel
theorem d_JMath_floorModJ_1 : decode M_JMath_floorModJ.2.1 1 = .ok (.lload_n 2, 1) := by decide +kernel
theorem d_JMath_floorModJ_2 : decode M_JMath_floorModJ.2.1 2 = .ok (.lrem, 1) := by decide +kernel
theorem d_JMath_floorModJ_3 : decode M_JMath_floorModJ.2.1 3 = .ok (.lstore 4, 2) := by decide +kernel
theorem d_JMath_floorModJ_5 : decode M_JMath_floorModJ.2.1 5 = .ok (.lload_n 0, 1) := by decide +kernel
theorem d_JMath_floorModJ_6 : decode M_JMath_floorModJ.2.1 6 = .ok (.lload_n 2, 1) := by decide +kernel
theorem d_JMath_floorModJ_7 : decode M_JMath_floorModJ.2.1 7 = .ok (.lxor, 1) := by decide +kernel
theorem d_JMath_floorModJ_8 : decode M_JMath_floorModJ.2.1 8 = .ok (.lconst 0, 1) := by decide +kernel
theorem d_JMath_floorModJ_9 : decode M_JMath_floorModJ.2.1 9 = .ok (.lcmp, 1) := by decide +kernel
theorem d_JMath_floorModJ_10 : decode M_JMath_floorModJ.2.1 10 = .ok (.ifCond .ge 15, 3) := by decide +kernel
theorem d_JMath_floorModJ_13 : decode M_JMath_floorModJ.2.1 13 = .ok (.lload 4, 2) := by decide +kernel
theorem d_JMath_floorModJ_15 : decode M_JMath_floorModJ.2.1 15 = .ok (.lconst 0, 1) := by decide +kernel
theorem d_JMath_floorModJ_16 : decode M_JMath_floorModJ.2.1 16 = .ok (.lcmp, 1) := by decide +kernel
theorem d_JMath_floorModJ_17 : decode M_JMath_floorModJ.2.1 17 = .ok (.ifCond .eq 8, 3) := by decide +kernel
theorem d_JMath_floorModJ_20 : decode M_JMath_floorModJ.2.1 20 = .ok (.lload 4, 2) := by decide +kernel
theorem d_JMath_floorModJ_22 : decode M_JMath_floorModJ.2.1 22 = .ok (.lload_n 2, 1) := by decide +kernel
theorem d_JMath_floorModJ_23 : decode M_JMath_floorModJ.2.1 23 = .ok (.ladd, 1) := by decide +kernel
theorem d_JMath_floorModJ_24 : decode M_JMath_floorModJ.2.1 24 = .ok (.lreturn, 1) := by decide +kernel
theorem d_JMath_floorModJ_25 : decode M_JMath_floorModJ.2.1 25 = .ok (.lload 4, 2) := by decide +kernel
theorem d_JMath_floorModJ_27 : decode M_JMath_floorModJ.2.1 27 = .ok (.lreturn, 1) := by decide +kernel
theorem d_SN_powerLong_0 : decode M_SN_powerLong.2.1 0 = .ok (.aload_n 0, 1) := by decide +kernel
theorem d_SN_powerLong_1 : decode M_SN_powerLong.2.1 1 = .ok (.getfield 12, 3) := by decide +kernel
theorem d_SN_powerLong_4 : decode M_SN_powerLong.2.1 4 = .ok (.iload_n 1, 1) := by decide +kernel
theorem d_SN_powerLong_5 : decode M_SN_powerLong.2.1 5 = .ok (.invokevirtual 139, 3) := by decide +kernel
theorem d_SN_powerLong_8 : decode M_SN_powerLong.2.1 8 = .ok (.ifCond .eq 18, 3) := by decide +kernel
theorem d_SN_powerLong_11 : decode M_SN_powerLong.2.1 11 = .ok (.iload_n 2, 1) := by decide +kernel
theorem d_SN_powerLong_12 : decode M_SN_powerLong.2.1 12 = .ok (.ifCond .lt 14, 3) := by decide +kernel
theorem d_SN_powerLong_15 : decode M_SN_powerLong.2.1 15 = .ok (.iload_n 2, 1) := by decide +kernel
theorem d_SN_powerLong_16 : decode M_SN_powerLong.2.1 16 = .ok (.aload_n 0, 1) := by decide +kernel
theorem d_SN_powerLong_17 : decode M_SN_powerLong.2.1 17 = .ok (.getfield 12, 3) := by decide +kernel
theorem d_SN_powerLong_20 : decode M_SN_powerLong.2.1 20 = .ok (.getfield 108, 3) := by decide +kernel
theorem d_SN_powerLong_23 : decode M_SN_powerLong.2.1 23 = .ok (.if_icmp .le 5, 3) := by decide +kernel
theorem d_SN_powerLong_26 : decode M_SN_powerLong.2.1 26 = .ok (.iconst (-1), 1) := by decide +kernel
theorem d_SN_powerLong_27 : decode M_SN_powerLong.2.1 27 = .ok (.ireturn, 1) := by decide +kernel
theorem d_SN_powerLong_28 : decode M_SN_powerLong.2.1 28 = .ok (.aload_n 0, 1) := by decide +kernel
theorem d_SN_powerLong_29 : decode M_SN_powerLong.2.1 29 = .ok (.getfield 12, 3) := by decide +kernel
theorem d_SN_powerLong_32 : decode M_SN_powerLong.2.1 32 = .ok (.iload_n 1, 1) := by decide +kernel
theorem d_SN_powerLong_33 : decode M_SN_powerLong.2.1 33 = .ok (.invokevirtual 142, 3) := by decide +kernel
theorem d_SN_powerLong_36 : decode M_SN_powerLong.2.1 36 = .ok (.iload_n 2, 1) := by decide +kernel
theorem d_SN_powerLong_37 : decode M_SN_powerLong.2.1 37 = .ok (.invokevirtual 195, 3) := by decide +kernel
theorem d_SN_powerLong_40 : decode M_SN_powerLong.2.1 40 = .ok (.ireturn, 1) := by decide +kernel
theorem d_Uni_powerDigits_0 : decode M_Uni_powerDigits.2.1 0 = .ok (.iload_n 1, 1) := by decide +kernel
theorem d_Uni_powerDigits_1 : decode M_Uni_powerDigits.2.1 1 = .ok (.ifCond .le 21, 3) := by decide +kernel
theorem d_Uni_powerDigits_4 : decode M_Uni_powerDigits.2.1 4 = .ok (.iload_n 1, 1) := by decide +kernel
theorem d_Uni_powerDigits_5 : decode M_Uni_powerDigits.2.1 5 = .ok (.aload_n 0, 1) := by decide +kernel
theorem d_Uni_powerDigits_6 : decode M_Uni_powerDigits.2.1 6 = .ok (.getfield 23, 3) := by decide +kernel
theorem d_Uni_powerDigits_9 : decode M_Uni_powerDigits.2.1 9 = .ok (.arraylength, 1) := by decide +kernel
theorem d_Uni_powerDigits_10 : decode M_Uni_powerDigits.2.1 10 = .ok (.if_icmp .ge 12, 3) := by decide +kernel
theorem d_Uni_powerDigits_13 : decode M_Uni_powerDigits.2.1 13 = .ok (.aload_n 0, 1) := by decide +kernel
theorem d_Uni_powerDigits_14 : decode M_Uni_powerDigits.2.1 14 = .ok (.getfield 23, 3) := by decide +kernel
theorem d_Uni_powerDigits_17 : decode M_Uni_powerDigits.2.1 17 = .ok (.iload_n 1, 1) := by decide +kernel
theorem d_Uni_powerDigits_18 : decode M_Uni_powerDigits.2.1 18 = .ok (.iaload, 1) := by decide +kernel
theorem d_Uni_powerDigits_19 : decode M_Uni_powerDigits.2.1 19 = .ok (.goto 4, 3) := by decide +kernel
theorem d_Uni_powerDigits_22 : decode M_Uni_powerDigits.2.1 22 = .ok (.iconst 1, 1) := by decide +kernel
theorem d_Uni_powerDigits_23 : decode M_Uni_powerDigits.2.1 23 = .ok (.ireturn, 1) := by decide +kernel
theorem d_SN_half_0 : decode M_SN_half.2.1 0 = .ok (.aload_n 0, 1) := by decide +kernel
theorem d_SN_half_1 : decode M_SN_half.2.1 1 = .ok (.getfield 12, 3) := by decide +kernel
theorem d_SN_half_4 : decode M_SN_half.2.1 4 = .ok (.iload_n 1, 1) := by decide +kernel
theorem d_SN_half_5 : decode M_SN_half.2.1 5 = .ok (.invokevirtual 139, 3) := by decide +kernel
theorem d_SN_half_8 : decode M_SN_half.2.1 8 = .ok (.ifCond .eq 24, 3) := by decide +kernel
theorem d_SN_half_11 : decode M_SN_half.2.1 11 = .ok (.aload_n 0, 1) := by decide +kernel
theorem d_SN_half_12 : decode M_SN_half.2.1 12 = .ok (.getfield 12, 3) := by decide +kernel
theorem d_SN_half_15 : decode M_SN_half.2.1 15 = .ok (.iload_n 1, 1) := by decide +kernel
theorem d_SN_half_16 : decode M_SN_half.2.1 16 = .ok (.invokevirtual 142, 3) := by decide +kernel
theorem d_SN_half_19 : decode M_SN_half.2.1 19 = .ok (.invokevirtual 160, 3) := by decide +kernel
theorem d_SN_half_22 : decode M_SN_half.2.1 22 = .ok (.ifCond .eq 10, 3) := by decide +kernel
theorem d_SN_half_25 : decode M_SN_half.2.1 25 = .ok (.iload_n 2, 1) := by decide +kernel
theorem d_SN_half_26 : decode M_SN_half.2.1 26 = .ok (.invokestatic 183, 3) := by decide +kernel
theorem d_SN_half_29 : decode M_SN_half.2.1 29 = .ok (.ifCond .ne 5, 3) := by decide +kernel
theorem d_SN_half_32 : decode M_SN_half.2.1 32 = .ok (.iconst (-1), 1) := by decide +kernel
theorem d_SN_half_33 : decode M_SN_half.2.1 33 = .ok (.ireturn, 1) := by decide +kernel
theorem d_SN_half_34 : decode M_SN_half.2.1 34 = .ok (.aload_n 0, 1) := by decide +kernel
theorem d_SN_half_35 : decode M_SN_half.2.1 35 = .ok (.getfield 45, 3) := by decide +kernel
theorem d_SN_half_38 : decode M_SN_half.2.1 38 = .ok (.aload_n 0, 1) := by decide +kernel
theorem d_SN_half_39 : decode M_SN_half.2.1 39 = .ok (.iload_n 1, 1) := by decide +kernel
theorem d_SN_half_40 : decode M_SN_half.2.1 40 = .ok (.invokevirtual 176, 3) := by decide +kernel
theorem d_SN_half_43 : decode M_SN_half.2.1 43 = .ok (.invokevirtual 198, 3) := by decide +kernel
theorem d_SN_half_46 : decode M_SN_half.2.1 46 = .ok (.pop, 1) := by decide +kernel
theorem d_SN_half_47 : decode M_SN_half.2.1 47 = .ok (.iload_n 2, 1) := by decide +kernel
theorem d_SN_half_48 : decode M_SN_half.2.1 48 = .ok (.ifCond .ne 13, 3) := by decide +kernel
theorem d_SN_half_51 : decode M_SN_half.2.1 51 = .ok (.aload_n 0, 1) := by decide +kernel
theorem d_SN_half_52 : decode M_SN_half.2.1 52 = .ok (.getfield 45, 3) := by decide +kernel
theorem d_SN_half_55 : decode M_SN_half.2.1 55 = .ok (.getfield 201, 3) := by decide +kernel
theorem d_SN_half_58 : decode M_SN_half.2.1 58 = .ok (.goto 10, 3) := by decide +kernel
theorem d_SN_half_61 : decode M_SN_half.2.1 61 = .ok (.aload_n 0, 1) := by decide +kernel
theorem d_SN_half_62 : decode M_SN_half.2.1 62 = .ok (.getfield 45, 3) := by decide +kernel
theorem d_SN_half_65 : decode M_SN_half.2.1 65 = .ok (.getfield 204, 3) := by decide +kernel
theorem d_SN_half_68 : decode M_SN_half.2.1 68 = .ok (.iload_n 3, 1) := by decide +kernel
theorem d_SN_half_69 : decode M_SN_half.2.1 69 = .ok (.invokevirtual 186, 3) := by decide +kernel
theorem d_SN_half_72 : decode M_SN_half.2.1 72 = .ok (.ireturn, 1) := by decide +kernel
theorem d_SN_leaves_0 : decode M_SN_leaves.2.1 0 = .ok (.aload_n 0, 1) := by decide +kernel
theorem d_SN_leaves_1 : decode M_SN_leaves.2.1 1 = .ok (.iload_n 1, 1) := by decide +kernel
theorem d_SN_leaves_2 : decode M_SN_leaves.2.1 2 = .ok (.iload_n 2, 1) := by decide +kernel
theorem d_SN_leaves_3 : decode M_SN_leaves.2.1 3 = .ok (.invokevirtual 173, 3) := by decide +kernel
theorem d_SN_leaves_6 : decode M_SN_leaves.2.1 6 = .ok (.ifCond .eq 19, 3) := by decide +kernel
theorem d_SN_leaves_9 : decode M_SN_leaves.2.1 9 = .ok (.aload_n 0, 1) := by decide +kernel
theorem d_SN_leaves_10 : decode M_SN_leaves.2.1 10 = .ok (.getfield 45, 3) := by decide +kernel
theorem d_SN_leaves_13 : decode M_SN_leaves.2.1 13 = .ok (.aload_n 0, 1) := by decide +kernel
theorem d_SN_leaves_14 : decode M_SN_leaves.2.1 14 = .ok (.iload_n 1, 1) := by decide +kernel
theorem d_SN_leaves_15 : decode M_SN_leaves.2.1 15 = .ok (.invokevirtual 176, 3) := by decide +kernel
theorem d_SN_leaves_18 : decode M_SN_leaves.2.1 18 = .ok (.iload_n 2, 1) := by decide +kernel
theorem d_SN_leaves_19 : decode M_SN_leaves.2.1 19 = .ok (.invokevirtual 207, 3) := by decide +kernel
theorem d_SN_leaves_22 : decode M_SN_leaves.2.1 22 = .ok (.goto 5, 3) := by decide +kernel
theorem d_SN_leaves_25 : decode M_SN_leaves.2.1 25 = .ok (.ldc 210, 2) := by decide +kernel
theorem d_SN_leaves_27 : decode M_SN_leaves.2.1 27 = .ok (.ireturn, 1) := by decide +kernel
theorem d_Fra_leftBehind_0 : decode M_Fra_leftBehind.2.1 0 = .ok (.aload_n 0, 1) := by decide +kernel
theorem d_Fra_leftBehind_1 : decode M_Fra_leftBehind.2.1 1 = .ok (.iload_n 1, 1) := by decide +kernel
theorem d_Fra_leftBehind_2 : decode M_Fra_leftBehind.2.1 2 = .ok (.invokevirtual 51, 3) := by decide +kernel
theorem d_Fra_leftBehind_5 : decode M_Fra_leftBehind.2.1 5 = .ok (.lconst 1, 1) := by decide +kernel
theorem d_Fra_leftBehind_6 : decode M_Fra_leftBehind.2.1 6 = .ok (.lstore_n 3, 1) := by decide +kernel
theorem d_Fra_leftBehind_7 : decode M_Fra_leftBehind.2.1 7 = .ok (.lconst 0, 1) := by decide +kernel
theorem d_Fra_leftBehind_8 : decode M_Fra_leftBehind.2.1 8 = .ok (.lstore 5, 2) := by decide +kernel
theorem d_Fra_leftBehind_10 : decode M_Fra_leftBehind.2.1 10 = .ok (.aload_n 0, 1) := by decide +kernel
theorem d_Fra_leftBehind_11 : decode M_Fra_leftBehind.2.1 11 = .ok (.getfield 39, 3) := by decide +kernel
theorem d_Fra_leftBehind_14 : decode M_Fra_leftBehind.2.1 14 = .ok (.i2l, 1) := by decide +kernel
theorem d_Fra_leftBehind_15 : decode M_Fra_leftBehind.2.1 15 = .ok (.lstore 7, 2) := by decide +kernel
theorem d_Fra_leftBehind_17 : decode M_Fra_leftBehind.2.1 17 = .ok (.lconst 1, 1) := by decide +kernel
theorem d_Fra_leftBehind_18 : decode M_Fra_leftBehind.2.1 18 = .ok (.lstore 9, 2) := by decide +kernel
theorem d_Fra_leftBehind_20 : decode M_Fra_leftBehind.2.1 20 = .ok (.iconst 0, 1) := by decide +kernel
theorem d_Fra_leftBehind_21 : decode M_Fra_leftBehind.2.1 21 = .ok (.istore 11, 2) := by decide +kernel
theorem d_Fra_leftBehind_23 : decode M_Fra_leftBehind.2.1 23 = .ok (.iload 11, 2) := by decide +kernel
theorem d_Fra_leftBehind_25 : decode M_Fra_leftBehind.2.1 25 = .ok (.iload_n 2, 1) := by decide +kernel
theorem d_Fra_leftBehind_26 : decode M_Fra_leftBehind.2.1 26 = .ok (.if_icmp .ge 60, 3) := by decide +kernel
theorem d_Fra_leftBehind_29 : decode M_Fra_leftBehind.2.1 29 = .ok (.iload 11, 2) := by decide +kernel
theorem d_Fra_leftBehind_31 : decode M_Fra_leftBehind.2.1 31 = .ok (.ldc 54, 2) := by decide +kernel
theorem d_Fra_leftBehind_33 : decode M_Fra_leftBehind.2.1 33 = .ok (.if_icmp .ge 53, 3) := by decide +kernel
theorem d_Fra_leftBehind_36 : decode M_Fra_leftBehind.2.1 36 = .ok (.aload_n 0, 1) := by decide +kernel
theorem d_Fra_leftBehind_37 : decode M_Fra_leftBehind.2.1 37 = .ok (.invokevirtual 55, 3) := by decide +kernel
theorem d_Fra_leftBehind_40 : decode M_Fra_leftBehind.2.1 40 = .ok (.aload_n 0, 1) := by decide +kernel
theorem d_Fra_leftBehind_41 : decode M_Fra_leftBehind.2.1 41 = .ok (.getfield 48, 3) := by decide +kernel
theorem d_Fra_leftBehind_44 : decode M_Fra_leftBehind.2.1 44 = .ok (.i2l, 1) := by decide +kernel
theorem d_Fra_leftBehind_45 : decode M_Fra_leftBehind.2.1 45 = .ok (.lload 7, 2) := by decide +kernel
theorem d_Fra_leftBehind_47 : decode M_Fra_leftBehind.2.1 47 = .ok (.lmul, 1) := by decide +kernel
theorem d_Fra_leftBehind_48 : decode M_Fra_leftBehind.2.1 48 = .ok (.lload_n 3, 1) := by decide +kernel
theorem d_Fra_leftBehind_49 : decode M_Fra_leftBehind.2.1 49 = .ok (.ladd, 1) := by decide +kernel
theorem d_Fra_leftBehind_50 : decode M_Fra_leftBehind.2.1 50 = .ok (.lstore 12, 2) := by decide +kernel
theorem d_Fra_leftBehind_52 : decode M_Fra_leftBehind.2.1 52 = .ok (.aload_n 0, 1) := by decide +kernel
theorem d_Fra_leftBehind_53 : decode M_Fra_leftBehind.2.1 53 = .ok (.getfield 48, 3) := by decide +kernel
theorem d_Fra_leftBehind_56 : decode M_Fra_leftBehind.2.1 56 = .ok (.i2l, 1) := by decide +kernel
theorem d_Fra_leftBehind_57 : decode M_Fra_leftBehind.2.1 57 = .ok (.lload 9, 2) := by decide +kernel
theorem d_Fra_leftBehind_59 : decode M_Fra_leftBehind.2.1 59 = .ok (.lmul, 1) := by decide +kernel
theorem d_Fra_leftBehind_60 : decode M_Fra_leftBehind.2.1 60 = .ok (.lload 5, 2) := by decide +kernel
theorem d_Fra_leftBehind_62 : decode M_Fra_leftBehind.2.1 62 = .ok (.ladd, 1) := by decide +kernel
theorem d_Fra_leftBehind_63 : decode M_Fra_leftBehind.2.1 63 = .ok (.lstore 14, 2) := by decide +kernel
theorem d_Fra_leftBehind_65 : decode M_Fra_leftBehind.2.1 65 = .ok (.lload 7, 2) := by decide +kernel
theorem d_Fra_leftBehind_67 : decode M_Fra_leftBehind.2.1 67 = .ok (.lstore_n 3, 1) := by decide +kernel
theorem d_Fra_leftBehind_68 : decode M_Fra_leftBehind.2.1 68 = .ok (.lload 9, 2) := by decide +kernel
theorem d_Fra_leftBehind_70 : decode M_Fra_leftBehind.2.1 70 = .ok (.lstore 5, 2) := by decide +kernel
theorem d_Fra_leftBehind_72 : decode M_Fra_leftBehind.2.1 72 = .ok (.lload 12, 2) := by decide +kernel
theorem d_Fra_leftBehind_74 : decode M_Fra_leftBehind.2.1 74 = .ok (.lstore 7, 2) := by decide +kernel
theorem d_Fra_leftBehind_76 : decode M_Fra_leftBehind.2.1 76 = .ok (.lload 14, 2) := by decide +kernel
theorem d_Fra_leftBehind_78 : decode M_Fra_leftBehind.2.1 78 = .ok (.lstore 9, 2) := by decide +kernel
theorem d_Fra_leftBehind_80 : decode M_Fra_leftBehind.2.1 80 = .ok (.iinc 11 1, 3) := by decide +kernel
theorem d_Fra_leftBehind_83 : decode M_Fra_leftBehind.2.1 83 = .ok (.goto (-60), 3) := by decide +kernel
theorem d_Fra_leftBehind_86 : decode M_Fra_leftBehind.2.1 86 = .ok (.lload 7, 2) := by decide +kernel
theorem d_Fra_leftBehind_88 : decode M_Fra_leftBehind.2.1 88 = .ok (.lload 7, 2) := by decide +kernel
theorem d_Fra_leftBehind_90 : decode M_Fra_leftBehind.2.1 90 = .ok (.lmul, 1) := by decide +kernel
theorem d_Fra_leftBehind_91 : decode M_Fra_leftBehind.2.1 91 = .ok (.iload_n 1, 1) := by decide +kernel
theorem d_Fra_leftBehind_92 : decode M_Fra_leftBehind.2.1 92 = .ok (.i2l, 1) := by decide +kernel
theorem d_Fra_leftBehind_93 : decode M_Fra_leftBehind.2.1 93 = .ok (.lload 9, 2) := by decide +kernel
theorem d_Fra_leftBehind_95 : decode M_Fra_leftBehind.2.1 95 = .ok (.lmul, 1) := by decide +kernel
theorem d_Fra_leftBehind_96 : decode M_Fra_leftBehind.2.1 96 = .ok (.lload 9, 2) := by decide +kernel
theorem d_Fra_leftBehind_98 : decode M_Fra_leftBehind.2.1 98 = .ok (.lmul, 1) := by decide +kernel
theorem d_Fra_leftBehind_99 : decode M_Fra_leftBehind.2.1 99 = .ok (.lsub, 1) := by decide +kernel
theorem d_Fra_leftBehind_100 : decode M_Fra_leftBehind.2.1 100 = .ok (.l2i, 1) := by decide +kernel
theorem d_Fra_leftBehind_101 : decode M_Fra_leftBehind.2.1 101 = .ok (.ireturn, 1) := by decide +kernel
theorem d_SN_nearing_0 : decode M_SN_nearing.2.1 0 = .ok (.aload_n 0, 1) := by decide +kernel
theorem d_SN_nearing_1 : decode M_SN_nearing.2.1 1 = .ok (.iload_n 1, 1) := by decide +kernel
theorem d_SN_nearing_2 : decode M_SN_nearing.2.1 2 = .ok (.iload_n 2, 1) := by decide +kernel
theorem d_SN_nearing_3 : decode M_SN_nearing.2.1 3 = .ok (.invokevirtual 173, 3) := by decide +kernel
theorem d_SN_nearing_6 : decode M_SN_nearing.2.1 6 = .ok (.ifCond .eq 18, 3) := by decide +kernel
theorem d_SN_nearing_9 : decode M_SN_nearing.2.1 9 = .ok (.iload_n 3, 1) := by decide +kernel
theorem d_SN_nearing_10 : decode M_SN_nearing.2.1 10 = .ok (.invokestatic 183, 3) := by decide +kernel
theorem d_SN_nearing_13 : decode M_SN_nearing.2.1 13 = .ok (.ifCond .eq 11, 3) := by decide +kernel
theorem d_SN_nearing_16 : decode M_SN_nearing.2.1 16 = .ok (.iload 4, 2) := by decide +kernel
theorem d_SN_nearing_18 : decode M_SN_nearing.2.1 18 = .ok (.invokestatic 189, 3) := by decide +kernel
theorem d_SN_nearing_21 : decode M_SN_nearing.2.1 21 = .ok (.ifCond .ne 5, 3) := by decide +kernel
theorem d_SN_nearing_24 : decode M_SN_nearing.2.1 24 = .ok (.iconst (-1), 1) := by decide +kernel
theorem d_SN_nearing_25 : decode M_SN_nearing.2.1 25 = .ok (.ireturn, 1) := by decide +kernel
theorem d_SN_nearing_26 : decode M_SN_nearing.2.1 26 = .ok (.aload_n 0, 1) := by decide +kernel
theorem d_SN_nearing_27 : decode M_SN_nearing.2.1 27 = .ok (.getfield 45, 3) := by decide +kernel
theorem d_SN_nearing_30 : decode M_SN_nearing.2.1 30 = .ok (.aload_n 0, 1) := by decide +kernel
theorem d_SN_nearing_31 : decode M_SN_nearing.2.1 31 = .ok (.iload_n 1, 1) := by decide +kernel
theorem d_SN_nearing_32 : decode M_SN_nearing.2.1 32 = .ok (.invokevirtual 176, 3) := by decide +kernel
theorem d_SN_nearing_35 : decode M_SN_nearing.2.1 35 = .ok (.iload_n 2, 1) := by decide +kernel
theorem d_SN_nearing_36 : decode M_SN_nearing.2.1 36 = .ok (.iload_n 3, 1) := by decide +kernel
theorem d_SN_nearing_37 : decode M_SN_nearing.2.1 37 = .ok (.ifCond .ne 7, 3) := by decide +kernel
theorem d_SN_nearing_40 : decode M_SN_nearing.2.1 40 = .ok (.iconst 1, 1) := by decide +kernel
theorem d_SN_nearing_41 : decode M_SN_nearing.2.1 41 = .ok (.goto 4, 3) := by decide +kernel
theorem d_SN_nearing_44 : decode M_SN_nearing.2.1 44 = .ok (.iconst 0, 1) := by decide +kernel
theorem d_SN_nearing_45 : decode M_SN_nearing.2.1 45 = .ok (.iload 4, 2) := by decide +kernel
theorem d_SN_nearing_47 : decode M_SN_nearing.2.1 47 = .ok (.invokevirtual 211, 3) := by decide +kernel
theorem d_SN_nearing_50 : decode M_SN_nearing.2.1 50 = .ok (.ireturn, 1) := by decide +kernel
theorem d_Fra_nearingModulo_0 : decode M_Fra_nearingModulo.2.1 0 = .ok (.iload 4, 2) := by decide +kernel
theorem d_Fra_nearingModulo_2 : decode M_Fra_nearingModulo.2.1 2 = .ok (.iconst 1, 1) := by decide +kernel
theorem d_Fra_nearingModulo_3 : decode M_Fra_nearingModulo.2.1 3 = .ok (.if_icmp .ge 5, 3) := by decide +kernel
theorem d_Fra_nearingModulo_6 : decode M_Fra_nearingModulo.2.1 6 = .ok (.iconst (-1), 1) := by decide +kernel
theorem d_Fra_nearingModulo_7 : decode M_Fra_nearingModulo.2.1 7 = .ok (.ireturn, 1) := by decide +kernel
theorem d_Fra_nearingModulo_8 : decode M_Fra_nearingModulo.2.1 8 = .ok (.aload_n 0, 1) := by decide +kernel
theorem d_Fra_nearingModulo_9 : decode M_Fra_nearingModulo.2.1 9 = .ok (.iload_n 1, 1) := by decide +kernel
theorem d_Fra_nearingModulo_10 : decode M_Fra_nearingModulo.2.1 10 = .ok (.invokevirtual 51, 3) := by decide +kernel
theorem d_Fra_nearingModulo_13 : decode M_Fra_nearingModulo.2.1 13 = .ok (.iload_n 3, 1) := by decide +kernel
theorem d_Fra_nearingModulo_14 : decode M_Fra_nearingModulo.2.1 14 = .ok (.ifCond .eq 7, 3) := by decide +kernel
theorem d_Fra_nearingModulo_17 : decode M_Fra_nearingModulo.2.1 17 = .ok (.lconst 1, 1) := by decide +kernel
theorem d_Fra_nearingModulo_18 : decode M_Fra_nearingModulo.2.1 18 = .ok (.goto 4, 3) := by decide +kernel
theorem d_Fra_nearingModulo_21 : decode M_Fra_nearingModulo.2.1 21 = .ok (.lconst 0, 1) := by decide +kernel
theorem d_Fra_nearingModulo_22 : decode M_Fra_nearingModulo.2.1 22 = .ok (.lstore 5, 2) := by decide +kernel
theorem d_Fra_nearingModulo_24 : decode M_Fra_nearingModulo.2.1 24 = .ok (.iload_n 3, 1) := by decide +kernel
theorem d_Fra_nearingModulo_25 : decode M_Fra_nearingModulo.2.1 25 = .ok (.ifCond .eq 10, 3) := by decide +kernel
theorem d_Fra_nearingModulo_28 : decode M_Fra_nearingModulo.2.1 28 = .ok (.aload_n 0, 1) := by decide +kernel
theorem d_Fra_nearingModulo_29 : decode M_Fra_nearingModulo.2.1 29 = .ok (.getfield 39, 3) := by decide +kernel
theorem d_Fra_nearingModulo_32 : decode M_Fra_nearingModulo.2.1 32 = .ok (.goto 4, 3) := by decide +kernel
theorem d_Fra_nearingModulo_35 : decode M_Fra_nearingModulo.2.1 35 = .ok (.iconst 1, 1) := by decide +kernel
theorem d_Fra_nearingModulo_36 : decode M_Fra_nearingModulo.2.1 36 = .ok (.iload 4, 2) := by decide +kernel
theorem d_Fra_nearingModulo_38 : decode M_Fra_nearingModulo.2.1 38 = .ok (.irem, 1) := by decide +kernel
theorem d_Fra_nearingModulo_39 : decode M_Fra_nearingModulo.2.1 39 = .ok (.i2l, 1) := by decide +kernel
theorem d_Fra_nearingModulo_40 : decode M_Fra_nearingModulo.2.1 40 = .ok (.lstore 7, 2) := by decide +kernel
theorem d_Fra_nearingModulo_42 : decode M_Fra_nearingModulo.2.1 42 = .ok (.iconst 0, 1) := by decide +kernel
theorem d_Fra_nearingModulo_43 : decode M_Fra_nearingModulo.2.1 43 = .ok (.istore 9, 2) := by decide +kernel
theorem d_Fra_nearingModulo_45 : decode M_Fra_nearingModulo.2.1 45 = .ok (.iload 9, 2) := by decide +kernel
theorem d_Fra_nearingModulo_47 : decode M_Fra_nearingModulo.2.1 47 = .ok (.iload_n 2, 1) := by decide +kernel
theorem d_Fra_nearingModulo_48 : decode M_Fra_nearingModulo.2.1 48 = .ok (.if_icmp .ge 45, 3) := by decide +kernel
theorem d_Fra_nearingModulo_51 : decode M_Fra_nearingModulo.2.1 51 = .ok (.iload 9, 2) := by decide +kernel
theorem d_Fra_nearingModulo_53 : decode M_Fra_nearingModulo.2.1 53 = .ok (.ldc 54, 2) := by decide +kernel
theorem d_Fra_nearingModulo_55 : decode M_Fra_nearingModulo.2.1 55 = .ok (.if_icmp .ge 38, 3) := by decide +kernel
theorem d_Fra_nearingModulo_58 : decode M_Fra_nearingModulo.2.1 58 = .ok (.aload_n 0, 1) := by decide +kernel
theorem d_Fra_nearingModulo_59 : decode M_Fra_nearingModulo.2.1 59 = .ok (.invokevirtual 55, 3) := by decide +kernel
theorem d_Fra_nearingModulo_62 : decode M_Fra_nearingModulo.2.1 62 = .ok (.aload_n 0, 1) := by decide +kernel
theorem d_Fra_nearingModulo_63 : decode M_Fra_nearingModulo.2.1 63 = .ok (.getfield 48, 3) := by decide +kernel
theorem d_Fra_nearingModulo_66 : decode M_Fra_nearingModulo.2.1 66 = .ok (.i2l, 1) := by decide +kernel
theorem d_Fra_nearingModulo_67 : decode M_Fra_nearingModulo.2.1 67 = .ok (.lload 7, 2) := by decide +kernel
theorem d_Fra_nearingModulo_69 : decode M_Fra_nearingModulo.2.1 69 = .ok (.lmul, 1) := by decide +kernel
theorem d_Fra_nearingModulo_70 : decode M_Fra_nearingModulo.2.1 70 = .ok (.lload 5, 2) := by decide +kernel
theorem d_Fra_nearingModulo_72 : decode M_Fra_nearingModulo.2.1 72 = .ok (.ladd, 1) := by decide +kernel
theorem d_Fra_nearingModulo_73 : decode M_Fra_nearingModulo.2.1 73 = .ok (.iload 4, 2) := by decide +kernel
theorem d_Fra_nearingModulo_75 : decode M_Fra_nearingModulo.2.1 75 = .ok (.i2l, 1) := by decide +kernel
theorem d_Fra_nearingModulo_76 : decode M_Fra_nearingModulo.2.1 76 = .ok (.lrem, 1) := by decide +kernel
theorem d_Fra_nearingModulo_77 : decode M_Fra_nearingModulo.2.1 77 = .ok (.lstore 10, 2) := by decide +kernel
theorem d_Fra_nearingModulo_79 : decode M_Fra_nearingModulo.2.1 79 = .ok (.lload 7, 2) := by decide +kernel
theorem d_Fra_nearingModulo_81 : decode M_Fra_nearingModulo.2.1 81 = .ok (.lstore 5, 2) := by decide +kernel
theorem d_Fra_nearingModulo_83 : decode M_Fra_nearingModulo.2.1 83 = .ok (.lload 10, 2) := by decide +kernel
theorem d_Fra_nearingModulo_85 : decode M_Fra_nearingModulo.2.1 85 = .ok (.lstore 7, 2) := by decide +kernel
theorem d_Fra_nearingModulo_87 : decode M_Fra_nearingModulo.2.1 87 = .ok (.iinc 9 1, 3) := by decide +kernel
theorem d_Fra_nearingModulo_90 : decode M_Fra_nearingModulo.2.1 90 = .ok (.goto (-45), 3) := by decide +kernel
theorem d_Fra_nearingModulo_93 : decode M_Fra_nearingModulo.2.1 93 = .ok (.lload 7, 2) := by decide +kernel
theorem d_Fra_nearingModulo_95 : decode M_Fra_nearingModulo.2.1 95 = .ok (.l2i, 1) := by decide +kernel
theorem d_Fra_nearingModulo_96 : decode M_Fra_nearingModulo.2.1 96 = .ok (.ireturn, 1) := by decide +kernel
theorem d_SN_middle_0 : decode M_SN_middle.2.1 0 = .ok (.aload_n 0, 1) := by decide +kernel
theorem d_SN_middle_1 : decode M_SN_middle.2.1 1 = .ok (.getfield 12, 3) := by decide +kernel
theorem d_SN_middle_4 : decode M_SN_middle.2.1 4 = .ok (.iload_n 1, 1) := by decide +kernel
theorem d_SN_middle_5 : decode M_SN_middle.2.1 5 = .ok (.invokevirtual 139, 3) := by decide +kernel
theorem d_SN_middle_8 : decode M_SN_middle.2.1 8 = .ok (.ifCond .eq 17, 3) := by decide +kernel
theorem d_SN_middle_11 : decode M_SN_middle.2.1 11 = .ok (.aload_n 0, 1) := by decide +kernel
theorem d_SN_middle_12 : decode M_SN_middle.2.1 12 = .ok (.getfield 12, 3) := by decide +kernel
theorem d_SN_middle_15 : decode M_SN_middle.2.1 15 = .ok (.iload_n 1, 1) := by decide +kernel
theorem d_SN_middle_16 : decode M_SN_middle.2.1 16 = .ok (.invokevirtual 142, 3) := by decide +kernel
theorem d_SN_middle_19 : decode M_SN_middle.2.1 19 = .ok (.invokevirtual 160, 3) := by decide +kernel
theorem d_SN_middle_22 : decode M_SN_middle.2.1 22 = .ok (.ifCond .eq 5, 3) := by decide +kernel
theorem d_SN_middle_25 : decode M_SN_middle.2.1 25 = .ok (.iconst (-1), 1) := by decide +kernel
theorem d_SN_middle_26 : decode M_SN_middle.2.1 26 = .ok (.ireturn, 1) := by decide +kernel
theorem d_SN_middle_27 : decode M_SN_middle.2.1 27 = .ok (.aload_n 0, 1) := by decide +kernel
theorem d_SN_middle_28 : decode M_SN_middle.2.1 28 = .ok (.getfield 45, 3) := by decide +kernel
theorem d_SN_middle_31 : decode M_SN_middle.2.1 31 = .ok (.aload_n 0, 1) := by decide +kernel
theorem d_SN_middle_32 : decode M_SN_middle.2.1 32 = .ok (.iload_n 1, 1) := by decide +kernel
theorem d_SN_middle_33 : decode M_SN_middle.2.1 33 = .ok (.invokevirtual 176, 3) := by decide +kernel
theorem d_SN_middle_36 : decode M_SN_middle.2.1 36 = .ok (.aload_n 0, 1) := by decide +kernel
theorem d_SN_middle_37 : decode M_SN_middle.2.1 37 = .ok (.getfield 12, 3) := by decide +kernel
theorem d_SN_middle_40 : decode M_SN_middle.2.1 40 = .ok (.iload_n 1, 1) := by decide +kernel
theorem d_SN_middle_41 : decode M_SN_middle.2.1 41 = .ok (.invokevirtual 142, 3) := by decide +kernel
theorem d_SN_middle_44 : decode M_SN_middle.2.1 44 = .ok (.getfield 157, 3) := by decide +kernel
theorem d_SN_middle_47 : decode M_SN_middle.2.1 47 = .ok (.iconst 2, 1) := by decide +kernel
theorem d_SN_middle_48 : decode M_SN_middle.2.1 48 = .ok (.idiv, 1) := by decide +kernel
theorem d_SN_middle_49 : decode M_SN_middle.2.1 49 = .ok (.invokevirtual 215, 3) := by decide +kernel
theorem d_SN_middle_52 : decode M_SN_middle.2.1 52 = .ok (.ireturn, 1) := by decide +kernel
theorem d_Fra_divisorBehind_0 : decode M_Fra_divisorBehind.2.1 0 = .ok (.aload_n 0, 1) := by decide +kernel
theorem d_Fra_divisorBehind_1 : decode M_Fra_divisorBehind.2.1 1 = .ok (.iload_n 1, 1) := by decide +kernel
theorem d_Fra_divisorBehind_2 : decode M_Fra_divisorBehind.2.1 2 = .ok (.iload_n 2, 1) := by decide +kernel
theorem d_Fra_divisorBehind_3 : decode M_Fra_divisorBehind.2.1 3 = .ok (.invokevirtual 65, 3) := by decide +kernel
theorem d_Fra_divisorBehind_6 : decode M_Fra_divisorBehind.2.1 6 = .ok (.aload_n 0, 1) := by decide +kernel
theorem d_Fra_divisorBehind_7 : decode M_Fra_divisorBehind.2.1 7 = .ok (.getfield 45, 3) := by decide +kernel
theorem d_Fra_divisorBehind_10 : decode M_Fra_divisorBehind.2.1 10 = .ok (.ireturn, 1) := by decide +kernel
theorem d_SN_least_0 : decode M_SN_least.2.1 0 = .ok (.aload_n 0, 1) := by decide +kernel
theorem d_SN_least_1 : decode M_SN_least.2.1 1 = .ok (.getfield 12, 3) := by decide +kernel
theorem d_SN_least_4 : decode M_SN_least.2.1 4 = .ok (.iload_n 1, 1) := by decide +kernel
theorem d_SN_least_5 : decode M_SN_least.2.1 5 = .ok (.invokevirtual 139, 3) := by decide +kernel
theorem d_SN_least_8 : decode M_SN_least.2.1 8 = .ok (.ifCond .eq 17, 3) := by decide +kernel
theorem d_SN_least_11 : decode M_SN_least.2.1 11 = .ok (.iload_n 2, 1) := by decide +kernel
theorem d_SN_least_12 : decode M_SN_least.2.1 12 = .ok (.sipush (-1000), 3) := by decide +kernel
theorem d_SN_least_15 : decode M_SN_least.2.1 15 = .ok (.if_icmp .lt 10, 3) := by decide +kernel
theorem d_SN_least_18 : decode M_SN_least.2.1 18 = .ok (.iload_n 2, 1) := by decide +kernel
theorem d_SN_least_19 : decode M_SN_least.2.1 19 = .ok (.sipush 1000, 3) := by decide +kernel
theorem d_SN_least_22 : decode M_SN_least.2.1 22 = .ok (.if_icmp .le 5, 3) := by decide +kernel
theorem d_SN_least_25 : decode M_SN_least.2.1 25 = .ok (.iconst (-1), 1) := by decide +kernel
theorem d_SN_least_26 : decode M_SN_least.2.1 26 = .ok (.ireturn, 1) := by decide +kernel
theorem d_SN_least_27 : decode M_SN_least.2.1 27 = .ok (.aload_n 0, 1) := by decide +kernel
theorem d_SN_least_28 : decode M_SN_least.2.1 28 = .ok (.iload_n 1, 1) := by decide +kernel
theorem d_SN_least_29 : decode M_SN_least.2.1 29 = .ok (.invokevirtual 176, 3) := by decide +kernel
theorem d_SN_least_32 : decode M_SN_least.2.1 32 = .ok (.i2l, 1) := by decide +kernel
theorem d_SN_least_33 : decode M_SN_least.2.1 33 = .ok (.lstore_n 3, 1) := by decide +kernel
theorem d_SN_least_34 : decode M_SN_least.2.1 34 = .ok (.iconst 1, 1) := by decide +kernel
theorem d_SN_least_35 : decode M_SN_least.2.1 35 = .ok (.istore 5, 2) := by decide +kernel
theorem d_SN_least_37 : decode M_SN_least.2.1 37 = .ok (.iload 5, 2) := by decide +kernel
theorem d_SN_least_39 : decode M_SN_least.2.1 39 = .ok (.sipush 3000, 3) := by decide +kernel
theorem d_SN_least_42 : decode M_SN_least.2.1 42 = .ok (.if_icmp .gt 30, 3) := by decide +kernel
theorem d_SN_least_45 : decode M_SN_least.2.1 45 = .ok (.lload_n 3, 1) := by decide +kernel
theorem d_SN_least_46 : decode M_SN_least.2.1 46 = .ok (.iload 5, 2) := by decide +kernel
theorem d_SN_least_48 : decode M_SN_least.2.1 48 = .ok (.i2l, 1) := by decide +kernel
theorem d_SN_least_49 : decode M_SN_least.2.1 49 = .ok (.lmul, 1) := by decide +kernel
theorem d_SN_least_50 : decode M_SN_least.2.1 50 = .ok (.iload 5, 2) := by decide +kernel
theorem d_SN_least_52 : decode M_SN_least.2.1 52 = .ok (.i2l, 1) := by decide +kernel
theorem d_SN_least_53 : decode M_SN_least.2.1 53 = .ok (.lmul, 1) := by decide +kernel
theorem d_SN_least_54 : decode M_SN_least.2.1 54 = .ok (.iload_n 2, 1) := by decide +kernel
theorem d_SN_least_55 : decode M_SN_least.2.1 55 = .ok (.i2l, 1) := by decide +kernel
theorem d_SN_least_56 : decode M_SN_least.2.1 56 = .ok (.ladd, 1) := by decide +kernel
theorem d_SN_least_57 : decode M_SN_least.2.1 57 = .ok (.invokestatic 218, 3) := by decide +kernel
theorem d_SN_least_60 : decode M_SN_least.2.1 60 = .ok (.ifCond .eq 6, 3) := by decide +kernel
theorem d_SN_least_63 : decode M_SN_least.2.1 63 = .ok (.iload 5, 2) := by decide +kernel
theorem d_SN_least_65 : decode M_SN_least.2.1 65 = .ok (.ireturn, 1) := by decide +kernel
theorem d_SN_least_66 : decode M_SN_least.2.1 66 = .ok (.iinc 5 1, 3) := by decide +kernel
theorem d_SN_least_69 : decode M_SN_least.2.1 69 = .ok (.goto (-32), 3) := by decide +kernel
theorem d_SN_least_72 : decode M_SN_least.2.1 72 = .ok (.iconst (-1), 1) := by decide +kernel
theorem d_SN_least_73 : decode M_SN_least.2.1 73 = .ok (.ireturn, 1) := by decide +kernel
theorem d_Pri_isSquare_0 : decode M_Pri_isSquare.2.1 0 = .ok (.lload_n 0, 1) := by decide +kernel
theorem d_Pri_isSquare_1 : decode M_Pri_isSquare.2.1 1 = .ok (.invokestatic 41, 3) := by decide +kernel
theorem d_Pri_isSquare_4 : decode M_Pri_isSquare.2.1 4 = .ok (.lstore_n 2, 1) := by decide +kernel
theorem d_Pri_isSquare_5 : decode M_Pri_isSquare.2.1 5 = .ok (.lload_n 2, 1) := by decide +kernel
theorem d_Pri_isSquare_6 : decode M_Pri_isSquare.2.1 6 = .ok (.lload_n 2, 1) := by decide +kernel
theorem d_Pri_isSquare_7 : decode M_Pri_isSquare.2.1 7 = .ok (.lmul, 1) := by decide +kernel
theorem d_Pri_isSquare_8 : decode M_Pri_isSquare.2.1 8 = .ok (.lload_n 0, 1) := by decide +kernel
theorem d_Pri_isSquare_9 : decode M_Pri_isSquare.2.1 9 = .ok (.lcmp, 1) := by decide +kernel
theorem d_Pri_isSquare_10 : decode M_Pri_isSquare.2.1 10 = .ok (.ifCond .ne 7, 3) := by decide +kernel
theorem d_Pri_isSquare_13 : decode M_Pri_isSquare.2.1 13 = .ok (.iconst 1, 1) := by decide +kernel
theorem d_Pri_isSquare_14 : decode M_Pri_isSquare.2.1 14 = .ok (.goto 4, 3) := by decide +kernel
theorem d_Pri_isSquare_17 : decode M_Pri_isSquare.2.1 17 = .ok (.iconst 0, 1) := by decide +kernel
theorem d_Pri_isSquare_18 : decode M_Pri_isSquare.2.1 18 = .ok (.ireturn, 1) := by decide +kernel
theorem d_SN_witness_0 : decode M_SN_witness.2.1 0 = .ok (.aload_n 0, 1) := by decide +kernel
theorem d_SN_witness_1 : decode M_SN_witness.2.1 1 = .ok (.getfield 12, 3) := by decide +kernel
theorem d_SN_witness_4 : decode M_SN_witness.2.1 4 = .ok (.iload_n 1, 1) := by decide +kernel
theorem d_SN_witness_5 : decode M_SN_witness.2.1 5 = .ok (.invokevirtual 139, 3) := by decide +kernel
theorem d_SN_witness_8 : decode M_SN_witness.2.1 8 = .ok (.ifCond .eq 23, 3) := by decide +kernel
theorem d_SN_witness_11 : decode M_SN_witness.2.1 11 = .ok (.iload_n 2, 1) := by decide +kernel
theorem d_SN_witness_12 : decode M_SN_witness.2.1 12 = .ok (.iconst 1, 1) := by decide +kernel
theorem d_SN_witness_13 : decode M_SN_witness.2.1 13 = .ok (.if_icmp .lt 18, 3) := by decide +kernel
theorem d_SN_witness_16 : decode M_SN_witness.2.1 16 = .ok (.iload_n 2, 1) := by decide +kernel
theorem d_SN_witness_17 : decode M_SN_witness.2.1 17 = .ok (.aload_n 0, 1) := by decide +kernel
theorem d_SN_witness_18 : decode M_SN_witness.2.1 18 = .ok (.getfield 12, 3) := by decide +kernel
theorem d_SN_witness_21 : decode M_SN_witness.2.1 21 = .ok (.getfield 108, 3) := by decide +kernel
theorem d_SN_witness_24 : decode M_SN_witness.2.1 24 = .ok (.if_icmp .gt 7, 3) := by decide +kernel
theorem d_SN_witness_27 : decode M_SN_witness.2.1 27 = .ok (.iconst 1, 1) := by decide +kernel
theorem d_SN_witness_28 : decode M_SN_witness.2.1 28 = .ok (.goto 4, 3) := by decide +kernel
theorem d_SN_witness_31 : decode M_SN_witness.2.1 31 = .ok (.iconst 0, 1) := by decide +kernel
theorem d_SN_witness_32 : decode M_SN_witness.2.1 32 = .ok (.istore_n 3, 1) := by decide +kernel
theorem d_SN_witness_33 : decode M_SN_witness.2.1 33 = .ok (.iload_n 3, 1) := by decide +kernel
theorem d_SN_witness_34 : decode M_SN_witness.2.1 34 = .ok (.ifCond .eq 22, 3) := by decide +kernel
theorem d_SN_witness_37 : decode M_SN_witness.2.1 37 = .ok (.aload_n 0, 1) := by decide +kernel
theorem d_SN_witness_38 : decode M_SN_witness.2.1 38 = .ok (.getfield 12, 3) := by decide +kernel
theorem d_SN_witness_41 : decode M_SN_witness.2.1 41 = .ok (.iload_n 1, 1) := by decide +kernel
theorem d_SN_witness_42 : decode M_SN_witness.2.1 42 = .ok (.invokevirtual 142, 3) := by decide +kernel
theorem d_SN_witness_45 : decode M_SN_witness.2.1 45 = .ok (.iload_n 2, 1) := by decide +kernel
theorem d_SN_witness_46 : decode M_SN_witness.2.1 46 = .ok (.aload_n 0, 1) := by decide +kernel
theorem d_SN_witness_47 : decode M_SN_witness.2.1 47 = .ok (.getfield 72, 3) := by decide +kernel
theorem d_SN_witness_50 : decode M_SN_witness.2.1 50 = .ok (.invokevirtual 222, 3) := by decide +kernel
theorem d_SN_witness_53 : decode M_SN_witness.2.1 53 = .ok (.goto 4, 3) := by decide +kernel
theorem d_SN_witness_56 : decode M_SN_witness.2.1 56 = .ok (.iconst (-1), 1) := by decide +kernel
theorem d_SN_witness_57 : decode M_SN_witness.2.1 57 = .ok (.ireturn, 1) := by decide +kernel
theorem d_Uni_witnessFor_0 : decode M_Uni_witnessFor.2.1 0 = .ok (.iload_n 1, 1) := by decide +kernel
theorem d_Uni_witnessFor_1 : decode M_Uni_witnessFor.2.1 1 = .ok (.iconst 1, 1) := by decide +kernel
theorem d_Uni_witnessFor_2 : decode M_Uni_witnessFor.2.1 2 = .ok (.if_icmp .lt 21, 3) := by decide +kernel
theorem d_Uni_witnessFor_5 : decode M_Uni_witnessFor.2.1 5 = .ok (.iload_n 1, 1) := by decide +kernel
theorem d_Uni_witnessFor_6 : decode M_Uni_witnessFor.2.1 6 = .ok (.aload_n 0, 1) := by decide +kernel
theorem d_Uni_witnessFor_7 : decode M_Uni_witnessFor.2.1 7 = .ok (.getfield 30, 3) := by decide +kernel
theorem d_Uni_witnessFor_10 : decode M_Uni_witnessFor.2.1 10 = .ok (.arraylength, 1) := by decide +kernel
theorem d_Uni_witnessFor_11 : decode M_Uni_witnessFor.2.1 11 = .ok (.if_icmp .ge 12, 3) := by decide +kernel
theorem d_Uni_witnessFor_14 : decode M_Uni_witnessFor.2.1 14 = .ok (.iload_n 1, 1) := by decide +kernel
theorem d_Uni_witnessFor_15 : decode M_Uni_witnessFor.2.1 15 = .ok (.aload_n 0, 1) := by decide +kernel
theorem d_Uni_witnessFor_16 : decode M_Uni_witnessFor.2.1 16 = .ok (.getfield 27, 3) := by decide +kernel
theorem d_Uni_witnessFor_19 : decode M_Uni_witnessFor.2.1 19 = .ok (.arraylength, 1) := by decide +kernel
theorem d_Uni_witnessFor_20 : decode M_Uni_witnessFor.2.1 20 = .ok (.if_icmp .lt 5, 3) := by decide +kernel
theorem d_Uni_witnessFor_23 : decode M_Uni_witnessFor.2.1 23 = .ok (.iconst (-1), 1) := by decide +kernel
theorem d_Uni_witnessFor_24 : decode M_Uni_witnessFor.2.1 24 = .ok (.ireturn, 1) := by decide +kernel
theorem d_Uni_witnessFor_25 : decode M_Uni_witnessFor.2.1 25 = .ok (.aload_n 0, 1) := by decide +kernel
theorem d_Uni_witnessFor_26 : decode M_Uni_witnessFor.2.1 26 = .ok (.getfield 27, 3) := by decide +kernel
theorem d_Uni_witnessFor_29 : decode M_Uni_witnessFor.2.1 29 = .ok (.iload_n 1, 1) := by decide +kernel
theorem d_Uni_witnessFor_30 : decode M_Uni_witnessFor.2.1 30 = .ok (.iaload, 1) := by decide +kernel
theorem d_Uni_witnessFor_31 : decode M_Uni_witnessFor.2.1 31 = .ok (.iload_n 2, 1) := by decide +kernel
theorem d_Uni_witnessFor_32 : decode M_Uni_witnessFor.2.1 32 = .ok (.iconst (-1), 1) := by decide +kernel
theorem d_Uni_witnessFor_33 : decode M_Uni_witnessFor.2.1 33 = .ok (.ixor, 1) := by decide +kernel
theorem d_Uni_witnessFor_34 : decode M_Uni_witnessFor.2.1 34 = .ok (.iand, 1) := by decide +kernel
theorem d_Uni_witnessFor_35 : decode M_Uni_witnessFor.2.1 35 = .ok (.istore_n 3, 1) := by decide +kernel
theorem d_Uni_witnessFor_36 : decode M_Uni_witnessFor.2.1 36 = .ok (.iload_n 3, 1) := by decide +kernel
theorem d_Uni_witnessFor_37 : decode M_Uni_witnessFor.2.1 37 = .ok (.ifCond .eq 8, 3) := by decide +kernel
theorem d_Uni_witnessFor_40 : decode M_Uni_witnessFor.2.1 40 = .ok (.iload_n 3, 1) := by decide +kernel
theorem d_Uni_witnessFor_41 : decode M_Uni_witnessFor.2.1 41 = .ok (.invokestatic 94, 3) := by decide +kernel
theorem d_Uni_witnessFor_44 : decode M_Uni_witnessFor.2.1 44 = .ok (.ireturn, 1) := by decide +kernel
theorem d_Uni_witnessFor_45 : decode M_Uni_witnessFor.2.1 45 = .ok (.aload_n 0, 1) := by decide +kernel
theorem d_Uni_witnessFor_46 : decode M_Uni_witnessFor.2.1 46 = .ok (.iload_n 1, 1) := by decide +kernel
theorem d_Uni_witnessFor_47 : decode M_Uni_witnessFor.2.1 47 = .ok (.iload_n 2, 1) := by decide +kernel
theorem d_Uni_witnessFor_48 : decode M_Uni_witnessFor.2.1 48 = .ok (.invokevirtual 90, 3) := by decide +kernel
theorem d_Uni_witnessFor_51 : decode M_Uni_witnessFor.2.1 51 = .ok (.ifnull 5, 3) := by decide +kernel
theorem d_Uni_witnessFor_54 : decode M_Uni_witnessFor.2.1 54 = .ok (.iconst 0, 1) := by decide +kernel
theorem d_Uni_witnessFor_55 : decode M_Uni_witnessFor.2.1 55 = .ok (.ireturn, 1) := by decide +kernel
theorem d_Uni_witnessFor_56 : decode M_Uni_witnessFor.2.1 56 = .ok (.aload_n 0, 1) := by decide +kernel
theorem d_Uni_witnessFor_57 : decode M_Uni_witnessFor.2.1 57 = .ok (.getfield 30, 3) := by decide +kernel
theorem d_Uni_witnessFor_60 : decode M_Uni_witnessFor.2.1 60 = .ok (.iload_n 1, 1) := by decide +kernel
theorem d_Uni_witnessFor_61 : decode M_Uni_witnessFor.2.1 61 = .ok (.iaload, 1) := by decide +kernel
theorem d_Uni_witnessFor_62 : decode M_Uni_witnessFor.2.1 62 = .ok (.ifCond .ne 14, 3) := by decide +kernel
theorem d_Uni_witnessFor_65 : decode M_Uni_witnessFor.2.1 65 = .ok (.aload_n 0, 1) := by decide +kernel
theorem d_Uni_witnessFor_66 : decode M_Uni_witnessFor.2.1 66 = .ok (.getfield 30, 3) := by decide +kernel
theorem d_Uni_witnessFor_69 : decode M_Uni_witnessFor.2.1 69 = .ok (.iload_n 1, 1) := by decide +kernel
theorem d_Uni_witnessFor_70 : decode M_Uni_witnessFor.2.1 70 = .ok (.aload_n 0, 1) := by decide +kernel
theorem d_Uni_witnessFor_71 : decode M_Uni_witnessFor.2.1 71 = .ok (.iload_n 1, 1) := by decide +kernel
theorem d_Uni_witnessFor_72 : decode M_Uni_witnessFor.2.1 72 = .ok (.invokevirtual 97, 3) := by decide +kernel
theorem d_Uni_witnessFor_75 : decode M_Uni_witnessFor.2.1 75 = .ok (.iastore, 1) := by decide +kernel
theorem d_Uni_witnessFor_76 : decode M_Uni_witnessFor.2.1 76 = .ok (.aload_n 0, 1) := by decide +kernel
theorem d_Uni_witnessFor_77 : decode M_Uni_witnessFor.2.1 77 = .ok (.getfield 30, 3) := by decide +kernel
theorem d_Uni_witnessFor_80 : decode M_Uni_witnessFor.2.1 80 = .ok (.iload_n 1, 1) := by decide +kernel
theorem d_Uni_witnessFor_81 : decode M_Uni_witnessFor.2.1 81 = .ok (.iaload, 1) := by decide +kernel
theorem d_Uni_witnessFor_82 : decode M_Uni_witnessFor.2.1 82 = .ok (.ireturn, 1) := by decide +kernel
theorem d_Pri_leastOf_0 : decode M_Pri_leastOf.2.1 0 = .ok (.iconst 0, 1) := by decide +kernel
theorem d_Pri_leastOf_1 : decode M_Pri_leastOf.2.1 1 = .ok (.istore_n 1, 1) := by decide +kernel
theorem d_Pri_leastOf_2 : decode M_Pri_leastOf.2.1 2 = .ok (.iload_n 1, 1) := by decide +kernel
theorem d_Pri_leastOf_3 : decode M_Pri_leastOf.2.1 3 = .ok (.bipush 7, 2) := by decide +kernel
theorem d_Pri_leastOf_5 : decode M_Pri_leastOf.2.1 5 = .ok (.if_icmp .ge 23, 3) := by decide +kernel
theorem d_Pri_leastOf_8 : decode M_Pri_leastOf.2.1 8 = .ok (.iload_n 0, 1) := by decide +kernel
theorem d_Pri_leastOf_9 : decode M_Pri_leastOf.2.1 9 = .ok (.iload_n 1, 1) := by decide +kernel
theorem d_Pri_leastOf_10 : decode M_Pri_leastOf.2.1 10 = .ok (.ishr, 1) := by decide +kernel
theorem d_Pri_leastOf_11 : decode M_Pri_leastOf.2.1 11 = .ok (.iconst 1, 1) := by decide +kernel
theorem d_Pri_leastOf_12 : decode M_Pri_leastOf.2.1 12 = .ok (.iand, 1) := by decide +kernel
theorem d_Pri_leastOf_13 : decode M_Pri_leastOf.2.1 13 = .ok (.iconst 1, 1) := by decide +kernel
theorem d_Pri_leastOf_14 : decode M_Pri_leastOf.2.1 14 = .ok (.if_icmp .ne 8, 3) := by decide +kernel
theorem d_Pri_leastOf_17 : decode M_Pri_leastOf.2.1 17 = .ok (.iload_n 1, 1) := by decide +kernel
theorem d_Pri_leastOf_18 : decode M_Pri_leastOf.2.1 18 = .ok (.invokestatic 15, 3) := by decide +kernel
theorem d_Pri_leastOf_21 : decode M_Pri_leastOf.2.1 21 = .ok (.ireturn, 1) := by decide +kernel
theorem d_Pri_leastOf_22 : decode M_Pri_leastOf.2.1 22 = .ok (.iinc 1 1, 3) := by decide +kernel
theorem d_Pri_leastOf_25 : decode M_Pri_leastOf.2.1 25 = .ok (.goto (-23), 3) := by decide +kernel
theorem d_Pri_leastOf_28 : decode M_Pri_leastOf.2.1 28 = .ok (.iconst (-1), 1) := by decide +kernel
theorem d_Pri_leastOf_29 : decode M_Pri_leastOf.2.1 29 = .ok (.ireturn, 1) := by decide +kernel
theorem d_Uni_greaterDivisor_0 : decode M_Uni_greaterDivisor.2.1 0 = .ok (.bipush 7, 2) := by decide +kernel
theorem d_Uni_greaterDivisor_2 : decode M_Uni_greaterDivisor.2.1 2 = .ok (.istore_n 2, 1) := by decide +kernel
theorem d_Uni_greaterDivisor_3 : decode M_Uni_greaterDivisor.2.1 3 = .ok (.iload_n 2, 1) := by decide +kernel
theorem d_Uni_greaterDivisor_4 : decode M_Uni_greaterDivisor.2.1 4 = .ok (.sipush 168, 3) := by decide +kernel
theorem d_Uni_greaterDivisor_7 : decode M_Uni_greaterDivisor.2.1 7 = .ok (.if_icmp .ge 51, 3) := by decide +kernel
theorem d_Uni_greaterDivisor_10 : decode M_Uni_greaterDivisor.2.1 10 = .ok (.iload_n 2, 1) := by decide +kernel
theorem d_Uni_greaterDivisor_11 : decode M_Uni_greaterDivisor.2.1 11 = .ok (.invokestatic 100, 3) := by decide +kernel
theorem d_Uni_greaterDivisor_14 : decode M_Uni_greaterDivisor.2.1 14 = .ok (.istore_n 3, 1) := by decide +kernel
theorem d_Uni_greaterDivisor_15 : decode M_Uni_greaterDivisor.2.1 15 = .ok (.aload_n 0, 1) := by decide +kernel
theorem d_Uni_greaterDivisor_16 : decode M_Uni_greaterDivisor.2.1 16 = .ok (.iload_n 1, 1) := by decide +kernel
theorem d_Uni_greaterDivisor_17 : decode M_Uni_greaterDivisor.2.1 17 = .ok (.iconst 2, 1) := by decide +kernel
theorem d_Uni_greaterDivisor_18 : decode M_Uni_greaterDivisor.2.1 18 = .ok (.iload_n 3, 1) := by decide +kernel
theorem d_Uni_greaterDivisor_19 : decode M_Uni_greaterDivisor.2.1 19 = .ok (.imul, 1) := by decide +kernel
theorem d_Uni_greaterDivisor_20 : decode M_Uni_greaterDivisor.2.1 20 = .ok (.invokevirtual 103, 3) := by decide +kernel
theorem d_Uni_greaterDivisor_23 : decode M_Uni_greaterDivisor.2.1 23 = .ok (.iconst 1, 1) := by decide +kernel
theorem d_Uni_greaterDivisor_24 : decode M_Uni_greaterDivisor.2.1 24 = .ok (.isub, 1) := by decide +kernel
theorem d_Uni_greaterDivisor_25 : decode M_Uni_greaterDivisor.2.1 25 = .ok (.iconst 2, 1) := by decide +kernel
theorem d_Uni_greaterDivisor_26 : decode M_Uni_greaterDivisor.2.1 26 = .ok (.idiv, 1) := by decide +kernel
theorem d_Uni_greaterDivisor_27 : decode M_Uni_greaterDivisor.2.1 27 = .ok (.istore 4, 2) := by decide +kernel
theorem d_Uni_greaterDivisor_29 : decode M_Uni_greaterDivisor.2.1 29 = .ok (.iload_n 3, 1) := by decide +kernel
theorem d_Uni_greaterDivisor_30 : decode M_Uni_greaterDivisor.2.1 30 = .ok (.iconst 1, 1) := by decide +kernel
theorem d_Uni_greaterDivisor_31 : decode M_Uni_greaterDivisor.2.1 31 = .ok (.if_icmp .le 21, 3) := by decide +kernel
theorem d_Uni_greaterDivisor_34 : decode M_Uni_greaterDivisor.2.1 34 = .ok (.iload 4, 2) := by decide +kernel
theorem d_Uni_greaterDivisor_36 : decode M_Uni_greaterDivisor.2.1 36 = .ok (.iload_n 3, 1) := by decide +kernel
theorem d_Uni_greaterDivisor_37 : decode M_Uni_greaterDivisor.2.1 37 = .ok (.irem, 1) := by decide +kernel
theorem d_Uni_greaterDivisor_38 : decode M_Uni_greaterDivisor.2.1 38 = .ok (.ifCond .eq 12, 3) := by decide +kernel
theorem d_Uni_greaterDivisor_41 : decode M_Uni_greaterDivisor.2.1 41 = .ok (.iload 4, 2) := by decide +kernel
theorem d_Uni_greaterDivisor_43 : decode M_Uni_greaterDivisor.2.1 43 = .ok (.iconst 1, 1) := by decide +kernel
theorem d_Uni_greaterDivisor_44 : decode M_Uni_greaterDivisor.2.1 44 = .ok (.iadd, 1) := by decide +kernel
theorem d_Uni_greaterDivisor_45 : decode M_Uni_greaterDivisor.2.1 45 = .ok (.iload_n 3, 1) := by decide +kernel
theorem d_Uni_greaterDivisor_46 : decode M_Uni_greaterDivisor.2.1 46 = .ok (.irem, 1) := by decide +kernel
theorem d_Uni_greaterDivisor_47 : decode M_Uni_greaterDivisor.2.1 47 = .ok (.ifCond .ne 5, 3) := by decide +kernel
theorem d_Uni_greaterDivisor_50 : decode M_Uni_greaterDivisor.2.1 50 = .ok (.iload_n 3, 1) := by decide +kernel
theorem d_Uni_greaterDivisor_51 : decode M_Uni_greaterDivisor.2.1 51 = .ok (.ireturn, 1) := by decide +kernel
theorem d_Uni_greaterDivisor_52 : decode M_Uni_greaterDivisor.2.1 52 = .ok (.iinc 2 1, 3) := by decide +kernel
theorem d_Uni_greaterDivisor_55 : decode M_Uni_greaterDivisor.2.1 55 = .ok (.goto (-52), 3) := by decide +kernel
theorem d_Uni_greaterDivisor_58 : decode M_Uni_greaterDivisor.2.1 58 = .ok (.bipush (-2), 2) := by decide +kernel
theorem d_Uni_greaterDivisor_60 : decode M_Uni_greaterDivisor.2.1 60 = .ok (.ireturn, 1) := by decide +kernel
theorem d_SN_entry_0 : decode M_SN_entry.2.1 0 = .ok (.aload_n 0, 1) := by decide +kernel
theorem d_SN_entry_1 : decode M_SN_entry.2.1 1 = .ok (.getfield 12, 3) := by decide +kernel
theorem d_SN_entry_4 : decode M_SN_entry.2.1 4 = .ok (.iload_n 1, 1) := by decide +kernel
theorem d_SN_entry_5 : decode M_SN_entry.2.1 5 = .ok (.invokevirtual 139, 3) := by decide +kernel
theorem d_SN_entry_8 : decode M_SN_entry.2.1 8 = .ok (.ifCond .eq 20, 3) := by decide +kernel
theorem d_SN_entry_11 : decode M_SN_entry.2.1 11 = .ok (.iload_n 2, 1) := by decide +kernel
theorem d_SN_entry_12 : decode M_SN_entry.2.1 12 = .ok (.bipush 97, 2) := by decide +kernel
theorem d_SN_entry_14 : decode M_SN_entry.2.1 14 = .ok (.if_icmp .gt 14, 3) := by decide +kernel
theorem d_SN_entry_17 : decode M_SN_entry.2.1 17 = .ok (.iload_n 2, 1) := by decide +kernel
theorem d_SN_entry_18 : decode M_SN_entry.2.1 18 = .ok (.invokestatic 225, 3) := by decide +kernel
theorem d_SN_entry_21 : decode M_SN_entry.2.1 21 = .ok (.ifCond .eq 7, 3) := by decide +kernel
theorem d_SN_entry_24 : decode M_SN_entry.2.1 24 = .ok (.iconst 1, 1) := by decide +kernel
theorem d_SN_entry_25 : decode M_SN_entry.2.1 25 = .ok (.goto 4, 3) := by decide +kernel
theorem d_SN_entry_28 : decode M_SN_entry.2.1 28 = .ok (.iconst 0, 1) := by decide +kernel
theorem d_SN_entry_29 : decode M_SN_entry.2.1 29 = .ok (.istore_n 3, 1) := by decide +kernel
theorem d_SN_entry_30 : decode M_SN_entry.2.1 30 = .ok (.iload_n 3, 1) := by decide +kernel
theorem d_SN_entry_31 : decode M_SN_entry.2.1 31 = .ok (.ifCond .eq 18, 3) := by decide +kernel
theorem d_SN_entry_34 : decode M_SN_entry.2.1 34 = .ok (.aload_n 0, 1) := by decide +kernel
theorem d_SN_entry_35 : decode M_SN_entry.2.1 35 = .ok (.getfield 12, 3) := by decide +kernel
theorem d_SN_entry_38 : decode M_SN_entry.2.1 38 = .ok (.iload_n 1, 1) := by decide +kernel
theorem d_SN_entry_39 : decode M_SN_entry.2.1 39 = .ok (.invokevirtual 142, 3) := by decide +kernel
theorem d_SN_entry_42 : decode M_SN_entry.2.1 42 = .ok (.iload_n 2, 1) := by decide +kernel
theorem d_SN_entry_43 : decode M_SN_entry.2.1 43 = .ok (.invokevirtual 228, 3) := by decide +kernel
theorem d_SN_entry_46 : decode M_SN_entry.2.1 46 = .ok (.goto 4, 3) := by decide +kernel
theorem d_SN_entry_49 : decode M_SN_entry.2.1 49 = .ok (.iconst (-1), 1) := by decide +kernel
theorem d_SN_entry_50 : decode M_SN_entry.2.1 50 = .ok (.ireturn, 1) := by decide +kernel
theorem d_Pri_isPrime_0 : decode M_Pri_isPrime.2.1 0 = .ok (.iconst 0, 1) := by decide +kernel
theorem d_Pri_isPrime_1 : decode M_Pri_isPrime.2.1 1 = .ok (.istore_n 1, 1) := by decide +kernel
theorem d_Pri_isPrime_2 : decode M_Pri_isPrime.2.1 2 = .ok (.iload_n 1, 1) := by decide +kernel
theorem d_Pri_isPrime_3 : decode M_Pri_isPrime.2.1 3 = .ok (.getstatic 9, 3) := by decide +kernel
theorem d_Pri_isPrime_6 : decode M_Pri_isPrime.2.1 6 = .ok (.arraylength, 1) := by decide +kernel
theorem d_Pri_isPrime_7 : decode M_Pri_isPrime.2.1 7 = .ok (.if_icmp .ge 20, 3) := by decide +kernel
theorem d_Pri_isPrime_10 : decode M_Pri_isPrime.2.1 10 = .ok (.getstatic 9, 3) := by decide +kernel
theorem d_Pri_isPrime_13 : decode M_Pri_isPrime.2.1 13 = .ok (.iload_n 1, 1) := by decide +kernel
theorem d_Pri_isPrime_14 : decode M_Pri_isPrime.2.1 14 = .ok (.iaload, 1) := by decide +kernel
theorem d_Pri_isPrime_15 : decode M_Pri_isPrime.2.1 15 = .ok (.iload_n 0, 1) := by decide +kernel
theorem d_Pri_isPrime_16 : decode M_Pri_isPrime.2.1 16 = .ok (.if_icmp .ne 5, 3) := by decide +kernel
theorem d_Pri_isPrime_19 : decode M_Pri_isPrime.2.1 19 = .ok (.iconst 1, 1) := by decide +kernel
theorem d_Pri_isPrime_20 : decode M_Pri_isPrime.2.1 20 = .ok (.ireturn, 1) := by decide +kernel
theorem d_Pri_isPrime_21 : decode M_Pri_isPrime.2.1 21 = .ok (.iinc 1 1, 3) := by decide +kernel
theorem d_Pri_isPrime_24 : decode M_Pri_isPrime.2.1 24 = .ok (.goto (-22), 3) := by decide +kernel
theorem d_Pri_isPrime_27 : decode M_Pri_isPrime.2.1 27 = .ok (.iconst 0, 1) := by decide +kernel
theorem d_Pri_isPrime_28 : decode M_Pri_isPrime.2.1 28 = .ok (.ireturn, 1) := by decide +kernel
theorem d_Uni_firstEntry_0 : decode M_Uni_firstEntry.2.1 0 = .ok (.iload_n 1, 1) := by decide +kernel
theorem d_Uni_firstEntry_1 : decode M_Uni_firstEntry.2.1 1 = .ok (.iconst 2, 1) := by decide +kernel
theorem d_Uni_firstEntry_2 : decode M_Uni_firstEntry.2.1 2 = .ok (.if_icmp .ge 5, 3) := by decide +kernel
theorem d_Uni_firstEntry_5 : decode M_Uni_firstEntry.2.1 5 = .ok (.iconst (-1), 1) := by decide +kernel
theorem d_Uni_firstEntry_6 : decode M_Uni_firstEntry.2.1 6 = .ok (.ireturn, 1) := by decide +kernel
theorem d_Uni_firstEntry_7 : decode M_Uni_firstEntry.2.1 7 = .ok (.aload_n 0, 1) := by decide +kernel
theorem d_Uni_firstEntry_8 : decode M_Uni_firstEntry.2.1 8 = .ok (.getfield 16, 3) := by decide +kernel
theorem d_Uni_firstEntry_11 : decode M_Uni_firstEntry.2.1 11 = .ok (.iload_n 1, 1) := by decide +kernel
theorem d_Uni_firstEntry_12 : decode M_Uni_firstEntry.2.1 12 = .ok (.invokevirtual 107, 3) := by decide +kernel
theorem d_Uni_firstEntry_15 : decode M_Uni_firstEntry.2.1 15 = .ok (.i2l, 1) := by decide +kernel
theorem d_Uni_firstEntry_16 : decode M_Uni_firstEntry.2.1 16 = .ok (.lstore_n 2, 1) := by decide +kernel
theorem d_Uni_firstEntry_17 : decode M_Uni_firstEntry.2.1 17 = .ok (.lconst 0, 1) := by decide +kernel
theorem d_Uni_firstEntry_18 : decode M_Uni_firstEntry.2.1 18 = .ok (.lstore 4, 2) := by decide +kernel
theorem d_Uni_firstEntry_20 : decode M_Uni_firstEntry.2.1 20 = .ok (.aload_n 0, 1) := by decide +kernel
theorem d_Uni_firstEntry_21 : decode M_Uni_firstEntry.2.1 21 = .ok (.getfield 20, 3) := by decide +kernel
theorem d_Uni_firstEntry_24 : decode M_Uni_firstEntry.2.1 24 = .ok (.iload_n 1, 1) := by decide +kernel
theorem d_Uni_firstEntry_25 : decode M_Uni_firstEntry.2.1 25 = .ok (.invokevirtual 107, 3) := by decide +kernel
theorem d_Uni_firstEntry_28 : decode M_Uni_firstEntry.2.1 28 = .ok (.i2l, 1) := by decide +kernel
theorem d_Uni_firstEntry_29 : decode M_Uni_firstEntry.2.1 29 = .ok (.lstore 6, 2) := by decide +kernel
theorem d_Uni_firstEntry_31 : decode M_Uni_firstEntry.2.1 31 = .ok (.iconst 1, 1) := by decide +kernel
theorem d_Uni_firstEntry_32 : decode M_Uni_firstEntry.2.1 32 = .ok (.istore 8, 2) := by decide +kernel
theorem d_Uni_firstEntry_34 : decode M_Uni_firstEntry.2.1 34 = .ok (.iload 8, 2) := by decide +kernel
theorem d_Uni_firstEntry_36 : decode M_Uni_firstEntry.2.1 36 = .ok (.sipush 200, 3) := by decide +kernel
theorem d_Uni_firstEntry_39 : decode M_Uni_firstEntry.2.1 39 = .ok (.if_icmp .gt 45, 3) := by decide +kernel
theorem d_Uni_firstEntry_42 : decode M_Uni_firstEntry.2.1 42 = .ok (.lload 6, 2) := by decide +kernel
theorem d_Uni_firstEntry_44 : decode M_Uni_firstEntry.2.1 44 = .ok (.lconst 0, 1) := by decide +kernel
theorem d_Uni_firstEntry_45 : decode M_Uni_firstEntry.2.1 45 = .ok (.lcmp, 1) := by decide +kernel
theorem d_Uni_firstEntry_46 : decode M_Uni_firstEntry.2.1 46 = .ok (.ifCond .ne 6, 3) := by decide +kernel
theorem d_Uni_firstEntry_49 : decode M_Uni_firstEntry.2.1 49 = .ok (.iload 8, 2) := by decide +kernel
theorem d_Uni_firstEntry_51 : decode M_Uni_firstEntry.2.1 51 = .ok (.ireturn, 1) := by decide +kernel
theorem d_Uni_firstEntry_52 : decode M_Uni_firstEntry.2.1 52 = .ok (.ldc2_w 110, 3) := by decide +kernel
theorem d_Uni_firstEntry_55 : decode M_Uni_firstEntry.2.1 55 = .ok (.lload_n 2, 1) := by decide +kernel
theorem d_Uni_firstEntry_56 : decode M_Uni_firstEntry.2.1 56 = .ok (.lmul, 1) := by decide +kernel
theorem d_Uni_firstEntry_57 : decode M_Uni_firstEntry.2.1 57 = .ok (.lload 6, 2) := by decide +kernel
theorem d_Uni_firstEntry_59 : decode M_Uni_firstEntry.2.1 59 = .ok (.lmul, 1) := by decide +kernel
theorem d_Uni_firstEntry_60 : decode M_Uni_firstEntry.2.1 60 = .ok (.lload 4, 2) := by decide +kernel
theorem d_Uni_firstEntry_62 : decode M_Uni_firstEntry.2.1 62 = .ok (.lsub, 1) := by decide +kernel
theorem d_Uni_firstEntry_63 : decode M_Uni_firstEntry.2.1 63 = .ok (.iload_n 1, 1) := by decide +kernel
theorem d_Uni_firstEntry_64 : decode M_Uni_firstEntry.2.1 64 = .ok (.i2l, 1) := by decide +kernel
theorem d_Uni_firstEntry_65 : decode M_Uni_firstEntry.2.1 65 = .ok (.invokestatic 112, 3) := by decide +kernel
theorem d_Uni_firstEntry_68 : decode M_Uni_firstEntry.2.1 68 = .ok (.lstore 9, 2) := by decide +kernel
theorem d_Uni_firstEntry_70 : decode M_Uni_firstEntry.2.1 70 = .ok (.lload 6, 2) := by decide +kernel
theorem d_Uni_firstEntry_72 : decode M_Uni_firstEntry.2.1 72 = .ok (.lstore 4, 2) := by decide +kernel
theorem d_Uni_firstEntry_74 : decode M_Uni_firstEntry.2.1 74 = .ok (.lload 9, 2) := by decide +kernel
theorem d_Uni_firstEntry_76 : decode M_Uni_firstEntry.2.1 76 = .ok (.lstore 6, 2) := by decide +kernel
theorem d_Uni_firstEntry_78 : decode M_Uni_firstEntry.2.1 78 = .ok (.iinc 8 1, 3) := by decide +kernel
theorem d_Uni_firstEntry_81 : decode M_Uni_firstEntry.2.1 81 = .ok (.goto (-47), 3) := by decide +kernel
theorem d_Uni_firstEntry_84 : decode M_Uni_firstEntry.2.1 84 = .ok (.iconst (-1), 1) := by decide +kernel
theorem d_Uni_firstEntry_85 : decode M_Uni_firstEntry.2.1 85 = .ok (.ireturn, 1) := by decide +kernel
theorem d_SN_digit_0 : decode M_SN_digit.2.1 0 = .ok (.aload_n 0, 1) := by decide +kernel
theorem d_SN_digit_1 : decode M_SN_digit.2.1 1 = .ok (.getfield 12, 3) := by decide +kernel
theorem d_SN_digit_4 : decode M_SN_digit.2.1 4 = .ok (.iload_n 1, 1) := by decide +kernel
theorem d_SN_digit_5 : decode M_SN_digit.2.1 5 = .ok (.invokevirtual 231, 3) := by decide +kernel
theorem d_SN_digit_8 : decode M_SN_digit.2.1 8 = .ok (.ifCond .eq 21, 3) := by decide +kernel
theorem d_SN_digit_11 : decode M_SN_digit.2.1 11 = .ok (.aload_n 0, 1) := by decide +kernel
theorem d_SN_digit_12 : decode M_SN_digit.2.1 12 = .ok (.getfield 12, 3) := by decide +kernel
theorem d_SN_digit_15 : decode M_SN_digit.2.1 15 = .ok (.iload_n 1, 1) := by decide +kernel
theorem d_SN_digit_16 : decode M_SN_digit.2.1 16 = .ok (.invokevirtual 118, 3) := by decide +kernel
theorem d_SN_digit_19 : decode M_SN_digit.2.1 19 = .ok (.getfield 122, 3) := by decide +kernel
theorem d_SN_digit_22 : decode M_SN_digit.2.1 22 = .ok (.iload_n 2, 1) := by decide +kernel
theorem d_SN_digit_23 : decode M_SN_digit.2.1 23 = .ok (.invokevirtual 186, 3) := by decide +kernel
theorem d_SN_digit_26 : decode M_SN_digit.2.1 26 = .ok (.goto 4, 3) := by decide +kernel
theorem d_SN_digit_29 : decode M_SN_digit.2.1 29 = .ok (.iconst (-1), 1) := by decide +kernel
theorem d_SN_digit_30 : decode M_SN_digit.2.1 30 = .ok (.ireturn, 1) := by decide +kernel
theorem d_SN_left_0 : decode M_SN_left.2.1 0 = .ok (.aload_n 0, 1) := by decide +kernel
theorem d_SN_left_1 : decode M_SN_left.2.1 1 = .ok (.getfield 12, 3) := by decide +kernel
theorem d_SN_left_4 : decode M_SN_left.2.1 4 = .ok (.iload_n 1, 1) := by decide +kernel
theorem d_SN_left_5 : decode M_SN_left.2.1 5 = .ok (.invokevirtual 231, 3) := by decide +kernel
theorem d_SN_left_8 : decode M_SN_left.2.1 8 = .ok (.ifCond .eq 14, 3) := by decide +kernel
theorem d_SN_left_11 : decode M_SN_left.2.1 11 = .ok (.iload_n 2, 1) := by decide +kernel
theorem d_SN_left_12 : decode M_SN_left.2.1 12 = .ok (.invokestatic 189, 3) := by decide +kernel
theorem d_SN_left_15 : decode M_SN_left.2.1 15 = .ok (.ifCond .eq 7, 3) := by decide +kernel
theorem d_SN_left_18 : decode M_SN_left.2.1 18 = .ok (.iconst 1, 1) := by decide +kernel
theorem d_SN_left_19 : decode M_SN_left.2.1 19 = .ok (.goto 4, 3) := by decide +kernel
theorem d_SN_left_22 : decode M_SN_left.2.1 22 = .ok (.iconst 0, 1) := by decide +kernel
theorem d_SN_left_23 : decode M_SN_left.2.1 23 = .ok (.istore_n 3, 1) := by decide +kernel
theorem d_SN_left_24 : decode M_SN_left.2.1 24 = .ok (.iload_n 3, 1) := by decide +kernel
theorem d_SN_left_25 : decode M_SN_left.2.1 25 = .ok (.ifCond .eq 21, 3) := by decide +kernel
theorem d_SN_left_28 : decode M_SN_left.2.1 28 = .ok (.aload_n 0, 1) := by decide +kernel
theorem d_SN_left_29 : decode M_SN_left.2.1 29 = .ok (.getfield 12, 3) := by decide +kernel
theorem d_SN_left_32 : decode M_SN_left.2.1 32 = .ok (.iload_n 1, 1) := by decide +kernel
theorem d_SN_left_33 : decode M_SN_left.2.1 33 = .ok (.invokevirtual 118, 3) := by decide +kernel
theorem d_SN_left_36 : decode M_SN_left.2.1 36 = .ok (.getfield 122, 3) := by decide +kernel
theorem d_SN_left_39 : decode M_SN_left.2.1 39 = .ok (.iload_n 2, 1) := by decide +kernel
theorem d_SN_left_40 : decode M_SN_left.2.1 40 = .ok (.invokevirtual 234, 3) := by decide +kernel
theorem d_SN_left_43 : decode M_SN_left.2.1 43 = .ok (.goto 4, 3) := by decide +kernel
theorem d_SN_left_46 : decode M_SN_left.2.1 46 = .ok (.iconst (-1), 1) := by decide +kernel
theorem d_SN_left_47 : decode M_SN_left.2.1 47 = .ok (.ireturn, 1) := by decide +kernel
theorem d_SN_small_0 : decode M_SN_small.2.1 0 = .ok (.aload_n 0, 1) := by decide +kernel
theorem d_SN_small_1 : decode M_SN_small.2.1 1 = .ok (.getfield 12, 3) := by decide +kernel
theorem d_SN_small_4 : decode M_SN_small.2.1 4 = .ok (.iload_n 1, 1) := by decide +kernel
theorem d_SN_small_5 : decode M_SN_small.2.1 5 = .ok (.invokevirtual 237, 3) := by decide +kernel
theorem d_SN_small_8 : decode M_SN_small.2.1 8 = .ok (.ireturn, 1) := by decide +kernel
theorem d_Sea_smallAt_0 : decode M_Sea_smallAt.2.1 0 = .ok (.aload_n 0, 1) := by decide +kernel
theorem d_Sea_smallAt_1 : decode M_Sea_smallAt.2.1 1 = .ok (.iload_n 1, 1) := by decide +kernel
theorem d_Sea_smallAt_2 : decode M_Sea_smallAt.2.1 2 = .ok (.invokevirtual 146, 3) := by decide +kernel
theorem d_Sea_smallAt_5 : decode M_Sea_smallAt.2.1 5 = .ok (.ifCond .eq 17, 3) := by decide +kernel
theorem d_Sea_smallAt_8 : decode M_Sea_smallAt.2.1 8 = .ok (.aload_n 0, 1) := by decide +kernel
theorem d_Sea_smallAt_9 : decode M_Sea_smallAt.2.1 9 = .ok (.iload_n 1, 1) := by decide +kernel
theorem d_Sea_smallAt_10 : decode M_Sea_smallAt.2.1 10 = .ok (.invokevirtual 135, 3) := by decide +kernel
theorem d_Sea_smallAt_13 : decode M_Sea_smallAt.2.1 13 = .ok (.getfield 139, 3) := by decide +kernel
theorem d_Sea_smallAt_16 : decode M_Sea_smallAt.2.1 16 = .ok (.invokevirtual 150, 3) := by decide +kernel
theorem d_Sea_smallAt_19 : decode M_Sea_smallAt.2.1 19 = .ok (.goto 4, 3) := by decide +kernel
theorem d_Sea_smallAt_22 : decode M_Sea_smallAt.2.1 22 = .ok (.iconst (-1), 1) := by decide +kernel
theorem d_Sea_smallAt_23 : decode M_Sea_smallAt.2.1 23 = .ok (.ireturn, 1) := by decide +kernel
theorem d_SN_measure_0 : decode M_SN_measure.2.1 0 = .ok (.aload_n 0, 1) := by decide +kernel
theorem d_SN_measure_1 : decode M_SN_measure.2.1 1 = .ok (.getfield 12, 3) := by decide +kernel
theorem d_SN_measure_4 : decode M_SN_measure.2.1 4 = .ok (.iload_n 1, 1) := by decide +kernel
theorem d_SN_measure_5 : decode M_SN_measure.2.1 5 = .ok (.invokevirtual 231, 3) := by decide +kernel
theorem d_SN_measure_8 : decode M_SN_measure.2.1 8 = .ok (.ifCond .eq 14, 3) := by decide +kernel
theorem d_SN_measure_11 : decode M_SN_measure.2.1 11 = .ok (.iload_n 2, 1) := by decide +kernel
theorem d_SN_measure_12 : decode M_SN_measure.2.1 12 = .ok (.invokestatic 240, 3) := by decide +kernel
theorem d_SN_measure_15 : decode M_SN_measure.2.1 15 = .ok (.ifCond .eq 7, 3) := by decide +kernel
theorem d_SN_measure_18 : decode M_SN_measure.2.1 18 = .ok (.iconst 1, 1) := by decide +kernel
theorem d_SN_measure_19 : decode M_SN_measure.2.1 19 = .ok (.goto 4, 3) := by decide +kernel
theorem d_SN_measure_22 : decode M_SN_measure.2.1 22 = .ok (.iconst 0, 1) := by decide +kernel
theorem d_SN_measure_23 : decode M_SN_measure.2.1 23 = .ok (.istore_n 3, 1) := by decide +kernel
theorem d_SN_measure_24 : decode M_SN_measure.2.1 24 = .ok (.iload_n 3, 1) := by decide +kernel
theorem d_SN_measure_25 : decode M_SN_measure.2.1 25 = .ok (.ifCond .eq 15, 3) := by decide +kernel
theorem d_SN_measure_28 : decode M_SN_measure.2.1 28 = .ok (.aload_n 0, 1) := by decide +kernel
theorem d_SN_measure_29 : decode M_SN_measure.2.1 29 = .ok (.getfield 12, 3) := by decide +kernel
theorem d_SN_measure_32 : decode M_SN_measure.2.1 32 = .ok (.iload_n 1, 1) := by decide +kernel
theorem d_SN_measure_33 : decode M_SN_measure.2.1 33 = .ok (.iload_n 2, 1) := by decide +kernel
theorem d_SN_measure_34 : decode M_SN_measure.2.1 34 = .ok (.invokevirtual 243, 3) := by decide +kernel
theorem d_SN_measure_37 : decode M_SN_measure.2.1 37 = .ok (.goto 5, 3) := by decide +kernel
theorem d_SN_measure_40 : decode M_SN_measure.2.1 40 = .ok (.bipush (-100), 2) := by decide +kernel
theorem d_SN_measure_42 : decode M_SN_measure.2.1 42 = .ok (.ireturn, 1) := by decide +kernel
theorem d_SN_isMeasure_0 : decode M_SN_isMeasure.2.1 0 = .ok (.iload_n 0, 1) := by decide +kernel
theorem d_SN_isMeasure_1 : decode M_SN_isMeasure.2.1 1 = .ok (.ifCond .lt 13, 3) := by decide +kernel
theorem d_SN_isMeasure_4 : decode M_SN_isMeasure.2.1 4 = .ok (.iload_n 0, 1) := by decide +kernel
theorem d_SN_isMeasure_5 : decode M_SN_isMeasure.2.1 5 = .ok (.bipush 9, 2) := by decide +kernel
theorem d_SN_isMeasure_7 : decode M_SN_isMeasure.2.1 7 = .ok (.if_icmp .ge 7, 3) := by decide +kernel
theorem d_SN_isMeasure_10 : decode M_SN_isMeasure.2.1 10 = .ok (.iconst 1, 1) := by decide +kernel
theorem d_SN_isMeasure_11 : decode M_SN_isMeasure.2.1 11 = .ok (.goto 4, 3) := by decide +kernel
theorem d_SN_isMeasure_14 : decode M_SN_isMeasure.2.1 14 = .ok (.iconst 0, 1) := by decide +kernel
theorem d_SN_isMeasure_15 : decode M_SN_isMeasure.2.1 15 = .ok (.ireturn, 1) := by decide +kernel
theorem d_Sea_measureOf_0 : decode M_Sea_measureOf.2.1 0 = .ok (.aload_n 0, 1) := by decide +kernel
theorem d_Sea_measureOf_1 : decode M_Sea_measureOf.2.1 1 = .ok (.iload_n 1, 1) := by decide +kernel
theorem d_Sea_measureOf_2 : decode M_Sea_measureOf.2.1 2 = .ok (.invokevirtual 135, 3) := by decide +kernel
theorem d_Sea_measureOf_5 : decode M_Sea_measureOf.2.1 5 = .ok (.astore_n 3, 1) := by decide +kernel
theorem d_Sea_measureOf_6 : decode M_Sea_measureOf.2.1 6 = .ok (.iload_n 2, 1) := by decide +kernel
theorem d_Sea_measureOf_7 : decode M_Sea_measureOf.2.1 7 = .ok (.tableswitch 106 0 8 #[49, 51, 59, 64, 69, 74, 82, 90, 101], 49) := by decide +kernel
theorem d_Sea_measureOf_56 : decode M_Sea_measureOf.2.1 56 = .ok (.iload_n 1, 1) := by decide +kernel
theorem d_Sea_measureOf_57 : decode M_Sea_measureOf.2.1 57 = .ok (.ireturn, 1) := by decide +kernel
theorem d_Sea_measureOf_58 : decode M_Sea_measureOf.2.1 58 = .ok (.aload_n 3, 1) := by decide +kernel
theorem d_Sea_measureOf_59 : decode M_Sea_measureOf.2.1 59 = .ok (.getfield 139, 3) := by decide +kernel
theorem d_Sea_measureOf_62 : decode M_Sea_measureOf.2.1 62 = .ok (.invokevirtual 177, 3) := by decide +kernel
theorem d_Sea_measureOf_65 : decode M_Sea_measureOf.2.1 65 = .ok (.ireturn, 1) := by decide +kernel
theorem d_Sea_measureOf_66 : decode M_Sea_measureOf.2.1 66 = .ok (.aload_n 3, 1) := by decide +kernel
theorem d_Sea_measureOf_67 : decode M_Sea_measureOf.2.1 67 = .ok (.getfield 132, 3) := by decide +kernel
theorem d_Sea_measureOf_70 : decode M_Sea_measureOf.2.1 70 = .ok (.ireturn, 1) := by decide +kernel
theorem d_Sea_measureOf_71 : decode M_Sea_measureOf.2.1 71 = .ok (.aload_n 3, 1) := by decide +kernel
theorem d_Sea_measureOf_72 : decode M_Sea_measureOf.2.1 72 = .ok (.getfield 180, 3) := by decide +kernel
theorem d_Sea_measureOf_75 : decode M_Sea_measureOf.2.1 75 = .ok (.ireturn, 1) := by decide +kernel
theorem d_Sea_measureOf_76 : decode M_Sea_measureOf.2.1 76 = .ok (.aload_n 3, 1) := by decide +kernel
theorem d_Sea_measureOf_77 : decode M_Sea_measureOf.2.1 77 = .ok (.invokevirtual 183, 3) := by decide +kernel
theorem d_Sea_measureOf_80 : decode M_Sea_measureOf.2.1 80 = .ok (.ireturn, 1) := by decide +kernel
theorem d_Sea_measureOf_81 : decode M_Sea_measureOf.2.1 81 = .ok (.aload_n 3, 1) := by decide +kernel
theorem d_Sea_measureOf_82 : decode M_Sea_measureOf.2.1 82 = .ok (.getfield 186, 3) := by decide +kernel
theorem d_Sea_measureOf_85 : decode M_Sea_measureOf.2.1 85 = .ok (.invokestatic 189, 3) := by decide +kernel
theorem d_Sea_measureOf_88 : decode M_Sea_measureOf.2.1 88 = .ok (.ireturn, 1) := by decide +kernel
theorem d_Sea_measureOf_89 : decode M_Sea_measureOf.2.1 89 = .ok (.aload_n 3, 1) := by decide +kernel
theorem d_Sea_measureOf_90 : decode M_Sea_measureOf.2.1 90 = .ok (.getfield 186, 3) := by decide +kernel
theorem d_Sea_measureOf_93 : decode M_Sea_measureOf.2.1 93 = .ok (.invokestatic 116, 3) := by decide +kernel
theorem d_Sea_measureOf_96 : decode M_Sea_measureOf.2.1 96 = .ok (.ireturn, 1) := by decide +kernel
theorem d_Sea_measureOf_97 : decode M_Sea_measureOf.2.1 97 = .ok (.aload_n 3, 1) := by decide +kernel
theorem d_Sea_measureOf_98 : decode M_Sea_measureOf.2.1 98 = .ok (.getfield 139, 3) := by decide +kernel
theorem d_Sea_measureOf_101 : decode M_Sea_measureOf.2.1 101 = .ok (.sipush 10000, 3) := by decide +kernel
theorem d_Sea_measureOf_104 : decode M_Sea_measureOf.2.1 104 = .ok (.invokevirtual 192, 3) := by decide +kernel
theorem d_Sea_measureOf_107 : decode M_Sea_measureOf.2.1 107 = .ok (.ireturn, 1) := by decide +kernel
theorem d_Sea_measureOf_108 : decode M_Sea_measureOf.2.1 108 = .ok (.aload_n 3, 1) := by decide +kernel
theorem d_Sea_measureOf_109 : decode M_Sea_measureOf.2.1 109 = .ok (.invokevirtual 195, 3) := by decide +kernel
theorem d_Sea_measureOf_112 : decode M_Sea_measureOf.2.1 112 = .ok (.ireturn, 1) := by decide +kernel
theorem d_Sea_measureOf_113 : decode M_Sea_measureOf.2.1 113 = .ok (.bipush (-100), 2) := by decide +kernel
theorem d_Sea_measureOf_115 : decode M_Sea_measureOf.2.1 115 = .ok (.ireturn, 1) := by decide +kernel
theorem d_Cou_weight_0 : decode M_Cou_weight.2.1 0 = .ok (.iconst 0, 1) := by decide +kernel
theorem d_Cou_weight_1 : decode M_Cou_weight.2.1 1 = .ok (.istore_n 1, 1) := by decide +kernel
theorem d_Cou_weight_2 : decode M_Cou_weight.2.1 2 = .ok (.iconst 0, 1) := by decide +kernel
theorem d_Cou_weight_3 : decode M_Cou_weight.2.1 3 = .ok (.istore_n 2, 1) := by decide +kernel
theorem d_Cou_weight_4 : decode M_Cou_weight.2.1 4 = .ok (.iload_n 2, 1) := by decide +kernel
theorem d_Cou_weight_5 : decode M_Cou_weight.2.1 5 = .ok (.bipush 7, 2) := by decide +kernel
theorem d_Cou_weight_7 : decode M_Cou_weight.2.1 7 = .ok (.if_icmp .ge 23, 3) := by decide +kernel
theorem d_Cou_weight_10 : decode M_Cou_weight.2.1 10 = .ok (.iload_n 1, 1) := by decide +kernel
theorem d_Cou_weight_11 : decode M_Cou_weight.2.1 11 = .ok (.aload_n 0, 1) := by decide +kernel
theorem d_Cou_weight_12 : decode M_Cou_weight.2.1 12 = .ok (.iload_n 2, 1) := by decide +kernel
theorem d_Cou_weight_13 : decode M_Cou_weight.2.1 13 = .ok (.invokevirtual 42, 3) := by decide +kernel
theorem d_Cou_weight_16 : decode M_Cou_weight.2.1 16 = .ok (.aload_n 0, 1) := by decide +kernel
theorem d_Cou_weight_17 : decode M_Cou_weight.2.1 17 = .ok (.iload_n 2, 1) := by decide +kernel
theorem d_Cou_weight_18 : decode M_Cou_weight.2.1 18 = .ok (.invokevirtual 46, 3) := by decide +kernel
theorem d_Cou_weight_21 : decode M_Cou_weight.2.1 21 = .ok (.iadd, 1) := by decide +kernel
theorem d_Cou_weight_22 : decode M_Cou_weight.2.1 22 = .ok (.iadd, 1) := by decide +kernel
theorem d_Cou_weight_23 : decode M_Cou_weight.2.1 23 = .ok (.istore_n 1, 1) := by decide +kernel
theorem d_Cou_weight_24 : decode M_Cou_weight.2.1 24 = .ok (.iinc 2 1, 3) := by decide +kernel
theorem d_Cou_weight_27 : decode M_Cou_weight.2.1 27 = .ok (.goto (-23), 3) := by decide +kernel
theorem d_Cou_weight_30 : decode M_Cou_weight.2.1 30 = .ok (.iload_n 1, 1) := by decide +kernel
theorem d_Cou_weight_31 : decode M_Cou_weight.2.1 31 = .ok (.ireturn, 1) := by decide +kernel
theorem d_Cou_lowPower_0 : decode M_Cou_lowPower.2.1 0 = .ok (.iload_n 1, 1) := by decide +kernel
theorem d_Cou_lowPower_1 : decode M_Cou_lowPower.2.1 1 = .ok (.ifCond .lt 21, 3) := by decide +kernel
theorem d_Cou_lowPower_4 : decode M_Cou_lowPower.2.1 4 = .ok (.iload_n 1, 1) := by decide +kernel
theorem d_Cou_lowPower_5 : decode M_Cou_lowPower.2.1 5 = .ok (.aload_n 0, 1) := by decide +kernel
theorem d_Cou_lowPower_6 : decode M_Cou_lowPower.2.1 6 = .ok (.getfield 9, 3) := by decide +kernel
theorem d_Cou_lowPower_9 : decode M_Cou_lowPower.2.1 9 = .ok (.arraylength, 1) := by decide +kernel
theorem d_Cou_lowPower_10 : decode M_Cou_lowPower.2.1 10 = .ok (.if_icmp .ge 12, 3) := by decide +kernel
theorem d_Cou_lowPower_13 : decode M_Cou_lowPower.2.1 13 = .ok (.aload_n 0, 1) := by decide +kernel
theorem d_Cou_lowPower_14 : decode M_Cou_lowPower.2.1 14 = .ok (.getfield 9, 3) := by decide +kernel
theorem d_Cou_lowPower_17 : decode M_Cou_lowPower.2.1 17 = .ok (.iload_n 1, 1) := by decide +kernel
theorem d_Cou_lowPower_18 : decode M_Cou_lowPower.2.1 18 = .ok (.iaload, 1) := by decide +kernel
theorem d_Cou_lowPower_19 : decode M_Cou_lowPower.2.1 19 = .ok (.goto 4, 3) := by decide +kernel
theorem d_Cou_lowPower_22 : decode M_Cou_lowPower.2.1 22 = .ok (.iconst 0, 1) := by decide +kernel
theorem d_Cou_lowPower_23 : decode M_Cou_lowPower.2.1 23 = .ok (.ireturn, 1) := by decide +kernel
theorem d_Cou_highPower_0 : decode M_Cou_highPower.2.1 0 = .ok (.iload_n 1, 1) := by decide +kernel
theorem d_Cou_highPower_1 : decode M_Cou_highPower.2.1 1 = .ok (.ifCond .lt 21, 3) := by decide +kernel
theorem d_Cou_highPower_4 : decode M_Cou_highPower.2.1 4 = .ok (.iload_n 1, 1) := by decide +kernel
theorem d_Cou_highPower_5 : decode M_Cou_highPower.2.1 5 = .ok (.aload_n 0, 1) := by decide +kernel
theorem d_Cou_highPower_6 : decode M_Cou_highPower.2.1 6 = .ok (.getfield 15, 3) := by decide +kernel
theorem d_Cou_highPower_9 : decode M_Cou_highPower.2.1 9 = .ok (.arraylength, 1) := by decide +kernel
theorem d_Cou_highPower_10 : decode M_Cou_highPower.2.1 10 = .ok (.if_icmp .ge 12, 3) := by decide +kernel
theorem d_Cou_highPower_13 : decode M_Cou_highPower.2.1 13 = .ok (.aload_n 0, 1) := by decide +kernel
theorem d_Cou_highPower_14 : decode M_Cou_highPower.2.1 14 = .ok (.getfield 15, 3) := by decide +kernel
theorem d_Cou_highPower_17 : decode M_Cou_highPower.2.1 17 = .ok (.iload_n 1, 1) := by decide +kernel
theorem d_Cou_highPower_18 : decode M_Cou_highPower.2.1 18 = .ok (.iaload, 1) := by decide +kernel
theorem d_Cou_highPower_19 : decode M_Cou_highPower.2.1 19 = .ok (.goto 4, 3) := by decide +kernel
theorem d_Cou_highPower_22 : decode M_Cou_highPower.2.1 22 = .ok (.iconst 0, 1) := by decide +kernel
theorem d_Cou_highPower_23 : decode M_Cou_highPower.2.1 23 = .ok (.ireturn, 1) := by decide +kernel
theorem d_Cou_primesMoreInLow_0 : decode M_Cou_primesMoreInLow.2.1 0 = .ok (.iconst 0, 1) := by decide +kernel
theorem d_Cou_primesMoreInLow_1 : decode M_Cou_primesMoreInLow.2.1 1 = .ok (.istore_n 1, 1) := by decide +kernel
theorem d_Cou_primesMoreInLow_2 : decode M_Cou_primesMoreInLow.2.1 2 = .ok (.iconst 0, 1) := by decide +kernel
theorem d_Cou_primesMoreInLow_3 : decode M_Cou_primesMoreInLow.2.1 3 = .ok (.istore_n 2, 1) := by decide +kernel
theorem d_Cou_primesMoreInLow_4 : decode M_Cou_primesMoreInLow.2.1 4 = .ok (.iload_n 2, 1) := by decide +kernel
theorem d_Cou_primesMoreInLow_5 : decode M_Cou_primesMoreInLow.2.1 5 = .ok (.bipush 7, 2) := by decide +kernel
theorem d_Cou_primesMoreInLow_7 : decode M_Cou_primesMoreInLow.2.1 7 = .ok (.if_icmp .ge 39, 3) := by decide +kernel
theorem d_Cou_primesMoreInLow_10 : decode M_Cou_primesMoreInLow.2.1 10 = .ok (.iload_n 1, 1) := by decide +kernel
theorem d_Cou_primesMoreInLow_11 : decode M_Cou_primesMoreInLow.2.1 11 = .ok (.aload_n 0, 1) := by decide +kernel
theorem d_Cou_primesMoreInLow_12 : decode M_Cou_primesMoreInLow.2.1 12 = .ok (.iload_n 2, 1) := by decide +kernel
theorem d_Cou_primesMoreInLow_13 : decode M_Cou_primesMoreInLow.2.1 13 = .ok (.invokevirtual 42, 3) := by decide +kernel
theorem d_Cou_primesMoreInLow_16 : decode M_Cou_primesMoreInLow.2.1 16 = .ok (.ifCond .le 7, 3) := by decide +kernel
theorem d_Cou_primesMoreInLow_19 : decode M_Cou_primesMoreInLow.2.1 19 = .ok (.iconst 1, 1) := by decide +kernel
theorem d_Cou_primesMoreInLow_20 : decode M_Cou_primesMoreInLow.2.1 20 = .ok (.goto 4, 3) := by decide +kernel
theorem d_Cou_primesMoreInLow_23 : decode M_Cou_primesMoreInLow.2.1 23 = .ok (.iconst 0, 1) := by decide +kernel
theorem d_Cou_primesMoreInLow_24 : decode M_Cou_primesMoreInLow.2.1 24 = .ok (.aload_n 0, 1) := by decide +kernel
theorem d_Cou_primesMoreInLow_25 : decode M_Cou_primesMoreInLow.2.1 25 = .ok (.iload_n 2, 1) := by decide +kernel
theorem d_Cou_primesMoreInLow_26 : decode M_Cou_primesMoreInLow.2.1 26 = .ok (.invokevirtual 46, 3) := by decide +kernel
theorem d_Cou_primesMoreInLow_29 : decode M_Cou_primesMoreInLow.2.1 29 = .ok (.ifCond .le 7, 3) := by decide +kernel
theorem d_Cou_primesMoreInLow_32 : decode M_Cou_primesMoreInLow.2.1 32 = .ok (.iconst 1, 1) := by decide +kernel
theorem d_Cou_primesMoreInLow_33 : decode M_Cou_primesMoreInLow.2.1 33 = .ok (.goto 4, 3) := by decide +kernel
theorem d_Cou_primesMoreInLow_36 : decode M_Cou_primesMoreInLow.2.1 36 = .ok (.iconst 0, 1) := by decide +kernel
theorem d_Cou_primesMoreInLow_37 : decode M_Cou_primesMoreInLow.2.1 37 = .ok (.isub, 1) := by decide +kernel
theorem d_Cou_primesMoreInLow_38 : decode M_Cou_primesMoreInLow.2.1 38 = .ok (.iadd, 1) := by decide +kernel
theorem d_Cou_primesMoreInLow_39 : decode M_Cou_primesMoreInLow.2.1 39 = .ok (.istore_n 1, 1) := by decide +kernel
theorem d_Cou_primesMoreInLow_40 : decode M_Cou_primesMoreInLow.2.1 40 = .ok (.iinc 2 1, 3) := by decide +kernel
theorem d_Cou_primesMoreInLow_43 : decode M_Cou_primesMoreInLow.2.1 43 = .ok (.goto (-39), 3) := by decide +kernel
theorem d_Cou_primesMoreInLow_46 : decode M_Cou_primesMoreInLow.2.1 46 = .ok (.iload_n 1, 1) := by decide +kernel
theorem d_Cou_primesMoreInLow_47 : decode M_Cou_primesMoreInLow.2.1 47 = .ok (.ireturn, 1) := by decide +kernel
theorem d_SN_inPair_0 : decode M_SN_inPair.2.1 0 = .ok (.aload_n 0, 1) := by decide +kernel
theorem d_SN_inPair_1 : decode M_SN_inPair.2.1 1 = .ok (.getfield 12, 3) := by decide +kernel
theorem d_SN_inPair_4 : decode M_SN_inPair.2.1 4 = .ok (.iload_n 1, 1) := by decide +kernel
theorem d_SN_inPair_5 : decode M_SN_inPair.2.1 5 = .ok (.invokevirtual 231, 3) := by decide +kernel
theorem d_SN_inPair_8 : decode M_SN_inPair.2.1 8 = .ok (.ifCond .eq 21, 3) := by decide +kernel
theorem d_SN_inPair_11 : decode M_SN_inPair.2.1 11 = .ok (.aload_n 0, 1) := by decide +kernel
theorem d_SN_inPair_12 : decode M_SN_inPair.2.1 12 = .ok (.getfield 72, 3) := by decide +kernel
theorem d_SN_inPair_15 : decode M_SN_inPair.2.1 15 = .ok (.iload_n 2, 1) := by decide +kernel
theorem d_SN_inPair_16 : decode M_SN_inPair.2.1 16 = .ok (.invokestatic 96, 3) := by decide +kernel
theorem d_SN_inPair_19 : decode M_SN_inPair.2.1 19 = .ok (.ifCond .eq 10, 3) := by decide +kernel
theorem d_SN_inPair_22 : decode M_SN_inPair.2.1 22 = .ok (.iload_n 3, 1) := by decide +kernel
theorem d_SN_inPair_23 : decode M_SN_inPair.2.1 23 = .ok (.invokestatic 183, 3) := by decide +kernel
theorem d_SN_inPair_26 : decode M_SN_inPair.2.1 26 = .ok (.ifCond .ne 5, 3) := by decide +kernel
theorem d_SN_inPair_29 : decode M_SN_inPair.2.1 29 = .ok (.iconst (-1), 1) := by decide +kernel
theorem d_SN_inPair_30 : decode M_SN_inPair.2.1 30 = .ok (.ireturn, 1) := by decide +kernel
theorem d_SN_inPair_31 : decode M_SN_inPair.2.1 31 = .ok (.aload_n 0, 1) := by decide +kernel
theorem d_SN_inPair_32 : decode M_SN_inPair.2.1 32 = .ok (.getfield 12, 3) := by decide +kernel
theorem d_SN_inPair_35 : decode M_SN_inPair.2.1 35 = .ok (.iload_n 1, 1) := by decide +kernel
theorem d_SN_inPair_36 : decode M_SN_inPair.2.1 36 = .ok (.invokevirtual 118, 3) := by decide +kernel
theorem d_SN_inPair_39 : decode M_SN_inPair.2.1 39 = .ok (.astore 4, 2) := by decide +kernel
theorem d_SN_inPair_41 : decode M_SN_inPair.2.1 41 = .ok (.iload_n 2, 1) := by decide +kernel
theorem d_SN_inPair_42 : decode M_SN_inPair.2.1 42 = .ok (.invokestatic 246, 3) := by decide +kernel
theorem d_SN_inPair_45 : decode M_SN_inPair.2.1 45 = .ok (.istore 5, 2) := by decide +kernel
theorem d_SN_inPair_47 : decode M_SN_inPair.2.1 47 = .ok (.iload_n 3, 1) := by decide +kernel
theorem d_SN_inPair_48 : decode M_SN_inPair.2.1 48 = .ok (.ifCond .ne 13, 3) := by decide +kernel
theorem d_SN_inPair_51 : decode M_SN_inPair.2.1 51 = .ok (.aload 4, 2) := by decide +kernel
theorem d_SN_inPair_53 : decode M_SN_inPair.2.1 53 = .ok (.iload 5, 2) := by decide +kernel
theorem d_SN_inPair_55 : decode M_SN_inPair.2.1 55 = .ok (.invokevirtual 249, 3) := by decide +kernel
theorem d_SN_inPair_58 : decode M_SN_inPair.2.1 58 = .ok (.goto 10, 3) := by decide +kernel
theorem d_SN_inPair_61 : decode M_SN_inPair.2.1 61 = .ok (.aload 4, 2) := by decide +kernel
theorem d_SN_inPair_63 : decode M_SN_inPair.2.1 63 = .ok (.iload 5, 2) := by decide +kernel
theorem d_SN_inPair_65 : decode M_SN_inPair.2.1 65 = .ok (.invokevirtual 252, 3) := by decide +kernel
theorem d_SN_inPair_68 : decode M_SN_inPair.2.1 68 = .ok (.ireturn, 1) := by decide +kernel
theorem d_SN_order_0 : decode M_SN_order.2.1 0 = .ok (.iload_n 1, 1) := by decide +kernel
theorem d_SN_order_1 : decode M_SN_order.2.1 1 = .ok (.invokestatic 240, 3) := by decide +kernel
theorem d_SN_order_4 : decode M_SN_order.2.1 4 = .ok (.ifCond .eq 21, 3) := by decide +kernel
theorem d_SN_order_7 : decode M_SN_order.2.1 7 = .ok (.iload_n 2, 1) := by decide +kernel
theorem d_SN_order_8 : decode M_SN_order.2.1 8 = .ok (.invokestatic 240, 3) := by decide +kernel
theorem d_SN_order_11 : decode M_SN_order.2.1 11 = .ok (.ifCond .eq 14, 3) := by decide +kernel
theorem d_SN_order_14 : decode M_SN_order.2.1 14 = .ok (.aload_n 0, 1) := by decide +kernel
theorem d_SN_order_15 : decode M_SN_order.2.1 15 = .ok (.getfield 12, 3) := by decide +kernel
theorem d_SN_order_18 : decode M_SN_order.2.1 18 = .ok (.iload_n 3, 1) := by decide +kernel
theorem d_SN_order_19 : decode M_SN_order.2.1 19 = .ok (.invokevirtual 231, 3) := by decide +kernel
theorem d_SN_order_22 : decode M_SN_order.2.1 22 = .ok (.ifCond .ne 5, 3) := by decide +kernel
theorem d_SN_order_25 : decode M_SN_order.2.1 25 = .ok (.iconst (-1), 1) := by decide +kernel
theorem d_SN_order_26 : decode M_SN_order.2.1 26 = .ok (.ireturn, 1) := by decide +kernel
theorem d_SN_order_27 : decode M_SN_order.2.1 27 = .ok (.aload_n 0, 1) := by decide +kernel
theorem d_SN_order_28 : decode M_SN_order.2.1 28 = .ok (.getfield 38, 3) := by decide +kernel
theorem d_SN_order_31 : decode M_SN_order.2.1 31 = .ok (.aload_n 0, 1) := by decide +kernel
theorem d_SN_order_32 : decode M_SN_order.2.1 32 = .ok (.getfield 12, 3) := by decide +kernel
theorem d_SN_order_35 : decode M_SN_order.2.1 35 = .ok (.iload_n 1, 1) := by decide +kernel
theorem d_SN_order_36 : decode M_SN_order.2.1 36 = .ok (.iload_n 2, 1) := by decide +kernel
theorem d_SN_order_37 : decode M_SN_order.2.1 37 = .ok (.iload_n 3, 1) := by decide +kernel
theorem d_SN_order_38 : decode M_SN_order.2.1 38 = .ok (.invokevirtual 255, 3) := by decide +kernel
theorem d_SN_order_41 : decode M_SN_order.2.1 41 = .ok (.ireturn, 1) := by decide +kernel
theorem d_Ran_placed_0 : decode M_Ran_placed.2.1 0 = .ok (.iconst 0, 1) := by decide +kernel
theorem d_Ran_placed_1 : decode M_Ran_placed.2.1 1 = .ok (.istore 5, 2) := by decide +kernel
theorem d_Ran_placed_3 : decode M_Ran_placed.2.1 3 = .ok (.iload 5, 2) := by decide +kernel
theorem d_Ran_placed_5 : decode M_Ran_placed.2.1 5 = .ok (.aload_n 1, 1) := by decide +kernel
theorem d_Ran_placed_6 : decode M_Ran_placed.2.1 6 = .ok (.getfield 29, 3) := by decide +kernel
theorem d_Ran_placed_9 : decode M_Ran_placed.2.1 9 = .ok (.if_icmp .ge 102, 3) := by decide +kernel
theorem d_Ran_placed_12 : decode M_Ran_placed.2.1 12 = .ok (.iload 5, 2) := by decide +kernel
theorem d_Ran_placed_14 : decode M_Ran_placed.2.1 14 = .ok (.bipush 64, 2) := by decide +kernel
theorem d_Ran_placed_16 : decode M_Ran_placed.2.1 16 = .ok (.if_icmp .ge 95, 3) := by decide +kernel
theorem d_Ran_placed_19 : decode M_Ran_placed.2.1 19 = .ok (.aload_n 0, 1) := by decide +kernel
theorem d_Ran_placed_20 : decode M_Ran_placed.2.1 20 = .ok (.getfield 15, 3) := by decide +kernel
theorem d_Ran_placed_23 : decode M_Ran_placed.2.1 23 = .ok (.iload 5, 2) := by decide +kernel
theorem d_Ran_placed_25 : decode M_Ran_placed.2.1 25 = .ok (.aload_n 1, 1) := by decide +kernel
theorem d_Ran_placed_26 : decode M_Ran_placed.2.1 26 = .ok (.iload 5, 2) := by decide +kernel
theorem d_Ran_placed_28 : decode M_Ran_placed.2.1 28 = .ok (.iload_n 2, 1) := by decide +kernel
theorem d_Ran_placed_29 : decode M_Ran_placed.2.1 29 = .ok (.invokevirtual 35, 3) := by decide +kernel
theorem d_Ran_placed_32 : decode M_Ran_placed.2.1 32 = .ok (.iastore, 1) := by decide +kernel
theorem d_Ran_placed_33 : decode M_Ran_placed.2.1 33 = .ok (.aload_n 0, 1) := by decide +kernel
theorem d_Ran_placed_34 : decode M_Ran_placed.2.1 34 = .ok (.getfield 18, 3) := by decide +kernel
theorem d_Ran_placed_37 : decode M_Ran_placed.2.1 37 = .ok (.iload 5, 2) := by decide +kernel
theorem d_Ran_placed_39 : decode M_Ran_placed.2.1 39 = .ok (.aload_n 1, 1) := by decide +kernel
theorem d_Ran_placed_40 : decode M_Ran_placed.2.1 40 = .ok (.iload 5, 2) := by decide +kernel
theorem d_Ran_placed_42 : decode M_Ran_placed.2.1 42 = .ok (.iload_n 3, 1) := by decide +kernel
theorem d_Ran_placed_43 : decode M_Ran_placed.2.1 43 = .ok (.invokevirtual 35, 3) := by decide +kernel
theorem d_Ran_placed_46 : decode M_Ran_placed.2.1 46 = .ok (.iastore, 1) := by decide +kernel
theorem d_Ran_placed_47 : decode M_Ran_placed.2.1 47 = .ok (.iload 5, 2) := by decide +kernel
theorem d_Ran_placed_49 : decode M_Ran_placed.2.1 49 = .ok (.istore 6, 2) := by decide +kernel
theorem d_Ran_placed_51 : decode M_Ran_placed.2.1 51 = .ok (.iload 6, 2) := by decide +kernel
theorem d_Ran_placed_53 : decode M_Ran_placed.2.1 53 = .ok (.ifCond .le 43, 3) := by decide +kernel
theorem d_Ran_placed_56 : decode M_Ran_placed.2.1 56 = .ok (.aload_n 0, 1) := by decide +kernel
theorem d_Ran_placed_57 : decode M_Ran_placed.2.1 57 = .ok (.iload 5, 2) := by decide +kernel
theorem d_Ran_placed_59 : decode M_Ran_placed.2.1 59 = .ok (.aload_n 0, 1) := by decide +kernel
theorem d_Ran_placed_60 : decode M_Ran_placed.2.1 60 = .ok (.getfield 11, 3) := by decide +kernel
theorem d_Ran_placed_63 : decode M_Ran_placed.2.1 63 = .ok (.iload 6, 2) := by decide +kernel
theorem d_Ran_placed_65 : decode M_Ran_placed.2.1 65 = .ok (.iconst 1, 1) := by decide +kernel
theorem d_Ran_placed_66 : decode M_Ran_placed.2.1 66 = .ok (.isub, 1) := by decide +kernel
theorem d_Ran_placed_67 : decode M_Ran_placed.2.1 67 = .ok (.iaload, 1) := by decide +kernel
theorem d_Ran_placed_68 : decode M_Ran_placed.2.1 68 = .ok (.invokevirtual 39, 3) := by decide +kernel
theorem d_Ran_placed_71 : decode M_Ran_placed.2.1 71 = .ok (.ifCond .eq 25, 3) := by decide +kernel
theorem d_Ran_placed_74 : decode M_Ran_placed.2.1 74 = .ok (.aload_n 0, 1) := by decide +kernel
theorem d_Ran_placed_75 : decode M_Ran_placed.2.1 75 = .ok (.getfield 11, 3) := by decide +kernel
theorem d_Ran_placed_78 : decode M_Ran_placed.2.1 78 = .ok (.iload 6, 2) := by decide +kernel
theorem d_Ran_placed_80 : decode M_Ran_placed.2.1 80 = .ok (.aload_n 0, 1) := by decide +kernel
theorem d_Ran_placed_81 : decode M_Ran_placed.2.1 81 = .ok (.getfield 11, 3) := by decide +kernel
theorem d_Ran_placed_84 : decode M_Ran_placed.2.1 84 = .ok (.iload 6, 2) := by decide +kernel
theorem d_Ran_placed_86 : decode M_Ran_placed.2.1 86 = .ok (.iconst 1, 1) := by decide +kernel
theorem d_Ran_placed_87 : decode M_Ran_placed.2.1 87 = .ok (.isub, 1) := by decide +kernel
theorem d_Ran_placed_88 : decode M_Ran_placed.2.1 88 = .ok (.iaload, 1) := by decide +kernel
theorem d_Ran_placed_89 : decode M_Ran_placed.2.1 89 = .ok (.iastore, 1) := by decide +kernel
theorem d_Ran_placed_90 : decode M_Ran_placed.2.1 90 = .ok (.iinc 6 (-1), 3) := by decide +kernel
theorem d_Ran_placed_93 : decode M_Ran_placed.2.1 93 = .ok (.goto (-42), 3) := by decide +kernel
theorem d_Ran_placed_96 : decode M_Ran_placed.2.1 96 = .ok (.aload_n 0, 1) := by decide +kernel
theorem d_Ran_placed_97 : decode M_Ran_placed.2.1 97 = .ok (.getfield 11, 3) := by decide +kernel
theorem d_Ran_placed_100 : decode M_Ran_placed.2.1 100 = .ok (.iload 6, 2) := by decide +kernel
theorem d_Ran_placed_102 : decode M_Ran_placed.2.1 102 = .ok (.iload 5, 2) := by decide +kernel
theorem d_Ran_placed_104 : decode M_Ran_placed.2.1 104 = .ok (.iastore, 1) := by decide +kernel
theorem d_Ran_placed_105 : decode M_Ran_placed.2.1 105 = .ok (.iinc 5 1, 3) := by decide +kernel
theorem d_Ran_placed_108 : decode M_Ran_placed.2.1 108 = .ok (.goto (-105), 3) := by decide +kernel
theorem d_Ran_placed_111 : decode M_Ran_placed.2.1 111 = .ok (.iload 4, 2) := by decide +kernel
theorem d_Ran_placed_113 : decode M_Ran_placed.2.1 113 = .ok (.ifCond .lt 23, 3) := by decide +kernel
theorem d_Ran_placed_116 : decode M_Ran_placed.2.1 116 = .ok (.iload 4, 2) := by decide +kernel
theorem d_Ran_placed_118 : decode M_Ran_placed.2.1 118 = .ok (.aload_n 0, 1) := by decide +kernel
theorem d_Ran_placed_119 : decode M_Ran_placed.2.1 119 = .ok (.getfield 11, 3) := by decide +kernel
theorem d_Ran_placed_122 : decode M_Ran_placed.2.1 122 = .ok (.arraylength, 1) := by decide +kernel
theorem d_Ran_placed_123 : decode M_Ran_placed.2.1 123 = .ok (.if_icmp .ge 13, 3) := by decide +kernel
theorem d_Ran_placed_126 : decode M_Ran_placed.2.1 126 = .ok (.aload_n 0, 1) := by decide +kernel
theorem d_Ran_placed_127 : decode M_Ran_placed.2.1 127 = .ok (.getfield 11, 3) := by decide +kernel
theorem d_Ran_placed_130 : decode M_Ran_placed.2.1 130 = .ok (.iload 4, 2) := by decide +kernel
theorem d_Ran_placed_132 : decode M_Ran_placed.2.1 132 = .ok (.iaload, 1) := by decide +kernel
theorem d_Ran_placed_133 : decode M_Ran_placed.2.1 133 = .ok (.goto 4, 3) := by decide +kernel
theorem d_Ran_placed_136 : decode M_Ran_placed.2.1 136 = .ok (.iconst (-1), 1) := by decide +kernel
theorem d_Ran_placed_137 : decode M_Ran_placed.2.1 137 = .ok (.ireturn, 1) := by decide +kernel
theorem d_Ran_isAhead_0 : decode M_Ran_isAhead.2.1 0 = .ok (.iload_n 1, 1) := by decide +kernel
theorem d_Ran_isAhead_1 : decode M_Ran_isAhead.2.1 1 = .ok (.ifCond .lt 19, 3) := by decide +kernel
theorem d_Ran_isAhead_4 : decode M_Ran_isAhead.2.1 4 = .ok (.iload_n 1, 1) := by decide +kernel
theorem d_Ran_isAhead_5 : decode M_Ran_isAhead.2.1 5 = .ok (.bipush 64, 2) := by decide +kernel
theorem d_Ran_isAhead_7 : decode M_Ran_isAhead.2.1 7 = .ok (.if_icmp .ge 13, 3) := by decide +kernel
theorem d_Ran_isAhead_10 : decode M_Ran_isAhead.2.1 10 = .ok (.iload_n 2, 1) := by decide +kernel
theorem d_Ran_isAhead_11 : decode M_Ran_isAhead.2.1 11 = .ok (.ifCond .lt 9, 3) := by decide +kernel
theorem d_Ran_isAhead_14 : decode M_Ran_isAhead.2.1 14 = .ok (.iload_n 2, 1) := by decide +kernel
theorem d_Ran_isAhead_15 : decode M_Ran_isAhead.2.1 15 = .ok (.bipush 64, 2) := by decide +kernel
theorem d_Ran_isAhead_17 : decode M_Ran_isAhead.2.1 17 = .ok (.if_icmp .lt 5, 3) := by decide +kernel
theorem d_Ran_isAhead_20 : decode M_Ran_isAhead.2.1 20 = .ok (.iconst 0, 1) := by decide +kernel
theorem d_Ran_isAhead_21 : decode M_Ran_isAhead.2.1 21 = .ok (.ireturn, 1) := by decide +kernel
theorem d_Ran_isAhead_22 : decode M_Ran_isAhead.2.1 22 = .ok (.aload_n 0, 1) := by decide +kernel
theorem d_Ran_isAhead_23 : decode M_Ran_isAhead.2.1 23 = .ok (.getfield 15, 3) := by decide +kernel
theorem d_Ran_isAhead_26 : decode M_Ran_isAhead.2.1 26 = .ok (.iload_n 1, 1) := by decide +kernel
theorem d_Ran_isAhead_27 : decode M_Ran_isAhead.2.1 27 = .ok (.iaload, 1) := by decide +kernel
theorem d_Ran_isAhead_28 : decode M_Ran_isAhead.2.1 28 = .ok (.aload_n 0, 1) := by decide +kernel
theorem d_Ran_isAhead_29 : decode M_Ran_isAhead.2.1 29 = .ok (.getfield 15, 3) := by decide +kernel
theorem d_Ran_isAhead_32 : decode M_Ran_isAhead.2.1 32 = .ok (.iload_n 2, 1) := by decide +kernel
theorem d_Ran_isAhead_33 : decode M_Ran_isAhead.2.1 33 = .ok (.iaload, 1) := by decide +kernel
theorem d_Ran_isAhead_34 : decode M_Ran_isAhead.2.1 34 = .ok (.if_icmp .lt 33, 3) := by decide +kernel
theorem d_Ran_isAhead_37 : decode M_Ran_isAhead.2.1 37 = .ok (.aload_n 0, 1) := by decide +kernel
theorem d_Ran_isAhead_38 : decode M_Ran_isAhead.2.1 38 = .ok (.getfield 15, 3) := by decide +kernel
theorem d_Ran_isAhead_41 : decode M_Ran_isAhead.2.1 41 = .ok (.iload_n 1, 1) := by decide +kernel
theorem d_Ran_isAhead_42 : decode M_Ran_isAhead.2.1 42 = .ok (.iaload, 1) := by decide +kernel
theorem d_Ran_isAhead_43 : decode M_Ran_isAhead.2.1 43 = .ok (.aload_n 0, 1) := by decide +kernel
theorem d_Ran_isAhead_44 : decode M_Ran_isAhead.2.1 44 = .ok (.getfield 15, 3) := by decide +kernel
theorem d_Ran_isAhead_47 : decode M_Ran_isAhead.2.1 47 = .ok (.iload_n 2, 1) := by decide +kernel
theorem d_Ran_isAhead_48 : decode M_Ran_isAhead.2.1 48 = .ok (.iaload, 1) := by decide +kernel
theorem d_Ran_isAhead_49 : decode M_Ran_isAhead.2.1 49 = .ok (.if_icmp .ne 22, 3) := by decide +kernel
theorem d_Ran_isAhead_52 : decode M_Ran_isAhead.2.1 52 = .ok (.aload_n 0, 1) := by decide +kernel
theorem d_Ran_isAhead_53 : decode M_Ran_isAhead.2.1 53 = .ok (.getfield 18, 3) := by decide +kernel
theorem d_Ran_isAhead_56 : decode M_Ran_isAhead.2.1 56 = .ok (.iload_n 1, 1) := by decide +kernel
theorem d_Ran_isAhead_57 : decode M_Ran_isAhead.2.1 57 = .ok (.iaload, 1) := by decide +kernel
theorem d_Ran_isAhead_58 : decode M_Ran_isAhead.2.1 58 = .ok (.aload_n 0, 1) := by decide +kernel
theorem d_Ran_isAhead_59 : decode M_Ran_isAhead.2.1 59 = .ok (.getfield 18, 3) := by decide +kernel
theorem d_Ran_isAhead_62 : decode M_Ran_isAhead.2.1 62 = .ok (.iload_n 2, 1) := by decide +kernel
theorem d_Ran_isAhead_63 : decode M_Ran_isAhead.2.1 63 = .ok (.iaload, 1) := by decide +kernel
theorem d_Ran_isAhead_64 : decode M_Ran_isAhead.2.1 64 = .ok (.if_icmp .ge 7, 3) := by decide +kernel
theorem d_Ran_isAhead_67 : decode M_Ran_isAhead.2.1 67 = .ok (.iconst 1, 1) := by decide +kernel
theorem d_Ran_isAhead_68 : decode M_Ran_isAhead.2.1 68 = .ok (.goto 4, 3) := by decide +kernel
theorem d_Ran_isAhead_71 : decode M_Ran_isAhead.2.1 71 = .ok (.iconst 0, 1) := by decide +kernel
theorem d_Ran_isAhead_72 : decode M_Ran_isAhead.2.1 72 = .ok (.ireturn, 1) := by decide +kernel
theorem d_SN_count_0 : decode M_SN_count.2.1 0 = .ok (.iload_n 1, 1) := by decide +kernel
theorem d_SN_count_1 : decode M_SN_count.2.1 1 = .ok (.invokestatic 240, 3) := by decide +kernel
theorem d_SN_count_4 : decode M_SN_count.2.1 4 = .ok (.ifCond .ne 5, 3) := by decide +kernel
theorem d_SN_count_7 : decode M_SN_count.2.1 7 = .ok (.iconst (-1), 1) := by decide +kernel
theorem d_SN_count_8 : decode M_SN_count.2.1 8 = .ok (.ireturn, 1) := by decide +kernel
theorem d_SN_count_9 : decode M_SN_count.2.1 9 = .ok (.iconst 0, 1) := by decide +kernel
theorem d_SN_count_10 : decode M_SN_count.2.1 10 = .ok (.istore 4, 2) := by decide +kernel
theorem d_SN_count_12 : decode M_SN_count.2.1 12 = .ok (.iconst 0, 1) := by decide +kernel
theorem d_SN_count_13 : decode M_SN_count.2.1 13 = .ok (.istore 5, 2) := by decide +kernel
theorem d_SN_count_15 : decode M_SN_count.2.1 15 = .ok (.iload 5, 2) := by decide +kernel
theorem d_SN_count_17 : decode M_SN_count.2.1 17 = .ok (.aload_n 0, 1) := by decide +kernel
theorem d_SN_count_18 : decode M_SN_count.2.1 18 = .ok (.getfield 12, 3) := by decide +kernel
theorem d_SN_count_21 : decode M_SN_count.2.1 21 = .ok (.getfield 93, 3) := by decide +kernel
theorem d_SN_count_24 : decode M_SN_count.2.1 24 = .ok (.if_icmp .ge 43, 3) := by decide +kernel
theorem d_SN_count_27 : decode M_SN_count.2.1 27 = .ok (.aload_n 0, 1) := by decide +kernel
theorem d_SN_count_28 : decode M_SN_count.2.1 28 = .ok (.getfield 12, 3) := by decide +kernel
theorem d_SN_count_31 : decode M_SN_count.2.1 31 = .ok (.iload 5, 2) := by decide +kernel
theorem d_SN_count_33 : decode M_SN_count.2.1 33 = .ok (.iload_n 1, 1) := by decide +kernel
theorem d_SN_count_34 : decode M_SN_count.2.1 34 = .ok (.invokevirtual 243, 3) := by decide +kernel
theorem d_SN_count_37 : decode M_SN_count.2.1 37 = .ok (.istore 6, 2) := by decide +kernel
theorem d_SN_count_39 : decode M_SN_count.2.1 39 = .ok (.iload 4, 2) := by decide +kernel
theorem d_SN_count_41 : decode M_SN_count.2.1 41 = .ok (.iload 6, 2) := by decide +kernel
theorem d_SN_count_43 : decode M_SN_count.2.1 43 = .ok (.iload_n 2, 1) := by decide +kernel
theorem d_SN_count_44 : decode M_SN_count.2.1 44 = .ok (.if_icmp .lt 13, 3) := by decide +kernel
theorem d_SN_count_47 : decode M_SN_count.2.1 47 = .ok (.iload 6, 2) := by decide +kernel
theorem d_SN_count_49 : decode M_SN_count.2.1 49 = .ok (.iload_n 3, 1) := by decide +kernel
theorem d_SN_count_50 : decode M_SN_count.2.1 50 = .ok (.if_icmp .gt 7, 3) := by decide +kernel
theorem d_SN_count_53 : decode M_SN_count.2.1 53 = .ok (.iconst 1, 1) := by decide +kernel
theorem d_SN_count_54 : decode M_SN_count.2.1 54 = .ok (.goto 4, 3) := by decide +kernel
theorem d_SN_count_57 : decode M_SN_count.2.1 57 = .ok (.iconst 0, 1) := by decide +kernel
theorem d_SN_count_58 : decode M_SN_count.2.1 58 = .ok (.iadd, 1) := by decide +kernel
theorem d_SN_count_59 : decode M_SN_count.2.1 59 = .ok (.istore 4, 2) := by decide +kernel
theorem d_SN_count_61 : decode M_SN_count.2.1 61 = .ok (.iinc 5 1, 3) := by decide +kernel
theorem d_SN_count_64 : decode M_SN_count.2.1 64 = .ok (.goto (-49), 3) := by decide +kernel
theorem d_SN_count_67 : decode M_SN_count.2.1 67 = .ok (.iload 4, 2) := by decide +kernel
theorem d_SN_count_69 : decode M_SN_count.2.1 69 = .ok (.ireturn, 1) := by decide +kernel
theorem d_SN_top_0 : decode M_SN_top.2.1 0 = .ok (.iload_n 1, 1) := by decide +kernel
theorem d_SN_top_1 : decode M_SN_top.2.1 1 = .ok (.invokestatic 240, 3) := by decide +kernel
theorem d_SN_top_4 : decode M_SN_top.2.1 4 = .ok (.ifCond .eq 13, 3) := by decide +kernel
theorem d_SN_top_7 : decode M_SN_top.2.1 7 = .ok (.aload_n 0, 1) := by decide +kernel
theorem d_SN_top_8 : decode M_SN_top.2.1 8 = .ok (.getfield 12, 3) := by decide +kernel
theorem d_SN_top_11 : decode M_SN_top.2.1 11 = .ok (.getfield 93, 3) := by decide +kernel
theorem d_SN_top_14 : decode M_SN_top.2.1 14 = .ok (.ifCond .ne 5, 3) := by decide +kernel
theorem d_SN_top_17 : decode M_SN_top.2.1 17 = .ok (.iconst (-1), 1) := by decide +kernel
theorem d_SN_top_18 : decode M_SN_top.2.1 18 = .ok (.ireturn, 1) := by decide +kernel
theorem d_SN_top_19 : decode M_SN_top.2.1 19 = .ok (.iconst 0, 1) := by decide +kernel
theorem d_SN_top_20 : decode M_SN_top.2.1 20 = .ok (.istore_n 2, 1) := by decide +kernel
theorem d_SN_top_21 : decode M_SN_top.2.1 21 = .ok (.iconst 1, 1) := by decide +kernel
theorem d_SN_top_22 : decode M_SN_top.2.1 22 = .ok (.istore_n 3, 1) := by decide +kernel
theorem d_SN_top_23 : decode M_SN_top.2.1 23 = .ok (.iload_n 3, 1) := by decide +kernel
theorem d_SN_top_24 : decode M_SN_top.2.1 24 = .ok (.aload_n 0, 1) := by decide +kernel
theorem d_SN_top_25 : decode M_SN_top.2.1 25 = .ok (.getfield 12, 3) := by decide +kernel
theorem d_SN_top_28 : decode M_SN_top.2.1 28 = .ok (.getfield 93, 3) := by decide +kernel
theorem d_SN_top_31 : decode M_SN_top.2.1 31 = .ok (.if_icmp .ge 32, 3) := by decide +kernel
theorem d_SN_top_34 : decode M_SN_top.2.1 34 = .ok (.aload_n 0, 1) := by decide +kernel
theorem d_SN_top_35 : decode M_SN_top.2.1 35 = .ok (.getfield 12, 3) := by decide +kernel
theorem d_SN_top_38 : decode M_SN_top.2.1 38 = .ok (.iload_n 3, 1) := by decide +kernel
theorem d_SN_top_39 : decode M_SN_top.2.1 39 = .ok (.iload_n 1, 1) := by decide +kernel
theorem d_SN_top_40 : decode M_SN_top.2.1 40 = .ok (.invokevirtual 243, 3) := by decide +kernel
theorem d_SN_top_43 : decode M_SN_top.2.1 43 = .ok (.aload_n 0, 1) := by decide +kernel
theorem d_SN_top_44 : decode M_SN_top.2.1 44 = .ok (.getfield 12, 3) := by decide +kernel
theorem d_SN_top_47 : decode M_SN_top.2.1 47 = .ok (.iload_n 2, 1) := by decide +kernel
theorem d_SN_top_48 : decode M_SN_top.2.1 48 = .ok (.iload_n 1, 1) := by decide +kernel
theorem d_SN_top_49 : decode M_SN_top.2.1 49 = .ok (.invokevirtual 243, 3) := by decide +kernel
theorem d_SN_top_52 : decode M_SN_top.2.1 52 = .ok (.if_icmp .le 5, 3) := by decide +kernel
theorem d_SN_top_55 : decode M_SN_top.2.1 55 = .ok (.iload_n 3, 1) := by decide +kernel
theorem d_SN_top_56 : decode M_SN_top.2.1 56 = .ok (.istore_n 2, 1) := by decide +kernel
theorem d_SN_top_57 : decode M_SN_top.2.1 57 = .ok (.iinc 3 1, 3) := by decide +kernel
theorem d_SN_top_60 : decode M_SN_top.2.1 60 = .ok (.goto (-37), 3) := by decide +kernel
theorem d_SN_top_63 : decode M_SN_top.2.1 63 = .ok (.iload_n 2, 1) := by decide +kernel
theorem d_SN_top_64 : decode M_SN_top.2.1 64 = .ok (.ireturn, 1) := by decide +kernel
theorem d_SN_below_0 : decode M_SN_below.2.1 0 = .ok (.iload_n 1, 1) := by decide +kernel
theorem d_SN_below_1 : decode M_SN_below.2.1 1 = .ok (.ifCond .lt 10, 3) := by decide +kernel
theorem d_SN_below_4 : decode M_SN_below.2.1 4 = .ok (.iload_n 1, 1) := by decide +kernel
theorem d_SN_below_5 : decode M_SN_below.2.1 5 = .ok (.sipush 400, 3) := by decide +kernel
theorem d_SN_below_8 : decode M_SN_below.2.1 8 = .ok (.if_icmp .le 5, 3) := by decide +kernel
theorem d_SN_below_11 : decode M_SN_below.2.1 11 = .ok (.iconst (-1), 1) := by decide +kernel
theorem d_SN_below_12 : decode M_SN_below.2.1 12 = .ok (.ireturn, 1) := by decide +kernel
theorem d_SN_below_13 : decode M_SN_below.2.1 13 = .ok (.iconst 0, 1) := by decide +kernel
theorem d_SN_below_14 : decode M_SN_below.2.1 14 = .ok (.istore_n 2, 1) := by decide +kernel
theorem d_SN_below_15 : decode M_SN_below.2.1 15 = .ok (.iconst 0, 1) := by decide +kernel
theorem d_SN_below_16 : decode M_SN_below.2.1 16 = .ok (.istore_n 3, 1) := by decide +kernel
theorem d_SN_below_17 : decode M_SN_below.2.1 17 = .ok (.iload_n 3, 1) := by decide +kernel
theorem d_SN_below_18 : decode M_SN_below.2.1 18 = .ok (.aload_n 0, 1) := by decide +kernel
theorem d_SN_below_19 : decode M_SN_below.2.1 19 = .ok (.getfield 12, 3) := by decide +kernel
theorem d_SN_below_22 : decode M_SN_below.2.1 22 = .ok (.getfield 93, 3) := by decide +kernel
theorem d_SN_below_25 : decode M_SN_below.2.1 25 = .ok (.if_icmp .ge 35, 3) := by decide +kernel
theorem d_SN_below_28 : decode M_SN_below.2.1 28 = .ok (.iload_n 2, 1) := by decide +kernel
theorem d_SN_below_29 : decode M_SN_below.2.1 29 = .ok (.aload_n 0, 1) := by decide +kernel
theorem d_SN_below_30 : decode M_SN_below.2.1 30 = .ok (.getfield 12, 3) := by decide +kernel
theorem d_SN_below_33 : decode M_SN_below.2.1 33 = .ok (.iload_n 3, 1) := by decide +kernel
theorem d_SN_below_34 : decode M_SN_below.2.1 34 = .ok (.invokevirtual 118, 3) := by decide +kernel
theorem d_SN_below_37 : decode M_SN_below.2.1 37 = .ok (.getfield 122, 3) := by decide +kernel
theorem d_SN_below_40 : decode M_SN_below.2.1 40 = .ok (.invokevirtual 127, 3) := by decide +kernel
theorem d_SN_below_43 : decode M_SN_below.2.1 43 = .ok (.iload_n 1, 1) := by decide +kernel
theorem d_SN_below_44 : decode M_SN_below.2.1 44 = .ok (.if_icmp .gt 7, 3) := by decide +kernel
theorem d_SN_below_47 : decode M_SN_below.2.1 47 = .ok (.iconst 1, 1) := by decide +kernel
theorem d_SN_below_48 : decode M_SN_below.2.1 48 = .ok (.goto 4, 3) := by decide +kernel
theorem d_SN_below_51 : decode M_SN_below.2.1 51 = .ok (.iconst 0, 1) := by decide +kernel
theorem d_SN_below_52 : decode M_SN_below.2.1 52 = .ok (.iadd, 1) := by decide +kernel
theorem d_SN_below_53 : decode M_SN_below.2.1 53 = .ok (.istore_n 2, 1) := by decide +kernel
theorem d_SN_below_54 : decode M_SN_below.2.1 54 = .ok (.iinc 3 1, 3) := by decide +kernel
theorem d_SN_below_57 : decode M_SN_below.2.1 57 = .ok (.goto (-40), 3) := by decide +kernel
theorem d_SN_below_60 : decode M_SN_below.2.1 60 = .ok (.iload_n 2, 1) := by decide +kernel
theorem d_SN_below_61 : decode M_SN_below.2.1 61 = .ok (.ireturn, 1) := by decide +kernel
theorem d_SN_run_0 : decode M_SN_run.2.1 0 = .ok (.aload_n 0, 1) := by decide +kernel
theorem d_SN_run_1 : decode M_SN_run.2.1 1 = .ok (.getfield 12, 3) := by decide +kernel
theorem d_SN_run_4 : decode M_SN_run.2.1 4 = .ok (.iload_n 1, 1) := by decide +kernel
theorem d_SN_run_5 : decode M_SN_run.2.1 5 = .ok (.invokevirtual 259, 3) := by decide +kernel
theorem d_SN_run_8 : decode M_SN_run.2.1 8 = .ok (.istore_n 3, 1) := by decide +kernel
theorem d_SN_run_9 : decode M_SN_run.2.1 9 = .ok (.iload_n 3, 1) := by decide +kernel
theorem d_SN_run_10 : decode M_SN_run.2.1 10 = .ok (.iconst (-1), 1) := by decide +kernel
theorem d_SN_run_11 : decode M_SN_run.2.1 11 = .ok (.if_icmp .eq 10, 3) := by decide +kernel
theorem d_SN_run_14 : decode M_SN_run.2.1 14 = .ok (.iload_n 2, 1) := by decide +kernel
theorem d_SN_run_15 : decode M_SN_run.2.1 15 = .ok (.invokestatic 183, 3) := by decide +kernel
theorem d_SN_run_18 : decode M_SN_run.2.1 18 = .ok (.ifCond .ne 5, 3) := by decide +kernel
theorem d_SN_run_21 : decode M_SN_run.2.1 21 = .ok (.iconst (-1), 1) := by decide +kernel
theorem d_SN_run_22 : decode M_SN_run.2.1 22 = .ok (.ireturn, 1) := by decide +kernel
theorem d_SN_run_23 : decode M_SN_run.2.1 23 = .ok (.iload_n 2, 1) := by decide +kernel
theorem d_SN_run_24 : decode M_SN_run.2.1 24 = .ok (.ifCond .ne 7, 3) := by decide +kernel
theorem d_SN_run_27 : decode M_SN_run.2.1 27 = .ok (.iload_n 3, 1) := by decide +kernel
theorem d_SN_run_28 : decode M_SN_run.2.1 28 = .ok (.goto 11, 3) := by decide +kernel
theorem d_SN_run_31 : decode M_SN_run.2.1 31 = .ok (.aload_n 0, 1) := by decide +kernel
theorem d_SN_run_32 : decode M_SN_run.2.1 32 = .ok (.getfield 12, 3) := by decide +kernel
theorem d_SN_run_35 : decode M_SN_run.2.1 35 = .ok (.iload_n 3, 1) := by decide +kernel
theorem d_SN_run_36 : decode M_SN_run.2.1 36 = .ok (.invokevirtual 262, 3) := by decide +kernel
theorem d_SN_run_39 : decode M_SN_run.2.1 39 = .ok (.ireturn, 1) := by decide +kernel
theorem d_Sea_startOfRun_0 : decode M_Sea_startOfRun.2.1 0 = .ok (.iconst 0, 1) := by decide +kernel
theorem d_Sea_startOfRun_1 : decode M_Sea_startOfRun.2.1 1 = .ok (.istore_n 2, 1) := by decide +kernel
theorem d_Sea_startOfRun_2 : decode M_Sea_startOfRun.2.1 2 = .ok (.iconst 0, 1) := by decide +kernel
theorem d_Sea_startOfRun_3 : decode M_Sea_startOfRun.2.1 3 = .ok (.istore_n 3, 1) := by decide +kernel
theorem d_Sea_startOfRun_4 : decode M_Sea_startOfRun.2.1 4 = .ok (.iload_n 3, 1) := by decide +kernel
theorem d_Sea_startOfRun_5 : decode M_Sea_startOfRun.2.1 5 = .ok (.aload_n 0, 1) := by decide +kernel
theorem d_Sea_startOfRun_6 : decode M_Sea_startOfRun.2.1 6 = .ok (.getfield 82, 3) := by decide +kernel
theorem d_Sea_startOfRun_9 : decode M_Sea_startOfRun.2.1 9 = .ok (.if_icmp .ge 27, 3) := by decide +kernel
theorem d_Sea_startOfRun_12 : decode M_Sea_startOfRun.2.1 12 = .ok (.aload_n 0, 1) := by decide +kernel
theorem d_Sea_startOfRun_13 : decode M_Sea_startOfRun.2.1 13 = .ok (.iload_n 3, 1) := by decide +kernel
theorem d_Sea_startOfRun_14 : decode M_Sea_startOfRun.2.1 14 = .ok (.invokevirtual 174, 3) := by decide +kernel
theorem d_Sea_startOfRun_17 : decode M_Sea_startOfRun.2.1 17 = .ok (.ifCond .eq 13, 3) := by decide +kernel
theorem d_Sea_startOfRun_20 : decode M_Sea_startOfRun.2.1 20 = .ok (.iload_n 2, 1) := by decide +kernel
theorem d_Sea_startOfRun_21 : decode M_Sea_startOfRun.2.1 21 = .ok (.iload_n 1, 1) := by decide +kernel
theorem d_Sea_startOfRun_22 : decode M_Sea_startOfRun.2.1 22 = .ok (.if_icmp .ne 5, 3) := by decide +kernel
theorem d_Sea_startOfRun_25 : decode M_Sea_startOfRun.2.1 25 = .ok (.iload_n 3, 1) := by decide +kernel
theorem d_Sea_startOfRun_26 : decode M_Sea_startOfRun.2.1 26 = .ok (.ireturn, 1) := by decide +kernel
theorem d_Sea_startOfRun_27 : decode M_Sea_startOfRun.2.1 27 = .ok (.iinc 2 1, 3) := by decide +kernel
theorem d_Sea_startOfRun_30 : decode M_Sea_startOfRun.2.1 30 = .ok (.iinc 3 1, 3) := by decide +kernel
theorem d_Sea_startOfRun_33 : decode M_Sea_startOfRun.2.1 33 = .ok (.goto (-29), 3) := by decide +kernel
theorem d_Sea_startOfRun_36 : decode M_Sea_startOfRun.2.1 36 = .ok (.iconst (-1), 1) := by decide +kernel
theorem d_Sea_startOfRun_37 : decode M_Sea_startOfRun.2.1 37 = .ok (.ireturn, 1) := by decide +kernel
theorem d_Sea_numbersInRun_0 : decode M_Sea_numbersInRun.2.1 0 = .ok (.iconst 2, 1) := by decide +kernel
theorem d_Sea_numbersInRun_1 : decode M_Sea_numbersInRun.2.1 1 = .ok (.istore_n 2, 1) := by decide +kernel
theorem d_Sea_numbersInRun_2 : decode M_Sea_numbersInRun.2.1 2 = .ok (.iload_n 1, 1) := by decide +kernel
theorem d_Sea_numbersInRun_3 : decode M_Sea_numbersInRun.2.1 3 = .ok (.iconst 1, 1) := by decide +kernel
theorem d_Sea_numbersInRun_4 : decode M_Sea_numbersInRun.2.1 4 = .ok (.iadd, 1) := by decide +kernel
theorem d_Sea_numbersInRun_5 : decode M_Sea_numbersInRun.2.1 5 = .ok (.istore_n 3, 1) := by decide +kernel
theorem d_Sea_numbersInRun_6 : decode M_Sea_numbersInRun.2.1 6 = .ok (.iload_n 3, 1) := by decide +kernel
theorem d_Sea_numbersInRun_7 : decode M_Sea_numbersInRun.2.1 7 = .ok (.aload_n 0, 1) := by decide +kernel
theorem d_Sea_numbersInRun_8 : decode M_Sea_numbersInRun.2.1 8 = .ok (.getfield 82, 3) := by decide +kernel
theorem d_Sea_numbersInRun_11 : decode M_Sea_numbersInRun.2.1 11 = .ok (.if_icmp .ge 20, 3) := by decide +kernel
theorem d_Sea_numbersInRun_14 : decode M_Sea_numbersInRun.2.1 14 = .ok (.aload_n 0, 1) := by decide +kernel
theorem d_Sea_numbersInRun_15 : decode M_Sea_numbersInRun.2.1 15 = .ok (.iload_n 3, 1) := by decide +kernel
theorem d_Sea_numbersInRun_16 : decode M_Sea_numbersInRun.2.1 16 = .ok (.invokevirtual 171, 3) := by decide +kernel
theorem d_Sea_numbersInRun_19 : decode M_Sea_numbersInRun.2.1 19 = .ok (.ifCond .eq 12, 3) := by decide +kernel
theorem d_Sea_numbersInRun_22 : decode M_Sea_numbersInRun.2.1 22 = .ok (.iinc 2 1, 3) := by decide +kernel
theorem d_Sea_numbersInRun_25 : decode M_Sea_numbersInRun.2.1 25 = .ok (.iinc 3 1, 3) := by decide +kernel
theorem d_Sea_numbersInRun_28 : decode M_Sea_numbersInRun.2.1 28 = .ok (.goto (-22), 3) := by decide +kernel
theorem d_Sea_numbersInRun_31 : decode M_Sea_numbersInRun.2.1 31 = .ok (.iload_n 2, 1) := by decide +kernel
theorem d_Sea_numbersInRun_32 : decode M_Sea_numbersInRun.2.1 32 = .ok (.ireturn, 1) := by decide +kernel
theorem d_SN_rank_0 : decode M_SN_rank.2.1 0 = .ok (.iload_n 1, 1) := by decide +kernel
theorem d_SN_rank_1 : decode M_SN_rank.2.1 1 = .ok (.ifCond .lt 29, 3) := by decide +kernel
theorem d_SN_rank_4 : decode M_SN_rank.2.1 4 = .ok (.iload_n 1, 1) := by decide +kernel
theorem d_SN_rank_5 : decode M_SN_rank.2.1 5 = .ok (.aload_n 0, 1) := by decide +kernel
theorem d_SN_rank_6 : decode M_SN_rank.2.1 6 = .ok (.getfield 12, 3) := by decide +kernel
theorem d_SN_rank_9 : decode M_SN_rank.2.1 9 = .ok (.getfield 93, 3) := by decide +kernel
theorem d_SN_rank_12 : decode M_SN_rank.2.1 12 = .ok (.if_icmp .gt 18, 3) := by decide +kernel
theorem d_SN_rank_15 : decode M_SN_rank.2.1 15 = .ok (.aload_n 0, 1) := by decide +kernel
theorem d_SN_rank_16 : decode M_SN_rank.2.1 16 = .ok (.getfield 38, 3) := by decide +kernel
theorem d_SN_rank_19 : decode M_SN_rank.2.1 19 = .ok (.aload_n 0, 1) := by decide +kernel
theorem d_SN_rank_20 : decode M_SN_rank.2.1 20 = .ok (.getfield 12, 3) := by decide +kernel
theorem d_SN_rank_23 : decode M_SN_rank.2.1 23 = .ok (.iload_n 1, 1) := by decide +kernel
theorem d_SN_rank_24 : decode M_SN_rank.2.1 24 = .ok (.invokevirtual 265, 3) := by decide +kernel
theorem d_SN_rank_27 : decode M_SN_rank.2.1 27 = .ok (.goto 4, 3) := by decide +kernel
theorem d_SN_rank_30 : decode M_SN_rank.2.1 30 = .ok (.iconst (-1), 1) := by decide +kernel
theorem d_SN_rank_31 : decode M_SN_rank.2.1 31 = .ok (.ireturn, 1) := by decide +kernel
theorem d_Ran_rankOf_0 : decode M_Ran_rankOf.2.1 0 = .ok (.aload_n 0, 1) := by decide +kernel
theorem d_Ran_rankOf_1 : decode M_Ran_rankOf.2.1 1 = .ok (.getfield 23, 3) := by decide +kernel
theorem d_Ran_rankOf_4 : decode M_Ran_rankOf.2.1 4 = .ok (.iconst 0, 1) := by decide +kernel
theorem d_Ran_rankOf_5 : decode M_Ran_rankOf.2.1 5 = .ok (.invokestatic 43, 3) := by decide +kernel
theorem d_Ran_rankOf_8 : decode M_Ran_rankOf.2.1 8 = .ok (.iconst 0, 1) := by decide +kernel
theorem d_Ran_rankOf_9 : decode M_Ran_rankOf.2.1 9 = .ok (.istore_n 3, 1) := by decide +kernel
theorem d_Ran_rankOf_10 : decode M_Ran_rankOf.2.1 10 = .ok (.iconst 0, 1) := by decide +kernel
theorem d_Ran_rankOf_11 : decode M_Ran_rankOf.2.1 11 = .ok (.istore 4, 2) := by decide +kernel
theorem d_Ran_rankOf_13 : decode M_Ran_rankOf.2.1 13 = .ok (.iload 4, 2) := by decide +kernel
theorem d_Ran_rankOf_15 : decode M_Ran_rankOf.2.1 15 = .ok (.iload_n 2, 1) := by decide +kernel
theorem d_Ran_rankOf_16 : decode M_Ran_rankOf.2.1 16 = .ok (.if_icmp .ge 88, 3) := by decide +kernel
theorem d_Ran_rankOf_19 : decode M_Ran_rankOf.2.1 19 = .ok (.iload 4, 2) := by decide +kernel
theorem d_Ran_rankOf_21 : decode M_Ran_rankOf.2.1 21 = .ok (.aload_n 1, 1) := by decide +kernel
theorem d_Ran_rankOf_22 : decode M_Ran_rankOf.2.1 22 = .ok (.getfield 29, 3) := by decide +kernel
theorem d_Ran_rankOf_25 : decode M_Ran_rankOf.2.1 25 = .ok (.if_icmp .ge 79, 3) := by decide +kernel
theorem d_Ran_rankOf_28 : decode M_Ran_rankOf.2.1 28 = .ok (.aload_n 1, 1) := by decide +kernel
theorem d_Ran_rankOf_29 : decode M_Ran_rankOf.2.1 29 = .ok (.iload 4, 2) := by decide +kernel
theorem d_Ran_rankOf_31 : decode M_Ran_rankOf.2.1 31 = .ok (.invokevirtual 49, 3) := by decide +kernel
theorem d_Ran_rankOf_34 : decode M_Ran_rankOf.2.1 34 = .ok (.astore 5, 2) := by decide +kernel
theorem d_Ran_rankOf_36 : decode M_Ran_rankOf.2.1 36 = .ok (.iconst 0, 1) := by decide +kernel
theorem d_Ran_rankOf_37 : decode M_Ran_rankOf.2.1 37 = .ok (.istore 6, 2) := by decide +kernel
theorem d_Ran_rankOf_39 : decode M_Ran_rankOf.2.1 39 = .ok (.iload 6, 2) := by decide +kernel
theorem d_Ran_rankOf_41 : decode M_Ran_rankOf.2.1 41 = .ok (.aload_n 0, 1) := by decide +kernel
theorem d_Ran_rankOf_42 : decode M_Ran_rankOf.2.1 42 = .ok (.getfield 26, 3) := by decide +kernel
theorem d_Ran_rankOf_45 : decode M_Ran_rankOf.2.1 45 = .ok (.arraylength, 1) := by decide +kernel
theorem d_Ran_rankOf_46 : decode M_Ran_rankOf.2.1 46 = .ok (.if_icmp .ge 37, 3) := by decide +kernel
theorem d_Ran_rankOf_49 : decode M_Ran_rankOf.2.1 49 = .ok (.aload_n 0, 1) := by decide +kernel
theorem d_Ran_rankOf_50 : decode M_Ran_rankOf.2.1 50 = .ok (.getfield 26, 3) := by decide +kernel
theorem d_Ran_rankOf_53 : decode M_Ran_rankOf.2.1 53 = .ok (.iload 6, 2) := by decide +kernel
theorem d_Ran_rankOf_55 : decode M_Ran_rankOf.2.1 55 = .ok (.aload 5, 2) := by decide +kernel
theorem d_Ran_rankOf_57 : decode M_Ran_rankOf.2.1 57 = .ok (.iload 6, 2) := by decide +kernel
theorem d_Ran_rankOf_59 : decode M_Ran_rankOf.2.1 59 = .ok (.invokevirtual 53, 3) := by decide +kernel
theorem d_Ran_rankOf_62 : decode M_Ran_rankOf.2.1 62 = .ok (.aload 5, 2) := by decide +kernel
theorem d_Ran_rankOf_64 : decode M_Ran_rankOf.2.1 64 = .ok (.iload 6, 2) := by decide +kernel
theorem d_Ran_rankOf_66 : decode M_Ran_rankOf.2.1 66 = .ok (.invokevirtual 59, 3) := by decide +kernel
theorem d_Ran_rankOf_69 : decode M_Ran_rankOf.2.1 69 = .ok (.isub, 1) := by decide +kernel
theorem d_Ran_rankOf_70 : decode M_Ran_rankOf.2.1 70 = .ok (.sipush 10007, 3) := by decide +kernel
theorem d_Ran_rankOf_73 : decode M_Ran_rankOf.2.1 73 = .ok (.invokestatic 62, 3) := by decide +kernel
theorem d_Ran_rankOf_76 : decode M_Ran_rankOf.2.1 76 = .ok (.iastore, 1) := by decide +kernel
theorem d_Ran_rankOf_77 : decode M_Ran_rankOf.2.1 77 = .ok (.iinc 6 1, 3) := by decide +kernel
theorem d_Ran_rankOf_80 : decode M_Ran_rankOf.2.1 80 = .ok (.goto (-41), 3) := by decide +kernel
theorem d_Ran_rankOf_83 : decode M_Ran_rankOf.2.1 83 = .ok (.iload_n 3, 1) := by decide +kernel
theorem d_Ran_rankOf_84 : decode M_Ran_rankOf.2.1 84 = .ok (.aload_n 0, 1) := by decide +kernel
theorem d_Ran_rankOf_85 : decode M_Ran_rankOf.2.1 85 = .ok (.invokevirtual 67, 3) := by decide +kernel
theorem d_Ran_rankOf_88 : decode M_Ran_rankOf.2.1 88 = .ok (.ifCond .eq 7, 3) := by decide +kernel
theorem d_Ran_rankOf_91 : decode M_Ran_rankOf.2.1 91 = .ok (.iconst 1, 1) := by decide +kernel
theorem d_Ran_rankOf_92 : decode M_Ran_rankOf.2.1 92 = .ok (.goto 4, 3) := by decide +kernel
theorem d_Ran_rankOf_95 : decode M_Ran_rankOf.2.1 95 = .ok (.iconst 0, 1) := by decide +kernel
theorem d_Ran_rankOf_96 : decode M_Ran_rankOf.2.1 96 = .ok (.iadd, 1) := by decide +kernel
theorem d_Ran_rankOf_97 : decode M_Ran_rankOf.2.1 97 = .ok (.istore_n 3, 1) := by decide +kernel
theorem d_Ran_rankOf_98 : decode M_Ran_rankOf.2.1 98 = .ok (.iinc 4 1, 3) := by decide +kernel
theorem d_Ran_rankOf_101 : decode M_Ran_rankOf.2.1 101 = .ok (.goto (-88), 3) := by decide +kernel
theorem d_Ran_rankOf_104 : decode M_Ran_rankOf.2.1 104 = .ok (.iload_n 3, 1) := by decide +kernel
theorem d_Ran_rankOf_105 : decode M_Ran_rankOf.2.1 105 = .ok (.ireturn, 1) := by decide +kernel
theorem d_JMath_floorModI_0 : decode M_JMath_floorModI.2.1 0 = .ok (.iload_n 0, 1) := by decide +kernel
theorem d_JMath_floorModI_1 : decode M_JMath_floorModI.2.1 1 = .ok (.iload_n 1, 1) := by decide +kernel
theorem d_JMath_floorModI_2 : decode M_JMath_floorModI.2.1 2 = .ok (.irem, 1) := by decide +kernel
theorem d_JMath_floorModI_3 : decode M_JMath_floorModI.2.1 3 = .ok (.istore_n 2, 1) := by decide +kernel
theorem d_JMath_floorModI_4 : decode M_JMath_floorModI.2.1 4 = .ok (.iload_n 0, 1) := by decide +kernel
theorem d_JMath_floorModI_5 : decode M_JMath_floorModI.2.1 5 = .ok (.iload_n 1, 1) := by decide +kernel
theorem d_JMath_floorModI_6 : decode M_JMath_floorModI.2.1 6 = .ok (.ixor, 1) := by decide +kernel
theorem d_JMath_floorModI_7 : decode M_JMath_floorModI.2.1 7 = .ok (.ifCond .ge 11, 3) := by decide +kernel
theorem d_JMath_floorModI_10 : decode M_JMath_floorModI.2.1 10 = .ok (.iload_n 2, 1) := by decide +kernel
theorem d_JMath_floorModI_11 : decode M_JMath_floorModI.2.1 11 = .ok (.ifCond .eq 7, 3) := by decide +kernel
theorem d_JMath_floorModI_14 : decode M_JMath_floorModI.2.1 14 = .ok (.iload_n 2, 1) := by decide +kernel
theorem d_JMath_floorModI_15 : decode M_JMath_floorModI.2.1 15 = .ok (.iload_n 1, 1) := by decide +kernel
theorem d_JMath_floorModI_16 : decode M_JMath_floorModI.2.1 16 = .ok (.iadd, 1) := by decide +kernel
theorem d_JMath_floorModI_17 : decode M_JMath_floorModI.2.1 17 = .ok (.ireturn, 1) := by decide +kernel
theorem d_JMath_floorModI_18 : decode M_JMath_floorModI.2.1 18 = .ok (.iload_n 2, 1) := by decide +kernel
theorem d_JMath_floorModI_19 : decode M_JMath_floorModI.2.1 19 = .ok (.ireturn, 1) := by decide +kernel
theorem d_Ran_entersBasis_0 : decode M_Ran_entersBasis.2.1 0 = .ok (.iconst 0, 1) := by decide +kernel
theorem d_Ran_entersBasis_1 : decode M_Ran_entersBasis.2.1 1 = .ok (.istore_n 1, 1) := by decide +kernel
theorem d_Ran_entersBasis_2 : decode M_Ran_entersBasis.2.1 2 = .ok (.iload_n 1, 1) := by decide +kernel
theorem d_Ran_entersBasis_3 : decode M_Ran_entersBasis.2.1 3 = .ok (.aload_n 0, 1) := by decide +kernel
theorem d_Ran_entersBasis_4 : decode M_Ran_entersBasis.2.1 4 = .ok (.getfield 26, 3) := by decide +kernel
theorem d_Ran_entersBasis_7 : decode M_Ran_entersBasis.2.1 7 = .ok (.arraylength, 1) := by decide +kernel
theorem d_Ran_entersBasis_8 : decode M_Ran_entersBasis.2.1 8 = .ok (.if_icmp .ge 148, 3) := by decide +kernel
theorem d_Ran_entersBasis_11 : decode M_Ran_entersBasis.2.1 11 = .ok (.aload_n 0, 1) := by decide +kernel
theorem d_Ran_entersBasis_12 : decode M_Ran_entersBasis.2.1 12 = .ok (.getfield 26, 3) := by decide +kernel
theorem d_Ran_entersBasis_15 : decode M_Ran_entersBasis.2.1 15 = .ok (.iload_n 1, 1) := by decide +kernel
theorem d_Ran_entersBasis_16 : decode M_Ran_entersBasis.2.1 16 = .ok (.iaload, 1) := by decide +kernel
theorem d_Ran_entersBasis_17 : decode M_Ran_entersBasis.2.1 17 = .ok (.istore_n 2, 1) := by decide +kernel
theorem d_Ran_entersBasis_18 : decode M_Ran_entersBasis.2.1 18 = .ok (.aload_n 0, 1) := by decide +kernel
theorem d_Ran_entersBasis_19 : decode M_Ran_entersBasis.2.1 19 = .ok (.iload_n 1, 1) := by decide +kernel
theorem d_Ran_entersBasis_20 : decode M_Ran_entersBasis.2.1 20 = .ok (.iload_n 1, 1) := by decide +kernel
theorem d_Ran_entersBasis_21 : decode M_Ran_entersBasis.2.1 21 = .ok (.invokevirtual 71, 3) := by decide +kernel
theorem d_Ran_entersBasis_24 : decode M_Ran_entersBasis.2.1 24 = .ok (.i2l, 1) := by decide +kernel
theorem d_Ran_entersBasis_25 : decode M_Ran_entersBasis.2.1 25 = .ok (.lstore_n 3, 1) := by decide +kernel
theorem d_Ran_entersBasis_26 : decode M_Ran_entersBasis.2.1 26 = .ok (.iload_n 2, 1) := by decide +kernel
theorem d_Ran_entersBasis_27 : decode M_Ran_entersBasis.2.1 27 = .ok (.ifCond .eq 64, 3) := by decide +kernel
theorem d_Ran_entersBasis_30 : decode M_Ran_entersBasis.2.1 30 = .ok (.lload_n 3, 1) := by decide +kernel
theorem d_Ran_entersBasis_31 : decode M_Ran_entersBasis.2.1 31 = .ok (.lconst 0, 1) := by decide +kernel
theorem d_Ran_entersBasis_32 : decode M_Ran_entersBasis.2.1 32 = .ok (.lcmp, 1) := by decide +kernel
theorem d_Ran_entersBasis_33 : decode M_Ran_entersBasis.2.1 33 = .ok (.ifCond .ne 58, 3) := by decide +kernel
theorem d_Ran_entersBasis_36 : decode M_Ran_entersBasis.2.1 36 = .ok (.iconst 0, 1) := by decide +kernel
theorem d_Ran_entersBasis_37 : decode M_Ran_entersBasis.2.1 37 = .ok (.istore 5, 2) := by decide +kernel
theorem d_Ran_entersBasis_39 : decode M_Ran_entersBasis.2.1 39 = .ok (.iload 5, 2) := by decide +kernel
theorem d_Ran_entersBasis_41 : decode M_Ran_entersBasis.2.1 41 = .ok (.aload_n 0, 1) := by decide +kernel
theorem d_Ran_entersBasis_42 : decode M_Ran_entersBasis.2.1 42 = .ok (.getfield 26, 3) := by decide +kernel
theorem d_Ran_entersBasis_45 : decode M_Ran_entersBasis.2.1 45 = .ok (.arraylength, 1) := by decide +kernel
theorem d_Ran_entersBasis_46 : decode M_Ran_entersBasis.2.1 46 = .ok (.if_icmp .ge 43, 3) := by decide +kernel
theorem d_Ran_entersBasis_49 : decode M_Ran_entersBasis.2.1 49 = .ok (.iload_n 1, 1) := by decide +kernel
theorem d_Ran_entersBasis_50 : decode M_Ran_entersBasis.2.1 50 = .ok (.bipush 7, 2) := by decide +kernel
theorem d_Ran_entersBasis_52 : decode M_Ran_entersBasis.2.1 52 = .ok (.imul, 1) := by decide +kernel
theorem d_Ran_entersBasis_53 : decode M_Ran_entersBasis.2.1 53 = .ok (.iload 5, 2) := by decide +kernel
theorem d_Ran_entersBasis_55 : decode M_Ran_entersBasis.2.1 55 = .ok (.iadd, 1) := by decide +kernel
theorem d_Ran_entersBasis_56 : decode M_Ran_entersBasis.2.1 56 = .ok (.aload_n 0, 1) := by decide +kernel
theorem d_Ran_entersBasis_57 : decode M_Ran_entersBasis.2.1 57 = .ok (.getfield 23, 3) := by decide +kernel
theorem d_Ran_entersBasis_60 : decode M_Ran_entersBasis.2.1 60 = .ok (.arraylength, 1) := by decide +kernel
theorem d_Ran_entersBasis_61 : decode M_Ran_entersBasis.2.1 61 = .ok (.if_icmp .ge 28, 3) := by decide +kernel
theorem d_Ran_entersBasis_64 : decode M_Ran_entersBasis.2.1 64 = .ok (.aload_n 0, 1) := by decide +kernel
theorem d_Ran_entersBasis_65 : decode M_Ran_entersBasis.2.1 65 = .ok (.getfield 23, 3) := by decide +kernel
theorem d_Ran_entersBasis_68 : decode M_Ran_entersBasis.2.1 68 = .ok (.iload_n 1, 1) := by decide +kernel
theorem d_Ran_entersBasis_69 : decode M_Ran_entersBasis.2.1 69 = .ok (.bipush 7, 2) := by decide +kernel
theorem d_Ran_entersBasis_71 : decode M_Ran_entersBasis.2.1 71 = .ok (.imul, 1) := by decide +kernel
theorem d_Ran_entersBasis_72 : decode M_Ran_entersBasis.2.1 72 = .ok (.iload 5, 2) := by decide +kernel
theorem d_Ran_entersBasis_74 : decode M_Ran_entersBasis.2.1 74 = .ok (.iadd, 1) := by decide +kernel
theorem d_Ran_entersBasis_75 : decode M_Ran_entersBasis.2.1 75 = .ok (.aload_n 0, 1) := by decide +kernel
theorem d_Ran_entersBasis_76 : decode M_Ran_entersBasis.2.1 76 = .ok (.getfield 26, 3) := by decide +kernel
theorem d_Ran_entersBasis_79 : decode M_Ran_entersBasis.2.1 79 = .ok (.iload 5, 2) := by decide +kernel
theorem d_Ran_entersBasis_81 : decode M_Ran_entersBasis.2.1 81 = .ok (.iaload, 1) := by decide +kernel
theorem d_Ran_entersBasis_82 : decode M_Ran_entersBasis.2.1 82 = .ok (.iastore, 1) := by decide +kernel
theorem d_Ran_entersBasis_83 : decode M_Ran_entersBasis.2.1 83 = .ok (.iinc 5 1, 3) := by decide +kernel
theorem d_Ran_entersBasis_86 : decode M_Ran_entersBasis.2.1 86 = .ok (.goto (-47), 3) := by decide +kernel
theorem d_Ran_entersBasis_89 : decode M_Ran_entersBasis.2.1 89 = .ok (.iconst 1, 1) := by decide +kernel
theorem d_Ran_entersBasis_90 : decode M_Ran_entersBasis.2.1 90 = .ok (.ireturn, 1) := by decide +kernel
theorem d_Ran_entersBasis_91 : decode M_Ran_entersBasis.2.1 91 = .ok (.iconst 0, 1) := by decide +kernel
theorem d_Ran_entersBasis_92 : decode M_Ran_entersBasis.2.1 92 = .ok (.istore 5, 2) := by decide +kernel
theorem d_Ran_entersBasis_94 : decode M_Ran_entersBasis.2.1 94 = .ok (.iload 5, 2) := by decide +kernel
theorem d_Ran_entersBasis_96 : decode M_Ran_entersBasis.2.1 96 = .ok (.aload_n 0, 1) := by decide +kernel
theorem d_Ran_entersBasis_97 : decode M_Ran_entersBasis.2.1 97 = .ok (.getfield 26, 3) := by decide +kernel
theorem d_Ran_entersBasis_100 : decode M_Ran_entersBasis.2.1 100 = .ok (.arraylength, 1) := by decide +kernel
theorem d_Ran_entersBasis_101 : decode M_Ran_entersBasis.2.1 101 = .ok (.if_icmp .ge 49, 3) := by decide +kernel
theorem d_Ran_entersBasis_104 : decode M_Ran_entersBasis.2.1 104 = .ok (.iload_n 2, 1) := by decide +kernel
theorem d_Ran_entersBasis_105 : decode M_Ran_entersBasis.2.1 105 = .ok (.ifCond .eq 45, 3) := by decide +kernel
theorem d_Ran_entersBasis_108 : decode M_Ran_entersBasis.2.1 108 = .ok (.aload_n 0, 1) := by decide +kernel
theorem d_Ran_entersBasis_109 : decode M_Ran_entersBasis.2.1 109 = .ok (.getfield 26, 3) := by decide +kernel
theorem d_Ran_entersBasis_112 : decode M_Ran_entersBasis.2.1 112 = .ok (.iload 5, 2) := by decide +kernel
theorem d_Ran_entersBasis_114 : decode M_Ran_entersBasis.2.1 114 = .ok (.aload_n 0, 1) := by decide +kernel
theorem d_Ran_entersBasis_115 : decode M_Ran_entersBasis.2.1 115 = .ok (.getfield 26, 3) := by decide +kernel
theorem d_Ran_entersBasis_118 : decode M_Ran_entersBasis.2.1 118 = .ok (.iload 5, 2) := by decide +kernel
theorem d_Ran_entersBasis_120 : decode M_Ran_entersBasis.2.1 120 = .ok (.iaload, 1) := by decide +kernel
theorem d_Ran_entersBasis_121 : decode M_Ran_entersBasis.2.1 121 = .ok (.i2l, 1) := by decide +kernel
theorem d_Ran_entersBasis_122 : decode M_Ran_entersBasis.2.1 122 = .ok (.lload_n 3, 1) := by decide +kernel
theorem d_Ran_entersBasis_123 : decode M_Ran_entersBasis.2.1 123 = .ok (.lmul, 1) := by decide +kernel
theorem d_Ran_entersBasis_124 : decode M_Ran_entersBasis.2.1 124 = .ok (.aload_n 0, 1) := by decide +kernel
theorem d_Ran_entersBasis_125 : decode M_Ran_entersBasis.2.1 125 = .ok (.iload_n 1, 1) := by decide +kernel
theorem d_Ran_entersBasis_126 : decode M_Ran_entersBasis.2.1 126 = .ok (.iload 5, 2) := by decide +kernel
theorem d_Ran_entersBasis_128 : decode M_Ran_entersBasis.2.1 128 = .ok (.invokevirtual 71, 3) := by decide +kernel
theorem d_Ran_entersBasis_131 : decode M_Ran_entersBasis.2.1 131 = .ok (.i2l, 1) := by decide +kernel
theorem d_Ran_entersBasis_132 : decode M_Ran_entersBasis.2.1 132 = .ok (.iload_n 2, 1) := by decide +kernel
theorem d_Ran_entersBasis_133 : decode M_Ran_entersBasis.2.1 133 = .ok (.i2l, 1) := by decide +kernel
theorem d_Ran_entersBasis_134 : decode M_Ran_entersBasis.2.1 134 = .ok (.lmul, 1) := by decide +kernel
theorem d_Ran_entersBasis_135 : decode M_Ran_entersBasis.2.1 135 = .ok (.lsub, 1) := by decide +kernel
theorem d_Ran_entersBasis_136 : decode M_Ran_entersBasis.2.1 136 = .ok (.ldc2_w 74, 3) := by decide +kernel
theorem d_Ran_entersBasis_139 : decode M_Ran_entersBasis.2.1 139 = .ok (.invokestatic 76, 3) := by decide +kernel
theorem d_Ran_entersBasis_142 : decode M_Ran_entersBasis.2.1 142 = .ok (.l2i, 1) := by decide +kernel
theorem d_Ran_entersBasis_143 : decode M_Ran_entersBasis.2.1 143 = .ok (.iastore, 1) := by decide +kernel
theorem d_Ran_entersBasis_144 : decode M_Ran_entersBasis.2.1 144 = .ok (.iinc 5 1, 3) := by decide +kernel
theorem d_Ran_entersBasis_147 : decode M_Ran_entersBasis.2.1 147 = .ok (.goto (-53), 3) := by decide +kernel
theorem d_Ran_entersBasis_150 : decode M_Ran_entersBasis.2.1 150 = .ok (.iinc 1 1, 3) := by decide +kernel
theorem d_Ran_entersBasis_153 : decode M_Ran_entersBasis.2.1 153 = .ok (.goto (-151), 3) := by decide +kernel
theorem d_Ran_entersBasis_156 : decode M_Ran_entersBasis.2.1 156 = .ok (.iconst 0, 1) := by decide +kernel
theorem d_Ran_entersBasis_157 : decode M_Ran_entersBasis.2.1 157 = .ok (.ireturn, 1) := by decide +kernel
theorem d_Ran_basisAt_0 : decode M_Ran_basisAt.2.1 0 = .ok (.iload_n 1, 1) := by decide +kernel
theorem d_Ran_basisAt_1 : decode M_Ran_basisAt.2.1 1 = .ok (.bipush 7, 2) := by decide +kernel
theorem d_Ran_basisAt_3 : decode M_Ran_basisAt.2.1 3 = .ok (.imul, 1) := by decide +kernel
theorem d_Ran_basisAt_4 : decode M_Ran_basisAt.2.1 4 = .ok (.iload_n 2, 1) := by decide +kernel
theorem d_Ran_basisAt_5 : decode M_Ran_basisAt.2.1 5 = .ok (.iadd, 1) := by decide +kernel
theorem d_Ran_basisAt_6 : decode M_Ran_basisAt.2.1 6 = .ok (.istore_n 3, 1) := by decide +kernel
theorem d_Ran_basisAt_7 : decode M_Ran_basisAt.2.1 7 = .ok (.iload_n 3, 1) := by decide +kernel
theorem d_Ran_basisAt_8 : decode M_Ran_basisAt.2.1 8 = .ok (.ifCond .lt 21, 3) := by decide +kernel
theorem d_Ran_basisAt_11 : decode M_Ran_basisAt.2.1 11 = .ok (.iload_n 3, 1) := by decide +kernel
theorem d_Ran_basisAt_12 : decode M_Ran_basisAt.2.1 12 = .ok (.aload_n 0, 1) := by decide +kernel
theorem d_Ran_basisAt_13 : decode M_Ran_basisAt.2.1 13 = .ok (.getfield 23, 3) := by decide +kernel
theorem d_Ran_basisAt_16 : decode M_Ran_basisAt.2.1 16 = .ok (.arraylength, 1) := by decide +kernel
theorem d_Ran_basisAt_17 : decode M_Ran_basisAt.2.1 17 = .ok (.if_icmp .ge 12, 3) := by decide +kernel
theorem d_Ran_basisAt_20 : decode M_Ran_basisAt.2.1 20 = .ok (.aload_n 0, 1) := by decide +kernel
theorem d_Ran_basisAt_21 : decode M_Ran_basisAt.2.1 21 = .ok (.getfield 23, 3) := by decide +kernel
theorem d_Ran_basisAt_24 : decode M_Ran_basisAt.2.1 24 = .ok (.iload_n 3, 1) := by decide +kernel
theorem d_Ran_basisAt_25 : decode M_Ran_basisAt.2.1 25 = .ok (.iaload, 1) := by decide +kernel
theorem d_Ran_basisAt_26 : decode M_Ran_basisAt.2.1 26 = .ok (.goto 4, 3) := by decide +kernel
theorem d_Ran_basisAt_29 : decode M_Ran_basisAt.2.1 29 = .ok (.iconst 0, 1) := by decide +kernel
theorem d_Ran_basisAt_30 : decode M_Ran_basisAt.2.1 30 = .ok (.ireturn, 1) := by decide +kernel
theorem d_SN_madeOf_0 : decode M_SN_madeOf.2.1 0 = .ok (.aload_n 0, 1) := by decide +kernel
theorem d_SN_madeOf_1 : decode M_SN_madeOf.2.1 1 = .ok (.getfield 12, 3) := by decide +kernel
theorem d_SN_madeOf_4 : decode M_SN_madeOf.2.1 4 = .ok (.iload_n 1, 1) := by decide +kernel
theorem d_SN_madeOf_5 : decode M_SN_madeOf.2.1 5 = .ok (.invokevirtual 231, 3) := by decide +kernel
theorem d_SN_madeOf_8 : decode M_SN_madeOf.2.1 8 = .ok (.ifCond .eq 17, 3) := by decide +kernel
theorem d_SN_madeOf_11 : decode M_SN_madeOf.2.1 11 = .ok (.aload_n 0, 1) := by decide +kernel
theorem d_SN_madeOf_12 : decode M_SN_madeOf.2.1 12 = .ok (.getfield 12, 3) := by decide +kernel
theorem d_SN_madeOf_15 : decode M_SN_madeOf.2.1 15 = .ok (.iload_n 1, 1) := by decide +kernel
theorem d_SN_madeOf_16 : decode M_SN_madeOf.2.1 16 = .ok (.invokevirtual 118, 3) := by decide +kernel
theorem d_SN_madeOf_19 : decode M_SN_madeOf.2.1 19 = .ok (.getfield 269, 3) := by decide +kernel
theorem d_SN_madeOf_22 : decode M_SN_madeOf.2.1 22 = .ok (.goto 4, 3) := by decide +kernel
theorem d_SN_madeOf_25 : decode M_SN_madeOf.2.1 25 = .ok (.iconst (-1), 1) := by decide +kernel
theorem d_SN_madeOf_26 : decode M_SN_madeOf.2.1 26 = .ok (.ireturn, 1) := by decide +kernel
theorem d_SN_madeBy_0 : decode M_SN_madeBy.2.1 0 = .ok (.iconst 0, 1) := by decide +kernel
theorem d_SN_madeBy_1 : decode M_SN_madeBy.2.1 1 = .ok (.istore_n 2, 1) := by decide +kernel
theorem d_SN_madeBy_2 : decode M_SN_madeBy.2.1 2 = .ok (.iconst 0, 1) := by decide +kernel
theorem d_SN_madeBy_3 : decode M_SN_madeBy.2.1 3 = .ok (.istore_n 3, 1) := by decide +kernel
theorem d_SN_madeBy_4 : decode M_SN_madeBy.2.1 4 = .ok (.iload_n 3, 1) := by decide +kernel
theorem d_SN_madeBy_5 : decode M_SN_madeBy.2.1 5 = .ok (.aload_n 0, 1) := by decide +kernel
theorem d_SN_madeBy_6 : decode M_SN_madeBy.2.1 6 = .ok (.getfield 12, 3) := by decide +kernel
theorem d_SN_madeBy_9 : decode M_SN_madeBy.2.1 9 = .ok (.getfield 93, 3) := by decide +kernel
theorem d_SN_madeBy_12 : decode M_SN_madeBy.2.1 12 = .ok (.if_icmp .ge 32, 3) := by decide +kernel
theorem d_SN_madeBy_15 : decode M_SN_madeBy.2.1 15 = .ok (.iload_n 2, 1) := by decide +kernel
theorem d_SN_madeBy_16 : decode M_SN_madeBy.2.1 16 = .ok (.aload_n 0, 1) := by decide +kernel
theorem d_SN_madeBy_17 : decode M_SN_madeBy.2.1 17 = .ok (.getfield 12, 3) := by decide +kernel
theorem d_SN_madeBy_20 : decode M_SN_madeBy.2.1 20 = .ok (.iload_n 3, 1) := by decide +kernel
theorem d_SN_madeBy_21 : decode M_SN_madeBy.2.1 21 = .ok (.invokevirtual 118, 3) := by decide +kernel
theorem d_SN_madeBy_24 : decode M_SN_madeBy.2.1 24 = .ok (.getfield 269, 3) := by decide +kernel
theorem d_SN_madeBy_27 : decode M_SN_madeBy.2.1 27 = .ok (.iload_n 1, 1) := by decide +kernel
theorem d_SN_madeBy_28 : decode M_SN_madeBy.2.1 28 = .ok (.if_icmp .ne 7, 3) := by decide +kernel
theorem d_SN_madeBy_31 : decode M_SN_madeBy.2.1 31 = .ok (.iconst 1, 1) := by decide +kernel
theorem d_SN_madeBy_32 : decode M_SN_madeBy.2.1 32 = .ok (.goto 4, 3) := by decide +kernel
theorem d_SN_madeBy_35 : decode M_SN_madeBy.2.1 35 = .ok (.iconst 0, 1) := by decide +kernel
theorem d_SN_madeBy_36 : decode M_SN_madeBy.2.1 36 = .ok (.iadd, 1) := by decide +kernel
theorem d_SN_madeBy_37 : decode M_SN_madeBy.2.1 37 = .ok (.istore_n 2, 1) := by decide +kernel
theorem d_SN_madeBy_38 : decode M_SN_madeBy.2.1 38 = .ok (.iinc 3 1, 3) := by decide +kernel
theorem d_SN_madeBy_41 : decode M_SN_madeBy.2.1 41 = .ok (.goto (-37), 3) := by decide +kernel
theorem d_SN_madeBy_44 : decode M_SN_madeBy.2.1 44 = .ok (.iload_n 2, 1) := by decide +kernel
theorem d_SN_madeBy_45 : decode M_SN_madeBy.2.1 45 = .ok (.ireturn, 1) := by decide +kernel
theorem d_SN_share_0 : decode M_SN_share.2.1 0 = .ok (.aload_n 0, 1) := by decide +kernel
theorem d_SN_share_1 : decode M_SN_share.2.1 1 = .ok (.getfield 72, 3) := by decide +kernel
theorem d_SN_share_4 : decode M_SN_share.2.1 4 = .ok (.iload_n 1, 1) := by decide +kernel
theorem d_SN_share_5 : decode M_SN_share.2.1 5 = .ok (.invokestatic 96, 3) := by decide +kernel
theorem d_SN_share_8 : decode M_SN_share.2.1 8 = .ok (.ifCond .ne 5, 3) := by decide +kernel
theorem d_SN_share_11 : decode M_SN_share.2.1 11 = .ok (.iconst (-1), 1) := by decide +kernel
theorem d_SN_share_12 : decode M_SN_share.2.1 12 = .ok (.ireturn, 1) := by decide +kernel
theorem d_SN_share_13 : decode M_SN_share.2.1 13 = .ok (.iconst 0, 1) := by decide +kernel
theorem d_SN_share_14 : decode M_SN_share.2.1 14 = .ok (.istore_n 2, 1) := by decide +kernel
theorem d_SN_share_15 : decode M_SN_share.2.1 15 = .ok (.iconst 0, 1) := by decide +kernel
theorem d_SN_share_16 : decode M_SN_share.2.1 16 = .ok (.istore_n 3, 1) := by decide +kernel
theorem d_SN_share_17 : decode M_SN_share.2.1 17 = .ok (.iload_n 3, 1) := by decide +kernel
theorem d_SN_share_18 : decode M_SN_share.2.1 18 = .ok (.aload_n 0, 1) := by decide +kernel
theorem d_SN_share_19 : decode M_SN_share.2.1 19 = .ok (.getfield 12, 3) := by decide +kernel
theorem d_SN_share_22 : decode M_SN_share.2.1 22 = .ok (.getfield 93, 3) := by decide +kernel
theorem d_SN_share_25 : decode M_SN_share.2.1 25 = .ok (.if_icmp .ge 35, 3) := by decide +kernel
theorem d_SN_share_28 : decode M_SN_share.2.1 28 = .ok (.iload_n 2, 1) := by decide +kernel
theorem d_SN_share_29 : decode M_SN_share.2.1 29 = .ok (.aload_n 0, 1) := by decide +kernel
theorem d_SN_share_30 : decode M_SN_share.2.1 30 = .ok (.getfield 12, 3) := by decide +kernel
theorem d_SN_share_33 : decode M_SN_share.2.1 33 = .ok (.iload_n 3, 1) := by decide +kernel
theorem d_SN_share_34 : decode M_SN_share.2.1 34 = .ok (.invokevirtual 118, 3) := by decide +kernel
theorem d_SN_share_37 : decode M_SN_share.2.1 37 = .ok (.getfield 269, 3) := by decide +kernel
theorem d_SN_share_40 : decode M_SN_share.2.1 40 = .ok (.iload_n 1, 1) := by decide +kernel
theorem d_SN_share_41 : decode M_SN_share.2.1 41 = .ok (.invokestatic 96, 3) := by decide +kernel
theorem d_SN_share_44 : decode M_SN_share.2.1 44 = .ok (.ifCond .eq 7, 3) := by decide +kernel
theorem d_SN_share_47 : decode M_SN_share.2.1 47 = .ok (.iconst 1, 1) := by decide +kernel
theorem d_SN_share_48 : decode M_SN_share.2.1 48 = .ok (.goto 4, 3) := by decide +kernel
theorem d_SN_share_51 : decode M_SN_share.2.1 51 = .ok (.iconst 0, 1) := by decide +kernel
theorem d_SN_share_52 : decode M_SN_share.2.1 52 = .ok (.iadd, 1) := by decide +kernel
theorem d_SN_share_53 : decode M_SN_share.2.1 53 = .ok (.istore_n 2, 1) := by decide +kernel
theorem d_SN_share_54 : decode M_SN_share.2.1 54 = .ok (.iinc 3 1, 3) := by decide +kernel
theorem d_SN_share_57 : decode M_SN_share.2.1 57 = .ok (.goto (-40), 3) := by decide +kernel
theorem d_SN_share_60 : decode M_SN_share.2.1 60 = .ok (.iload_n 2, 1) := by decide +kernel
theorem d_SN_share_61 : decode M_SN_share.2.1 61 = .ok (.ireturn, 1) := by decide +kernel
theorem d_SN_threes_0 : decode M_SN_threes.2.1 0 = .ok (.iconst 0, 1) := by decide +kernel
theorem d_SN_threes_1 : decode M_SN_threes.2.1 1 = .ok (.istore_n 1, 1) := by decide +kernel
theorem d_SN_threes_2 : decode M_SN_threes.2.1 2 = .ok (.iconst 0, 1) := by decide +kernel
theorem d_SN_threes_3 : decode M_SN_threes.2.1 3 = .ok (.istore_n 2, 1) := by decide +kernel
theorem d_SN_threes_4 : decode M_SN_threes.2.1 4 = .ok (.iload_n 2, 1) := by decide +kernel
theorem d_SN_threes_5 : decode M_SN_threes.2.1 5 = .ok (.aload_n 0, 1) := by decide +kernel
theorem d_SN_threes_6 : decode M_SN_threes.2.1 6 = .ok (.getfield 12, 3) := by decide +kernel
theorem d_SN_threes_9 : decode M_SN_threes.2.1 9 = .ok (.getfield 93, 3) := by decide +kernel
theorem d_SN_threes_12 : decode M_SN_threes.2.1 12 = .ok (.if_icmp .ge 28, 3) := by decide +kernel
theorem d_SN_threes_15 : decode M_SN_threes.2.1 15 = .ok (.iload_n 1, 1) := by decide +kernel
theorem d_SN_threes_16 : decode M_SN_threes.2.1 16 = .ok (.aload_n 0, 1) := by decide +kernel
theorem d_SN_threes_17 : decode M_SN_threes.2.1 17 = .ok (.getfield 12, 3) := by decide +kernel
theorem d_SN_threes_20 : decode M_SN_threes.2.1 20 = .ok (.iload_n 2, 1) := by decide +kernel
theorem d_SN_threes_21 : decode M_SN_threes.2.1 21 = .ok (.invokevirtual 272, 3) := by decide +kernel
theorem d_SN_threes_24 : decode M_SN_threes.2.1 24 = .ok (.ifCond .eq 7, 3) := by decide +kernel
theorem d_SN_threes_27 : decode M_SN_threes.2.1 27 = .ok (.iconst 1, 1) := by decide +kernel
theorem d_SN_threes_28 : decode M_SN_threes.2.1 28 = .ok (.goto 4, 3) := by decide +kernel
theorem d_SN_threes_31 : decode M_SN_threes.2.1 31 = .ok (.iconst 0, 1) := by decide +kernel
theorem d_SN_threes_32 : decode M_SN_threes.2.1 32 = .ok (.iadd, 1) := by decide +kernel
theorem d_SN_threes_33 : decode M_SN_threes.2.1 33 = .ok (.istore_n 1, 1) := by decide +kernel
theorem d_SN_threes_34 : decode M_SN_threes.2.1 34 = .ok (.iinc 2 1, 3) := by decide +kernel
theorem d_SN_threes_37 : decode M_SN_threes.2.1 37 = .ok (.goto (-33), 3) := by decide +kernel
theorem d_SN_threes_40 : decode M_SN_threes.2.1 40 = .ok (.iload_n 1, 1) := by decide +kernel
theorem d_SN_threes_41 : decode M_SN_threes.2.1 41 = .ok (.ireturn, 1) := by decide +kernel
theorem d_SN_meanLength_0 : decode M_SN_meanLength.2.1 0 = .ok (.aload_n 0, 1) := by decide +kernel
theorem d_SN_meanLength_1 : decode M_SN_meanLength.2.1 1 = .ok (.getfield 12, 3) := by decide +kernel
theorem d_SN_meanLength_4 : decode M_SN_meanLength.2.1 4 = .ok (.getfield 93, 3) := by decide +kernel
theorem d_SN_meanLength_7 : decode M_SN_meanLength.2.1 7 = .ok (.ifCond .ne 5, 3) := by decide +kernel
theorem d_SN_meanLength_10 : decode M_SN_meanLength.2.1 10 = .ok (.iconst 0, 1) := by decide +kernel
theorem d_SN_meanLength_11 : decode M_SN_meanLength.2.1 11 = .ok (.ireturn, 1) := by decide +kernel
theorem d_SN_meanLength_12 : decode M_SN_meanLength.2.1 12 = .ok (.iconst 0, 1) := by decide +kernel
theorem d_SN_meanLength_13 : decode M_SN_meanLength.2.1 13 = .ok (.istore_n 1, 1) := by decide +kernel
theorem d_SN_meanLength_14 : decode M_SN_meanLength.2.1 14 = .ok (.iconst 0, 1) := by decide +kernel
theorem d_SN_meanLength_15 : decode M_SN_meanLength.2.1 15 = .ok (.istore_n 2, 1) := by decide +kernel
theorem d_SN_meanLength_16 : decode M_SN_meanLength.2.1 16 = .ok (.iload_n 2, 1) := by decide +kernel
theorem d_SN_meanLength_17 : decode M_SN_meanLength.2.1 17 = .ok (.aload_n 0, 1) := by decide +kernel
theorem d_SN_meanLength_18 : decode M_SN_meanLength.2.1 18 = .ok (.getfield 12, 3) := by decide +kernel
theorem d_SN_meanLength_21 : decode M_SN_meanLength.2.1 21 = .ok (.getfield 93, 3) := by decide +kernel
theorem d_SN_meanLength_24 : decode M_SN_meanLength.2.1 24 = .ok (.if_icmp .ge 26, 3) := by decide +kernel
theorem d_SN_meanLength_27 : decode M_SN_meanLength.2.1 27 = .ok (.iload_n 1, 1) := by decide +kernel
theorem d_SN_meanLength_28 : decode M_SN_meanLength.2.1 28 = .ok (.aload_n 0, 1) := by decide +kernel
theorem d_SN_meanLength_29 : decode M_SN_meanLength.2.1 29 = .ok (.getfield 12, 3) := by decide +kernel
theorem d_SN_meanLength_32 : decode M_SN_meanLength.2.1 32 = .ok (.iload_n 2, 1) := by decide +kernel
theorem d_SN_meanLength_33 : decode M_SN_meanLength.2.1 33 = .ok (.invokevirtual 118, 3) := by decide +kernel
theorem d_SN_meanLength_36 : decode M_SN_meanLength.2.1 36 = .ok (.getfield 122, 3) := by decide +kernel
theorem d_SN_meanLength_39 : decode M_SN_meanLength.2.1 39 = .ok (.invokevirtual 127, 3) := by decide +kernel
theorem d_SN_meanLength_42 : decode M_SN_meanLength.2.1 42 = .ok (.iadd, 1) := by decide +kernel
theorem d_SN_meanLength_43 : decode M_SN_meanLength.2.1 43 = .ok (.istore_n 1, 1) := by decide +kernel
theorem d_SN_meanLength_44 : decode M_SN_meanLength.2.1 44 = .ok (.iinc 2 1, 3) := by decide +kernel
theorem d_SN_meanLength_47 : decode M_SN_meanLength.2.1 47 = .ok (.goto (-31), 3) := by decide +kernel
theorem d_SN_meanLength_50 : decode M_SN_meanLength.2.1 50 = .ok (.iload_n 1, 1) := by decide +kernel
theorem d_SN_meanLength_51 : decode M_SN_meanLength.2.1 51 = .ok (.i2f, 1) := by decide +kernel
theorem d_SN_meanLength_52 : decode M_SN_meanLength.2.1 52 = .ok (.aload_n 0, 1) := by decide +kernel
theorem d_SN_meanLength_53 : decode M_SN_meanLength.2.1 53 = .ok (.getfield 12, 3) := by decide +kernel
theorem d_SN_meanLength_56 : decode M_SN_meanLength.2.1 56 = .ok (.getfield 93, 3) := by decide +kernel
theorem d_SN_meanLength_59 : decode M_SN_meanLength.2.1 59 = .ok (.i2f, 1) := by decide +kernel
theorem d_SN_meanLength_60 : decode M_SN_meanLength.2.1 60 = .ok (.fdiv, 1) := by decide +kernel
theorem d_SN_meanLength_61 : decode M_SN_meanLength.2.1 61 = .ok (.invokestatic 275, 3) := by decide +kernel
theorem d_SN_meanLength_64 : decode M_SN_meanLength.2.1 64 = .ok (.ireturn, 1) := by decide +kernel
theorem d_SN_floatBits_0 : decode M_SN_floatBits.2.1 0 = .ok (.fload_n 0, 1) := by decide +kernel
theorem d_SN_floatBits_1 : decode M_SN_floatBits.2.1 1 = .ok (.fstore_n 1, 1) := by decide +kernel
theorem d_SN_floatBits_2 : decode M_SN_floatBits.2.1 2 = .ok (.bipush 127, 2) := by decide +kernel
theorem d_SN_floatBits_4 : decode M_SN_floatBits.2.1 4 = .ok (.istore_n 2, 1) := by decide +kernel
theorem d_SN_floatBits_5 : decode M_SN_floatBits.2.1 5 = .ok (.iconst 0, 1) := by decide +kernel
theorem d_SN_floatBits_6 : decode M_SN_floatBits.2.1 6 = .ok (.istore_n 3, 1) := by decide +kernel
theorem d_SN_floatBits_7 : decode M_SN_floatBits.2.1 7 = .ok (.iload_n 3, 1) := by decide +kernel
theorem d_SN_floatBits_8 : decode M_SN_floatBits.2.1 8 = .ok (.bipush 127, 2) := by decide +kernel
theorem d_SN_floatBits_10 : decode M_SN_floatBits.2.1 10 = .ok (.if_icmp .ge 22, 3) := by decide +kernel
theorem d_SN_floatBits_13 : decode M_SN_floatBits.2.1 13 = .ok (.fload_n 1, 1) := by decide +kernel
theorem d_SN_floatBits_14 : decode M_SN_floatBits.2.1 14 = .ok (.fconst 2, 1) := by decide +kernel
theorem d_SN_floatBits_15 : decode M_SN_floatBits.2.1 15 = .ok (.fcmp .l, 1) := by decide +kernel
theorem d_SN_floatBits_16 : decode M_SN_floatBits.2.1 16 = .ok (.ifCond .lt 16, 3) := by decide +kernel
theorem d_SN_floatBits_19 : decode M_SN_floatBits.2.1 19 = .ok (.fload_n 1, 1) := by decide +kernel
theorem d_SN_floatBits_20 : decode M_SN_floatBits.2.1 20 = .ok (.fconst 2, 1) := by decide +kernel
theorem d_SN_floatBits_21 : decode M_SN_floatBits.2.1 21 = .ok (.fdiv, 1) := by decide +kernel
theorem d_SN_floatBits_22 : decode M_SN_floatBits.2.1 22 = .ok (.fstore_n 1, 1) := by decide +kernel
theorem d_SN_floatBits_23 : decode M_SN_floatBits.2.1 23 = .ok (.iinc 2 1, 3) := by decide +kernel
theorem d_SN_floatBits_26 : decode M_SN_floatBits.2.1 26 = .ok (.iinc 3 1, 3) := by decide +kernel
theorem d_SN_floatBits_29 : decode M_SN_floatBits.2.1 29 = .ok (.goto (-22), 3) := by decide +kernel
theorem d_SN_floatBits_32 : decode M_SN_floatBits.2.1 32 = .ok (.iload_n 2, 1) := by decide +kernel
theorem d_SN_floatBits_33 : decode M_SN_floatBits.2.1 33 = .ok (.bipush 23, 2) := by decide +kernel
theorem d_SN_floatBits_35 : decode M_SN_floatBits.2.1 35 = .ok (.ishl, 1) := by decide +kernel
theorem d_SN_floatBits_36 : decode M_SN_floatBits.2.1 36 = .ok (.fload_n 1, 1) := by decide +kernel
theorem d_SN_floatBits_37 : decode M_SN_floatBits.2.1 37 = .ok (.fconst 1, 1) := by decide +kernel
theorem d_SN_floatBits_38 : decode M_SN_floatBits.2.1 38 = .ok (.fsub, 1) := by decide +kernel
theorem d_SN_floatBits_39 : decode M_SN_floatBits.2.1 39 = .ok (.ldc_w 400, 3) := by decide +kernel
theorem d_SN_floatBits_42 : decode M_SN_floatBits.2.1 42 = .ok (.fmul, 1) := by decide +kernel
theorem d_SN_floatBits_43 : decode M_SN_floatBits.2.1 43 = .ok (.f2i, 1) := by decide +kernel
theorem d_SN_floatBits_44 : decode M_SN_floatBits.2.1 44 = .ok (.ior, 1) := by decide +kernel
theorem d_SN_floatBits_45 : decode M_SN_floatBits.2.1 45 = .ok (.ireturn, 1) := by decide +kernel
theorem d_SN_would_0 : decode M_SN_would.2.1 0 = .ok (.aload_n 0, 1) := by decide +kernel
theorem d_SN_would_1 : decode M_SN_would.2.1 1 = .ok (.iload_n 1, 1) := by decide +kernel
theorem d_SN_would_2 : decode M_SN_would.2.1 2 = .ok (.invokevirtual 83, 3) := by decide +kernel
theorem d_SN_would_5 : decode M_SN_would.2.1 5 = .ok (.ifCond .eq 22, 3) := by decide +kernel
theorem d_SN_would_8 : decode M_SN_would.2.1 8 = .ok (.aload_n 0, 1) := by decide +kernel
theorem d_SN_would_9 : decode M_SN_would.2.1 9 = .ok (.getfield 12, 3) := by decide +kernel
theorem d_SN_would_12 : decode M_SN_would.2.1 12 = .ok (.aload_n 0, 1) := by decide +kernel
theorem d_SN_would_13 : decode M_SN_would.2.1 13 = .ok (.getfield 72, 3) := by decide +kernel
theorem d_SN_would_16 : decode M_SN_would.2.1 16 = .ok (.iload_n 1, 1) := by decide +kernel
theorem d_SN_would_17 : decode M_SN_would.2.1 17 = .ok (.invokestatic 87, 3) := by decide +kernel
theorem d_SN_would_20 : decode M_SN_would.2.1 20 = .ok (.ior, 1) := by decide +kernel
theorem d_SN_would_21 : decode M_SN_would.2.1 21 = .ok (.invokevirtual 279, 3) := by decide +kernel
theorem d_SN_would_24 : decode M_SN_would.2.1 24 = .ok (.goto 4, 3) := by decide +kernel
theorem d_SN_would_27 : decode M_SN_would.2.1 27 = .ok (.iconst (-1), 1) := by decide +kernel
theorem d_SN_would_28 : decode M_SN_would.2.1 28 = .ok (.ireturn, 1) := by decide +kernel
theorem d_Sea_couplesFor_0 : decode M_Sea_couplesFor.2.1 0 = .ok (.iconst 0, 1) := by decide +kernel
theorem d_Sea_couplesFor_1 : decode M_Sea_couplesFor.2.1 1 = .ok (.istore_n 2, 1) := by decide +kernel
theorem d_Sea_couplesFor_2 : decode M_Sea_couplesFor.2.1 2 = .ok (.iconst 0, 1) := by decide +kernel
