theorem dX11_houseLine_0 : decode cX11_houseLine 0 = .ok (.aload_n 0, 1) := dk_42 rfl
theorem dX11_houseLine_1 : decode cX11_houseLine 1 = .ok (.getfield 23, 3) := dk_180 rfl rfl rfl rfl
theorem dX11_houseLine_4 : decode cX11_houseLine 4 = .ok (.bipush 15, 2) := dk_16 rfl rfl (by decide)
theorem dX11_houseLine_6 : decode cX11_houseLine 6 = .ok (.iaload, 1) := dk_46 rfl
theorem dX11_houseLine_7 : decode cX11_houseLine 7 = .ok (.iconst 1, 1) := dk_4 rfl
theorem dX11_houseLine_8 : decode cX11_houseLine 8 = .ok (.if_icmp .ne 12, 3) := dk_160 rfl rfl rfl (by decide)
theorem dX11_houseLine_11 : decode cX11_houseLine 11 = .ok (.aload_n 0, 1) := dk_42 rfl
theorem dX11_houseLine_12 : decode cX11_houseLine 12 = .ok (.iconst 3, 1) := dk_6 rfl
theorem dX11_houseLine_13 : decode cX11_houseLine 13 = .ok (.aload_n 0, 1) := dk_42 rfl
theorem dX11_houseLine_14 : decode cX11_houseLine 14 = .ok (.getfield 102, 3) := dk_180 rfl rfl rfl rfl
theorem dX11_houseLine_17 : decode cX11_houseLine 17 = .ok (.invokevirtual 148, 3) := dk_182 rfl rfl rfl rfl
theorem dX11_houseLine_20 : decode cX11_houseLine 20 = .ok (.aload_n 0, 1) := dk_42 rfl
theorem dX11_houseLine_21 : decode cX11_houseLine 21 = .ok (.getfield 121, 3) := dk_180 rfl rfl rfl rfl
theorem dX11_houseLine_24 : decode cX11_houseLine 24 = .ok (.ifCond .eq 4, 3) := dk_153 rfl rfl rfl (by decide)
theorem dX11_houseLine_27 : decode cX11_houseLine 27 = .ok (.return_, 1) := dk_177 rfl
theorem dX11_houseLine_28 : decode cX11_houseLine 28 = .ok (.aload_n 0, 1) := dk_42 rfl
theorem dX11_houseLine_29 : decode cX11_houseLine 29 = .ok (.invokevirtual 142, 3) := dk_182 rfl rfl rfl rfl
theorem dX11_houseLine_32 : decode cX11_houseLine 32 = .ok (.aload_n 0, 1) := dk_42 rfl
theorem dX11_houseLine_33 : decode cX11_houseLine 33 = .ok (.getfield 23, 3) := dk_180 rfl rfl rfl rfl
theorem dX11_houseLine_36 : decode cX11_houseLine 36 = .ok (.iconst 0, 1) := dk_3 rfl
theorem dX11_houseLine_37 : decode cX11_houseLine 37 = .ok (.aload_n 0, 1) := dk_42 rfl
theorem dX11_houseLine_38 : decode cX11_houseLine 38 = .ok (.ldc_w 262, 3) := dk_19 rfl rfl rfl rfl
theorem dX11_houseLine_41 : decode cX11_houseLine 41 = .ok (.iconst 1, 1) := dk_4 rfl
theorem dX11_houseLine_42 : decode cX11_houseLine 42 = .ok (.bipush 50, 2) := dk_16 rfl rfl (by decide)
theorem dX11_houseLine_44 : decode cX11_houseLine 44 = .ok (.invokevirtual 264, 3) := dk_182 rfl rfl rfl rfl
theorem dX11_houseLine_47 : decode cX11_houseLine 47 = .ok (.iastore, 1) := dk_79 rfl
theorem dX11_houseLine_48 : decode cX11_houseLine 48 = .ok (.aload_n 0, 1) := dk_42 rfl
theorem dX11_houseLine_49 : decode cX11_houseLine 49 = .ok (.getfield 23, 3) := dk_180 rfl rfl rfl rfl
theorem dX11_houseLine_52 : decode cX11_houseLine 52 = .ok (.iconst 1, 1) := dk_4 rfl
theorem dX11_houseLine_53 : decode cX11_houseLine 53 = .ok (.aload_n 0, 1) := dk_42 rfl
theorem dX11_houseLine_54 : decode cX11_houseLine 54 = .ok (.ldc_w 268, 3) := dk_19 rfl rfl rfl rfl
theorem dX11_houseLine_57 : decode cX11_houseLine 57 = .ok (.iconst 0, 1) := dk_3 rfl
theorem dX11_houseLine_58 : decode cX11_houseLine 58 = .ok (.bipush 50, 2) := dk_16 rfl rfl (by decide)
theorem dX11_houseLine_60 : decode cX11_houseLine 60 = .ok (.invokevirtual 264, 3) := dk_182 rfl rfl rfl rfl
theorem dX11_houseLine_63 : decode cX11_houseLine 63 = .ok (.iastore, 1) := dk_79 rfl
theorem dX11_houseLine_64 : decode cX11_houseLine 64 = .ok (.aload_n 0, 1) := dk_42 rfl
theorem dX11_houseLine_65 : decode cX11_houseLine 65 = .ok (.getfield 23, 3) := dk_180 rfl rfl rfl rfl
theorem dX11_houseLine_68 : decode cX11_houseLine 68 = .ok (.iconst 2, 1) := dk_5 rfl
theorem dX11_houseLine_69 : decode cX11_houseLine 69 = .ok (.aload_n 0, 1) := dk_42 rfl
theorem dX11_houseLine_70 : decode cX11_houseLine 70 = .ok (.ldc_w 269, 3) := dk_19 rfl rfl rfl rfl
theorem dX11_houseLine_73 : decode cX11_houseLine 73 = .ok (.iconst 0, 1) := dk_3 rfl
theorem dX11_houseLine_74 : decode cX11_houseLine 74 = .ok (.bipush 99, 2) := dk_16 rfl rfl (by decide)
theorem dX11_houseLine_76 : decode cX11_houseLine 76 = .ok (.invokevirtual 264, 3) := dk_182 rfl rfl rfl rfl
theorem dX11_houseLine_79 : decode cX11_houseLine 79 = .ok (.iastore, 1) := dk_79 rfl
theorem dX11_houseLine_80 : decode cX11_houseLine 80 = .ok (.aload_n 0, 1) := dk_42 rfl
theorem dX11_houseLine_81 : decode cX11_houseLine 81 = .ok (.getfield 23, 3) := dk_180 rfl rfl rfl rfl
theorem dX11_houseLine_84 : decode cX11_houseLine 84 = .ok (.iconst 3, 1) := dk_6 rfl
theorem dX11_houseLine_85 : decode cX11_houseLine 85 = .ok (.aload_n 0, 1) := dk_42 rfl
theorem dX11_houseLine_86 : decode cX11_houseLine 86 = .ok (.ldc_w 271, 3) := dk_19 rfl rfl rfl rfl
theorem dX11_houseLine_89 : decode cX11_houseLine 89 = .ok (.iconst 1, 1) := dk_4 rfl
theorem dX11_houseLine_90 : decode cX11_houseLine 90 = .ok (.sipush 9999, 3) := dk_17 rfl rfl rfl (by decide)
theorem dX11_houseLine_93 : decode cX11_houseLine 93 = .ok (.invokevirtual 264, 3) := dk_182 rfl rfl rfl rfl
theorem dX11_houseLine_96 : decode cX11_houseLine 96 = .ok (.iastore, 1) := dk_79 rfl
theorem dX11_houseLine_97 : decode cX11_houseLine 97 = .ok (.aload_n 0, 1) := by decide +kernel
theorem dX11_houseLine_98 : decode cX11_houseLine 98 = .ok (.getfield 23, 3) := by decide +kernel
theorem dX11_houseLine_101 : decode cX11_houseLine 101 = .ok (.iconst 4, 1) := by decide +kernel
theorem dX11_houseLine_102 : decode cX11_houseLine 102 = .ok (.aload_n 0, 1) := by decide +kernel
theorem dX11_houseLine_103 : decode cX11_houseLine 103 = .ok (.ldc_w 273, 3) := by decide +kernel
theorem dX11_houseLine_106 : decode cX11_houseLine 106 = .ok (.iconst 0, 1) := by decide +kernel
theorem dX11_houseLine_107 : decode cX11_houseLine 107 = .ok (.sipush 999, 3) := by decide +kernel
theorem dX11_houseLine_110 : decode cX11_houseLine 110 = .ok (.invokevirtual 264, 3) := by decide +kernel
theorem dX11_houseLine_113 : decode cX11_houseLine 113 = .ok (.iastore, 1) := by decide +kernel
theorem dX11_houseLine_114 : decode cX11_houseLine 114 = .ok (.aload_n 0, 1) := by decide +kernel
theorem dX11_houseLine_115 : decode cX11_houseLine 115 = .ok (.getfield 23, 3) := by decide +kernel
theorem dX11_houseLine_118 : decode cX11_houseLine 118 = .ok (.iconst 5, 1) := by decide +kernel
theorem dX11_houseLine_119 : decode cX11_houseLine 119 = .ok (.aload_n 0, 1) := by decide +kernel
theorem dX11_houseLine_120 : decode cX11_houseLine 120 = .ok (.ldc_w 275, 3) := by decide +kernel
theorem dX11_houseLine_123 : decode cX11_houseLine 123 = .ok (.iconst 0, 1) := by decide +kernel
theorem dX11_houseLine_124 : decode cX11_houseLine 124 = .ok (.sipush 999, 3) := by decide +kernel
theorem dX11_houseLine_127 : decode cX11_houseLine 127 = .ok (.invokevirtual 264, 3) := by decide +kernel
theorem dX11_houseLine_130 : decode cX11_houseLine 130 = .ok (.iastore, 1) := by decide +kernel
theorem dX11_houseLine_131 : decode cX11_houseLine 131 = .ok (.aload_n 0, 1) := by decide +kernel
theorem dX11_houseLine_132 : decode cX11_houseLine 132 = .ok (.getfield 121, 3) := by decide +kernel
theorem dX11_houseLine_135 : decode cX11_houseLine 135 = .ok (.ifCond .ne 11, 3) := by decide +kernel
theorem dX11_houseLine_138 : decode cX11_houseLine 138 = .ok (.aload_n 0, 1) := by decide +kernel
theorem dX11_houseLine_139 : decode cX11_houseLine 139 = .ok (.getfield 23, 3) := by decide +kernel
theorem dX11_houseLine_142 : decode cX11_houseLine 142 = .ok (.bipush 15, 2) := by decide +kernel
theorem dX11_houseLine_144 : decode cX11_houseLine 144 = .ok (.iconst 1, 1) := by decide +kernel
theorem dX11_houseLine_145 : decode cX11_houseLine 145 = .ok (.iastore, 1) := by decide +kernel
theorem dX11_houseLine_146 : decode cX11_houseLine 146 = .ok (.return_, 1) := by decide +kernel
theorem dX11_reelLine_0 : decode cX11_reelLine 0 = .ok (.aload_n 0, 1) := dk_42 rfl
theorem dX11_reelLine_1 : decode cX11_reelLine 1 = .ok (.getfield 121, 3) := dk_180 rfl rfl rfl rfl
theorem dX11_reelLine_4 : decode cX11_reelLine 4 = .ok (.ifCond .eq 4, 3) := dk_153 rfl rfl rfl (by decide)
theorem dX11_reelLine_7 : decode cX11_reelLine 7 = .ok (.return_, 1) := dk_177 rfl
theorem dX11_reelLine_8 : decode cX11_reelLine 8 = .ok (.bipush 16, 2) := dk_16 rfl rfl (by decide)
theorem dX11_reelLine_10 : decode cX11_reelLine 10 = .ok (.iconst 3, 1) := dk_6 rfl
theorem dX11_reelLine_11 : decode cX11_reelLine 11 = .ok (.aload_n 0, 1) := dk_42 rfl
theorem dX11_reelLine_12 : decode cX11_reelLine 12 = .ok (.getfield 23, 3) := dk_180 rfl rfl rfl rfl
theorem dX11_reelLine_15 : decode cX11_reelLine 15 = .ok (.bipush 6, 2) := dk_16 rfl rfl (by decide)
theorem dX11_reelLine_17 : decode cX11_reelLine 17 = .ok (.iaload, 1) := dk_46 rfl
theorem dX11_reelLine_18 : decode cX11_reelLine 18 = .ok (.imul, 1) := dk_104 rfl
theorem dX11_reelLine_19 : decode cX11_reelLine 19 = .ok (.iadd, 1) := dk_96 rfl
theorem dX11_reelLine_20 : decode cX11_reelLine 20 = .ok (.istore_n 1, 1) := dk_60 rfl
theorem dX11_reelLine_21 : decode cX11_reelLine 21 = .ok (.aload_n 0, 1) := dk_42 rfl
theorem dX11_reelLine_22 : decode cX11_reelLine 22 = .ok (.aload_n 0, 1) := dk_42 rfl
theorem dX11_reelLine_23 : decode cX11_reelLine 23 = .ok (.getfield 23, 3) := dk_180 rfl rfl rfl rfl
theorem dX11_reelLine_26 : decode cX11_reelLine 26 = .ok (.bipush 6, 2) := dk_16 rfl rfl (by decide)
theorem dX11_reelLine_28 : decode cX11_reelLine 28 = .ok (.iaload, 1) := dk_46 rfl
theorem dX11_reelLine_29 : decode cX11_reelLine 29 = .ok (.invokevirtual 277, 3) := dk_182 rfl rfl rfl rfl
theorem dX11_reelLine_32 : decode cX11_reelLine 32 = .ok (.aload_n 0, 1) := dk_42 rfl
theorem dX11_reelLine_33 : decode cX11_reelLine 33 = .ok (.getfield 23, 3) := dk_180 rfl rfl rfl rfl
theorem dX11_reelLine_36 : decode cX11_reelLine 36 = .ok (.iload_n 1, 1) := dk_27 rfl
theorem dX11_reelLine_37 : decode cX11_reelLine 37 = .ok (.aload_n 0, 1) := dk_42 rfl
theorem dX11_reelLine_38 : decode cX11_reelLine 38 = .ok (.ldc_w 281, 3) := dk_19 rfl rfl rfl rfl
theorem dX11_reelLine_41 : decode cX11_reelLine 41 = .ok (.iconst 2, 1) := dk_5 rfl
theorem dX11_reelLine_42 : decode cX11_reelLine 42 = .ok (.sipush 2000, 3) := dk_17 rfl rfl rfl (by decide)
theorem dX11_reelLine_45 : decode cX11_reelLine 45 = .ok (.invokevirtual 264, 3) := dk_182 rfl rfl rfl rfl
theorem dX11_reelLine_48 : decode cX11_reelLine 48 = .ok (.iastore, 1) := dk_79 rfl
theorem dX11_reelLine_49 : decode cX11_reelLine 49 = .ok (.aload_n 0, 1) := dk_42 rfl
theorem dX11_reelLine_50 : decode cX11_reelLine 50 = .ok (.getfield 23, 3) := dk_180 rfl rfl rfl rfl
theorem dX11_reelLine_53 : decode cX11_reelLine 53 = .ok (.iload_n 1, 1) := dk_27 rfl
theorem dX11_reelLine_54 : decode cX11_reelLine 54 = .ok (.iconst 1, 1) := dk_4 rfl
theorem dX11_reelLine_55 : decode cX11_reelLine 55 = .ok (.iadd, 1) := dk_96 rfl
theorem dX11_reelLine_56 : decode cX11_reelLine 56 = .ok (.aload_n 0, 1) := dk_42 rfl
theorem dX11_reelLine_57 : decode cX11_reelLine 57 = .ok (.ldc_w 283, 3) := dk_19 rfl rfl rfl rfl
theorem dX11_reelLine_60 : decode cX11_reelLine 60 = .ok (.iconst 0, 1) := dk_3 rfl
theorem dX11_reelLine_61 : decode cX11_reelLine 61 = .ok (.aload_n 0, 1) := dk_42 rfl
theorem dX11_reelLine_62 : decode cX11_reelLine 62 = .ok (.getfield 23, 3) := dk_180 rfl rfl rfl rfl
theorem dX11_reelLine_65 : decode cX11_reelLine 65 = .ok (.iload_n 1, 1) := dk_27 rfl
theorem dX11_reelLine_66 : decode cX11_reelLine 66 = .ok (.iaload, 1) := dk_46 rfl
theorem dX11_reelLine_67 : decode cX11_reelLine 67 = .ok (.iconst 1, 1) := dk_4 rfl
theorem dX11_reelLine_68 : decode cX11_reelLine 68 = .ok (.isub, 1) := dk_100 rfl
theorem dX11_reelLine_69 : decode cX11_reelLine 69 = .ok (.invokevirtual 264, 3) := dk_182 rfl rfl rfl rfl
theorem dX11_reelLine_72 : decode cX11_reelLine 72 = .ok (.iastore, 1) := dk_79 rfl
theorem dX11_reelLine_73 : decode cX11_reelLine 73 = .ok (.aload_n 0, 1) := dk_42 rfl
theorem dX11_reelLine_74 : decode cX11_reelLine 74 = .ok (.getfield 23, 3) := dk_180 rfl rfl rfl rfl
theorem dX11_reelLine_77 : decode cX11_reelLine 77 = .ok (.iload_n 1, 1) := dk_27 rfl
theorem dX11_reelLine_78 : decode cX11_reelLine 78 = .ok (.iconst 2, 1) := dk_5 rfl
theorem dX11_reelLine_79 : decode cX11_reelLine 79 = .ok (.iadd, 1) := dk_96 rfl
theorem dX11_reelLine_80 : decode cX11_reelLine 80 = .ok (.aload_n 0, 1) := dk_42 rfl
theorem dX11_reelLine_81 : decode cX11_reelLine 81 = .ok (.ldc_w 285, 3) := dk_19 rfl rfl rfl rfl
theorem dX11_reelLine_84 : decode cX11_reelLine 84 = .ok (.aload_n 0, 1) := dk_42 rfl
theorem dX11_reelLine_85 : decode cX11_reelLine 85 = .ok (.getfield 23, 3) := dk_180 rfl rfl rfl rfl
theorem dX11_reelLine_88 : decode cX11_reelLine 88 = .ok (.iload_n 1, 1) := dk_27 rfl
theorem dX11_reelLine_89 : decode cX11_reelLine 89 = .ok (.iaload, 1) := dk_46 rfl
theorem dX11_reelLine_90 : decode cX11_reelLine 90 = .ok (.sipush 2000, 3) := dk_17 rfl rfl rfl (by decide)
theorem dX11_reelLine_93 : decode cX11_reelLine 93 = .ok (.invokevirtual 264, 3) := dk_182 rfl rfl rfl rfl
theorem dX11_reelLine_96 : decode cX11_reelLine 96 = .ok (.iastore, 1) := dk_79 rfl
theorem dX11_reelLine_97 : decode cX11_reelLine 97 = .ok (.aload_n 0, 1) := by decide +kernel
theorem dX11_reelLine_98 : decode cX11_reelLine 98 = .ok (.getfield 121, 3) := by decide +kernel
theorem dX11_reelLine_101 : decode cX11_reelLine 101 = .ok (.ifCond .ne 14, 3) := by decide +kernel
theorem dX11_reelLine_104 : decode cX11_reelLine 104 = .ok (.aload_n 0, 1) := by decide +kernel
theorem dX11_reelLine_105 : decode cX11_reelLine 105 = .ok (.getfield 23, 3) := by decide +kernel
theorem dX11_reelLine_108 : decode cX11_reelLine 108 = .ok (.bipush 6, 2) := by decide +kernel
theorem dX11_reelLine_110 : decode cX11_reelLine 110 = .ok (.dup2, 1) := by decide +kernel
theorem dX11_reelLine_111 : decode cX11_reelLine 111 = .ok (.iaload, 1) := by decide +kernel
theorem dX11_reelLine_112 : decode cX11_reelLine 112 = .ok (.iconst 1, 1) := by decide +kernel
theorem dX11_reelLine_113 : decode cX11_reelLine 113 = .ok (.iadd, 1) := by decide +kernel
theorem dX11_reelLine_114 : decode cX11_reelLine 114 = .ok (.iastore, 1) := by decide +kernel
theorem dX11_reelLine_115 : decode cX11_reelLine 115 = .ok (.return_, 1) := by decide +kernel
theorem dX11_townLine_0 : decode cX11_townLine 0 = .ok (.aload_n 0, 1) := dk_42 rfl
theorem dX11_townLine_1 : decode cX11_townLine 1 = .ok (.getfield 121, 3) := dk_180 rfl rfl rfl rfl
theorem dX11_townLine_4 : decode cX11_townLine 4 = .ok (.ifCond .eq 4, 3) := dk_153 rfl rfl rfl (by decide)
theorem dX11_townLine_7 : decode cX11_townLine 7 = .ok (.return_, 1) := dk_177 rfl
theorem dX11_townLine_8 : decode cX11_townLine 8 = .ok (.aload_n 0, 1) := dk_42 rfl
theorem dX11_townLine_9 : decode cX11_townLine 9 = .ok (.bipush 8, 2) := dk_16 rfl rfl (by decide)
theorem dX11_townLine_11 : decode cX11_townLine 11 = .ok (.aload_n 0, 1) := dk_42 rfl
theorem dX11_townLine_12 : decode cX11_townLine 12 = .ok (.getfield 23, 3) := dk_180 rfl rfl rfl rfl
theorem dX11_townLine_15 : decode cX11_townLine 15 = .ok (.bipush 7, 2) := dk_16 rfl rfl (by decide)
theorem dX11_townLine_17 : decode cX11_townLine 17 = .ok (.iaload, 1) := dk_46 rfl
theorem dX11_townLine_18 : decode cX11_townLine 18 = .ok (.iadd, 1) := dk_96 rfl
theorem dX11_townLine_19 : decode cX11_townLine 19 = .ok (.invokevirtual 277, 3) := dk_182 rfl rfl rfl rfl
theorem dX11_townLine_22 : decode cX11_townLine 22 = .ok (.aload_n 0, 1) := dk_42 rfl
theorem dX11_townLine_23 : decode cX11_townLine 23 = .ok (.getfield 23, 3) := dk_180 rfl rfl rfl rfl
theorem dX11_townLine_26 : decode cX11_townLine 26 = .ok (.bipush 40, 2) := dk_16 rfl rfl (by decide)
theorem dX11_townLine_28 : decode cX11_townLine 28 = .ok (.aload_n 0, 1) := dk_42 rfl
theorem dX11_townLine_29 : decode cX11_townLine 29 = .ok (.getfield 23, 3) := dk_180 rfl rfl rfl rfl
theorem dX11_townLine_32 : decode cX11_townLine 32 = .ok (.bipush 7, 2) := dk_16 rfl rfl (by decide)
theorem dX11_townLine_34 : decode cX11_townLine 34 = .ok (.iaload, 1) := dk_46 rfl
theorem dX11_townLine_35 : decode cX11_townLine 35 = .ok (.iadd, 1) := dk_96 rfl
theorem dX11_townLine_36 : decode cX11_townLine 36 = .ok (.aload_n 0, 1) := dk_42 rfl
theorem dX11_townLine_37 : decode cX11_townLine 37 = .ok (.ldc_w 286, 3) := dk_19 rfl rfl rfl rfl
theorem dX11_townLine_40 : decode cX11_townLine 40 = .ok (.iconst 1, 1) := dk_4 rfl
theorem dX11_townLine_41 : decode cX11_townLine 41 = .ok (.bipush 9, 2) := dk_16 rfl rfl (by decide)
theorem dX11_townLine_43 : decode cX11_townLine 43 = .ok (.invokevirtual 264, 3) := dk_182 rfl rfl rfl rfl
theorem dX11_townLine_46 : decode cX11_townLine 46 = .ok (.iastore, 1) := dk_79 rfl
theorem dX11_townLine_47 : decode cX11_townLine 47 = .ok (.aload_n 0, 1) := dk_42 rfl
theorem dX11_townLine_48 : decode cX11_townLine 48 = .ok (.getfield 121, 3) := dk_180 rfl rfl rfl rfl
theorem dX11_townLine_51 : decode cX11_townLine 51 = .ok (.ifCond .ne 14, 3) := dk_154 rfl rfl rfl (by decide)
theorem dX11_townLine_54 : decode cX11_townLine 54 = .ok (.aload_n 0, 1) := dk_42 rfl
theorem dX11_townLine_55 : decode cX11_townLine 55 = .ok (.getfield 23, 3) := dk_180 rfl rfl rfl rfl
theorem dX11_townLine_58 : decode cX11_townLine 58 = .ok (.bipush 7, 2) := dk_16 rfl rfl (by decide)
theorem dX11_townLine_60 : decode cX11_townLine 60 = .ok (.dup2, 1) := dk_92 rfl
theorem dX11_townLine_61 : decode cX11_townLine 61 = .ok (.iaload, 1) := dk_46 rfl
theorem dX11_townLine_62 : decode cX11_townLine 62 = .ok (.iconst 1, 1) := dk_4 rfl
theorem dX11_townLine_63 : decode cX11_townLine 63 = .ok (.iadd, 1) := dk_96 rfl
theorem dX11_townLine_64 : decode cX11_townLine 64 = .ok (.iastore, 1) := dk_79 rfl
theorem dX11_townLine_65 : decode cX11_townLine 65 = .ok (.return_, 1) := dk_177 rfl
theorem dX11_markLine_0 : decode cX11_markLine 0 = .ok (.aload_n 0, 1) := dk_42 rfl
theorem dX11_markLine_1 : decode cX11_markLine 1 = .ok (.getfield 121, 3) := dk_180 rfl rfl rfl rfl
theorem dX11_markLine_4 : decode cX11_markLine 4 = .ok (.ifCond .eq 4, 3) := dk_153 rfl rfl rfl (by decide)
theorem dX11_markLine_7 : decode cX11_markLine 7 = .ok (.return_, 1) := dk_177 rfl
theorem dX11_markLine_8 : decode cX11_markLine 8 = .ok (.bipush 44, 2) := dk_16 rfl rfl (by decide)
theorem dX11_markLine_10 : decode cX11_markLine 10 = .ok (.iconst 3, 1) := dk_6 rfl
theorem dX11_markLine_11 : decode cX11_markLine 11 = .ok (.aload_n 0, 1) := dk_42 rfl
theorem dX11_markLine_12 : decode cX11_markLine 12 = .ok (.getfield 23, 3) := dk_180 rfl rfl rfl rfl
theorem dX11_markLine_15 : decode cX11_markLine 15 = .ok (.bipush 8, 2) := dk_16 rfl rfl (by decide)
theorem dX11_markLine_17 : decode cX11_markLine 17 = .ok (.iaload, 1) := dk_46 rfl
theorem dX11_markLine_18 : decode cX11_markLine 18 = .ok (.imul, 1) := dk_104 rfl
theorem dX11_markLine_19 : decode cX11_markLine 19 = .ok (.iadd, 1) := dk_96 rfl
theorem dX11_markLine_20 : decode cX11_markLine 20 = .ok (.istore_n 1, 1) := dk_60 rfl
theorem dX11_markLine_21 : decode cX11_markLine 21 = .ok (.aload_n 0, 1) := dk_42 rfl
theorem dX11_markLine_22 : decode cX11_markLine 22 = .ok (.invokevirtual 288, 3) := dk_182 rfl rfl rfl rfl
theorem dX11_markLine_25 : decode cX11_markLine 25 = .ok (.istore_n 2, 1) := dk_61 rfl
theorem dX11_markLine_26 : decode cX11_markLine 26 = .ok (.aload_n 0, 1) := dk_42 rfl
theorem dX11_markLine_27 : decode cX11_markLine 27 = .ok (.getfield 121, 3) := dk_180 rfl rfl rfl rfl
theorem dX11_markLine_30 : decode cX11_markLine 30 = .ok (.ifCond .eq 7, 3) := dk_153 rfl rfl rfl (by decide)
theorem dX11_markLine_33 : decode cX11_markLine 33 = .ok (.iconst 0, 1) := dk_3 rfl
theorem dX11_markLine_34 : decode cX11_markLine 34 = .ok (.goto 8, 3) := dk_167 rfl rfl rfl (by decide)
theorem dX11_markLine_37 : decode cX11_markLine 37 = .ok (.aload_n 0, 1) := dk_42 rfl
theorem dX11_markLine_38 : decode cX11_markLine 38 = .ok (.iload_n 2, 1) := dk_28 rfl
theorem dX11_markLine_39 : decode cX11_markLine 39 = .ok (.invokevirtual 291, 3) := dk_182 rfl rfl rfl rfl
theorem dX11_markLine_42 : decode cX11_markLine 42 = .ok (.istore_n 3, 1) := dk_62 rfl
theorem dX11_markLine_43 : decode cX11_markLine 43 = .ok (.aload_n 0, 1) := dk_42 rfl
theorem dX11_markLine_44 : decode cX11_markLine 44 = .ok (.ldc 170, 2) := dk_18 rfl rfl rfl
theorem dX11_markLine_46 : decode cX11_markLine 46 = .ok (.invokevirtual 193, 3) := dk_182 rfl rfl rfl rfl
theorem dX11_markLine_49 : decode cX11_markLine 49 = .ok (.aload_n 0, 1) := dk_42 rfl
theorem dX11_markLine_50 : decode cX11_markLine 50 = .ok (.bipush 8, 2) := dk_16 rfl rfl (by decide)
theorem dX11_markLine_52 : decode cX11_markLine 52 = .ok (.bipush 11, 2) := dk_16 rfl rfl (by decide)
theorem dX11_markLine_54 : decode cX11_markLine 54 = .ok (.invokevirtual 186, 3) := dk_182 rfl rfl rfl rfl
theorem dX11_markLine_57 : decode cX11_markLine 57 = .ok (.istore 4, 2) := dk_54 rfl rfl rfl
theorem dX11_markLine_59 : decode cX11_markLine 59 = .ok (.iconst 0, 1) := dk_3 rfl
theorem dX11_markLine_60 : decode cX11_markLine 60 = .ok (.istore 5, 2) := dk_54 rfl rfl rfl
theorem dX11_markLine_62 : decode cX11_markLine 62 = .ok (.iload 5, 2) := dk_21 rfl rfl rfl
theorem dX11_markLine_64 : decode cX11_markLine 64 = .ok (.aload_n 0, 1) := dk_42 rfl
theorem dX11_markLine_65 : decode cX11_markLine 65 = .ok (.getfield 23, 3) := dk_180 rfl rfl rfl rfl
theorem dX11_markLine_68 : decode cX11_markLine 68 = .ok (.bipush 8, 2) := dk_16 rfl rfl (by decide)
theorem dX11_markLine_70 : decode cX11_markLine 70 = .ok (.iaload, 1) := dk_46 rfl
theorem dX11_markLine_71 : decode cX11_markLine 71 = .ok (.if_icmp .ge 60, 3) := dk_162 rfl rfl rfl (by decide)
theorem dX11_markLine_74 : decode cX11_markLine 74 = .ok (.aload_n 0, 1) := dk_42 rfl
theorem dX11_markLine_75 : decode cX11_markLine 75 = .ok (.getfield 121, 3) := dk_180 rfl rfl rfl rfl
theorem dX11_markLine_78 : decode cX11_markLine 78 = .ok (.ifCond .ne 47, 3) := dk_154 rfl rfl rfl (by decide)
theorem dX11_markLine_81 : decode cX11_markLine 81 = .ok (.aload_n 0, 1) := dk_42 rfl
theorem dX11_markLine_82 : decode cX11_markLine 82 = .ok (.getfield 23, 3) := dk_180 rfl rfl rfl rfl
theorem dX11_markLine_85 : decode cX11_markLine 85 = .ok (.bipush 44, 2) := dk_16 rfl rfl (by decide)
theorem dX11_markLine_87 : decode cX11_markLine 87 = .ok (.iconst 3, 1) := dk_6 rfl
theorem dX11_markLine_88 : decode cX11_markLine 88 = .ok (.iload 5, 2) := dk_21 rfl rfl rfl
theorem dX11_markLine_90 : decode cX11_markLine 90 = .ok (.imul, 1) := dk_104 rfl
theorem dX11_markLine_91 : decode cX11_markLine 91 = .ok (.iadd, 1) := dk_96 rfl
theorem dX11_markLine_92 : decode cX11_markLine 92 = .ok (.iaload, 1) := dk_46 rfl
theorem dX11_markLine_93 : decode cX11_markLine 93 = .ok (.iload_n 2, 1) := dk_28 rfl
theorem dX11_markLine_94 : decode cX11_markLine 94 = .ok (.if_icmp .ne 31, 3) := dk_160 rfl rfl rfl (by decide)
theorem dX11_markLine_97 : decode cX11_markLine 97 = .ok (.aload_n 0, 1) := by decide +kernel
theorem dX11_markLine_98 : decode cX11_markLine 98 = .ok (.getfield 23, 3) := by decide +kernel
theorem dX11_markLine_101 : decode cX11_markLine 101 = .ok (.bipush 44, 2) := by decide +kernel
theorem dX11_markLine_103 : decode cX11_markLine 103 = .ok (.iconst 3, 1) := by decide +kernel
theorem dX11_markLine_104 : decode cX11_markLine 104 = .ok (.iload 5, 2) := by decide +kernel
theorem dX11_markLine_106 : decode cX11_markLine 106 = .ok (.imul, 1) := by decide +kernel
theorem dX11_markLine_107 : decode cX11_markLine 107 = .ok (.iadd, 1) := by decide +kernel
theorem dX11_markLine_108 : decode cX11_markLine 108 = .ok (.iconst 2, 1) := by decide +kernel
theorem dX11_markLine_109 : decode cX11_markLine 109 = .ok (.iadd, 1) := by decide +kernel
theorem dX11_markLine_110 : decode cX11_markLine 110 = .ok (.iaload, 1) := by decide +kernel
theorem dX11_markLine_111 : decode cX11_markLine 111 = .ok (.iload 4, 2) := by decide +kernel
theorem dX11_markLine_113 : decode cX11_markLine 113 = .ok (.if_icmp .ne 12, 3) := by decide +kernel
theorem dX11_markLine_116 : decode cX11_markLine 116 = .ok (.aload_n 0, 1) := by decide +kernel
theorem dX11_markLine_117 : decode cX11_markLine 117 = .ok (.iconst 3, 1) := by decide +kernel
theorem dX11_markLine_118 : decode cX11_markLine 118 = .ok (.aload_n 0, 1) := by decide +kernel
theorem dX11_markLine_119 : decode cX11_markLine 119 = .ok (.getfield 102, 3) := by decide +kernel
theorem dX11_markLine_122 : decode cX11_markLine 122 = .ok (.invokevirtual 148, 3) := by decide +kernel
theorem dX11_markLine_125 : decode cX11_markLine 125 = .ok (.iinc 5 1, 3) := by decide +kernel
theorem dX11_markLine_128 : decode cX11_markLine 128 = .ok (.goto (-66), 3) := by decide +kernel
theorem dX11_markLine_131 : decode cX11_markLine 131 = .ok (.aload_n 0, 1) := by decide +kernel
theorem dX11_markLine_132 : decode cX11_markLine 132 = .ok (.getfield 121, 3) := by decide +kernel
theorem dX11_markLine_135 : decode cX11_markLine 135 = .ok (.ifCond .eq 4, 3) := by decide +kernel
theorem dX11_markLine_138 : decode cX11_markLine 138 = .ok (.return_, 1) := by decide +kernel
theorem dX11_markLine_139 : decode cX11_markLine 139 = .ok (.aload_n 0, 1) := by decide +kernel
theorem dX11_markLine_140 : decode cX11_markLine 140 = .ok (.invokevirtual 142, 3) := by decide +kernel
theorem dX11_markLine_143 : decode cX11_markLine 143 = .ok (.aload_n 0, 1) := by decide +kernel
theorem dX11_markLine_144 : decode cX11_markLine 144 = .ok (.getfield 23, 3) := by decide +kernel
theorem dX11_markLine_147 : decode cX11_markLine 147 = .ok (.iload_n 1, 1) := by decide +kernel
theorem dX11_markLine_148 : decode cX11_markLine 148 = .ok (.iload_n 2, 1) := by decide +kernel
theorem dX11_markLine_149 : decode cX11_markLine 149 = .ok (.iastore, 1) := by decide +kernel
theorem dX11_markLine_150 : decode cX11_markLine 150 = .ok (.aload_n 0, 1) := by decide +kernel
theorem dX11_markLine_151 : decode cX11_markLine 151 = .ok (.getfield 23, 3) := by decide +kernel
theorem dX11_markLine_154 : decode cX11_markLine 154 = .ok (.iload_n 1, 1) := by decide +kernel
theorem dX11_markLine_155 : decode cX11_markLine 155 = .ok (.iconst 1, 1) := by decide +kernel
theorem dX11_markLine_156 : decode cX11_markLine 156 = .ok (.iadd, 1) := by decide +kernel
theorem dX11_markLine_157 : decode cX11_markLine 157 = .ok (.iload_n 3, 1) := by decide +kernel
theorem dX11_markLine_158 : decode cX11_markLine 158 = .ok (.iastore, 1) := by decide +kernel
theorem dX11_markLine_159 : decode cX11_markLine 159 = .ok (.aload_n 0, 1) := by decide +kernel
theorem dX11_markLine_160 : decode cX11_markLine 160 = .ok (.getfield 23, 3) := by decide +kernel
theorem dX11_markLine_163 : decode cX11_markLine 163 = .ok (.iload_n 1, 1) := by decide +kernel
theorem dX11_markLine_164 : decode cX11_markLine 164 = .ok (.iconst 2, 1) := by decide +kernel
theorem dX11_markLine_165 : decode cX11_markLine 165 = .ok (.iadd, 1) := by decide +kernel
theorem dX11_markLine_166 : decode cX11_markLine 166 = .ok (.iload 4, 2) := by decide +kernel
theorem dX11_markLine_168 : decode cX11_markLine 168 = .ok (.iastore, 1) := by decide +kernel
theorem dX11_markLine_169 : decode cX11_markLine 169 = .ok (.aload_n 0, 1) := by decide +kernel
theorem dX11_markLine_170 : decode cX11_markLine 170 = .ok (.getfield 23, 3) := by decide +kernel
theorem dX11_markLine_173 : decode cX11_markLine 173 = .ok (.bipush 8, 2) := by decide +kernel
theorem dX11_markLine_175 : decode cX11_markLine 175 = .ok (.dup2, 1) := by decide +kernel
theorem dX11_markLine_176 : decode cX11_markLine 176 = .ok (.iaload, 1) := by decide +kernel
theorem dX11_markLine_177 : decode cX11_markLine 177 = .ok (.iconst 1, 1) := by decide +kernel
theorem dX11_markLine_178 : decode cX11_markLine 178 = .ok (.iadd, 1) := by decide +kernel
theorem dX11_markLine_179 : decode cX11_markLine 179 = .ok (.iastore, 1) := by decide +kernel
theorem dX11_markLine_180 : decode cX11_markLine 180 = .ok (.return_, 1) := by decide +kernel
theorem dX11_joinLine_0 : decode cX11_joinLine 0 = .ok (.aload_n 0, 1) := dk_42 rfl
theorem dX11_joinLine_1 : decode cX11_joinLine 1 = .ok (.getfield 121, 3) := dk_180 rfl rfl rfl rfl
theorem dX11_joinLine_4 : decode cX11_joinLine 4 = .ok (.ifCond .eq 4, 3) := dk_153 rfl rfl rfl (by decide)
theorem dX11_joinLine_7 : decode cX11_joinLine 7 = .ok (.return_, 1) := dk_177 rfl
theorem dX11_joinLine_8 : decode cX11_joinLine 8 = .ok (.bipush 80, 2) := dk_16 rfl rfl (by decide)
theorem dX11_joinLine_10 : decode cX11_joinLine 10 = .ok (.iconst 2, 1) := dk_5 rfl
theorem dX11_joinLine_11 : decode cX11_joinLine 11 = .ok (.aload_n 0, 1) := dk_42 rfl
theorem dX11_joinLine_12 : decode cX11_joinLine 12 = .ok (.getfield 23, 3) := dk_180 rfl rfl rfl rfl
theorem dX11_joinLine_15 : decode cX11_joinLine 15 = .ok (.bipush 9, 2) := dk_16 rfl rfl (by decide)
theorem dX11_joinLine_17 : decode cX11_joinLine 17 = .ok (.iaload, 1) := dk_46 rfl
theorem dX11_joinLine_18 : decode cX11_joinLine 18 = .ok (.imul, 1) := dk_104 rfl
theorem dX11_joinLine_19 : decode cX11_joinLine 19 = .ok (.iadd, 1) := dk_96 rfl
theorem dX11_joinLine_20 : decode cX11_joinLine 20 = .ok (.istore_n 1, 1) := dk_60 rfl
theorem dX11_joinLine_21 : decode cX11_joinLine 21 = .ok (.aload_n 0, 1) := dk_42 rfl
theorem dX11_joinLine_22 : decode cX11_joinLine 22 = .ok (.getfield 23, 3) := dk_180 rfl rfl rfl rfl
theorem dX11_joinLine_25 : decode cX11_joinLine 25 = .ok (.iload_n 1, 1) := dk_27 rfl
theorem dX11_joinLine_26 : decode cX11_joinLine 26 = .ok (.aload_n 0, 1) := dk_42 rfl
theorem dX11_joinLine_27 : decode cX11_joinLine 27 = .ok (.invokevirtual 288, 3) := dk_182 rfl rfl rfl rfl
theorem dX11_joinLine_30 : decode cX11_joinLine 30 = .ok (.iastore, 1) := dk_79 rfl
theorem dX11_joinLine_31 : decode cX11_joinLine 31 = .ok (.aload_n 0, 1) := dk_42 rfl
theorem dX11_joinLine_32 : decode cX11_joinLine 32 = .ok (.getfield 121, 3) := dk_180 rfl rfl rfl rfl
theorem dX11_joinLine_35 : decode cX11_joinLine 35 = .ok (.ifCond .ne 14, 3) := dk_154 rfl rfl rfl (by decide)
theorem dX11_joinLine_38 : decode cX11_joinLine 38 = .ok (.aload_n 0, 1) := dk_42 rfl
theorem dX11_joinLine_39 : decode cX11_joinLine 39 = .ok (.aload_n 0, 1) := dk_42 rfl
theorem dX11_joinLine_40 : decode cX11_joinLine 40 = .ok (.getfield 23, 3) := dk_180 rfl rfl rfl rfl
theorem dX11_joinLine_43 : decode cX11_joinLine 43 = .ok (.iload_n 1, 1) := dk_27 rfl
theorem dX11_joinLine_44 : decode cX11_joinLine 44 = .ok (.iaload, 1) := dk_46 rfl
theorem dX11_joinLine_45 : decode cX11_joinLine 45 = .ok (.invokevirtual 291, 3) := dk_182 rfl rfl rfl rfl
theorem dX11_joinLine_48 : decode cX11_joinLine 48 = .ok (.pop, 1) := dk_87 rfl
theorem dX11_joinLine_49 : decode cX11_joinLine 49 = .ok (.aload_n 0, 1) := dk_42 rfl
theorem dX11_joinLine_50 : decode cX11_joinLine 50 = .ok (.getfield 23, 3) := dk_180 rfl rfl rfl rfl
theorem dX11_joinLine_53 : decode cX11_joinLine 53 = .ok (.iload_n 1, 1) := dk_27 rfl
theorem dX11_joinLine_54 : decode cX11_joinLine 54 = .ok (.iconst 1, 1) := dk_4 rfl
theorem dX11_joinLine_55 : decode cX11_joinLine 55 = .ok (.iadd, 1) := dk_96 rfl
theorem dX11_joinLine_56 : decode cX11_joinLine 56 = .ok (.aload_n 0, 1) := dk_42 rfl
theorem dX11_joinLine_57 : decode cX11_joinLine 57 = .ok (.ldc_w 294, 3) := dk_19 rfl rfl rfl rfl
theorem dX11_joinLine_60 : decode cX11_joinLine 60 = .ok (.iconst 1, 1) := dk_4 rfl
theorem dX11_joinLine_61 : decode cX11_joinLine 61 = .ok (.bipush 99, 2) := dk_16 rfl rfl (by decide)
theorem dX11_joinLine_63 : decode cX11_joinLine 63 = .ok (.invokevirtual 264, 3) := dk_182 rfl rfl rfl rfl
theorem dX11_joinLine_66 : decode cX11_joinLine 66 = .ok (.iastore, 1) := dk_79 rfl
theorem dX11_joinLine_67 : decode cX11_joinLine 67 = .ok (.aload_n 0, 1) := dk_42 rfl
theorem dX11_joinLine_68 : decode cX11_joinLine 68 = .ok (.getfield 121, 3) := dk_180 rfl rfl rfl rfl
theorem dX11_joinLine_71 : decode cX11_joinLine 71 = .ok (.ifCond .ne 14, 3) := dk_154 rfl rfl rfl (by decide)
theorem dX11_joinLine_74 : decode cX11_joinLine 74 = .ok (.aload_n 0, 1) := dk_42 rfl
theorem dX11_joinLine_75 : decode cX11_joinLine 75 = .ok (.getfield 23, 3) := dk_180 rfl rfl rfl rfl
theorem dX11_joinLine_78 : decode cX11_joinLine 78 = .ok (.bipush 9, 2) := dk_16 rfl rfl (by decide)
theorem dX11_joinLine_80 : decode cX11_joinLine 80 = .ok (.dup2, 1) := dk_92 rfl
theorem dX11_joinLine_81 : decode cX11_joinLine 81 = .ok (.iaload, 1) := dk_46 rfl
theorem dX11_joinLine_82 : decode cX11_joinLine 82 = .ok (.iconst 1, 1) := dk_4 rfl
theorem dX11_joinLine_83 : decode cX11_joinLine 83 = .ok (.iadd, 1) := dk_96 rfl
theorem dX11_joinLine_84 : decode cX11_joinLine 84 = .ok (.iastore, 1) := dk_79 rfl
theorem dX11_joinLine_85 : decode cX11_joinLine 85 = .ok (.return_, 1) := dk_177 rfl
theorem dX11_weakLine_0 : decode cX11_weakLine 0 = .ok (.aload_n 0, 1) := dk_42 rfl
theorem dX11_weakLine_1 : decode cX11_weakLine 1 = .ok (.getfield 121, 3) := dk_180 rfl rfl rfl rfl
theorem dX11_weakLine_4 : decode cX11_weakLine 4 = .ok (.ifCond .eq 4, 3) := dk_153 rfl rfl rfl (by decide)
theorem dX11_weakLine_7 : decode cX11_weakLine 7 = .ok (.return_, 1) := dk_177 rfl
theorem dX11_weakLine_8 : decode cX11_weakLine 8 = .ok (.bipush 96, 2) := dk_16 rfl rfl (by decide)
theorem dX11_weakLine_10 : decode cX11_weakLine 10 = .ok (.iconst 3, 1) := dk_6 rfl
theorem dX11_weakLine_11 : decode cX11_weakLine 11 = .ok (.aload_n 0, 1) := dk_42 rfl
theorem dX11_weakLine_12 : decode cX11_weakLine 12 = .ok (.getfield 23, 3) := dk_180 rfl rfl rfl rfl
theorem dX11_weakLine_15 : decode cX11_weakLine 15 = .ok (.bipush 10, 2) := dk_16 rfl rfl (by decide)
theorem dX11_weakLine_17 : decode cX11_weakLine 17 = .ok (.iaload, 1) := dk_46 rfl
theorem dX11_weakLine_18 : decode cX11_weakLine 18 = .ok (.imul, 1) := dk_104 rfl
theorem dX11_weakLine_19 : decode cX11_weakLine 19 = .ok (.iadd, 1) := dk_96 rfl
theorem dX11_weakLine_20 : decode cX11_weakLine 20 = .ok (.istore_n 1, 1) := dk_60 rfl
theorem dX11_weakLine_21 : decode cX11_weakLine 21 = .ok (.aload_n 0, 1) := dk_42 rfl
theorem dX11_weakLine_22 : decode cX11_weakLine 22 = .ok (.invokevirtual 288, 3) := dk_182 rfl rfl rfl rfl
theorem dX11_weakLine_25 : decode cX11_weakLine 25 = .ok (.istore_n 2, 1) := dk_61 rfl
theorem dX11_weakLine_26 : decode cX11_weakLine 26 = .ok (.aload_n 0, 1) := dk_42 rfl
theorem dX11_weakLine_27 : decode cX11_weakLine 27 = .ok (.getfield 121, 3) := dk_180 rfl rfl rfl rfl
theorem dX11_weakLine_30 : decode cX11_weakLine 30 = .ok (.ifCond .eq 7, 3) := dk_153 rfl rfl rfl (by decide)
theorem dX11_weakLine_33 : decode cX11_weakLine 33 = .ok (.iconst 0, 1) := dk_3 rfl
theorem dX11_weakLine_34 : decode cX11_weakLine 34 = .ok (.goto 21, 3) := dk_167 rfl rfl rfl (by decide)
theorem dX11_weakLine_37 : decode cX11_weakLine 37 = .ok (.aload_n 0, 1) := dk_42 rfl
theorem dX11_weakLine_38 : decode cX11_weakLine 38 = .ok (.iconst 0, 1) := dk_3 rfl
theorem dX11_weakLine_39 : decode cX11_weakLine 39 = .ok (.aload_n 0, 1) := dk_42 rfl
theorem dX11_weakLine_40 : decode cX11_weakLine 40 = .ok (.getfield 23, 3) := dk_180 rfl rfl rfl rfl
theorem dX11_weakLine_43 : decode cX11_weakLine 43 = .ok (.bipush 16, 2) := dk_16 rfl rfl (by decide)
theorem dX11_weakLine_45 : decode cX11_weakLine 45 = .ok (.iconst 3, 1) := dk_6 rfl
theorem dX11_weakLine_46 : decode cX11_weakLine 46 = .ok (.iload_n 2, 1) := dk_28 rfl
theorem dX11_weakLine_47 : decode cX11_weakLine 47 = .ok (.imul, 1) := dk_104 rfl
theorem dX11_weakLine_48 : decode cX11_weakLine 48 = .ok (.iadd, 1) := dk_96 rfl
theorem dX11_weakLine_49 : decode cX11_weakLine 49 = .ok (.iaload, 1) := dk_46 rfl
theorem dX11_weakLine_50 : decode cX11_weakLine 50 = .ok (.iconst 1, 1) := dk_4 rfl
theorem dX11_weakLine_51 : decode cX11_weakLine 51 = .ok (.isub, 1) := dk_100 rfl
theorem dX11_weakLine_52 : decode cX11_weakLine 52 = .ok (.invokevirtual 190, 3) := dk_182 rfl rfl rfl rfl
theorem dX11_weakLine_55 : decode cX11_weakLine 55 = .ok (.istore_n 3, 1) := dk_62 rfl
theorem dX11_weakLine_56 : decode cX11_weakLine 56 = .ok (.iconst 0, 1) := dk_3 rfl
theorem dX11_weakLine_57 : decode cX11_weakLine 57 = .ok (.istore 4, 2) := dk_54 rfl rfl rfl
theorem dX11_weakLine_59 : decode cX11_weakLine 59 = .ok (.iload 4, 2) := dk_21 rfl rfl rfl
theorem dX11_weakLine_61 : decode cX11_weakLine 61 = .ok (.aload_n 0, 1) := dk_42 rfl
theorem dX11_weakLine_62 : decode cX11_weakLine 62 = .ok (.getfield 23, 3) := dk_180 rfl rfl rfl rfl
theorem dX11_weakLine_65 : decode cX11_weakLine 65 = .ok (.bipush 10, 2) := dk_16 rfl rfl (by decide)
theorem dX11_weakLine_67 : decode cX11_weakLine 67 = .ok (.iaload, 1) := dk_46 rfl
theorem dX11_weakLine_68 : decode cX11_weakLine 68 = .ok (.if_icmp .ge 59, 3) := dk_162 rfl rfl rfl (by decide)
theorem dX11_weakLine_71 : decode cX11_weakLine 71 = .ok (.aload_n 0, 1) := dk_42 rfl
theorem dX11_weakLine_72 : decode cX11_weakLine 72 = .ok (.getfield 121, 3) := dk_180 rfl rfl rfl rfl
theorem dX11_weakLine_75 : decode cX11_weakLine 75 = .ok (.ifCond .ne 46, 3) := dk_154 rfl rfl rfl (by decide)
theorem dX11_weakLine_78 : decode cX11_weakLine 78 = .ok (.aload_n 0, 1) := dk_42 rfl
theorem dX11_weakLine_79 : decode cX11_weakLine 79 = .ok (.getfield 23, 3) := dk_180 rfl rfl rfl rfl
theorem dX11_weakLine_82 : decode cX11_weakLine 82 = .ok (.bipush 96, 2) := dk_16 rfl rfl (by decide)
theorem dX11_weakLine_84 : decode cX11_weakLine 84 = .ok (.iconst 3, 1) := dk_6 rfl
theorem dX11_weakLine_85 : decode cX11_weakLine 85 = .ok (.iload 4, 2) := dk_21 rfl rfl rfl
theorem dX11_weakLine_87 : decode cX11_weakLine 87 = .ok (.imul, 1) := dk_104 rfl
theorem dX11_weakLine_88 : decode cX11_weakLine 88 = .ok (.iadd, 1) := dk_96 rfl
theorem dX11_weakLine_89 : decode cX11_weakLine 89 = .ok (.iaload, 1) := dk_46 rfl
theorem dX11_weakLine_90 : decode cX11_weakLine 90 = .ok (.iload_n 2, 1) := dk_28 rfl
theorem dX11_weakLine_91 : decode cX11_weakLine 91 = .ok (.if_icmp .ne 30, 3) := dk_160 rfl rfl rfl (by decide)
theorem dX11_weakLine_94 : decode cX11_weakLine 94 = .ok (.aload_n 0, 1) := dk_42 rfl
theorem dX11_weakLine_95 : decode cX11_weakLine 95 = .ok (.getfield 23, 3) := dk_180 rfl rfl rfl rfl
theorem dX11_weakLine_98 : decode cX11_weakLine 98 = .ok (.bipush 96, 2) := by decide +kernel
theorem dX11_weakLine_100 : decode cX11_weakLine 100 = .ok (.iconst 3, 1) := by decide +kernel
theorem dX11_weakLine_101 : decode cX11_weakLine 101 = .ok (.iload 4, 2) := by decide +kernel
theorem dX11_weakLine_103 : decode cX11_weakLine 103 = .ok (.imul, 1) := by decide +kernel
theorem dX11_weakLine_104 : decode cX11_weakLine 104 = .ok (.iadd, 1) := by decide +kernel
theorem dX11_weakLine_105 : decode cX11_weakLine 105 = .ok (.iconst 1, 1) := by decide +kernel
theorem dX11_weakLine_106 : decode cX11_weakLine 106 = .ok (.iadd, 1) := by decide +kernel
theorem dX11_weakLine_107 : decode cX11_weakLine 107 = .ok (.iaload, 1) := by decide +kernel
theorem dX11_weakLine_108 : decode cX11_weakLine 108 = .ok (.iload_n 3, 1) := by decide +kernel
theorem dX11_weakLine_109 : decode cX11_weakLine 109 = .ok (.if_icmp .ne 12, 3) := by decide +kernel
theorem dX11_weakLine_112 : decode cX11_weakLine 112 = .ok (.aload_n 0, 1) := by decide +kernel
theorem dX11_weakLine_113 : decode cX11_weakLine 113 = .ok (.iconst 3, 1) := by decide +kernel
theorem dX11_weakLine_114 : decode cX11_weakLine 114 = .ok (.aload_n 0, 1) := by decide +kernel
theorem dX11_weakLine_115 : decode cX11_weakLine 115 = .ok (.getfield 102, 3) := by decide +kernel
theorem dX11_weakLine_118 : decode cX11_weakLine 118 = .ok (.invokevirtual 148, 3) := by decide +kernel
theorem dX11_weakLine_121 : decode cX11_weakLine 121 = .ok (.iinc 4 1, 3) := by decide +kernel
theorem dX11_weakLine_124 : decode cX11_weakLine 124 = .ok (.goto (-65), 3) := by decide +kernel
theorem dX11_weakLine_127 : decode cX11_weakLine 127 = .ok (.aload_n 0, 1) := by decide +kernel
theorem dX11_weakLine_128 : decode cX11_weakLine 128 = .ok (.getfield 121, 3) := by decide +kernel
theorem dX11_weakLine_131 : decode cX11_weakLine 131 = .ok (.ifCond .eq 4, 3) := by decide +kernel
theorem dX11_weakLine_134 : decode cX11_weakLine 134 = .ok (.return_, 1) := by decide +kernel
theorem dX11_weakLine_135 : decode cX11_weakLine 135 = .ok (.aload_n 0, 1) := by decide +kernel
theorem dX11_weakLine_136 : decode cX11_weakLine 136 = .ok (.invokevirtual 142, 3) := by decide +kernel
theorem dX11_weakLine_139 : decode cX11_weakLine 139 = .ok (.aload_n 0, 1) := by decide +kernel
theorem dX11_weakLine_140 : decode cX11_weakLine 140 = .ok (.getfield 23, 3) := by decide +kernel
theorem dX11_weakLine_143 : decode cX11_weakLine 143 = .ok (.iload_n 1, 1) := by decide +kernel
theorem dX11_weakLine_144 : decode cX11_weakLine 144 = .ok (.iload_n 2, 1) := by decide +kernel
theorem dX11_weakLine_145 : decode cX11_weakLine 145 = .ok (.iastore, 1) := by decide +kernel
theorem dX11_weakLine_146 : decode cX11_weakLine 146 = .ok (.aload_n 0, 1) := by decide +kernel
theorem dX11_weakLine_147 : decode cX11_weakLine 147 = .ok (.getfield 23, 3) := by decide +kernel
theorem dX11_weakLine_150 : decode cX11_weakLine 150 = .ok (.iload_n 1, 1) := by decide +kernel
theorem dX11_weakLine_151 : decode cX11_weakLine 151 = .ok (.iconst 1, 1) := by decide +kernel
theorem dX11_weakLine_152 : decode cX11_weakLine 152 = .ok (.iadd, 1) := by decide +kernel
theorem dX11_weakLine_153 : decode cX11_weakLine 153 = .ok (.iload_n 3, 1) := by decide +kernel
theorem dX11_weakLine_154 : decode cX11_weakLine 154 = .ok (.iastore, 1) := by decide +kernel
theorem dX11_weakLine_155 : decode cX11_weakLine 155 = .ok (.aload_n 0, 1) := by decide +kernel
theorem dX11_weakLine_156 : decode cX11_weakLine 156 = .ok (.getfield 23, 3) := by decide +kernel
theorem dX11_weakLine_159 : decode cX11_weakLine 159 = .ok (.iload_n 1, 1) := by decide +kernel
theorem dX11_weakLine_160 : decode cX11_weakLine 160 = .ok (.iconst 2, 1) := by decide +kernel
theorem dX11_weakLine_161 : decode cX11_weakLine 161 = .ok (.iadd, 1) := by decide +kernel
theorem dX11_weakLine_162 : decode cX11_weakLine 162 = .ok (.aload_n 0, 1) := by decide +kernel
theorem dX11_weakLine_163 : decode cX11_weakLine 163 = .ok (.ldc_w 296, 3) := by decide +kernel
theorem dX11_weakLine_166 : decode cX11_weakLine 166 = .ok (.iconst 1, 1) := by decide +kernel
theorem dX11_weakLine_167 : decode cX11_weakLine 167 = .ok (.bipush 99, 2) := by decide +kernel
theorem dX11_weakLine_169 : decode cX11_weakLine 169 = .ok (.invokevirtual 264, 3) := by decide +kernel
theorem dX11_weakLine_172 : decode cX11_weakLine 172 = .ok (.iastore, 1) := by decide +kernel
theorem dX11_weakLine_173 : decode cX11_weakLine 173 = .ok (.aload_n 0, 1) := by decide +kernel
theorem dX11_weakLine_174 : decode cX11_weakLine 174 = .ok (.getfield 121, 3) := by decide +kernel
theorem dX11_weakLine_177 : decode cX11_weakLine 177 = .ok (.ifCond .ne 14, 3) := by decide +kernel
theorem dX11_weakLine_180 : decode cX11_weakLine 180 = .ok (.aload_n 0, 1) := by decide +kernel
theorem dX11_weakLine_181 : decode cX11_weakLine 181 = .ok (.getfield 23, 3) := by decide +kernel
theorem dX11_weakLine_184 : decode cX11_weakLine 184 = .ok (.bipush 10, 2) := by decide +kernel
theorem dX11_weakLine_186 : decode cX11_weakLine 186 = .ok (.dup2, 1) := by decide +kernel
theorem dX11_weakLine_187 : decode cX11_weakLine 187 = .ok (.iaload, 1) := by decide +kernel
theorem dX11_weakLine_188 : decode cX11_weakLine 188 = .ok (.iconst 1, 1) := by decide +kernel
theorem dX11_weakLine_189 : decode cX11_weakLine 189 = .ok (.iadd, 1) := by decide +kernel
theorem dX11_weakLine_190 : decode cX11_weakLine 190 = .ok (.iastore, 1) := by decide +kernel
theorem dX11_weakLine_191 : decode cX11_weakLine 191 = .ok (.return_, 1) := by decide +kernel
theorem dX11_manLine_0 : decode cX11_manLine 0 = .ok (.aload_n 0, 1) := dk_42 rfl
theorem dX11_manLine_1 : decode cX11_manLine 1 = .ok (.getfield 121, 3) := dk_180 rfl rfl rfl rfl
theorem dX11_manLine_4 : decode cX11_manLine 4 = .ok (.ifCond .eq 4, 3) := dk_153 rfl rfl rfl (by decide)
theorem dX11_manLine_7 : decode cX11_manLine 7 = .ok (.return_, 1) := dk_177 rfl
theorem dX11_manLine_8 : decode cX11_manLine 8 = .ok (.bipush 114, 2) := dk_16 rfl rfl (by decide)
theorem dX11_manLine_10 : decode cX11_manLine 10 = .ok (.iconst 3, 1) := dk_6 rfl
theorem dX11_manLine_11 : decode cX11_manLine 11 = .ok (.aload_n 0, 1) := dk_42 rfl
theorem dX11_manLine_12 : decode cX11_manLine 12 = .ok (.getfield 23, 3) := dk_180 rfl rfl rfl rfl
theorem dX11_manLine_15 : decode cX11_manLine 15 = .ok (.bipush 11, 2) := dk_16 rfl rfl (by decide)
theorem dX11_manLine_17 : decode cX11_manLine 17 = .ok (.iaload, 1) := dk_46 rfl
theorem dX11_manLine_18 : decode cX11_manLine 18 = .ok (.imul, 1) := dk_104 rfl
theorem dX11_manLine_19 : decode cX11_manLine 19 = .ok (.iadd, 1) := dk_96 rfl
theorem dX11_manLine_20 : decode cX11_manLine 20 = .ok (.istore_n 1, 1) := dk_60 rfl
theorem dX11_manLine_21 : decode cX11_manLine 21 = .ok (.aload_n 0, 1) := dk_42 rfl
theorem dX11_manLine_22 : decode cX11_manLine 22 = .ok (.bipush 12, 2) := dk_16 rfl rfl (by decide)
theorem dX11_manLine_24 : decode cX11_manLine 24 = .ok (.aload_n 0, 1) := dk_42 rfl
theorem dX11_manLine_25 : decode cX11_manLine 25 = .ok (.getfield 23, 3) := dk_180 rfl rfl rfl rfl
theorem dX11_manLine_28 : decode cX11_manLine 28 = .ok (.bipush 11, 2) := dk_16 rfl rfl (by decide)
theorem dX11_manLine_30 : decode cX11_manLine 30 = .ok (.iaload, 1) := dk_46 rfl
theorem dX11_manLine_31 : decode cX11_manLine 31 = .ok (.iadd, 1) := dk_96 rfl
theorem dX11_manLine_32 : decode cX11_manLine 32 = .ok (.invokevirtual 277, 3) := dk_182 rfl rfl rfl rfl
theorem dX11_manLine_35 : decode cX11_manLine 35 = .ok (.aload_n 0, 1) := dk_42 rfl
theorem dX11_manLine_36 : decode cX11_manLine 36 = .ok (.ldc_w 298, 3) := dk_19 rfl rfl rfl rfl
theorem dX11_manLine_39 : decode cX11_manLine 39 = .ok (.invokevirtual 138, 3) := dk_182 rfl rfl rfl rfl
theorem dX11_manLine_42 : decode cX11_manLine 42 = .ok (.ifCond .eq 7, 3) := dk_153 rfl rfl rfl (by decide)
theorem dX11_manLine_45 : decode cX11_manLine 45 = .ok (.iconst 0, 1) := dk_3 rfl
theorem dX11_manLine_46 : decode cX11_manLine 46 = .ok (.goto 46, 3) := dk_167 rfl rfl rfl (by decide)
theorem dX11_manLine_49 : decode cX11_manLine 49 = .ok (.aload_n 0, 1) := dk_42 rfl
theorem dX11_manLine_50 : decode cX11_manLine 50 = .ok (.ldc_w 300, 3) := dk_19 rfl rfl rfl rfl
theorem dX11_manLine_53 : decode cX11_manLine 53 = .ok (.invokevirtual 138, 3) := dk_182 rfl rfl rfl rfl
theorem dX11_manLine_56 : decode cX11_manLine 56 = .ok (.ifCond .eq 7, 3) := dk_153 rfl rfl rfl (by decide)
theorem dX11_manLine_59 : decode cX11_manLine 59 = .ok (.iconst 1, 1) := dk_4 rfl
theorem dX11_manLine_60 : decode cX11_manLine 60 = .ok (.goto 32, 3) := dk_167 rfl rfl rfl (by decide)
theorem dX11_manLine_63 : decode cX11_manLine 63 = .ok (.aload_n 0, 1) := dk_42 rfl
theorem dX11_manLine_64 : decode cX11_manLine 64 = .ok (.ldc_w 302, 3) := dk_19 rfl rfl rfl rfl
theorem dX11_manLine_67 : decode cX11_manLine 67 = .ok (.invokevirtual 138, 3) := dk_182 rfl rfl rfl rfl
theorem dX11_manLine_70 : decode cX11_manLine 70 = .ok (.ifCond .eq 7, 3) := dk_153 rfl rfl rfl (by decide)
theorem dX11_manLine_73 : decode cX11_manLine 73 = .ok (.iconst 2, 1) := dk_5 rfl
theorem dX11_manLine_74 : decode cX11_manLine 74 = .ok (.goto 18, 3) := dk_167 rfl rfl rfl (by decide)
theorem dX11_manLine_77 : decode cX11_manLine 77 = .ok (.aload_n 0, 1) := dk_42 rfl
theorem dX11_manLine_78 : decode cX11_manLine 78 = .ok (.ldc_w 304, 3) := dk_19 rfl rfl rfl rfl
theorem dX11_manLine_81 : decode cX11_manLine 81 = .ok (.invokevirtual 138, 3) := dk_182 rfl rfl rfl rfl
theorem dX11_manLine_84 : decode cX11_manLine 84 = .ok (.ifCond .eq 7, 3) := dk_153 rfl rfl rfl (by decide)
theorem dX11_manLine_87 : decode cX11_manLine 87 = .ok (.iconst 3, 1) := dk_6 rfl
theorem dX11_manLine_88 : decode cX11_manLine 88 = .ok (.goto 4, 3) := dk_167 rfl rfl rfl (by decide)
theorem dX11_manLine_91 : decode cX11_manLine 91 = .ok (.iconst (-1), 1) := dk_2 rfl
theorem dX11_manLine_92 : decode cX11_manLine 92 = .ok (.istore_n 2, 1) := dk_61 rfl
theorem dX11_manLine_93 : decode cX11_manLine 93 = .ok (.iload_n 2, 1) := dk_28 rfl
theorem dX11_manLine_94 : decode cX11_manLine 94 = .ok (.ifCond .ge 12, 3) := dk_156 rfl rfl rfl (by decide)
theorem dX11_manLine_97 : decode cX11_manLine 97 = .ok (.aload_n 0, 1) := by decide +kernel
theorem dX11_manLine_98 : decode cX11_manLine 98 = .ok (.iconst 1, 1) := by decide +kernel
theorem dX11_manLine_99 : decode cX11_manLine 99 = .ok (.aload_n 0, 1) := by decide +kernel
theorem dX11_manLine_100 : decode cX11_manLine 100 = .ok (.getfield 102, 3) := by decide +kernel
theorem dX11_manLine_103 : decode cX11_manLine 103 = .ok (.invokevirtual 148, 3) := by decide +kernel
theorem dX11_manLine_106 : decode cX11_manLine 106 = .ok (.aload_n 0, 1) := by decide +kernel
theorem dX11_manLine_107 : decode cX11_manLine 107 = .ok (.getfield 121, 3) := by decide +kernel
theorem dX11_manLine_110 : decode cX11_manLine 110 = .ok (.ifCond .eq 4, 3) := by decide +kernel
theorem dX11_manLine_113 : decode cX11_manLine 113 = .ok (.return_, 1) := by decide +kernel
theorem dX11_manLine_114 : decode cX11_manLine 114 = .ok (.aload_n 0, 1) := by decide +kernel
theorem dX11_manLine_115 : decode cX11_manLine 115 = .ok (.invokevirtual 142, 3) := by decide +kernel
theorem dX11_manLine_118 : decode cX11_manLine 118 = .ok (.iconst 0, 1) := by decide +kernel
theorem dX11_manLine_119 : decode cX11_manLine 119 = .ok (.istore_n 3, 1) := by decide +kernel
theorem dX11_manLine_120 : decode cX11_manLine 120 = .ok (.iload_n 2, 1) := by decide +kernel
theorem dX11_manLine_121 : decode cX11_manLine 121 = .ok (.iconst 3, 1) := by decide +kernel
theorem dX11_manLine_122 : decode cX11_manLine 122 = .ok (.if_icmp .ne 23, 3) := by decide +kernel
theorem dX11_manLine_125 : decode cX11_manLine 125 = .ok (.aload_n 0, 1) := by decide +kernel
theorem dX11_manLine_126 : decode cX11_manLine 126 = .ok (.bipush 8, 2) := by decide +kernel
theorem dX11_manLine_128 : decode cX11_manLine 128 = .ok (.bipush 11, 2) := by decide +kernel
theorem dX11_manLine_130 : decode cX11_manLine 130 = .ok (.invokevirtual 186, 3) := by decide +kernel
theorem dX11_manLine_133 : decode cX11_manLine 133 = .ok (.istore_n 3, 1) := by decide +kernel
theorem dX11_manLine_134 : decode cX11_manLine 134 = .ok (.aload_n 0, 1) := by decide +kernel
theorem dX11_manLine_135 : decode cX11_manLine 135 = .ok (.getfield 121, 3) := by decide +kernel
theorem dX11_manLine_138 : decode cX11_manLine 138 = .ok (.ifCond .ne 7, 3) := by decide +kernel
theorem dX11_manLine_141 : decode cX11_manLine 141 = .ok (.aload_n 0, 1) := by decide +kernel
theorem dX11_manLine_142 : decode cX11_manLine 142 = .ok (.invokevirtual 142, 3) := by decide +kernel
theorem dX11_manLine_145 : decode cX11_manLine 145 = .ok (.aload_n 0, 1) := by decide +kernel
theorem dX11_manLine_146 : decode cX11_manLine 146 = .ok (.ldc_w 306, 3) := by decide +kernel
theorem dX11_manLine_149 : decode cX11_manLine 149 = .ok (.iconst 0, 1) := by decide +kernel
theorem dX11_manLine_150 : decode cX11_manLine 150 = .ok (.bipush 40, 2) := by decide +kernel
theorem dX11_manLine_152 : decode cX11_manLine 152 = .ok (.invokevirtual 264, 3) := by decide +kernel
theorem dX11_manLine_155 : decode cX11_manLine 155 = .ok (.istore 4, 2) := by decide +kernel
theorem dX11_manLine_157 : decode cX11_manLine 157 = .ok (.aload_n 0, 1) := by decide +kernel
theorem dX11_manLine_158 : decode cX11_manLine 158 = .ok (.getfield 121, 3) := by decide +kernel
theorem dX11_manLine_161 : decode cX11_manLine 161 = .ok (.ifCond .eq 4, 3) := by decide +kernel
theorem dX11_manLine_164 : decode cX11_manLine 164 = .ok (.return_, 1) := by decide +kernel
theorem dX11_manLine_165 : decode cX11_manLine 165 = .ok (.aload_n 0, 1) := by decide +kernel
theorem dX11_manLine_166 : decode cX11_manLine 166 = .ok (.getfield 23, 3) := by decide +kernel
theorem dX11_manLine_169 : decode cX11_manLine 169 = .ok (.iload_n 1, 1) := by decide +kernel
theorem dX11_manLine_170 : decode cX11_manLine 170 = .ok (.iload_n 2, 1) := by decide +kernel
theorem dX11_manLine_171 : decode cX11_manLine 171 = .ok (.iastore, 1) := by decide +kernel
theorem dX11_manLine_172 : decode cX11_manLine 172 = .ok (.aload_n 0, 1) := by decide +kernel
theorem dX11_manLine_173 : decode cX11_manLine 173 = .ok (.getfield 23, 3) := by decide +kernel
theorem dX11_manLine_176 : decode cX11_manLine 176 = .ok (.iload_n 1, 1) := by decide +kernel
theorem dX11_manLine_177 : decode cX11_manLine 177 = .ok (.iconst 1, 1) := by decide +kernel
theorem dX11_manLine_178 : decode cX11_manLine 178 = .ok (.iadd, 1) := by decide +kernel
theorem dX11_manLine_179 : decode cX11_manLine 179 = .ok (.iload_n 3, 1) := by decide +kernel
theorem dX11_manLine_180 : decode cX11_manLine 180 = .ok (.iastore, 1) := by decide +kernel
theorem dX11_manLine_181 : decode cX11_manLine 181 = .ok (.aload_n 0, 1) := by decide +kernel
theorem dX11_manLine_182 : decode cX11_manLine 182 = .ok (.getfield 23, 3) := by decide +kernel
theorem dX11_manLine_185 : decode cX11_manLine 185 = .ok (.iload_n 1, 1) := by decide +kernel
theorem dX11_manLine_186 : decode cX11_manLine 186 = .ok (.iconst 2, 1) := by decide +kernel
theorem dX11_manLine_187 : decode cX11_manLine 187 = .ok (.iadd, 1) := by decide +kernel
theorem dX11_manLine_188 : decode cX11_manLine 188 = .ok (.iload 4, 2) := by decide +kernel
theorem dX11_manLine_190 : decode cX11_manLine 190 = .ok (.iastore, 1) := by decide +kernel
theorem dX11_manLine_191 : decode cX11_manLine 191 = .ok (.aload_n 0, 1) := by decide +kernel
theorem dX11_manLine_192 : decode cX11_manLine 192 = .ok (.getfield 23, 3) := by decide +kernel
theorem dX11_manLine_195 : decode cX11_manLine 195 = .ok (.bipush 11, 2) := by decide +kernel
theorem dX11_manLine_197 : decode cX11_manLine 197 = .ok (.dup2, 1) := by decide +kernel
theorem dX11_manLine_198 : decode cX11_manLine 198 = .ok (.iaload, 1) := by decide +kernel
theorem dX11_manLine_199 : decode cX11_manLine 199 = .ok (.iconst 1, 1) := by decide +kernel
theorem dX11_manLine_200 : decode cX11_manLine 200 = .ok (.iadd, 1) := by decide +kernel
theorem dX11_manLine_201 : decode cX11_manLine 201 = .ok (.iastore, 1) := by decide +kernel
theorem dX11_manLine_202 : decode cX11_manLine 202 = .ok (.return_, 1) := by decide +kernel
theorem dX11_scratchLine_0 : decode cX11_scratchLine 0 = .ok (.aload_n 0, 1) := dk_42 rfl
theorem dX11_scratchLine_1 : decode cX11_scratchLine 1 = .ok (.getfield 121, 3) := dk_180 rfl rfl rfl rfl
theorem dX11_scratchLine_4 : decode cX11_scratchLine 4 = .ok (.ifCond .eq 4, 3) := dk_153 rfl rfl rfl (by decide)
theorem dX11_scratchLine_7 : decode cX11_scratchLine 7 = .ok (.return_, 1) := dk_177 rfl
theorem dX11_scratchLine_8 : decode cX11_scratchLine 8 = .ok (.sipush 155, 3) := dk_17 rfl rfl rfl (by decide)
theorem dX11_scratchLine_11 : decode cX11_scratchLine 11 = .ok (.iconst 2, 1) := dk_5 rfl
theorem dX11_scratchLine_12 : decode cX11_scratchLine 12 = .ok (.aload_n 0, 1) := dk_42 rfl
theorem dX11_scratchLine_13 : decode cX11_scratchLine 13 = .ok (.getfield 23, 3) := dk_180 rfl rfl rfl rfl
theorem dX11_scratchLine_16 : decode cX11_scratchLine 16 = .ok (.bipush 14, 2) := dk_16 rfl rfl (by decide)
theorem dX11_scratchLine_18 : decode cX11_scratchLine 18 = .ok (.iaload, 1) := dk_46 rfl
theorem dX11_scratchLine_19 : decode cX11_scratchLine 19 = .ok (.imul, 1) := dk_104 rfl
theorem dX11_scratchLine_20 : decode cX11_scratchLine 20 = .ok (.iadd, 1) := dk_96 rfl
theorem dX11_scratchLine_21 : decode cX11_scratchLine 21 = .ok (.istore_n 1, 1) := dk_60 rfl
theorem dX11_scratchLine_22 : decode cX11_scratchLine 22 = .ok (.aload_n 0, 1) := dk_42 rfl
theorem dX11_scratchLine_23 : decode cX11_scratchLine 23 = .ok (.getfield 23, 3) := dk_180 rfl rfl rfl rfl
theorem dX11_scratchLine_26 : decode cX11_scratchLine 26 = .ok (.iload_n 1, 1) := dk_27 rfl
theorem dX11_scratchLine_27 : decode cX11_scratchLine 27 = .ok (.aload_n 0, 1) := dk_42 rfl
theorem dX11_scratchLine_28 : decode cX11_scratchLine 28 = .ok (.invokevirtual 288, 3) := dk_182 rfl rfl rfl rfl
theorem dX11_scratchLine_31 : decode cX11_scratchLine 31 = .ok (.iastore, 1) := dk_79 rfl
theorem dX11_scratchLine_32 : decode cX11_scratchLine 32 = .ok (.aload_n 0, 1) := dk_42 rfl
theorem dX11_scratchLine_33 : decode cX11_scratchLine 33 = .ok (.getfield 121, 3) := dk_180 rfl rfl rfl rfl
theorem dX11_scratchLine_36 : decode cX11_scratchLine 36 = .ok (.ifCond .ne 21, 3) := dk_154 rfl rfl rfl (by decide)
theorem dX11_scratchLine_39 : decode cX11_scratchLine 39 = .ok (.aload_n 0, 1) := dk_42 rfl
theorem dX11_scratchLine_40 : decode cX11_scratchLine 40 = .ok (.getfield 23, 3) := dk_180 rfl rfl rfl rfl
theorem dX11_scratchLine_43 : decode cX11_scratchLine 43 = .ok (.iload_n 1, 1) := dk_27 rfl
theorem dX11_scratchLine_44 : decode cX11_scratchLine 44 = .ok (.iconst 1, 1) := dk_4 rfl
theorem dX11_scratchLine_45 : decode cX11_scratchLine 45 = .ok (.iadd, 1) := dk_96 rfl
theorem dX11_scratchLine_46 : decode cX11_scratchLine 46 = .ok (.aload_n 0, 1) := dk_42 rfl
theorem dX11_scratchLine_47 : decode cX11_scratchLine 47 = .ok (.aload_n 0, 1) := dk_42 rfl
theorem dX11_scratchLine_48 : decode cX11_scratchLine 48 = .ok (.getfield 23, 3) := dk_180 rfl rfl rfl rfl
theorem dX11_scratchLine_51 : decode cX11_scratchLine 51 = .ok (.iload_n 1, 1) := dk_27 rfl
theorem dX11_scratchLine_52 : decode cX11_scratchLine 52 = .ok (.iaload, 1) := dk_46 rfl
theorem dX11_scratchLine_53 : decode cX11_scratchLine 53 = .ok (.invokevirtual 291, 3) := dk_182 rfl rfl rfl rfl
theorem dX11_scratchLine_56 : decode cX11_scratchLine 56 = .ok (.iastore, 1) := dk_79 rfl
theorem dX11_scratchLine_57 : decode cX11_scratchLine 57 = .ok (.aload_n 0, 1) := dk_42 rfl
theorem dX11_scratchLine_58 : decode cX11_scratchLine 58 = .ok (.getfield 121, 3) := dk_180 rfl rfl rfl rfl
theorem dX11_scratchLine_61 : decode cX11_scratchLine 61 = .ok (.ifCond .ne 14, 3) := dk_154 rfl rfl rfl (by decide)
theorem dX11_scratchLine_64 : decode cX11_scratchLine 64 = .ok (.aload_n 0, 1) := dk_42 rfl
theorem dX11_scratchLine_65 : decode cX11_scratchLine 65 = .ok (.getfield 23, 3) := dk_180 rfl rfl rfl rfl
theorem dX11_scratchLine_68 : decode cX11_scratchLine 68 = .ok (.bipush 14, 2) := dk_16 rfl rfl (by decide)
theorem dX11_scratchLine_70 : decode cX11_scratchLine 70 = .ok (.dup2, 1) := dk_92 rfl
theorem dX11_scratchLine_71 : decode cX11_scratchLine 71 = .ok (.iaload, 1) := dk_46 rfl
theorem dX11_scratchLine_72 : decode cX11_scratchLine 72 = .ok (.iconst 1, 1) := dk_4 rfl
theorem dX11_scratchLine_73 : decode cX11_scratchLine 73 = .ok (.iadd, 1) := dk_96 rfl
theorem dX11_scratchLine_74 : decode cX11_scratchLine 74 = .ok (.iastore, 1) := dk_79 rfl
theorem dX11_scratchLine_75 : decode cX11_scratchLine 75 = .ok (.return_, 1) := dk_177 rfl
