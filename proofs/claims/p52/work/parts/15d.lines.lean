theorem dX11_showsLine_0 : decode cX11_showsLine 0 = .ok (.aload_n 0, 1) := dk_42 rfl
theorem dX11_showsLine_1 : decode cX11_showsLine 1 = .ok (.getfield 121, 3) := dk_180 rfl rfl rfl rfl
theorem dX11_showsLine_4 : decode cX11_showsLine 4 = .ok (.ifCond .eq 4, 3) := dk_153 rfl rfl rfl (by decide)
theorem dX11_showsLine_7 : decode cX11_showsLine 7 = .ok (.return_, 1) := dk_177 rfl
theorem dX11_showsLine_8 : decode cX11_showsLine 8 = .ok (.iconst 0, 1) := dk_3 rfl
theorem dX11_showsLine_9 : decode cX11_showsLine 9 = .ok (.istore_n 1, 1) := dk_60 rfl
theorem dX11_showsLine_10 : decode cX11_showsLine 10 = .ok (.iconst 1, 1) := dk_4 rfl
theorem dX11_showsLine_11 : decode cX11_showsLine 11 = .ok (.istore_n 2, 1) := dk_61 rfl
theorem dX11_showsLine_12 : decode cX11_showsLine 12 = .ok (.iload_n 2, 1) := dk_28 rfl
theorem dX11_showsLine_13 : decode cX11_showsLine 13 = .ok (.ifCond .eq 66, 3) := dk_153 rfl rfl rfl (by decide)
theorem dX11_showsLine_16 : decode cX11_showsLine 16 = .ok (.aload_n 0, 1) := dk_42 rfl
theorem dX11_showsLine_17 : decode cX11_showsLine 17 = .ok (.iconst 0, 1) := dk_3 rfl
theorem dX11_showsLine_18 : decode cX11_showsLine 18 = .ok (.bipush 7, 2) := dk_16 rfl rfl (by decide)
theorem dX11_showsLine_20 : decode cX11_showsLine 20 = .ok (.invokevirtual 186, 3) := dk_182 rfl rfl rfl rfl
theorem dX11_showsLine_23 : decode cX11_showsLine 23 = .ok (.istore_n 3, 1) := dk_62 rfl
theorem dX11_showsLine_24 : decode cX11_showsLine 24 = .ok (.aload_n 0, 1) := dk_42 rfl
theorem dX11_showsLine_25 : decode cX11_showsLine 25 = .ok (.getfield 121, 3) := dk_180 rfl rfl rfl rfl
theorem dX11_showsLine_28 : decode cX11_showsLine 28 = .ok (.ifCond .ne 18, 3) := dk_154 rfl rfl rfl (by decide)
theorem dX11_showsLine_31 : decode cX11_showsLine 31 = .ok (.iload_n 1, 1) := dk_27 rfl
theorem dX11_showsLine_32 : decode cX11_showsLine 32 = .ok (.bipush 8, 2) := dk_16 rfl rfl (by decide)
theorem dX11_showsLine_34 : decode cX11_showsLine 34 = .ok (.if_icmp .ne 12, 3) := dk_160 rfl rfl rfl (by decide)
theorem dX11_showsLine_37 : decode cX11_showsLine 37 = .ok (.aload_n 0, 1) := dk_42 rfl
theorem dX11_showsLine_38 : decode cX11_showsLine 38 = .ok (.iconst 5, 1) := dk_8 rfl
theorem dX11_showsLine_39 : decode cX11_showsLine 39 = .ok (.aload_n 0, 1) := dk_42 rfl
theorem dX11_showsLine_40 : decode cX11_showsLine 40 = .ok (.getfield 102, 3) := dk_180 rfl rfl rfl rfl
theorem dX11_showsLine_43 : decode cX11_showsLine 43 = .ok (.invokevirtual 148, 3) := dk_182 rfl rfl rfl rfl
theorem dX11_showsLine_46 : decode cX11_showsLine 46 = .ok (.aload_n 0, 1) := dk_42 rfl
theorem dX11_showsLine_47 : decode cX11_showsLine 47 = .ok (.getfield 121, 3) := dk_180 rfl rfl rfl rfl
theorem dX11_showsLine_50 : decode cX11_showsLine 50 = .ok (.ifCond .eq 4, 3) := dk_153 rfl rfl rfl (by decide)
theorem dX11_showsLine_53 : decode cX11_showsLine 53 = .ok (.return_, 1) := dk_177 rfl
theorem dX11_showsLine_54 : decode cX11_showsLine 54 = .ok (.aload_n 0, 1) := dk_42 rfl
theorem dX11_showsLine_55 : decode cX11_showsLine 55 = .ok (.invokevirtual 142, 3) := dk_182 rfl rfl rfl rfl
theorem dX11_showsLine_58 : decode cX11_showsLine 58 = .ok (.aload_n 0, 1) := dk_42 rfl
theorem dX11_showsLine_59 : decode cX11_showsLine 59 = .ok (.getfield 23, 3) := dk_180 rfl rfl rfl rfl
theorem dX11_showsLine_62 : decode cX11_showsLine 62 = .ok (.bipush 126, 2) := dk_16 rfl rfl (by decide)
theorem dX11_showsLine_64 : decode cX11_showsLine 64 = .ok (.iload_n 1, 1) := dk_27 rfl
theorem dX11_showsLine_65 : decode cX11_showsLine 65 = .ok (.iadd, 1) := dk_96 rfl
theorem dX11_showsLine_66 : decode cX11_showsLine 66 = .ok (.iload_n 3, 1) := dk_29 rfl
theorem dX11_showsLine_67 : decode cX11_showsLine 67 = .ok (.iastore, 1) := dk_79 rfl
theorem dX11_showsLine_68 : decode cX11_showsLine 68 = .ok (.iinc 1 1, 3) := dk_132 rfl rfl rfl rfl (by decide)
theorem dX11_showsLine_71 : decode cX11_showsLine 71 = .ok (.aload_n 0, 1) := dk_42 rfl
theorem dX11_showsLine_72 : decode cX11_showsLine 72 = .ok (.invokevirtual 308, 3) := dk_182 rfl rfl rfl rfl
theorem dX11_showsLine_75 : decode cX11_showsLine 75 = .ok (.istore_n 2, 1) := dk_61 rfl
theorem dX11_showsLine_76 : decode cX11_showsLine 76 = .ok (.goto (-64), 3) := dk_167 rfl rfl rfl (by decide)
theorem dX11_showsLine_79 : decode cX11_showsLine 79 = .ok (.aload_n 0, 1) := dk_42 rfl
theorem dX11_showsLine_80 : decode cX11_showsLine 80 = .ok (.getfield 121, 3) := dk_180 rfl rfl rfl rfl
theorem dX11_showsLine_83 : decode cX11_showsLine 83 = .ok (.ifCond .ne 38, 3) := dk_154 rfl rfl rfl (by decide)
theorem dX11_showsLine_86 : decode cX11_showsLine 86 = .ok (.iload_n 1, 1) := dk_27 rfl
theorem dX11_showsLine_87 : decode cX11_showsLine 87 = .ok (.iconst 2, 1) := dk_5 rfl
theorem dX11_showsLine_88 : decode cX11_showsLine 88 = .ok (.if_icmp .ge 33, 3) := dk_162 rfl rfl rfl (by decide)
theorem dX11_showsLine_91 : decode cX11_showsLine 91 = .ok (.aload_n 0, 1) := dk_42 rfl
theorem dX11_showsLine_92 : decode cX11_showsLine 92 = .ok (.aload_n 0, 1) := dk_42 rfl
theorem dX11_showsLine_93 : decode cX11_showsLine 93 = .ok (.getfield 111, 3) := dk_180 rfl rfl rfl rfl
theorem dX11_showsLine_96 : decode cX11_showsLine 96 = .ok (.bipush 59, 2) := dk_16 rfl rfl (by decide)
theorem dX11_showsLine_98 : decode cX11_showsLine 98 = .ok (.if_icmp .eq 10, 3) := by decide +kernel
theorem dX11_showsLine_101 : decode cX11_showsLine 101 = .ok (.aload_n 0, 1) := by decide +kernel
theorem dX11_showsLine_102 : decode cX11_showsLine 102 = .ok (.getfield 111, 3) := by decide +kernel
theorem dX11_showsLine_105 : decode cX11_showsLine 105 = .ok (.ifCond .ne 8, 3) := by decide +kernel
theorem dX11_showsLine_108 : decode cX11_showsLine 108 = .ok (.bipush 6, 2) := by decide +kernel
theorem dX11_showsLine_110 : decode cX11_showsLine 110 = .ok (.goto 4, 3) := by decide +kernel
theorem dX11_showsLine_113 : decode cX11_showsLine 113 = .ok (.iconst 1, 1) := by decide +kernel
theorem dX11_showsLine_114 : decode cX11_showsLine 114 = .ok (.aload_n 0, 1) := by decide +kernel
theorem dX11_showsLine_115 : decode cX11_showsLine 115 = .ok (.getfield 102, 3) := by decide +kernel
theorem dX11_showsLine_118 : decode cX11_showsLine 118 = .ok (.invokevirtual 148, 3) := by decide +kernel
theorem dX11_showsLine_121 : decode cX11_showsLine 121 = .ok (.aload_n 0, 1) := by decide +kernel
theorem dX11_showsLine_122 : decode cX11_showsLine 122 = .ok (.getfield 121, 3) := by decide +kernel
theorem dX11_showsLine_125 : decode cX11_showsLine 125 = .ok (.ifCond .ne 11, 3) := by decide +kernel
theorem dX11_showsLine_128 : decode cX11_showsLine 128 = .ok (.aload_n 0, 1) := by decide +kernel
theorem dX11_showsLine_129 : decode cX11_showsLine 129 = .ok (.getfield 23, 3) := by decide +kernel
theorem dX11_showsLine_132 : decode cX11_showsLine 132 = .ok (.bipush 12, 2) := by decide +kernel
theorem dX11_showsLine_134 : decode cX11_showsLine 134 = .ok (.iload_n 1, 1) := by decide +kernel
theorem dX11_showsLine_135 : decode cX11_showsLine 135 = .ok (.iastore, 1) := by decide +kernel
theorem dX11_showsLine_136 : decode cX11_showsLine 136 = .ok (.return_, 1) := by decide +kernel
theorem dX11_boysLine_0 : decode cX11_boysLine 0 = .ok (.aload_n 0, 1) := dk_42 rfl
theorem dX11_boysLine_1 : decode cX11_boysLine 1 = .ok (.getfield 121, 3) := dk_180 rfl rfl rfl rfl
theorem dX11_boysLine_4 : decode cX11_boysLine 4 = .ok (.ifCond .eq 4, 3) := dk_153 rfl rfl rfl (by decide)
theorem dX11_boysLine_7 : decode cX11_boysLine 7 = .ok (.return_, 1) := dk_177 rfl
theorem dX11_boysLine_8 : decode cX11_boysLine 8 = .ok (.aload_n 0, 1) := dk_42 rfl
theorem dX11_boysLine_9 : decode cX11_boysLine 9 = .ok (.iconst 1, 1) := dk_4 rfl
theorem dX11_boysLine_10 : decode cX11_boysLine 10 = .ok (.iconst 4, 1) := dk_7 rfl
theorem dX11_boysLine_11 : decode cX11_boysLine 11 = .ok (.invokevirtual 197, 3) := dk_182 rfl rfl rfl rfl
theorem dX11_boysLine_14 : decode cX11_boysLine 14 = .ok (.istore_n 1, 1) := dk_60 rfl
theorem dX11_boysLine_15 : decode cX11_boysLine 15 = .ok (.aload_n 0, 1) := dk_42 rfl
theorem dX11_boysLine_16 : decode cX11_boysLine 16 = .ok (.getfield 23, 3) := dk_180 rfl rfl rfl rfl
theorem dX11_boysLine_19 : decode cX11_boysLine 19 = .ok (.sipush 135, 3) := dk_17 rfl rfl rfl (by decide)
theorem dX11_boysLine_22 : decode cX11_boysLine 22 = .ok (.aload_n 0, 1) := dk_42 rfl
theorem dX11_boysLine_23 : decode cX11_boysLine 23 = .ok (.ldc_w 312, 3) := dk_19 rfl rfl rfl rfl
theorem dX11_boysLine_26 : decode cX11_boysLine 26 = .ok (.iconst 1, 1) := dk_4 rfl
theorem dX11_boysLine_27 : decode cX11_boysLine 27 = .ok (.sipush 2000, 3) := dk_17 rfl rfl rfl (by decide)
theorem dX11_boysLine_30 : decode cX11_boysLine 30 = .ok (.invokevirtual 264, 3) := dk_182 rfl rfl rfl rfl
theorem dX11_boysLine_33 : decode cX11_boysLine 33 = .ok (.iastore, 1) := dk_79 rfl
theorem dX11_boysLine_34 : decode cX11_boysLine 34 = .ok (.aload_n 0, 1) := dk_42 rfl
theorem dX11_boysLine_35 : decode cX11_boysLine 35 = .ok (.getfield 23, 3) := dk_180 rfl rfl rfl rfl
theorem dX11_boysLine_38 : decode cX11_boysLine 38 = .ok (.sipush 136, 3) := dk_17 rfl rfl rfl (by decide)
theorem dX11_boysLine_41 : decode cX11_boysLine 41 = .ok (.aload_n 0, 1) := dk_42 rfl
theorem dX11_boysLine_42 : decode cX11_boysLine 42 = .ok (.ldc_w 314, 3) := dk_19 rfl rfl rfl rfl
theorem dX11_boysLine_45 : decode cX11_boysLine 45 = .ok (.iconst 0, 1) := dk_3 rfl
theorem dX11_boysLine_46 : decode cX11_boysLine 46 = .ok (.bipush 50, 2) := dk_16 rfl rfl (by decide)
theorem dX11_boysLine_48 : decode cX11_boysLine 48 = .ok (.invokevirtual 264, 3) := dk_182 rfl rfl rfl rfl
theorem dX11_boysLine_51 : decode cX11_boysLine 51 = .ok (.iastore, 1) := dk_79 rfl
theorem dX11_boysLine_52 : decode cX11_boysLine 52 = .ok (.aload_n 0, 1) := dk_42 rfl
theorem dX11_boysLine_53 : decode cX11_boysLine 53 = .ok (.getfield 121, 3) := dk_180 rfl rfl rfl rfl
theorem dX11_boysLine_56 : decode cX11_boysLine 56 = .ok (.ifCond .ne 12, 3) := dk_154 rfl rfl rfl (by decide)
theorem dX11_boysLine_59 : decode cX11_boysLine 59 = .ok (.aload_n 0, 1) := dk_42 rfl
theorem dX11_boysLine_60 : decode cX11_boysLine 60 = .ok (.getfield 23, 3) := dk_180 rfl rfl rfl rfl
theorem dX11_boysLine_63 : decode cX11_boysLine 63 = .ok (.sipush 134, 3) := dk_17 rfl rfl rfl (by decide)
theorem dX11_boysLine_66 : decode cX11_boysLine 66 = .ok (.iload_n 1, 1) := dk_27 rfl
theorem dX11_boysLine_67 : decode cX11_boysLine 67 = .ok (.iastore, 1) := dk_79 rfl
theorem dX11_boysLine_68 : decode cX11_boysLine 68 = .ok (.return_, 1) := dk_177 rfl
theorem dX11_seenLine_0 : decode cX11_seenLine 0 = .ok (.aload_n 0, 1) := dk_42 rfl
theorem dX11_seenLine_1 : decode cX11_seenLine 1 = .ok (.getfield 23, 3) := dk_180 rfl rfl rfl rfl
theorem dX11_seenLine_4 : decode cX11_seenLine 4 = .ok (.bipush 13, 2) := dk_16 rfl rfl (by decide)
theorem dX11_seenLine_6 : decode cX11_seenLine 6 = .ok (.iaload, 1) := dk_46 rfl
theorem dX11_seenLine_7 : decode cX11_seenLine 7 = .ok (.bipush 6, 2) := dk_16 rfl rfl (by decide)
theorem dX11_seenLine_9 : decode cX11_seenLine 9 = .ok (.if_icmp .ne 12, 3) := dk_160 rfl rfl rfl (by decide)
theorem dX11_seenLine_12 : decode cX11_seenLine 12 = .ok (.aload_n 0, 1) := dk_42 rfl
theorem dX11_seenLine_13 : decode cX11_seenLine 13 = .ok (.iconst 5, 1) := dk_8 rfl
theorem dX11_seenLine_14 : decode cX11_seenLine 14 = .ok (.aload_n 0, 1) := dk_42 rfl
theorem dX11_seenLine_15 : decode cX11_seenLine 15 = .ok (.getfield 102, 3) := dk_180 rfl rfl rfl rfl
theorem dX11_seenLine_18 : decode cX11_seenLine 18 = .ok (.invokevirtual 148, 3) := dk_182 rfl rfl rfl rfl
theorem dX11_seenLine_21 : decode cX11_seenLine 21 = .ok (.aload_n 0, 1) := dk_42 rfl
theorem dX11_seenLine_22 : decode cX11_seenLine 22 = .ok (.getfield 23, 3) := dk_180 rfl rfl rfl rfl
theorem dX11_seenLine_25 : decode cX11_seenLine 25 = .ok (.bipush 15, 2) := dk_16 rfl rfl (by decide)
theorem dX11_seenLine_27 : decode cX11_seenLine 27 = .ok (.iaload, 1) := dk_46 rfl
theorem dX11_seenLine_28 : decode cX11_seenLine 28 = .ok (.ifCond .eq 13, 3) := dk_153 rfl rfl rfl (by decide)
theorem dX11_seenLine_31 : decode cX11_seenLine 31 = .ok (.aload_n 0, 1) := dk_42 rfl
theorem dX11_seenLine_32 : decode cX11_seenLine 32 = .ok (.getfield 23, 3) := dk_180 rfl rfl rfl rfl
theorem dX11_seenLine_35 : decode cX11_seenLine 35 = .ok (.bipush 12, 2) := dk_16 rfl rfl (by decide)
theorem dX11_seenLine_37 : decode cX11_seenLine 37 = .ok (.iaload, 1) := dk_46 rfl
theorem dX11_seenLine_38 : decode cX11_seenLine 38 = .ok (.ifCond .ne 13, 3) := dk_154 rfl rfl rfl (by decide)
theorem dX11_seenLine_41 : decode cX11_seenLine 41 = .ok (.aload_n 0, 1) := dk_42 rfl
theorem dX11_seenLine_42 : decode cX11_seenLine 42 = .ok (.bipush 6, 2) := dk_16 rfl rfl (by decide)
theorem dX11_seenLine_44 : decode cX11_seenLine 44 = .ok (.aload_n 0, 1) := dk_42 rfl
theorem dX11_seenLine_45 : decode cX11_seenLine 45 = .ok (.getfield 102, 3) := dk_180 rfl rfl rfl rfl
theorem dX11_seenLine_48 : decode cX11_seenLine 48 = .ok (.invokevirtual 148, 3) := dk_182 rfl rfl rfl rfl
theorem dX11_seenLine_51 : decode cX11_seenLine 51 = .ok (.aload_n 0, 1) := dk_42 rfl
theorem dX11_seenLine_52 : decode cX11_seenLine 52 = .ok (.getfield 121, 3) := dk_180 rfl rfl rfl rfl
theorem dX11_seenLine_55 : decode cX11_seenLine 55 = .ok (.ifCond .eq 4, 3) := dk_153 rfl rfl rfl (by decide)
theorem dX11_seenLine_58 : decode cX11_seenLine 58 = .ok (.return_, 1) := dk_177 rfl
theorem dX11_seenLine_59 : decode cX11_seenLine 59 = .ok (.aload_n 0, 1) := dk_42 rfl
theorem dX11_seenLine_60 : decode cX11_seenLine 60 = .ok (.invokevirtual 142, 3) := dk_182 rfl rfl rfl rfl
theorem dX11_seenLine_63 : decode cX11_seenLine 63 = .ok (.sipush 137, 3) := dk_17 rfl rfl rfl (by decide)
theorem dX11_seenLine_66 : decode cX11_seenLine 66 = .ok (.iconst 3, 1) := dk_6 rfl
theorem dX11_seenLine_67 : decode cX11_seenLine 67 = .ok (.aload_n 0, 1) := dk_42 rfl
theorem dX11_seenLine_68 : decode cX11_seenLine 68 = .ok (.getfield 23, 3) := dk_180 rfl rfl rfl rfl
theorem dX11_seenLine_71 : decode cX11_seenLine 71 = .ok (.bipush 13, 2) := dk_16 rfl rfl (by decide)
theorem dX11_seenLine_73 : decode cX11_seenLine 73 = .ok (.iaload, 1) := dk_46 rfl
theorem dX11_seenLine_74 : decode cX11_seenLine 74 = .ok (.imul, 1) := dk_104 rfl
theorem dX11_seenLine_75 : decode cX11_seenLine 75 = .ok (.iadd, 1) := dk_96 rfl
theorem dX11_seenLine_76 : decode cX11_seenLine 76 = .ok (.istore_n 1, 1) := dk_60 rfl
theorem dX11_seenLine_77 : decode cX11_seenLine 77 = .ok (.aload_n 0, 1) := dk_42 rfl
theorem dX11_seenLine_78 : decode cX11_seenLine 78 = .ok (.getfield 23, 3) := dk_180 rfl rfl rfl rfl
theorem dX11_seenLine_81 : decode cX11_seenLine 81 = .ok (.iload_n 1, 1) := dk_27 rfl
theorem dX11_seenLine_82 : decode cX11_seenLine 82 = .ok (.aload_n 0, 1) := dk_42 rfl
theorem dX11_seenLine_83 : decode cX11_seenLine 83 = .ok (.iconst 1, 1) := dk_4 rfl
theorem dX11_seenLine_84 : decode cX11_seenLine 84 = .ok (.aload_n 0, 1) := dk_42 rfl
theorem dX11_seenLine_85 : decode cX11_seenLine 85 = .ok (.getfield 23, 3) := dk_180 rfl rfl rfl rfl
theorem dX11_seenLine_88 : decode cX11_seenLine 88 = .ok (.bipush 12, 2) := dk_16 rfl rfl (by decide)
theorem dX11_seenLine_90 : decode cX11_seenLine 90 = .ok (.iaload, 1) := dk_46 rfl
theorem dX11_seenLine_91 : decode cX11_seenLine 91 = .ok (.iconst 1, 1) := dk_4 rfl
theorem dX11_seenLine_92 : decode cX11_seenLine 92 = .ok (.isub, 1) := dk_100 rfl
theorem dX11_seenLine_93 : decode cX11_seenLine 93 = .ok (.invokevirtual 197, 3) := dk_182 rfl rfl rfl rfl
theorem dX11_seenLine_96 : decode cX11_seenLine 96 = .ok (.iastore, 1) := dk_79 rfl
theorem dX11_seenLine_97 : decode cX11_seenLine 97 = .ok (.aload_n 0, 1) := by decide +kernel
theorem dX11_seenLine_98 : decode cX11_seenLine 98 = .ok (.getfield 23, 3) := by decide +kernel
theorem dX11_seenLine_101 : decode cX11_seenLine 101 = .ok (.iload_n 1, 1) := by decide +kernel
theorem dX11_seenLine_102 : decode cX11_seenLine 102 = .ok (.iconst 1, 1) := by decide +kernel
theorem dX11_seenLine_103 : decode cX11_seenLine 103 = .ok (.iadd, 1) := by decide +kernel
theorem dX11_seenLine_104 : decode cX11_seenLine 104 = .ok (.aload_n 0, 1) := by decide +kernel
theorem dX11_seenLine_105 : decode cX11_seenLine 105 = .ok (.ldc_w 316, 3) := by decide +kernel
theorem dX11_seenLine_108 : decode cX11_seenLine 108 = .ok (.iconst 0, 1) := by decide +kernel
theorem dX11_seenLine_109 : decode cX11_seenLine 109 = .ok (.sipush 9999, 3) := by decide +kernel
theorem dX11_seenLine_112 : decode cX11_seenLine 112 = .ok (.invokevirtual 264, 3) := by decide +kernel
theorem dX11_seenLine_115 : decode cX11_seenLine 115 = .ok (.iastore, 1) := by decide +kernel
theorem dX11_seenLine_116 : decode cX11_seenLine 116 = .ok (.aload_n 0, 1) := by decide +kernel
theorem dX11_seenLine_117 : decode cX11_seenLine 117 = .ok (.getfield 23, 3) := by decide +kernel
theorem dX11_seenLine_120 : decode cX11_seenLine 120 = .ok (.iload_n 1, 1) := by decide +kernel
theorem dX11_seenLine_121 : decode cX11_seenLine 121 = .ok (.iconst 2, 1) := by decide +kernel
theorem dX11_seenLine_122 : decode cX11_seenLine 122 = .ok (.iadd, 1) := by decide +kernel
theorem dX11_seenLine_123 : decode cX11_seenLine 123 = .ok (.aload_n 0, 1) := by decide +kernel
theorem dX11_seenLine_124 : decode cX11_seenLine 124 = .ok (.ldc_w 318, 3) := by decide +kernel
theorem dX11_seenLine_127 : decode cX11_seenLine 127 = .ok (.iconst 0, 1) := by decide +kernel
theorem dX11_seenLine_128 : decode cX11_seenLine 128 = .ok (.sipush 9999, 3) := by decide +kernel
theorem dX11_seenLine_131 : decode cX11_seenLine 131 = .ok (.invokevirtual 264, 3) := by decide +kernel
theorem dX11_seenLine_134 : decode cX11_seenLine 134 = .ok (.iastore, 1) := by decide +kernel
theorem dX11_seenLine_135 : decode cX11_seenLine 135 = .ok (.aload_n 0, 1) := by decide +kernel
theorem dX11_seenLine_136 : decode cX11_seenLine 136 = .ok (.getfield 121, 3) := by decide +kernel
theorem dX11_seenLine_139 : decode cX11_seenLine 139 = .ok (.ifCond .ne 14, 3) := by decide +kernel
theorem dX11_seenLine_142 : decode cX11_seenLine 142 = .ok (.aload_n 0, 1) := by decide +kernel
theorem dX11_seenLine_143 : decode cX11_seenLine 143 = .ok (.getfield 23, 3) := by decide +kernel
theorem dX11_seenLine_146 : decode cX11_seenLine 146 = .ok (.bipush 13, 2) := by decide +kernel
theorem dX11_seenLine_148 : decode cX11_seenLine 148 = .ok (.dup2, 1) := by decide +kernel
theorem dX11_seenLine_149 : decode cX11_seenLine 149 = .ok (.iaload, 1) := by decide +kernel
theorem dX11_seenLine_150 : decode cX11_seenLine 150 = .ok (.iconst 1, 1) := by decide +kernel
theorem dX11_seenLine_151 : decode cX11_seenLine 151 = .ok (.iadd, 1) := by decide +kernel
theorem dX11_seenLine_152 : decode cX11_seenLine 152 = .ok (.iastore, 1) := by decide +kernel
theorem dX11_seenLine_153 : decode cX11_seenLine 153 = .ok (.return_, 1) := by decide +kernel
theorem dX11_readLine_0 : decode cX11_readLine 0 = .ok (.aload_n 0, 1) := dk_42 rfl
theorem dX11_readLine_1 : decode cX11_readLine 1 = .ok (.ldc 152, 2) := dk_18 rfl rfl rfl
theorem dX11_readLine_3 : decode cX11_readLine 3 = .ok (.invokevirtual 138, 3) := dk_182 rfl rfl rfl rfl
theorem dX11_readLine_6 : decode cX11_readLine 6 = .ok (.ifCond .eq 10, 3) := dk_153 rfl rfl rfl (by decide)
theorem dX11_readLine_9 : decode cX11_readLine 9 = .ok (.aload_n 0, 1) := dk_42 rfl
theorem dX11_readLine_10 : decode cX11_readLine 10 = .ok (.invokevirtual 222, 3) := dk_182 rfl rfl rfl rfl
theorem dX11_readLine_13 : decode cX11_readLine 13 = .ok (.goto 320, 3) := dk_167 rfl rfl rfl (by decide)
theorem dX11_readLine_16 : decode cX11_readLine 16 = .ok (.aload_n 0, 1) := dk_42 rfl
theorem dX11_readLine_17 : decode cX11_readLine 17 = .ok (.ldc 154, 2) := dk_18 rfl rfl rfl
theorem dX11_readLine_19 : decode cX11_readLine 19 = .ok (.aload_n 0, 1) := dk_42 rfl
theorem dX11_readLine_20 : decode cX11_readLine 20 = .ok (.getfield 23, 3) := dk_180 rfl rfl rfl rfl
theorem dX11_readLine_23 : decode cX11_readLine 23 = .ok (.bipush 6, 2) := dk_16 rfl rfl (by decide)
theorem dX11_readLine_25 : decode cX11_readLine 25 = .ok (.iaload, 1) := dk_46 rfl
theorem dX11_readLine_26 : decode cX11_readLine 26 = .ok (.bipush 8, 2) := dk_16 rfl rfl (by decide)
theorem dX11_readLine_28 : decode cX11_readLine 28 = .ok (.if_icmp .ge 7, 3) := dk_162 rfl rfl rfl (by decide)
theorem dX11_readLine_31 : decode cX11_readLine 31 = .ok (.iconst 1, 1) := dk_4 rfl
theorem dX11_readLine_32 : decode cX11_readLine 32 = .ok (.goto 4, 3) := dk_167 rfl rfl rfl (by decide)
theorem dX11_readLine_35 : decode cX11_readLine 35 = .ok (.iconst 0, 1) := dk_3 rfl
theorem dX11_readLine_36 : decode cX11_readLine 36 = .ok (.invokevirtual 225, 3) := dk_182 rfl rfl rfl rfl
theorem dX11_readLine_39 : decode cX11_readLine 39 = .ok (.ifCond .eq 10, 3) := dk_153 rfl rfl rfl (by decide)
theorem dX11_readLine_42 : decode cX11_readLine 42 = .ok (.aload_n 0, 1) := dk_42 rfl
theorem dX11_readLine_43 : decode cX11_readLine 43 = .ok (.invokevirtual 229, 3) := dk_182 rfl rfl rfl rfl
theorem dX11_readLine_46 : decode cX11_readLine 46 = .ok (.goto 287, 3) := dk_167 rfl rfl rfl (by decide)
theorem dX11_readLine_49 : decode cX11_readLine 49 = .ok (.aload_n 0, 1) := dk_42 rfl
theorem dX11_readLine_50 : decode cX11_readLine 50 = .ok (.ldc 156, 2) := dk_18 rfl rfl rfl
theorem dX11_readLine_52 : decode cX11_readLine 52 = .ok (.aload_n 0, 1) := dk_42 rfl
theorem dX11_readLine_53 : decode cX11_readLine 53 = .ok (.getfield 23, 3) := dk_180 rfl rfl rfl rfl
theorem dX11_readLine_56 : decode cX11_readLine 56 = .ok (.bipush 7, 2) := dk_16 rfl rfl (by decide)
theorem dX11_readLine_58 : decode cX11_readLine 58 = .ok (.iaload, 1) := dk_46 rfl
theorem dX11_readLine_59 : decode cX11_readLine 59 = .ok (.iconst 4, 1) := dk_7 rfl
theorem dX11_readLine_60 : decode cX11_readLine 60 = .ok (.if_icmp .ge 7, 3) := dk_162 rfl rfl rfl (by decide)
theorem dX11_readLine_63 : decode cX11_readLine 63 = .ok (.iconst 1, 1) := dk_4 rfl
theorem dX11_readLine_64 : decode cX11_readLine 64 = .ok (.goto 4, 3) := dk_167 rfl rfl rfl (by decide)
theorem dX11_readLine_67 : decode cX11_readLine 67 = .ok (.iconst 0, 1) := dk_3 rfl
theorem dX11_readLine_68 : decode cX11_readLine 68 = .ok (.invokevirtual 225, 3) := dk_182 rfl rfl rfl rfl
theorem dX11_readLine_71 : decode cX11_readLine 71 = .ok (.ifCond .eq 10, 3) := dk_153 rfl rfl rfl (by decide)
theorem dX11_readLine_74 : decode cX11_readLine 74 = .ok (.aload_n 0, 1) := dk_42 rfl
theorem dX11_readLine_75 : decode cX11_readLine 75 = .ok (.invokevirtual 232, 3) := dk_182 rfl rfl rfl rfl
theorem dX11_readLine_78 : decode cX11_readLine 78 = .ok (.goto 255, 3) := dk_167 rfl rfl rfl (by decide)
theorem dX11_readLine_81 : decode cX11_readLine 81 = .ok (.aload_n 0, 1) := dk_42 rfl
theorem dX11_readLine_82 : decode cX11_readLine 82 = .ok (.ldc 158, 2) := dk_18 rfl rfl rfl
theorem dX11_readLine_84 : decode cX11_readLine 84 = .ok (.aload_n 0, 1) := dk_42 rfl
theorem dX11_readLine_85 : decode cX11_readLine 85 = .ok (.getfield 23, 3) := dk_180 rfl rfl rfl rfl
theorem dX11_readLine_88 : decode cX11_readLine 88 = .ok (.bipush 8, 2) := dk_16 rfl rfl (by decide)
theorem dX11_readLine_90 : decode cX11_readLine 90 = .ok (.iaload, 1) := dk_46 rfl
theorem dX11_readLine_91 : decode cX11_readLine 91 = .ok (.bipush 12, 2) := dk_16 rfl rfl (by decide)
theorem dX11_readLine_93 : decode cX11_readLine 93 = .ok (.if_icmp .ge 7, 3) := dk_162 rfl rfl rfl (by decide)
theorem dX11_readLine_96 : decode cX11_readLine 96 = .ok (.iconst 1, 1) := dk_4 rfl
theorem dX11_readLine_97 : decode cX11_readLine 97 = .ok (.goto 4, 3) := by decide +kernel
theorem dX11_readLine_100 : decode cX11_readLine 100 = .ok (.iconst 0, 1) := by decide +kernel
theorem dX11_readLine_101 : decode cX11_readLine 101 = .ok (.invokevirtual 225, 3) := by decide +kernel
theorem dX11_readLine_104 : decode cX11_readLine 104 = .ok (.ifCond .eq 10, 3) := by decide +kernel
theorem dX11_readLine_107 : decode cX11_readLine 107 = .ok (.aload_n 0, 1) := by decide +kernel
theorem dX11_readLine_108 : decode cX11_readLine 108 = .ok (.invokevirtual 235, 3) := by decide +kernel
theorem dX11_readLine_111 : decode cX11_readLine 111 = .ok (.goto 222, 3) := by decide +kernel
theorem dX11_readLine_114 : decode cX11_readLine 114 = .ok (.aload_n 0, 1) := by decide +kernel
theorem dX11_readLine_115 : decode cX11_readLine 115 = .ok (.ldc 160, 2) := by decide +kernel
theorem dX11_readLine_117 : decode cX11_readLine 117 = .ok (.aload_n 0, 1) := by decide +kernel
theorem dX11_readLine_118 : decode cX11_readLine 118 = .ok (.getfield 23, 3) := by decide +kernel
theorem dX11_readLine_121 : decode cX11_readLine 121 = .ok (.bipush 9, 2) := by decide +kernel
theorem dX11_readLine_123 : decode cX11_readLine 123 = .ok (.iaload, 1) := by decide +kernel
theorem dX11_readLine_124 : decode cX11_readLine 124 = .ok (.bipush 8, 2) := by decide +kernel
theorem dX11_readLine_126 : decode cX11_readLine 126 = .ok (.if_icmp .ge 7, 3) := by decide +kernel
theorem dX11_readLine_129 : decode cX11_readLine 129 = .ok (.iconst 1, 1) := by decide +kernel
theorem dX11_readLine_130 : decode cX11_readLine 130 = .ok (.goto 4, 3) := by decide +kernel
theorem dX11_readLine_133 : decode cX11_readLine 133 = .ok (.iconst 0, 1) := by decide +kernel
theorem dX11_readLine_134 : decode cX11_readLine 134 = .ok (.invokevirtual 225, 3) := by decide +kernel
theorem dX11_readLine_137 : decode cX11_readLine 137 = .ok (.ifCond .eq 10, 3) := by decide +kernel
theorem dX11_readLine_140 : decode cX11_readLine 140 = .ok (.aload_n 0, 1) := by decide +kernel
theorem dX11_readLine_141 : decode cX11_readLine 141 = .ok (.invokevirtual 238, 3) := by decide +kernel
theorem dX11_readLine_144 : decode cX11_readLine 144 = .ok (.goto 189, 3) := by decide +kernel
theorem dX11_readLine_147 : decode cX11_readLine 147 = .ok (.aload_n 0, 1) := by decide +kernel
theorem dX11_readLine_148 : decode cX11_readLine 148 = .ok (.ldc 162, 2) := by decide +kernel
theorem dX11_readLine_150 : decode cX11_readLine 150 = .ok (.aload_n 0, 1) := by decide +kernel
theorem dX11_readLine_151 : decode cX11_readLine 151 = .ok (.getfield 23, 3) := by decide +kernel
theorem dX11_readLine_154 : decode cX11_readLine 154 = .ok (.bipush 10, 2) := by decide +kernel
theorem dX11_readLine_156 : decode cX11_readLine 156 = .ok (.iaload, 1) := by decide +kernel
theorem dX11_readLine_157 : decode cX11_readLine 157 = .ok (.bipush 6, 2) := by decide +kernel
theorem dX11_readLine_159 : decode cX11_readLine 159 = .ok (.if_icmp .ge 7, 3) := by decide +kernel
theorem dX11_readLine_162 : decode cX11_readLine 162 = .ok (.iconst 1, 1) := by decide +kernel
theorem dX11_readLine_163 : decode cX11_readLine 163 = .ok (.goto 4, 3) := by decide +kernel
theorem dX11_readLine_166 : decode cX11_readLine 166 = .ok (.iconst 0, 1) := by decide +kernel
theorem dX11_readLine_167 : decode cX11_readLine 167 = .ok (.invokevirtual 225, 3) := by decide +kernel
theorem dX11_readLine_170 : decode cX11_readLine 170 = .ok (.ifCond .eq 10, 3) := by decide +kernel
theorem dX11_readLine_173 : decode cX11_readLine 173 = .ok (.aload_n 0, 1) := by decide +kernel
theorem dX11_readLine_174 : decode cX11_readLine 174 = .ok (.invokevirtual 241, 3) := by decide +kernel
theorem dX11_readLine_177 : decode cX11_readLine 177 = .ok (.goto 156, 3) := by decide +kernel
theorem dX11_readLine_180 : decode cX11_readLine 180 = .ok (.aload_n 0, 1) := by decide +kernel
theorem dX11_readLine_181 : decode cX11_readLine 181 = .ok (.ldc 164, 2) := by decide +kernel
theorem dX11_readLine_183 : decode cX11_readLine 183 = .ok (.aload_n 0, 1) := by decide +kernel
theorem dX11_readLine_184 : decode cX11_readLine 184 = .ok (.getfield 23, 3) := by decide +kernel
theorem dX11_readLine_187 : decode cX11_readLine 187 = .ok (.bipush 11, 2) := by decide +kernel
theorem dX11_readLine_189 : decode cX11_readLine 189 = .ok (.iaload, 1) := by decide +kernel
theorem dX11_readLine_190 : decode cX11_readLine 190 = .ok (.iconst 4, 1) := by decide +kernel
theorem dX11_readLine_191 : decode cX11_readLine 191 = .ok (.if_icmp .ge 7, 3) := by decide +kernel
theorem dX11_readLine_194 : decode cX11_readLine 194 = .ok (.iconst 1, 1) := by decide +kernel
theorem dX11_readLine_195 : decode cX11_readLine 195 = .ok (.goto 4, 3) := by decide +kernel
theorem dX11_readLine_198 : decode cX11_readLine 198 = .ok (.iconst 0, 1) := by decide +kernel
theorem dX11_readLine_199 : decode cX11_readLine 199 = .ok (.invokevirtual 225, 3) := by decide +kernel
theorem dX11_readLine_202 : decode cX11_readLine 202 = .ok (.ifCond .eq 10, 3) := by decide +kernel
theorem dX11_readLine_205 : decode cX11_readLine 205 = .ok (.aload_n 0, 1) := by decide +kernel
theorem dX11_readLine_206 : decode cX11_readLine 206 = .ok (.invokevirtual 244, 3) := by decide +kernel
theorem dX11_readLine_209 : decode cX11_readLine 209 = .ok (.goto 124, 3) := by decide +kernel
theorem dX11_readLine_212 : decode cX11_readLine 212 = .ok (.aload_n 0, 1) := by decide +kernel
theorem dX11_readLine_213 : decode cX11_readLine 213 = .ok (.ldc 166, 2) := by decide +kernel
theorem dX11_readLine_215 : decode cX11_readLine 215 = .ok (.aload_n 0, 1) := by decide +kernel
theorem dX11_readLine_216 : decode cX11_readLine 216 = .ok (.getfield 23, 3) := by decide +kernel
theorem dX11_readLine_219 : decode cX11_readLine 219 = .ok (.bipush 12, 2) := by decide +kernel
theorem dX11_readLine_221 : decode cX11_readLine 221 = .ok (.iaload, 1) := by decide +kernel
theorem dX11_readLine_222 : decode cX11_readLine 222 = .ok (.ifCond .le 7, 3) := by decide +kernel
theorem dX11_readLine_225 : decode cX11_readLine 225 = .ok (.iconst 1, 1) := by decide +kernel
theorem dX11_readLine_226 : decode cX11_readLine 226 = .ok (.goto 4, 3) := by decide +kernel
theorem dX11_readLine_229 : decode cX11_readLine 229 = .ok (.iconst 0, 1) := by decide +kernel
theorem dX11_readLine_230 : decode cX11_readLine 230 = .ok (.invokevirtual 247, 3) := by decide +kernel
theorem dX11_readLine_233 : decode cX11_readLine 233 = .ok (.ifCond .eq 10, 3) := by decide +kernel
theorem dX11_readLine_236 : decode cX11_readLine 236 = .ok (.aload_n 0, 1) := by decide +kernel
theorem dX11_readLine_237 : decode cX11_readLine 237 = .ok (.invokevirtual 250, 3) := by decide +kernel
theorem dX11_readLine_240 : decode cX11_readLine 240 = .ok (.goto 93, 3) := by decide +kernel
theorem dX11_readLine_243 : decode cX11_readLine 243 = .ok (.aload_n 0, 1) := by decide +kernel
theorem dX11_readLine_244 : decode cX11_readLine 244 = .ok (.ldc 168, 2) := by decide +kernel
theorem dX11_readLine_246 : decode cX11_readLine 246 = .ok (.aload_n 0, 1) := by decide +kernel
theorem dX11_readLine_247 : decode cX11_readLine 247 = .ok (.getfield 23, 3) := by decide +kernel
theorem dX11_readLine_250 : decode cX11_readLine 250 = .ok (.sipush 134, 3) := by decide +kernel
theorem dX11_readLine_253 : decode cX11_readLine 253 = .ok (.iaload, 1) := by decide +kernel
theorem dX11_readLine_254 : decode cX11_readLine 254 = .ok (.ifCond .le 7, 3) := by decide +kernel
theorem dX11_readLine_257 : decode cX11_readLine 257 = .ok (.iconst 1, 1) := by decide +kernel
theorem dX11_readLine_258 : decode cX11_readLine 258 = .ok (.goto 4, 3) := by decide +kernel
theorem dX11_readLine_261 : decode cX11_readLine 261 = .ok (.iconst 0, 1) := by decide +kernel
theorem dX11_readLine_262 : decode cX11_readLine 262 = .ok (.invokevirtual 247, 3) := by decide +kernel
theorem dX11_readLine_265 : decode cX11_readLine 265 = .ok (.ifCond .eq 10, 3) := by decide +kernel
theorem dX11_readLine_268 : decode cX11_readLine 268 = .ok (.aload_n 0, 1) := by decide +kernel
theorem dX11_readLine_269 : decode cX11_readLine 269 = .ok (.invokevirtual 253, 3) := by decide +kernel
theorem dX11_readLine_272 : decode cX11_readLine 272 = .ok (.goto 61, 3) := by decide +kernel
theorem dX11_readLine_275 : decode cX11_readLine 275 = .ok (.aload_n 0, 1) := by decide +kernel
theorem dX11_readLine_276 : decode cX11_readLine 276 = .ok (.ldc 172, 2) := by decide +kernel
theorem dX11_readLine_278 : decode cX11_readLine 278 = .ok (.invokevirtual 138, 3) := by decide +kernel
theorem dX11_readLine_281 : decode cX11_readLine 281 = .ok (.ifCond .eq 10, 3) := by decide +kernel
theorem dX11_readLine_284 : decode cX11_readLine 284 = .ok (.aload_n 0, 1) := by decide +kernel
theorem dX11_readLine_285 : decode cX11_readLine 285 = .ok (.invokevirtual 256, 3) := by decide +kernel
theorem dX11_readLine_288 : decode cX11_readLine 288 = .ok (.goto 45, 3) := by decide +kernel
theorem dX11_readLine_291 : decode cX11_readLine 291 = .ok (.aload_n 0, 1) := by decide +kernel
theorem dX11_readLine_292 : decode cX11_readLine 292 = .ok (.ldc 174, 2) := by decide +kernel
theorem dX11_readLine_294 : decode cX11_readLine 294 = .ok (.aload_n 0, 1) := by decide +kernel
theorem dX11_readLine_295 : decode cX11_readLine 295 = .ok (.getfield 23, 3) := by decide +kernel
theorem dX11_readLine_298 : decode cX11_readLine 298 = .ok (.bipush 14, 2) := by decide +kernel
theorem dX11_readLine_300 : decode cX11_readLine 300 = .ok (.iaload, 1) := by decide +kernel
theorem dX11_readLine_301 : decode cX11_readLine 301 = .ok (.bipush 6, 2) := by decide +kernel
theorem dX11_readLine_303 : decode cX11_readLine 303 = .ok (.if_icmp .ge 7, 3) := by decide +kernel
theorem dX11_readLine_306 : decode cX11_readLine 306 = .ok (.iconst 1, 1) := by decide +kernel
theorem dX11_readLine_307 : decode cX11_readLine 307 = .ok (.goto 4, 3) := by decide +kernel
theorem dX11_readLine_310 : decode cX11_readLine 310 = .ok (.iconst 0, 1) := by decide +kernel
theorem dX11_readLine_311 : decode cX11_readLine 311 = .ok (.invokevirtual 225, 3) := by decide +kernel
theorem dX11_readLine_314 : decode cX11_readLine 314 = .ok (.ifCond .eq 10, 3) := by decide +kernel
theorem dX11_readLine_317 : decode cX11_readLine 317 = .ok (.aload_n 0, 1) := by decide +kernel
theorem dX11_readLine_318 : decode cX11_readLine 318 = .ok (.invokevirtual 259, 3) := by decide +kernel
theorem dX11_readLine_321 : decode cX11_readLine 321 = .ok (.goto 12, 3) := by decide +kernel
theorem dX11_readLine_324 : decode cX11_readLine 324 = .ok (.aload_n 0, 1) := by decide +kernel
theorem dX11_readLine_325 : decode cX11_readLine 325 = .ok (.iconst 1, 1) := by decide +kernel
theorem dX11_readLine_326 : decode cX11_readLine 326 = .ok (.aload_n 0, 1) := by decide +kernel
theorem dX11_readLine_327 : decode cX11_readLine 327 = .ok (.getfield 102, 3) := by decide +kernel
theorem dX11_readLine_330 : decode cX11_readLine 330 = .ok (.invokevirtual 148, 3) := by decide +kernel
theorem dX11_readLine_333 : decode cX11_readLine 333 = .ok (.return_, 1) := by decide +kernel
