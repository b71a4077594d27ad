theorem dX11_newName_0 : decode cX11_newName 0 = .ok (.aload_n 0, 1) := dk_42 rfl
theorem dX11_newName_1 : decode cX11_newName 1 = .ok (.getfield 121, 3) := dk_180 rfl rfl rfl rfl
theorem dX11_newName_4 : decode cX11_newName 4 = .ok (.ifCond .eq 4, 3) := dk_153 rfl rfl rfl (by decide)
theorem dX11_newName_7 : decode cX11_newName 7 = .ok (.return_, 1) := dk_177 rfl
theorem dX11_newName_8 : decode cX11_newName 8 = .ok (.aload_n 0, 1) := dk_42 rfl
theorem dX11_newName_9 : decode cX11_newName 9 = .ok (.invokevirtual 176, 3) := dk_182 rfl rfl rfl rfl
theorem dX11_newName_12 : decode cX11_newName 12 = .ok (.aload_n 0, 1) := dk_42 rfl
theorem dX11_newName_13 : decode cX11_newName 13 = .ok (.getfield 121, 3) := dk_180 rfl rfl rfl rfl
theorem dX11_newName_16 : decode cX11_newName 16 = .ok (.ifCond .ne 19, 3) := dk_154 rfl rfl rfl (by decide)
theorem dX11_newName_19 : decode cX11_newName 19 = .ok (.aload_n 0, 1) := dk_42 rfl
theorem dX11_newName_20 : decode cX11_newName 20 = .ok (.invokevirtual 179, 3) := dk_182 rfl rfl rfl rfl
theorem dX11_newName_23 : decode cX11_newName 23 = .ok (.ifCond .lt 12, 3) := dk_155 rfl rfl rfl (by decide)
theorem dX11_newName_26 : decode cX11_newName 26 = .ok (.aload_n 0, 1) := dk_42 rfl
theorem dX11_newName_27 : decode cX11_newName 27 = .ok (.iconst 3, 1) := dk_6 rfl
theorem dX11_newName_28 : decode cX11_newName 28 = .ok (.aload_n 0, 1) := dk_42 rfl
theorem dX11_newName_29 : decode cX11_newName 29 = .ok (.getfield 102, 3) := dk_180 rfl rfl rfl rfl
theorem dX11_newName_32 : decode cX11_newName 32 = .ok (.invokevirtual 148, 3) := dk_182 rfl rfl rfl rfl
theorem dX11_newName_35 : decode cX11_newName 35 = .ok (.aload_n 0, 1) := dk_42 rfl
theorem dX11_newName_36 : decode cX11_newName 36 = .ok (.getfield 121, 3) := dk_180 rfl rfl rfl rfl
theorem dX11_newName_39 : decode cX11_newName 39 = .ok (.ifCond .eq 4, 3) := dk_153 rfl rfl rfl (by decide)
theorem dX11_newName_42 : decode cX11_newName 42 = .ok (.return_, 1) := dk_177 rfl
theorem dX11_newName_43 : decode cX11_newName 43 = .ok (.iconst 0, 1) := dk_3 rfl
theorem dX11_newName_44 : decode cX11_newName 44 = .ok (.istore_n 2, 1) := dk_61 rfl
theorem dX11_newName_45 : decode cX11_newName 45 = .ok (.iload_n 2, 1) := dk_28 rfl
theorem dX11_newName_46 : decode cX11_newName 46 = .ok (.aload_n 0, 1) := dk_42 rfl
theorem dX11_newName_47 : decode cX11_newName 47 = .ok (.getfield 105, 3) := dk_180 rfl rfl rfl rfl
theorem dX11_newName_50 : decode cX11_newName 50 = .ok (.if_icmp .ge 30, 3) := dk_162 rfl rfl rfl (by decide)
theorem dX11_newName_53 : decode cX11_newName 53 = .ok (.aload_n 0, 1) := dk_42 rfl
theorem dX11_newName_54 : decode cX11_newName 54 = .ok (.getfield 23, 3) := dk_180 rfl rfl rfl rfl
theorem dX11_newName_57 : decode cX11_newName 57 = .ok (.sipush 183, 3) := dk_17 rfl rfl rfl (by decide)
theorem dX11_newName_60 : decode cX11_newName 60 = .ok (.bipush 8, 2) := dk_16 rfl rfl (by decide)
theorem dX11_newName_62 : decode cX11_newName 62 = .ok (.iload_n 1, 1) := dk_27 rfl
theorem dX11_newName_63 : decode cX11_newName 63 = .ok (.imul, 1) := dk_104 rfl
theorem dX11_newName_64 : decode cX11_newName 64 = .ok (.iadd, 1) := dk_96 rfl
theorem dX11_newName_65 : decode cX11_newName 65 = .ok (.iload_n 2, 1) := dk_28 rfl
theorem dX11_newName_66 : decode cX11_newName 66 = .ok (.iadd, 1) := dk_96 rfl
theorem dX11_newName_67 : decode cX11_newName 67 = .ok (.aload_n 0, 1) := dk_42 rfl
theorem dX11_newName_68 : decode cX11_newName 68 = .ok (.getfield 17, 3) := dk_180 rfl rfl rfl rfl
theorem dX11_newName_71 : decode cX11_newName 71 = .ok (.iload_n 2, 1) := dk_28 rfl
theorem dX11_newName_72 : decode cX11_newName 72 = .ok (.iaload, 1) := dk_46 rfl
theorem dX11_newName_73 : decode cX11_newName 73 = .ok (.iastore, 1) := dk_79 rfl
theorem dX11_newName_74 : decode cX11_newName 74 = .ok (.iinc 2 1, 3) := dk_132 rfl rfl rfl rfl (by decide)
theorem dX11_newName_77 : decode cX11_newName 77 = .ok (.goto (-32), 3) := dk_167 rfl rfl rfl (by decide)
theorem dX11_newName_80 : decode cX11_newName 80 = .ok (.aload_n 0, 1) := dk_42 rfl
theorem dX11_newName_81 : decode cX11_newName 81 = .ok (.getfield 23, 3) := dk_180 rfl rfl rfl rfl
theorem dX11_newName_84 : decode cX11_newName 84 = .ok (.sipush 167, 3) := dk_17 rfl rfl rfl (by decide)
theorem dX11_newName_87 : decode cX11_newName 87 = .ok (.iload_n 1, 1) := dk_27 rfl
theorem dX11_newName_88 : decode cX11_newName 88 = .ok (.iadd, 1) := dk_96 rfl
theorem dX11_newName_89 : decode cX11_newName 89 = .ok (.aload_n 0, 1) := dk_42 rfl
theorem dX11_newName_90 : decode cX11_newName 90 = .ok (.getfield 105, 3) := dk_180 rfl rfl rfl rfl
theorem dX11_newName_93 : decode cX11_newName 93 = .ok (.iastore, 1) := dk_79 rfl
theorem dX11_newName_94 : decode cX11_newName 94 = .ok (.aload_n 0, 1) := dk_42 rfl
theorem dX11_newName_95 : decode cX11_newName 95 = .ok (.invokevirtual 142, 3) := dk_182 rfl rfl rfl rfl
theorem dX11_newName_98 : decode cX11_newName 98 = .ok (.return_, 1) := by decide +kernel
theorem dX11_named_0 : decode cX11_named 0 = .ok (.aload_n 0, 1) := dk_42 rfl
theorem dX11_named_1 : decode cX11_named 1 = .ok (.getfield 121, 3) := dk_180 rfl rfl rfl rfl
theorem dX11_named_4 : decode cX11_named 4 = .ok (.ifCond .eq 5, 3) := dk_153 rfl rfl rfl (by decide)
theorem dX11_named_7 : decode cX11_named 7 = .ok (.iconst 0, 1) := dk_3 rfl
theorem dX11_named_8 : decode cX11_named 8 = .ok (.ireturn, 1) := dk_172 rfl
theorem dX11_named_9 : decode cX11_named 9 = .ok (.aload_n 0, 1) := dk_42 rfl
theorem dX11_named_10 : decode cX11_named 10 = .ok (.invokevirtual 176, 3) := dk_182 rfl rfl rfl rfl
theorem dX11_named_13 : decode cX11_named 13 = .ok (.aload_n 0, 1) := dk_42 rfl
theorem dX11_named_14 : decode cX11_named 14 = .ok (.getfield 121, 3) := dk_180 rfl rfl rfl rfl
theorem dX11_named_17 : decode cX11_named 17 = .ok (.ifCond .eq 5, 3) := dk_153 rfl rfl rfl (by decide)
theorem dX11_named_20 : decode cX11_named 20 = .ok (.iconst 0, 1) := dk_3 rfl
theorem dX11_named_21 : decode cX11_named 21 = .ok (.ireturn, 1) := dk_172 rfl
theorem dX11_named_22 : decode cX11_named 22 = .ok (.aload_n 0, 1) := dk_42 rfl
theorem dX11_named_23 : decode cX11_named 23 = .ok (.invokevirtual 179, 3) := dk_182 rfl rfl rfl rfl
theorem dX11_named_26 : decode cX11_named 26 = .ok (.istore_n 3, 1) := dk_62 rfl
theorem dX11_named_27 : decode cX11_named 27 = .ok (.iload_n 3, 1) := dk_29 rfl
theorem dX11_named_28 : decode cX11_named 28 = .ok (.iload_n 1, 1) := dk_27 rfl
theorem dX11_named_29 : decode cX11_named 29 = .ok (.iload_n 2, 1) := dk_28 rfl
theorem dX11_named_30 : decode cX11_named 30 = .ok (.invokestatic 182, 3) := dk_184 rfl rfl rfl rfl
theorem dX11_named_33 : decode cX11_named 33 = .ok (.ifCond .ne 12, 3) := dk_154 rfl rfl rfl (by decide)
theorem dX11_named_36 : decode cX11_named 36 = .ok (.aload_n 0, 1) := dk_42 rfl
theorem dX11_named_37 : decode cX11_named 37 = .ok (.iconst 2, 1) := dk_5 rfl
theorem dX11_named_38 : decode cX11_named 38 = .ok (.aload_n 0, 1) := dk_42 rfl
theorem dX11_named_39 : decode cX11_named 39 = .ok (.getfield 102, 3) := dk_180 rfl rfl rfl rfl
theorem dX11_named_42 : decode cX11_named 42 = .ok (.invokevirtual 148, 3) := dk_182 rfl rfl rfl rfl
theorem dX11_named_45 : decode cX11_named 45 = .ok (.aload_n 0, 1) := dk_42 rfl
theorem dX11_named_46 : decode cX11_named 46 = .ok (.getfield 121, 3) := dk_180 rfl rfl rfl rfl
theorem dX11_named_49 : decode cX11_named 49 = .ok (.ifCond .eq 7, 3) := dk_153 rfl rfl rfl (by decide)
theorem dX11_named_52 : decode cX11_named 52 = .ok (.iconst 0, 1) := dk_3 rfl
theorem dX11_named_53 : decode cX11_named 53 = .ok (.goto 6, 3) := dk_167 rfl rfl rfl (by decide)
theorem dX11_named_56 : decode cX11_named 56 = .ok (.iload_n 3, 1) := dk_29 rfl
theorem dX11_named_57 : decode cX11_named 57 = .ok (.iload_n 1, 1) := dk_27 rfl
theorem dX11_named_58 : decode cX11_named 58 = .ok (.isub, 1) := dk_100 rfl
theorem dX11_named_59 : decode cX11_named 59 = .ok (.ireturn, 1) := dk_172 rfl
theorem dX11_reelPassed_0 : decode cX11_reelPassed 0 = .ok (.aload_n 0, 1) := dk_42 rfl
theorem dX11_reelPassed_1 : decode cX11_reelPassed 1 = .ok (.iconst 0, 1) := dk_3 rfl
theorem dX11_reelPassed_2 : decode cX11_reelPassed 2 = .ok (.bipush 7, 2) := dk_16 rfl rfl (by decide)
theorem dX11_reelPassed_4 : decode cX11_reelPassed 4 = .ok (.invokevirtual 186, 3) := dk_182 rfl rfl rfl rfl
theorem dX11_reelPassed_7 : decode cX11_reelPassed 7 = .ok (.istore_n 1, 1) := dk_60 rfl
theorem dX11_reelPassed_8 : decode cX11_reelPassed 8 = .ok (.aload_n 0, 1) := dk_42 rfl
theorem dX11_reelPassed_9 : decode cX11_reelPassed 9 = .ok (.getfield 121, 3) := dk_180 rfl rfl rfl rfl
theorem dX11_reelPassed_12 : decode cX11_reelPassed 12 = .ok (.ifCond .ne 7, 3) := dk_154 rfl rfl rfl (by decide)
theorem dX11_reelPassed_15 : decode cX11_reelPassed 15 = .ok (.aload_n 0, 1) := dk_42 rfl
theorem dX11_reelPassed_16 : decode cX11_reelPassed 16 = .ok (.invokevirtual 142, 3) := dk_182 rfl rfl rfl rfl
theorem dX11_reelPassed_19 : decode cX11_reelPassed 19 = .ok (.iload_n 1, 1) := dk_27 rfl
theorem dX11_reelPassed_20 : decode cX11_reelPassed 20 = .ok (.ireturn, 1) := dk_172 rfl
theorem dX11_numberHere_0 : decode cX11_numberHere 0 = .ok (.aload_n 0, 1) := dk_42 rfl
theorem dX11_numberHere_1 : decode cX11_numberHere 1 = .ok (.getfield 121, 3) := dk_180 rfl rfl rfl rfl
theorem dX11_numberHere_4 : decode cX11_numberHere 4 = .ok (.ifCond .eq 5, 3) := dk_153 rfl rfl rfl (by decide)
theorem dX11_numberHere_7 : decode cX11_numberHere 7 = .ok (.iload_n 1, 1) := dk_27 rfl
theorem dX11_numberHere_8 : decode cX11_numberHere 8 = .ok (.ireturn, 1) := dk_172 rfl
theorem dX11_numberHere_9 : decode cX11_numberHere 9 = .ok (.aload_n 0, 1) := dk_42 rfl
theorem dX11_numberHere_10 : decode cX11_numberHere 10 = .ok (.getfield 111, 3) := dk_180 rfl rfl rfl rfl
theorem dX11_numberHere_13 : decode cX11_numberHere 13 = .ok (.iconst 3, 1) := dk_6 rfl
theorem dX11_numberHere_14 : decode cX11_numberHere 14 = .ok (.if_icmp .eq 15, 3) := dk_159 rfl rfl rfl (by decide)
theorem dX11_numberHere_17 : decode cX11_numberHere 17 = .ok (.aload_n 0, 1) := dk_42 rfl
theorem dX11_numberHere_18 : decode cX11_numberHere 18 = .ok (.iconst 1, 1) := dk_4 rfl
theorem dX11_numberHere_19 : decode cX11_numberHere 19 = .ok (.aload_n 0, 1) := dk_42 rfl
theorem dX11_numberHere_20 : decode cX11_numberHere 20 = .ok (.getfield 102, 3) := dk_180 rfl rfl rfl rfl
theorem dX11_numberHere_23 : decode cX11_numberHere 23 = .ok (.invokevirtual 148, 3) := dk_182 rfl rfl rfl rfl
theorem dX11_numberHere_26 : decode cX11_numberHere 26 = .ok (.goto 24, 3) := dk_167 rfl rfl rfl (by decide)
theorem dX11_numberHere_29 : decode cX11_numberHere 29 = .ok (.aload_n 0, 1) := dk_42 rfl
theorem dX11_numberHere_30 : decode cX11_numberHere 30 = .ok (.getfield 108, 3) := dk_180 rfl rfl rfl rfl
theorem dX11_numberHere_33 : decode cX11_numberHere 33 = .ok (.iload_n 1, 1) := dk_27 rfl
theorem dX11_numberHere_34 : decode cX11_numberHere 34 = .ok (.iload_n 2, 1) := dk_28 rfl
theorem dX11_numberHere_35 : decode cX11_numberHere 35 = .ok (.invokestatic 182, 3) := dk_184 rfl rfl rfl rfl
theorem dX11_numberHere_38 : decode cX11_numberHere 38 = .ok (.ifCond .ne 12, 3) := dk_154 rfl rfl rfl (by decide)
theorem dX11_numberHere_41 : decode cX11_numberHere 41 = .ok (.aload_n 0, 1) := dk_42 rfl
theorem dX11_numberHere_42 : decode cX11_numberHere 42 = .ok (.iconst 4, 1) := dk_7 rfl
theorem dX11_numberHere_43 : decode cX11_numberHere 43 = .ok (.aload_n 0, 1) := dk_42 rfl
theorem dX11_numberHere_44 : decode cX11_numberHere 44 = .ok (.getfield 102, 3) := dk_180 rfl rfl rfl rfl
theorem dX11_numberHere_47 : decode cX11_numberHere 47 = .ok (.invokevirtual 148, 3) := dk_182 rfl rfl rfl rfl
theorem dX11_numberHere_50 : decode cX11_numberHere 50 = .ok (.aload_n 0, 1) := dk_42 rfl
theorem dX11_numberHere_51 : decode cX11_numberHere 51 = .ok (.getfield 121, 3) := dk_180 rfl rfl rfl rfl
theorem dX11_numberHere_54 : decode cX11_numberHere 54 = .ok (.ifCond .eq 7, 3) := dk_153 rfl rfl rfl (by decide)
theorem dX11_numberHere_57 : decode cX11_numberHere 57 = .ok (.iload_n 1, 1) := dk_27 rfl
theorem dX11_numberHere_58 : decode cX11_numberHere 58 = .ok (.goto 7, 3) := dk_167 rfl rfl rfl (by decide)
theorem dX11_numberHere_61 : decode cX11_numberHere 61 = .ok (.aload_n 0, 1) := dk_42 rfl
theorem dX11_numberHere_62 : decode cX11_numberHere 62 = .ok (.getfield 108, 3) := dk_180 rfl rfl rfl rfl
theorem dX11_numberHere_65 : decode cX11_numberHere 65 = .ok (.ireturn, 1) := dk_172 rfl
theorem dX11_number_0 : decode cX11_number 0 = .ok (.aload_n 0, 1) := dk_42 rfl
theorem dX11_number_1 : decode cX11_number 1 = .ok (.iload_n 1, 1) := dk_27 rfl
theorem dX11_number_2 : decode cX11_number 2 = .ok (.iload_n 2, 1) := dk_28 rfl
theorem dX11_number_3 : decode cX11_number 3 = .ok (.invokevirtual 190, 3) := dk_182 rfl rfl rfl rfl
theorem dX11_number_6 : decode cX11_number 6 = .ok (.istore_n 3, 1) := dk_62 rfl
theorem dX11_number_7 : decode cX11_number 7 = .ok (.aload_n 0, 1) := dk_42 rfl
theorem dX11_number_8 : decode cX11_number 8 = .ok (.getfield 121, 3) := dk_180 rfl rfl rfl rfl
theorem dX11_number_11 : decode cX11_number 11 = .ok (.ifCond .ne 7, 3) := dk_154 rfl rfl rfl (by decide)
theorem dX11_number_14 : decode cX11_number 14 = .ok (.aload_n 0, 1) := dk_42 rfl
theorem dX11_number_15 : decode cX11_number 15 = .ok (.invokevirtual 142, 3) := dk_182 rfl rfl rfl rfl
theorem dX11_number_18 : decode cX11_number 18 = .ok (.iload_n 3, 1) := dk_29 rfl
theorem dX11_number_19 : decode cX11_number 19 = .ok (.ireturn, 1) := dk_172 rfl
theorem dX11_after_0 : decode cX11_after 0 = .ok (.aload_n 0, 1) := dk_42 rfl
theorem dX11_after_1 : decode cX11_after 1 = .ok (.aload_n 1, 1) := dk_43 rfl
theorem dX11_after_2 : decode cX11_after 2 = .ok (.invokevirtual 193, 3) := dk_182 rfl rfl rfl rfl
theorem dX11_after_5 : decode cX11_after 5 = .ok (.aload_n 0, 1) := dk_42 rfl
theorem dX11_after_6 : decode cX11_after 6 = .ok (.iload_n 2, 1) := dk_28 rfl
theorem dX11_after_7 : decode cX11_after 7 = .ok (.iload_n 3, 1) := dk_29 rfl
theorem dX11_after_8 : decode cX11_after 8 = .ok (.invokevirtual 197, 3) := dk_182 rfl rfl rfl rfl
theorem dX11_after_11 : decode cX11_after 11 = .ok (.ireturn, 1) := dk_172 rfl
theorem dX11_comma_0 : decode cX11_comma 0 = .ok (.aload_n 0, 1) := dk_42 rfl
theorem dX11_comma_1 : decode cX11_comma 1 = .ok (.getfield 121, 3) := dk_180 rfl rfl rfl rfl
theorem dX11_comma_4 : decode cX11_comma 4 = .ok (.ifCond .ne 12, 3) := dk_154 rfl rfl rfl (by decide)
theorem dX11_comma_7 : decode cX11_comma 7 = .ok (.aload_n 0, 1) := dk_42 rfl
theorem dX11_comma_8 : decode cX11_comma 8 = .ok (.getfield 111, 3) := dk_180 rfl rfl rfl rfl
theorem dX11_comma_11 : decode cX11_comma 11 = .ok (.bipush 44, 2) := dk_16 rfl rfl (by decide)
theorem dX11_comma_13 : decode cX11_comma 13 = .ok (.if_icmp .eq 5, 3) := dk_159 rfl rfl rfl (by decide)
theorem dX11_comma_16 : decode cX11_comma 16 = .ok (.iconst 0, 1) := dk_3 rfl
theorem dX11_comma_17 : decode cX11_comma 17 = .ok (.ireturn, 1) := dk_172 rfl
theorem dX11_comma_18 : decode cX11_comma 18 = .ok (.aload_n 0, 1) := dk_42 rfl
theorem dX11_comma_19 : decode cX11_comma 19 = .ok (.invokevirtual 142, 3) := dk_182 rfl rfl rfl rfl
theorem dX11_comma_22 : decode cX11_comma 22 = .ok (.iconst 1, 1) := dk_4 rfl
theorem dX11_comma_23 : decode cX11_comma 23 = .ok (.ireturn, 1) := dk_172 rfl
theorem dX11_opens_0 : decode cX11_opens 0 = .ok (.aload_n 0, 1) := dk_42 rfl
theorem dX11_opens_1 : decode cX11_opens 1 = .ok (.aload_n 1, 1) := dk_43 rfl
theorem dX11_opens_2 : decode cX11_opens 2 = .ok (.invokevirtual 138, 3) := dk_182 rfl rfl rfl rfl
theorem dX11_opens_5 : decode cX11_opens 5 = .ok (.ifCond .ne 5, 3) := dk_154 rfl rfl rfl (by decide)
theorem dX11_opens_8 : decode cX11_opens 8 = .ok (.iconst 0, 1) := dk_3 rfl
theorem dX11_opens_9 : decode cX11_opens 9 = .ok (.ireturn, 1) := dk_172 rfl
theorem dX11_opens_10 : decode cX11_opens 10 = .ok (.iload_n 2, 1) := dk_28 rfl
theorem dX11_opens_11 : decode cX11_opens 11 = .ok (.ifCond .ne 12, 3) := dk_154 rfl rfl rfl (by decide)
theorem dX11_opens_14 : decode cX11_opens 14 = .ok (.aload_n 0, 1) := dk_42 rfl
theorem dX11_opens_15 : decode cX11_opens 15 = .ok (.iconst 5, 1) := dk_8 rfl
theorem dX11_opens_16 : decode cX11_opens 16 = .ok (.aload_n 0, 1) := dk_42 rfl
theorem dX11_opens_17 : decode cX11_opens 17 = .ok (.getfield 102, 3) := dk_180 rfl rfl rfl rfl
theorem dX11_opens_20 : decode cX11_opens 20 = .ok (.invokevirtual 148, 3) := dk_182 rfl rfl rfl rfl
theorem dX11_opens_23 : decode cX11_opens 23 = .ok (.aload_n 0, 1) := dk_42 rfl
theorem dX11_opens_24 : decode cX11_opens 24 = .ok (.getfield 23, 3) := dk_180 rfl rfl rfl rfl
theorem dX11_opens_27 : decode cX11_opens 27 = .ok (.bipush 15, 2) := dk_16 rfl rfl (by decide)
theorem dX11_opens_29 : decode cX11_opens 29 = .ok (.iaload, 1) := dk_46 rfl
theorem dX11_opens_30 : decode cX11_opens 30 = .ok (.ifCond .ne 13, 3) := dk_154 rfl rfl rfl (by decide)
theorem dX11_opens_33 : decode cX11_opens 33 = .ok (.aload_n 0, 1) := dk_42 rfl
theorem dX11_opens_34 : decode cX11_opens 34 = .ok (.bipush 6, 2) := dk_16 rfl rfl (by decide)
theorem dX11_opens_36 : decode cX11_opens 36 = .ok (.aload_n 0, 1) := dk_42 rfl
theorem dX11_opens_37 : decode cX11_opens 37 = .ok (.getfield 102, 3) := dk_180 rfl rfl rfl rfl
theorem dX11_opens_40 : decode cX11_opens 40 = .ok (.invokevirtual 148, 3) := dk_182 rfl rfl rfl rfl
theorem dX11_opens_43 : decode cX11_opens 43 = .ok (.aload_n 0, 1) := dk_42 rfl
theorem dX11_opens_44 : decode cX11_opens 44 = .ok (.getfield 121, 3) := dk_180 rfl rfl rfl rfl
theorem dX11_opens_47 : decode cX11_opens 47 = .ok (.ifCond .ne 7, 3) := dk_154 rfl rfl rfl (by decide)
theorem dX11_opens_50 : decode cX11_opens 50 = .ok (.aload_n 0, 1) := dk_42 rfl
theorem dX11_opens_51 : decode cX11_opens 51 = .ok (.invokevirtual 142, 3) := dk_182 rfl rfl rfl rfl
theorem dX11_opens_54 : decode cX11_opens 54 = .ok (.iconst 1, 1) := dk_4 rfl
theorem dX11_opens_55 : decode cX11_opens 55 = .ok (.ireturn, 1) := dk_172 rfl
theorem dX11_opensOnce_0 : decode cX11_opensOnce 0 = .ok (.aload_n 0, 1) := dk_42 rfl
theorem dX11_opensOnce_1 : decode cX11_opensOnce 1 = .ok (.aload_n 1, 1) := dk_43 rfl
theorem dX11_opensOnce_2 : decode cX11_opensOnce 2 = .ok (.invokevirtual 138, 3) := dk_182 rfl rfl rfl rfl
theorem dX11_opensOnce_5 : decode cX11_opensOnce 5 = .ok (.ifCond .ne 5, 3) := dk_154 rfl rfl rfl (by decide)
theorem dX11_opensOnce_8 : decode cX11_opensOnce 8 = .ok (.iconst 0, 1) := dk_3 rfl
theorem dX11_opensOnce_9 : decode cX11_opensOnce 9 = .ok (.ireturn, 1) := dk_172 rfl
theorem dX11_opensOnce_10 : decode cX11_opensOnce 10 = .ok (.iload_n 2, 1) := dk_28 rfl
theorem dX11_opensOnce_11 : decode cX11_opensOnce 11 = .ok (.ifCond .eq 12, 3) := dk_153 rfl rfl rfl (by decide)
theorem dX11_opensOnce_14 : decode cX11_opensOnce 14 = .ok (.aload_n 0, 1) := dk_42 rfl
theorem dX11_opensOnce_15 : decode cX11_opensOnce 15 = .ok (.iconst 3, 1) := dk_6 rfl
theorem dX11_opensOnce_16 : decode cX11_opensOnce 16 = .ok (.aload_n 0, 1) := dk_42 rfl
theorem dX11_opensOnce_17 : decode cX11_opensOnce 17 = .ok (.getfield 102, 3) := dk_180 rfl rfl rfl rfl
theorem dX11_opensOnce_20 : decode cX11_opensOnce 20 = .ok (.invokevirtual 148, 3) := dk_182 rfl rfl rfl rfl
theorem dX11_opensOnce_23 : decode cX11_opensOnce 23 = .ok (.aload_n 0, 1) := dk_42 rfl
theorem dX11_opensOnce_24 : decode cX11_opensOnce 24 = .ok (.getfield 23, 3) := dk_180 rfl rfl rfl rfl
theorem dX11_opensOnce_27 : decode cX11_opensOnce 27 = .ok (.bipush 15, 2) := dk_16 rfl rfl (by decide)
theorem dX11_opensOnce_29 : decode cX11_opensOnce 29 = .ok (.iaload, 1) := dk_46 rfl
theorem dX11_opensOnce_30 : decode cX11_opensOnce 30 = .ok (.ifCond .ne 13, 3) := dk_154 rfl rfl rfl (by decide)
theorem dX11_opensOnce_33 : decode cX11_opensOnce 33 = .ok (.aload_n 0, 1) := dk_42 rfl
theorem dX11_opensOnce_34 : decode cX11_opensOnce 34 = .ok (.bipush 6, 2) := dk_16 rfl rfl (by decide)
theorem dX11_opensOnce_36 : decode cX11_opensOnce 36 = .ok (.aload_n 0, 1) := dk_42 rfl
theorem dX11_opensOnce_37 : decode cX11_opensOnce 37 = .ok (.getfield 102, 3) := dk_180 rfl rfl rfl rfl
theorem dX11_opensOnce_40 : decode cX11_opensOnce 40 = .ok (.invokevirtual 148, 3) := dk_182 rfl rfl rfl rfl
theorem dX11_opensOnce_43 : decode cX11_opensOnce 43 = .ok (.aload_n 0, 1) := dk_42 rfl
theorem dX11_opensOnce_44 : decode cX11_opensOnce 44 = .ok (.getfield 121, 3) := dk_180 rfl rfl rfl rfl
theorem dX11_opensOnce_47 : decode cX11_opensOnce 47 = .ok (.ifCond .ne 7, 3) := dk_154 rfl rfl rfl (by decide)
theorem dX11_opensOnce_50 : decode cX11_opensOnce 50 = .ok (.aload_n 0, 1) := dk_42 rfl
theorem dX11_opensOnce_51 : decode cX11_opensOnce 51 = .ok (.invokevirtual 142, 3) := dk_182 rfl rfl rfl rfl
theorem dX11_opensOnce_54 : decode cX11_opensOnce 54 = .ok (.iconst 1, 1) := dk_4 rfl
theorem dX11_opensOnce_55 : decode cX11_opensOnce 55 = .ok (.ireturn, 1) := dk_172 rfl
theorem dX11_frameOf_0 : decode cX11_frameOf 0 = .ok (.aload_n 0, 1) := dk_42 rfl
theorem dX11_frameOf_1 : decode cX11_frameOf 1 = .ok (.iconst 0, 1) := dk_3 rfl
theorem dX11_frameOf_2 : decode cX11_frameOf 2 = .ok (.aload_n 0, 1) := dk_42 rfl
theorem dX11_frameOf_3 : decode cX11_frameOf 3 = .ok (.getfield 23, 3) := dk_180 rfl rfl rfl rfl
theorem dX11_frameOf_6 : decode cX11_frameOf 6 = .ok (.bipush 16, 2) := dk_16 rfl rfl (by decide)
theorem dX11_frameOf_8 : decode cX11_frameOf 8 = .ok (.iconst 3, 1) := dk_6 rfl
theorem dX11_frameOf_9 : decode cX11_frameOf 9 = .ok (.iload_n 1, 1) := dk_27 rfl
theorem dX11_frameOf_10 : decode cX11_frameOf 10 = .ok (.imul, 1) := dk_104 rfl
theorem dX11_frameOf_11 : decode cX11_frameOf 11 = .ok (.iadd, 1) := dk_96 rfl
theorem dX11_frameOf_12 : decode cX11_frameOf 12 = .ok (.iaload, 1) := dk_46 rfl
theorem dX11_frameOf_13 : decode cX11_frameOf 13 = .ok (.iconst 1, 1) := dk_4 rfl
theorem dX11_frameOf_14 : decode cX11_frameOf 14 = .ok (.isub, 1) := dk_100 rfl
theorem dX11_frameOf_15 : decode cX11_frameOf 15 = .ok (.invokevirtual 197, 3) := dk_182 rfl rfl rfl rfl
theorem dX11_frameOf_18 : decode cX11_frameOf 18 = .ok (.ireturn, 1) := dk_172 rfl
