theorem dX11_copy_0 : decode cX11_copy 0 = .ok (.iconst 0, 1) := dk_3 rfl
theorem dX11_copy_1 : decode cX11_copy 1 = .ok (.istore 5, 2) := dk_54 rfl rfl rfl
theorem dX11_copy_3 : decode cX11_copy 3 = .ok (.iload 5, 2) := dk_21 rfl rfl rfl
theorem dX11_copy_5 : decode cX11_copy 5 = .ok (.iload 4, 2) := dk_21 rfl rfl rfl
theorem dX11_copy_7 : decode cX11_copy 7 = .ok (.if_icmp .ge 21, 3) := dk_162 rfl rfl rfl (by decide)
theorem dX11_copy_10 : decode cX11_copy 10 = .ok (.aload_n 2, 1) := dk_44 rfl
theorem dX11_copy_11 : decode cX11_copy 11 = .ok (.iload_n 3, 1) := dk_29 rfl
theorem dX11_copy_12 : decode cX11_copy 12 = .ok (.iload 5, 2) := dk_21 rfl rfl rfl
theorem dX11_copy_14 : decode cX11_copy 14 = .ok (.iadd, 1) := dk_96 rfl
theorem dX11_copy_15 : decode cX11_copy 15 = .ok (.aload_n 0, 1) := dk_42 rfl
theorem dX11_copy_16 : decode cX11_copy 16 = .ok (.iload_n 1, 1) := dk_27 rfl
theorem dX11_copy_17 : decode cX11_copy 17 = .ok (.iload 5, 2) := dk_21 rfl rfl rfl
theorem dX11_copy_19 : decode cX11_copy 19 = .ok (.iadd, 1) := dk_96 rfl
theorem dX11_copy_20 : decode cX11_copy 20 = .ok (.iaload, 1) := dk_46 rfl
theorem dX11_copy_21 : decode cX11_copy 21 = .ok (.iastore, 1) := dk_79 rfl
theorem dX11_copy_22 : decode cX11_copy 22 = .ok (.iinc 5 1, 3) := dk_132 rfl rfl rfl rfl (by decide)
theorem dX11_copy_25 : decode cX11_copy 25 = .ok (.goto (-22), 3) := dk_167 rfl rfl rfl (by decide)
theorem dX11_copy_28 : decode cX11_copy 28 = .ok (.return_, 1) := dk_177 rfl
theorem dX11_note_0 : decode cX11_note 0 = .ok (.aload_n 0, 1) := dk_42 rfl
theorem dX11_note_1 : decode cX11_note 1 = .ok (.getfield 216, 3) := dk_180 rfl rfl rfl rfl
theorem dX11_note_4 : decode cX11_note 4 = .ok (.bipush 12, 2) := dk_16 rfl rfl (by decide)
theorem dX11_note_6 : decode cX11_note 6 = .ok (.if_icmp .ne 43, 3) := dk_160 rfl rfl rfl (by decide)
theorem dX11_note_9 : decode cX11_note 9 = .ok (.iconst 0, 1) := dk_3 rfl
theorem dX11_note_10 : decode cX11_note 10 = .ok (.istore_n 1, 1) := dk_60 rfl
theorem dX11_note_11 : decode cX11_note 11 = .ok (.iload_n 1, 1) := dk_27 rfl
theorem dX11_note_12 : decode cX11_note 12 = .ok (.sipush 484, 3) := dk_17 rfl rfl rfl (by decide)
theorem dX11_note_15 : decode cX11_note 15 = .ok (.if_icmp .ge 24, 3) := dk_162 rfl rfl rfl (by decide)
theorem dX11_note_18 : decode cX11_note 18 = .ok (.aload_n 0, 1) := dk_42 rfl
theorem dX11_note_19 : decode cX11_note 19 = .ok (.getfield 29, 3) := dk_180 rfl rfl rfl rfl
theorem dX11_note_22 : decode cX11_note 22 = .ok (.iload_n 1, 1) := dk_27 rfl
theorem dX11_note_23 : decode cX11_note 23 = .ok (.aload_n 0, 1) := dk_42 rfl
theorem dX11_note_24 : decode cX11_note 24 = .ok (.getfield 29, 3) := dk_180 rfl rfl rfl rfl
theorem dX11_note_27 : decode cX11_note 27 = .ok (.iload_n 1, 1) := dk_27 rfl
theorem dX11_note_28 : decode cX11_note 28 = .ok (.bipush 44, 2) := dk_16 rfl rfl (by decide)
theorem dX11_note_30 : decode cX11_note 30 = .ok (.iadd, 1) := dk_96 rfl
theorem dX11_note_31 : decode cX11_note 31 = .ok (.iaload, 1) := dk_46 rfl
theorem dX11_note_32 : decode cX11_note 32 = .ok (.iastore, 1) := dk_79 rfl
theorem dX11_note_33 : decode cX11_note 33 = .ok (.iinc 1 1, 3) := dk_132 rfl rfl rfl rfl (by decide)
theorem dX11_note_36 : decode cX11_note 36 = .ok (.goto (-25), 3) := dk_167 rfl rfl rfl (by decide)
theorem dX11_note_39 : decode cX11_note 39 = .ok (.aload_n 0, 1) := dk_42 rfl
theorem dX11_note_40 : decode cX11_note 40 = .ok (.dup, 1) := dk_89 rfl
theorem dX11_note_41 : decode cX11_note 41 = .ok (.getfield 216, 3) := dk_180 rfl rfl rfl rfl
theorem dX11_note_44 : decode cX11_note 44 = .ok (.iconst 1, 1) := dk_4 rfl
theorem dX11_note_45 : decode cX11_note 45 = .ok (.isub, 1) := dk_100 rfl
theorem dX11_note_46 : decode cX11_note 46 = .ok (.putfield 216, 3) := dk_181 rfl rfl rfl rfl
theorem dX11_note_49 : decode cX11_note 49 = .ok (.aload_n 0, 1) := dk_42 rfl
theorem dX11_note_50 : decode cX11_note 50 = .ok (.getfield 26, 3) := dk_180 rfl rfl rfl rfl
theorem dX11_note_53 : decode cX11_note 53 = .ok (.iconst 0, 1) := dk_3 rfl
theorem dX11_note_54 : decode cX11_note 54 = .ok (.aload_n 0, 1) := dk_42 rfl
theorem dX11_note_55 : decode cX11_note 55 = .ok (.getfield 29, 3) := dk_180 rfl rfl rfl rfl
theorem dX11_note_58 : decode cX11_note 58 = .ok (.bipush 44, 2) := dk_16 rfl rfl (by decide)
theorem dX11_note_60 : decode cX11_note 60 = .ok (.aload_n 0, 1) := dk_42 rfl
theorem dX11_note_61 : decode cX11_note 61 = .ok (.getfield 216, 3) := dk_180 rfl rfl rfl rfl
theorem dX11_note_64 : decode cX11_note 64 = .ok (.imul, 1) := dk_104 rfl
theorem dX11_note_65 : decode cX11_note 65 = .ok (.bipush 44, 2) := dk_16 rfl rfl (by decide)
theorem dX11_note_67 : decode cX11_note 67 = .ok (.invokestatic 209, 3) := dk_184 rfl rfl rfl rfl
theorem dX11_note_70 : decode cX11_note 70 = .ok (.aload_n 0, 1) := dk_42 rfl
theorem dX11_note_71 : decode cX11_note 71 = .ok (.dup, 1) := dk_89 rfl
theorem dX11_note_72 : decode cX11_note 72 = .ok (.getfield 216, 3) := dk_180 rfl rfl rfl rfl
theorem dX11_note_75 : decode cX11_note 75 = .ok (.iconst 1, 1) := dk_4 rfl
theorem dX11_note_76 : decode cX11_note 76 = .ok (.iadd, 1) := dk_96 rfl
theorem dX11_note_77 : decode cX11_note 77 = .ok (.putfield 216, 3) := dk_181 rfl rfl rfl rfl
theorem dX11_note_80 : decode cX11_note 80 = .ok (.return_, 1) := dk_177 rfl
theorem dX11_threads_0 : decode cX11_threads 0 = .ok (.aload_n 0, 1) := dk_42 rfl
theorem dX11_threads_1 : decode cX11_threads 1 = .ok (.invokevirtual 200, 3) := dk_182 rfl rfl rfl rfl
theorem dX11_threads_4 : decode cX11_threads 4 = .ok (.aload_n 0, 1) := dk_42 rfl
theorem dX11_threads_5 : decode cX11_threads 5 = .ok (.iload_n 1, 1) := dk_27 rfl
theorem dX11_threads_6 : decode cX11_threads 6 = .ok (.invokevirtual 345, 3) := dk_182 rfl rfl rfl rfl
theorem dX11_threads_9 : decode cX11_threads 9 = .ok (.ifCond .ne 9, 3) := dk_154 rfl rfl rfl (by decide)
theorem dX11_threads_12 : decode cX11_threads 12 = .ok (.aload_n 0, 1) := dk_42 rfl
theorem dX11_threads_13 : decode cX11_threads 13 = .ok (.iconst 1, 1) := dk_4 rfl
theorem dX11_threads_14 : decode cX11_threads 14 = .ok (.invokevirtual 473, 3) := dk_182 rfl rfl rfl rfl
theorem dX11_threads_17 : decode cX11_threads 17 = .ok (.ireturn, 1) := dk_172 rfl
theorem dX11_threads_18 : decode cX11_threads 18 = .ok (.iload_n 2, 1) := dk_28 rfl
theorem dX11_threads_19 : decode cX11_threads 19 = .ok (.iconst 0, 1) := dk_3 rfl
theorem dX11_threads_20 : decode cX11_threads 20 = .ok (.sipush 199, 3) := dk_17 rfl rfl rfl (by decide)
theorem dX11_threads_23 : decode cX11_threads 23 = .ok (.invokestatic 182, 3) := dk_184 rfl rfl rfl rfl
theorem dX11_threads_26 : decode cX11_threads 26 = .ok (.ifCond .ne 9, 3) := dk_154 rfl rfl rfl (by decide)
theorem dX11_threads_29 : decode cX11_threads 29 = .ok (.aload_n 0, 1) := dk_42 rfl
theorem dX11_threads_30 : decode cX11_threads 30 = .ok (.iconst 2, 1) := dk_5 rfl
theorem dX11_threads_31 : decode cX11_threads 31 = .ok (.invokevirtual 473, 3) := dk_182 rfl rfl rfl rfl
theorem dX11_threads_34 : decode cX11_threads 34 = .ok (.ireturn, 1) := dk_172 rfl
theorem dX11_threads_35 : decode cX11_threads 35 = .ok (.aload_n 0, 1) := dk_42 rfl
theorem dX11_threads_36 : decode cX11_threads 36 = .ok (.getfield 26, 3) := dk_180 rfl rfl rfl rfl
theorem dX11_threads_39 : decode cX11_threads 39 = .ok (.bipush 34, 2) := dk_16 rfl rfl (by decide)
theorem dX11_threads_41 : decode cX11_threads 41 = .ok (.iload_n 1, 1) := dk_27 rfl
theorem dX11_threads_42 : decode cX11_threads 42 = .ok (.iadd, 1) := dk_96 rfl
theorem dX11_threads_43 : decode cX11_threads 43 = .ok (.iaload, 1) := dk_46 rfl
theorem dX11_threads_44 : decode cX11_threads 44 = .ok (.iload_n 2, 1) := dk_28 rfl
theorem dX11_threads_45 : decode cX11_threads 45 = .ok (.if_icmp .ne 9, 3) := dk_160 rfl rfl rfl (by decide)
theorem dX11_threads_48 : decode cX11_threads 48 = .ok (.aload_n 0, 1) := dk_42 rfl
theorem dX11_threads_49 : decode cX11_threads 49 = .ok (.iconst 5, 1) := dk_8 rfl
theorem dX11_threads_50 : decode cX11_threads 50 = .ok (.invokevirtual 473, 3) := dk_182 rfl rfl rfl rfl
theorem dX11_threads_53 : decode cX11_threads 53 = .ok (.ireturn, 1) := dk_172 rfl
theorem dX11_threads_54 : decode cX11_threads 54 = .ok (.aload_n 0, 1) := dk_42 rfl
theorem dX11_threads_55 : decode cX11_threads 55 = .ok (.invokevirtual 476, 3) := dk_182 rfl rfl rfl rfl
theorem dX11_threads_58 : decode cX11_threads 58 = .ok (.aload_n 0, 1) := dk_42 rfl
theorem dX11_threads_59 : decode cX11_threads 59 = .ok (.getfield 26, 3) := dk_180 rfl rfl rfl rfl
theorem dX11_threads_62 : decode cX11_threads 62 = .ok (.bipush 34, 2) := dk_16 rfl rfl (by decide)
theorem dX11_threads_64 : decode cX11_threads 64 = .ok (.iload_n 1, 1) := dk_27 rfl
theorem dX11_threads_65 : decode cX11_threads 65 = .ok (.iadd, 1) := dk_96 rfl
theorem dX11_threads_66 : decode cX11_threads 66 = .ok (.iload_n 2, 1) := dk_28 rfl
theorem dX11_threads_67 : decode cX11_threads 67 = .ok (.iastore, 1) := dk_79 rfl
theorem dX11_threads_68 : decode cX11_threads 68 = .ok (.iconst 1, 1) := dk_4 rfl
theorem dX11_threads_69 : decode cX11_threads 69 = .ok (.ireturn, 1) := dk_172 rfl
theorem dX11_trim_0 : decode cX11_trim 0 = .ok (.aload_n 0, 1) := dk_42 rfl
theorem dX11_trim_1 : decode cX11_trim 1 = .ok (.invokevirtual 200, 3) := dk_182 rfl rfl rfl rfl
theorem dX11_trim_4 : decode cX11_trim 4 = .ok (.aload_n 0, 1) := dk_42 rfl
theorem dX11_trim_5 : decode cX11_trim 5 = .ok (.iload_n 1, 1) := dk_27 rfl
theorem dX11_trim_6 : decode cX11_trim 6 = .ok (.invokevirtual 345, 3) := dk_182 rfl rfl rfl rfl
theorem dX11_trim_9 : decode cX11_trim 9 = .ok (.ifCond .ne 9, 3) := dk_154 rfl rfl rfl (by decide)
theorem dX11_trim_12 : decode cX11_trim 12 = .ok (.aload_n 0, 1) := dk_42 rfl
theorem dX11_trim_13 : decode cX11_trim 13 = .ok (.iconst 1, 1) := dk_4 rfl
theorem dX11_trim_14 : decode cX11_trim 14 = .ok (.invokevirtual 473, 3) := dk_182 rfl rfl rfl rfl
theorem dX11_trim_17 : decode cX11_trim 17 = .ok (.ireturn, 1) := dk_172 rfl
theorem dX11_trim_18 : decode cX11_trim 18 = .ok (.aload_n 0, 1) := dk_42 rfl
theorem dX11_trim_19 : decode cX11_trim 19 = .ok (.getfield 26, 3) := dk_180 rfl rfl rfl rfl
theorem dX11_trim_22 : decode cX11_trim 22 = .ok (.bipush 42, 2) := dk_16 rfl rfl (by decide)
theorem dX11_trim_24 : decode cX11_trim 24 = .ok (.iaload, 1) := dk_46 rfl
theorem dX11_trim_25 : decode cX11_trim 25 = .ok (.iload_n 1, 1) := dk_27 rfl
theorem dX11_trim_26 : decode cX11_trim 26 = .ok (.invokestatic 320, 3) := dk_184 rfl rfl rfl rfl
theorem dX11_trim_29 : decode cX11_trim 29 = .ok (.iload_n 2, 1) := dk_28 rfl
theorem dX11_trim_30 : decode cX11_trim 30 = .ok (.if_icmp .ne 9, 3) := dk_160 rfl rfl rfl (by decide)
theorem dX11_trim_33 : decode cX11_trim 33 = .ok (.aload_n 0, 1) := dk_42 rfl
theorem dX11_trim_34 : decode cX11_trim 34 = .ok (.iconst 5, 1) := dk_8 rfl
theorem dX11_trim_35 : decode cX11_trim 35 = .ok (.invokevirtual 473, 3) := dk_182 rfl rfl rfl rfl
theorem dX11_trim_38 : decode cX11_trim 38 = .ok (.ireturn, 1) := dk_172 rfl
theorem dX11_trim_39 : decode cX11_trim 39 = .ok (.aload_n 0, 1) := dk_42 rfl
theorem dX11_trim_40 : decode cX11_trim 40 = .ok (.invokevirtual 476, 3) := dk_182 rfl rfl rfl rfl
theorem dX11_trim_43 : decode cX11_trim 43 = .ok (.aload_n 0, 1) := dk_42 rfl
theorem dX11_trim_44 : decode cX11_trim 44 = .ok (.getfield 26, 3) := dk_180 rfl rfl rfl rfl
theorem dX11_trim_47 : decode cX11_trim 47 = .ok (.bipush 42, 2) := dk_16 rfl rfl (by decide)
theorem dX11_trim_49 : decode cX11_trim 49 = .ok (.dup2, 1) := dk_92 rfl
theorem dX11_trim_50 : decode cX11_trim 50 = .ok (.iaload, 1) := dk_46 rfl
theorem dX11_trim_51 : decode cX11_trim 51 = .ok (.iconst 1, 1) := dk_4 rfl
theorem dX11_trim_52 : decode cX11_trim 52 = .ok (.iload_n 1, 1) := dk_27 rfl
theorem dX11_trim_53 : decode cX11_trim 53 = .ok (.ishl, 1) := dk_120 rfl
theorem dX11_trim_54 : decode cX11_trim 54 = .ok (.ixor, 1) := dk_130 rfl
theorem dX11_trim_55 : decode cX11_trim 55 = .ok (.iastore, 1) := dk_79 rfl
theorem dX11_trim_56 : decode cX11_trim 56 = .ok (.iconst 1, 1) := dk_4 rfl
theorem dX11_trim_57 : decode cX11_trim 57 = .ok (.ireturn, 1) := dk_172 rfl
theorem dX11_mend_0 : decode cX11_mend 0 = .ok (.aload_n 0, 1) := dk_42 rfl
theorem dX11_mend_1 : decode cX11_mend 1 = .ok (.invokevirtual 200, 3) := dk_182 rfl rfl rfl rfl
theorem dX11_mend_4 : decode cX11_mend 4 = .ok (.aload_n 0, 1) := dk_42 rfl
theorem dX11_mend_5 : decode cX11_mend 5 = .ok (.iload_n 1, 1) := dk_27 rfl
theorem dX11_mend_6 : decode cX11_mend 6 = .ok (.invokevirtual 412, 3) := dk_182 rfl rfl rfl rfl
theorem dX11_mend_9 : decode cX11_mend 9 = .ok (.ifCond .ne 9, 3) := dk_154 rfl rfl rfl (by decide)
theorem dX11_mend_12 : decode cX11_mend 12 = .ok (.aload_n 0, 1) := dk_42 rfl
theorem dX11_mend_13 : decode cX11_mend 13 = .ok (.iconst 1, 1) := dk_4 rfl
theorem dX11_mend_14 : decode cX11_mend 14 = .ok (.invokevirtual 203, 3) := dk_182 rfl rfl rfl rfl
theorem dX11_mend_17 : decode cX11_mend 17 = .ok (.ireturn, 1) := dk_172 rfl
theorem dX11_mend_18 : decode cX11_mend 18 = .ok (.aload_n 0, 1) := dk_42 rfl
theorem dX11_mend_19 : decode cX11_mend 19 = .ok (.getfield 20, 3) := dk_180 rfl rfl rfl rfl
theorem dX11_mend_22 : decode cX11_mend 22 = .ok (.bipush 96, 2) := dk_16 rfl rfl (by decide)
theorem dX11_mend_24 : decode cX11_mend 24 = .ok (.iconst 3, 1) := dk_6 rfl
theorem dX11_mend_25 : decode cX11_mend 25 = .ok (.iload_n 1, 1) := dk_27 rfl
theorem dX11_mend_26 : decode cX11_mend 26 = .ok (.imul, 1) := dk_104 rfl
theorem dX11_mend_27 : decode cX11_mend 27 = .ok (.iadd, 1) := dk_96 rfl
theorem dX11_mend_28 : decode cX11_mend 28 = .ok (.iaload, 1) := dk_46 rfl
theorem dX11_mend_29 : decode cX11_mend 29 = .ok (.istore_n 2, 1) := dk_61 rfl
theorem dX11_mend_30 : decode cX11_mend 30 = .ok (.aload_n 0, 1) := dk_42 rfl
theorem dX11_mend_31 : decode cX11_mend 31 = .ok (.iload_n 1, 1) := dk_27 rfl
theorem dX11_mend_32 : decode cX11_mend 32 = .ok (.invokevirtual 339, 3) := dk_182 rfl rfl rfl rfl
theorem dX11_mend_35 : decode cX11_mend 35 = .ok (.ifCond .ne 16, 3) := dk_154 rfl rfl rfl (by decide)
theorem dX11_mend_38 : decode cX11_mend 38 = .ok (.aload_n 0, 1) := dk_42 rfl
theorem dX11_mend_39 : decode cX11_mend 39 = .ok (.getfield 26, 3) := dk_180 rfl rfl rfl rfl
theorem dX11_mend_42 : decode cX11_mend 42 = .ok (.iconst 0, 1) := dk_3 rfl
theorem dX11_mend_43 : decode cX11_mend 43 = .ok (.iload_n 2, 1) := dk_28 rfl
theorem dX11_mend_44 : decode cX11_mend 44 = .ok (.iadd, 1) := dk_96 rfl
theorem dX11_mend_45 : decode cX11_mend 45 = .ok (.iaload, 1) := dk_46 rfl
theorem dX11_mend_46 : decode cX11_mend 46 = .ok (.bipush 6, 2) := dk_16 rfl rfl (by decide)
theorem dX11_mend_48 : decode cX11_mend 48 = .ok (.if_icmp .ge 9, 3) := dk_162 rfl rfl rfl (by decide)
theorem dX11_mend_51 : decode cX11_mend 51 = .ok (.aload_n 0, 1) := dk_42 rfl
theorem dX11_mend_52 : decode cX11_mend 52 = .ok (.iconst 5, 1) := dk_8 rfl
theorem dX11_mend_53 : decode cX11_mend 53 = .ok (.invokevirtual 203, 3) := dk_182 rfl rfl rfl rfl
theorem dX11_mend_56 : decode cX11_mend 56 = .ok (.ireturn, 1) := dk_172 rfl
theorem dX11_mend_57 : decode cX11_mend 57 = .ok (.aload_n 0, 1) := dk_42 rfl
theorem dX11_mend_58 : decode cX11_mend 58 = .ok (.invokevirtual 476, 3) := dk_182 rfl rfl rfl rfl
theorem dX11_mend_61 : decode cX11_mend 61 = .ok (.aload_n 0, 1) := dk_42 rfl
theorem dX11_mend_62 : decode cX11_mend 62 = .ok (.getfield 26, 3) := dk_180 rfl rfl rfl rfl
theorem dX11_mend_65 : decode cX11_mend 65 = .ok (.bipush 28, 2) := dk_16 rfl rfl (by decide)
theorem dX11_mend_67 : decode cX11_mend 67 = .ok (.iload_n 1, 1) := dk_27 rfl
theorem dX11_mend_68 : decode cX11_mend 68 = .ok (.iadd, 1) := dk_96 rfl
theorem dX11_mend_69 : decode cX11_mend 69 = .ok (.iaload, 1) := dk_46 rfl
theorem dX11_mend_70 : decode cX11_mend 70 = .ok (.istore_n 3, 1) := dk_62 rfl
theorem dX11_mend_71 : decode cX11_mend 71 = .ok (.aload_n 0, 1) := dk_42 rfl
theorem dX11_mend_72 : decode cX11_mend 72 = .ok (.getfield 26, 3) := dk_180 rfl rfl rfl rfl
theorem dX11_mend_75 : decode cX11_mend 75 = .ok (.iconst 0, 1) := dk_3 rfl
theorem dX11_mend_76 : decode cX11_mend 76 = .ok (.iload_n 2, 1) := dk_28 rfl
theorem dX11_mend_77 : decode cX11_mend 77 = .ok (.iadd, 1) := dk_96 rfl
theorem dX11_mend_78 : decode cX11_mend 78 = .ok (.dup2, 1) := dk_92 rfl
theorem dX11_mend_79 : decode cX11_mend 79 = .ok (.iaload, 1) := dk_46 rfl
theorem dX11_mend_80 : decode cX11_mend 80 = .ok (.iconst 2, 1) := dk_5 rfl
theorem dX11_mend_81 : decode cX11_mend 81 = .ok (.isub, 1) := dk_100 rfl
theorem dX11_mend_82 : decode cX11_mend 82 = .ok (.iastore, 1) := dk_79 rfl
theorem dX11_mend_83 : decode cX11_mend 83 = .ok (.aload_n 0, 1) := dk_42 rfl
theorem dX11_mend_84 : decode cX11_mend 84 = .ok (.getfield 26, 3) := dk_180 rfl rfl rfl rfl
theorem dX11_mend_87 : decode cX11_mend 87 = .ok (.iconst 0, 1) := dk_3 rfl
theorem dX11_mend_88 : decode cX11_mend 88 = .ok (.iload_n 2, 1) := dk_28 rfl
theorem dX11_mend_89 : decode cX11_mend 89 = .ok (.iadd, 1) := dk_96 rfl
theorem dX11_mend_90 : decode cX11_mend 90 = .ok (.iaload, 1) := dk_46 rfl
theorem dX11_mend_91 : decode cX11_mend 91 = .ok (.istore 4, 2) := dk_54 rfl rfl rfl
theorem dX11_mend_93 : decode cX11_mend 93 = .ok (.aload_n 0, 1) := dk_42 rfl
theorem dX11_mend_94 : decode cX11_mend 94 = .ok (.getfield 26, 3) := dk_180 rfl rfl rfl rfl
theorem dX11_mend_97 : decode cX11_mend 97 = .ok (.bipush 8, 2) := by decide +kernel
theorem dX11_mend_99 : decode cX11_mend 99 = .ok (.iload_n 2, 1) := by decide +kernel
theorem dX11_mend_100 : decode cX11_mend 100 = .ok (.iadd, 1) := by decide +kernel
theorem dX11_mend_101 : decode cX11_mend 101 = .ok (.aload_n 0, 1) := by decide +kernel
theorem dX11_mend_102 : decode cX11_mend 102 = .ok (.getfield 26, 3) := by decide +kernel
theorem dX11_mend_105 : decode cX11_mend 105 = .ok (.bipush 8, 2) := by decide +kernel
theorem dX11_mend_107 : decode cX11_mend 107 = .ok (.iload_n 2, 1) := by decide +kernel
theorem dX11_mend_108 : decode cX11_mend 108 = .ok (.iadd, 1) := by decide +kernel
theorem dX11_mend_109 : decode cX11_mend 109 = .ok (.iaload, 1) := by decide +kernel
theorem dX11_mend_110 : decode cX11_mend 110 = .ok (.iload_n 3, 1) := by decide +kernel
theorem dX11_mend_111 : decode cX11_mend 111 = .ok (.iload 4, 2) := by decide +kernel
theorem dX11_mend_113 : decode cX11_mend 113 = .ok (.invokestatic 479, 3) := by decide +kernel
theorem dX11_mend_116 : decode cX11_mend 116 = .ok (.iastore, 1) := by decide +kernel
theorem dX11_mend_117 : decode cX11_mend 117 = .ok (.iconst 0, 1) := by decide +kernel
theorem dX11_mend_118 : decode cX11_mend 118 = .ok (.istore 5, 2) := by decide +kernel
theorem dX11_mend_120 : decode cX11_mend 120 = .ok (.iload 5, 2) := by decide +kernel
theorem dX11_mend_122 : decode cX11_mend 122 = .ok (.aload_n 0, 1) := by decide +kernel
theorem dX11_mend_123 : decode cX11_mend 123 = .ok (.getfield 20, 3) := by decide +kernel
theorem dX11_mend_126 : decode cX11_mend 126 = .ok (.bipush 8, 2) := by decide +kernel
theorem dX11_mend_128 : decode cX11_mend 128 = .ok (.iaload, 1) := by decide +kernel
theorem dX11_mend_129 : decode cX11_mend 129 = .ok (.if_icmp .ge 51, 3) := by decide +kernel
theorem dX11_mend_132 : decode cX11_mend 132 = .ok (.aload_n 0, 1) := by decide +kernel
theorem dX11_mend_133 : decode cX11_mend 133 = .ok (.getfield 20, 3) := by decide +kernel
theorem dX11_mend_136 : decode cX11_mend 136 = .ok (.bipush 44, 2) := by decide +kernel
theorem dX11_mend_138 : decode cX11_mend 138 = .ok (.iconst 3, 1) := by decide +kernel
theorem dX11_mend_139 : decode cX11_mend 139 = .ok (.iload 5, 2) := by decide +kernel
theorem dX11_mend_141 : decode cX11_mend 141 = .ok (.imul, 1) := by decide +kernel
theorem dX11_mend_142 : decode cX11_mend 142 = .ok (.iadd, 1) := by decide +kernel
theorem dX11_mend_143 : decode cX11_mend 143 = .ok (.iaload, 1) := by decide +kernel
theorem dX11_mend_144 : decode cX11_mend 144 = .ok (.iload_n 2, 1) := by decide +kernel
theorem dX11_mend_145 : decode cX11_mend 145 = .ok (.if_icmp .ne 29, 3) := by decide +kernel
theorem dX11_mend_148 : decode cX11_mend 148 = .ok (.aload_n 0, 1) := by decide +kernel
theorem dX11_mend_149 : decode cX11_mend 149 = .ok (.getfield 26, 3) := by decide +kernel
theorem dX11_mend_152 : decode cX11_mend 152 = .ok (.bipush 16, 2) := by decide +kernel
theorem dX11_mend_154 : decode cX11_mend 154 = .ok (.iload 5, 2) := by decide +kernel
theorem dX11_mend_156 : decode cX11_mend 156 = .ok (.iadd, 1) := by decide +kernel
theorem dX11_mend_157 : decode cX11_mend 157 = .ok (.aload_n 0, 1) := by decide +kernel
theorem dX11_mend_158 : decode cX11_mend 158 = .ok (.getfield 26, 3) := by decide +kernel
theorem dX11_mend_161 : decode cX11_mend 161 = .ok (.bipush 16, 2) := by decide +kernel
theorem dX11_mend_163 : decode cX11_mend 163 = .ok (.iload 5, 2) := by decide +kernel
theorem dX11_mend_165 : decode cX11_mend 165 = .ok (.iadd, 1) := by decide +kernel
theorem dX11_mend_166 : decode cX11_mend 166 = .ok (.iaload, 1) := by decide +kernel
theorem dX11_mend_167 : decode cX11_mend 167 = .ok (.iload_n 3, 1) := by decide +kernel
theorem dX11_mend_168 : decode cX11_mend 168 = .ok (.iload 4, 2) := by decide +kernel
theorem dX11_mend_170 : decode cX11_mend 170 = .ok (.invokestatic 479, 3) := by decide +kernel
theorem dX11_mend_173 : decode cX11_mend 173 = .ok (.iastore, 1) := by decide +kernel
theorem dX11_mend_174 : decode cX11_mend 174 = .ok (.iinc 5 1, 3) := by decide +kernel
theorem dX11_mend_177 : decode cX11_mend 177 = .ok (.goto (-57), 3) := by decide +kernel
theorem dX11_mend_180 : decode cX11_mend 180 = .ok (.iconst 0, 1) := by decide +kernel
theorem dX11_mend_181 : decode cX11_mend 181 = .ok (.istore 5, 2) := by decide +kernel
theorem dX11_mend_183 : decode cX11_mend 183 = .ok (.iload 5, 2) := by decide +kernel
theorem dX11_mend_185 : decode cX11_mend 185 = .ok (.aload_n 0, 1) := by decide +kernel
theorem dX11_mend_186 : decode cX11_mend 186 = .ok (.getfield 20, 3) := by decide +kernel
theorem dX11_mend_189 : decode cX11_mend 189 = .ok (.bipush 10, 2) := by decide +kernel
theorem dX11_mend_191 : decode cX11_mend 191 = .ok (.iaload, 1) := by decide +kernel
theorem dX11_mend_192 : decode cX11_mend 192 = .ok (.if_icmp .ge 51, 3) := by decide +kernel
theorem dX11_mend_195 : decode cX11_mend 195 = .ok (.aload_n 0, 1) := by decide +kernel
theorem dX11_mend_196 : decode cX11_mend 196 = .ok (.getfield 20, 3) := by decide +kernel
theorem dX11_mend_199 : decode cX11_mend 199 = .ok (.bipush 96, 2) := by decide +kernel
theorem dX11_mend_201 : decode cX11_mend 201 = .ok (.iconst 3, 1) := by decide +kernel
theorem dX11_mend_202 : decode cX11_mend 202 = .ok (.iload 5, 2) := by decide +kernel
theorem dX11_mend_204 : decode cX11_mend 204 = .ok (.imul, 1) := by decide +kernel
theorem dX11_mend_205 : decode cX11_mend 205 = .ok (.iadd, 1) := by decide +kernel
theorem dX11_mend_206 : decode cX11_mend 206 = .ok (.iaload, 1) := by decide +kernel
theorem dX11_mend_207 : decode cX11_mend 207 = .ok (.iload_n 2, 1) := by decide +kernel
theorem dX11_mend_208 : decode cX11_mend 208 = .ok (.if_icmp .ne 29, 3) := by decide +kernel
theorem dX11_mend_211 : decode cX11_mend 211 = .ok (.aload_n 0, 1) := by decide +kernel
theorem dX11_mend_212 : decode cX11_mend 212 = .ok (.getfield 26, 3) := by decide +kernel
theorem dX11_mend_215 : decode cX11_mend 215 = .ok (.bipush 28, 2) := by decide +kernel
theorem dX11_mend_217 : decode cX11_mend 217 = .ok (.iload 5, 2) := by decide +kernel
theorem dX11_mend_219 : decode cX11_mend 219 = .ok (.iadd, 1) := by decide +kernel
theorem dX11_mend_220 : decode cX11_mend 220 = .ok (.aload_n 0, 1) := by decide +kernel
theorem dX11_mend_221 : decode cX11_mend 221 = .ok (.getfield 26, 3) := by decide +kernel
theorem dX11_mend_224 : decode cX11_mend 224 = .ok (.bipush 28, 2) := by decide +kernel
theorem dX11_mend_226 : decode cX11_mend 226 = .ok (.iload 5, 2) := by decide +kernel
theorem dX11_mend_228 : decode cX11_mend 228 = .ok (.iadd, 1) := by decide +kernel
theorem dX11_mend_229 : decode cX11_mend 229 = .ok (.iaload, 1) := by decide +kernel
theorem dX11_mend_230 : decode cX11_mend 230 = .ok (.iload_n 3, 1) := by decide +kernel
theorem dX11_mend_231 : decode cX11_mend 231 = .ok (.iload 4, 2) := by decide +kernel
theorem dX11_mend_233 : decode cX11_mend 233 = .ok (.invokestatic 479, 3) := by decide +kernel
theorem dX11_mend_236 : decode cX11_mend 236 = .ok (.iastore, 1) := by decide +kernel
theorem dX11_mend_237 : decode cX11_mend 237 = .ok (.iinc 5 1, 3) := by decide +kernel
theorem dX11_mend_240 : decode cX11_mend 240 = .ok (.goto (-57), 3) := by decide +kernel
theorem dX11_mend_243 : decode cX11_mend 243 = .ok (.aload_n 0, 1) := by decide +kernel
theorem dX11_mend_244 : decode cX11_mend 244 = .ok (.getfield 26, 3) := by decide +kernel
theorem dX11_mend_247 : decode cX11_mend 247 = .ok (.bipush 43, 2) := by decide +kernel
theorem dX11_mend_249 : decode cX11_mend 249 = .ok (.dup2, 1) := by decide +kernel
theorem dX11_mend_250 : decode cX11_mend 250 = .ok (.iaload, 1) := by decide +kernel
theorem dX11_mend_251 : decode cX11_mend 251 = .ok (.iconst 1, 1) := by decide +kernel
theorem dX11_mend_252 : decode cX11_mend 252 = .ok (.iload_n 1, 1) := by decide +kernel
theorem dX11_mend_253 : decode cX11_mend 253 = .ok (.ishl, 1) := by decide +kernel
theorem dX11_mend_254 : decode cX11_mend 254 = .ok (.ior, 1) := by decide +kernel
theorem dX11_mend_255 : decode cX11_mend 255 = .ok (.iastore, 1) := by decide +kernel
theorem dX11_mend_256 : decode cX11_mend 256 = .ok (.iload 4, 2) := by decide +kernel
theorem dX11_mend_258 : decode cX11_mend 258 = .ok (.ireturn, 1) := by decide +kernel
theorem dX11_undo_0 : decode cX11_undo 0 = .ok (.aload_n 0, 1) := dk_42 rfl
theorem dX11_undo_1 : decode cX11_undo 1 = .ok (.invokevirtual 200, 3) := dk_182 rfl rfl rfl rfl
theorem dX11_undo_4 : decode cX11_undo 4 = .ok (.aload_n 0, 1) := dk_42 rfl
theorem dX11_undo_5 : decode cX11_undo 5 = .ok (.getfield 216, 3) := dk_180 rfl rfl rfl rfl
theorem dX11_undo_8 : decode cX11_undo 8 = .ok (.ifCond .ne 10, 3) := dk_154 rfl rfl rfl (by decide)
theorem dX11_undo_11 : decode cX11_undo 11 = .ok (.aload_n 0, 1) := dk_42 rfl
theorem dX11_undo_12 : decode cX11_undo 12 = .ok (.bipush 6, 2) := dk_16 rfl rfl (by decide)
theorem dX11_undo_14 : decode cX11_undo 14 = .ok (.invokevirtual 473, 3) := dk_182 rfl rfl rfl rfl
theorem dX11_undo_17 : decode cX11_undo 17 = .ok (.ireturn, 1) := dk_172 rfl
theorem dX11_undo_18 : decode cX11_undo 18 = .ok (.aload_n 0, 1) := dk_42 rfl
theorem dX11_undo_19 : decode cX11_undo 19 = .ok (.dup, 1) := dk_89 rfl
theorem dX11_undo_20 : decode cX11_undo 20 = .ok (.getfield 216, 3) := dk_180 rfl rfl rfl rfl
theorem dX11_undo_23 : decode cX11_undo 23 = .ok (.iconst 1, 1) := dk_4 rfl
theorem dX11_undo_24 : decode cX11_undo 24 = .ok (.isub, 1) := dk_100 rfl
theorem dX11_undo_25 : decode cX11_undo 25 = .ok (.putfield 216, 3) := dk_181 rfl rfl rfl rfl
theorem dX11_undo_28 : decode cX11_undo 28 = .ok (.aload_n 0, 1) := dk_42 rfl
theorem dX11_undo_29 : decode cX11_undo 29 = .ok (.getfield 29, 3) := dk_180 rfl rfl rfl rfl
theorem dX11_undo_32 : decode cX11_undo 32 = .ok (.bipush 44, 2) := dk_16 rfl rfl (by decide)
theorem dX11_undo_34 : decode cX11_undo 34 = .ok (.aload_n 0, 1) := dk_42 rfl
theorem dX11_undo_35 : decode cX11_undo 35 = .ok (.getfield 216, 3) := dk_180 rfl rfl rfl rfl
theorem dX11_undo_38 : decode cX11_undo 38 = .ok (.imul, 1) := dk_104 rfl
theorem dX11_undo_39 : decode cX11_undo 39 = .ok (.aload_n 0, 1) := dk_42 rfl
theorem dX11_undo_40 : decode cX11_undo 40 = .ok (.getfield 26, 3) := dk_180 rfl rfl rfl rfl
theorem dX11_undo_43 : decode cX11_undo 43 = .ok (.iconst 0, 1) := dk_3 rfl
theorem dX11_undo_44 : decode cX11_undo 44 = .ok (.bipush 44, 2) := dk_16 rfl rfl (by decide)
theorem dX11_undo_46 : decode cX11_undo 46 = .ok (.invokestatic 209, 3) := dk_184 rfl rfl rfl rfl
theorem dX11_undo_49 : decode cX11_undo 49 = .ok (.iconst 1, 1) := dk_4 rfl
theorem dX11_undo_50 : decode cX11_undo 50 = .ok (.ireturn, 1) := dk_172 rfl
theorem dX11_image_0 : decode cX11_image 0 = .ok (.aload_n 0, 1) := dk_42 rfl
theorem dX11_image_1 : decode cX11_image 1 = .ok (.invokevirtual 200, 3) := dk_182 rfl rfl rfl rfl
theorem dX11_image_4 : decode cX11_image 4 = .ok (.aload_n 0, 1) := dk_42 rfl
theorem dX11_image_5 : decode cX11_image 5 = .ok (.getfield 213, 3) := dk_180 rfl rfl rfl rfl
theorem dX11_image_8 : decode cX11_image 8 = .ok (.ifCond .ne 9, 3) := dk_154 rfl rfl rfl (by decide)
theorem dX11_image_11 : decode cX11_image 11 = .ok (.aload_n 0, 1) := dk_42 rfl
theorem dX11_image_12 : decode cX11_image 12 = .ok (.iconst 1, 1) := dk_4 rfl
theorem dX11_image_13 : decode cX11_image 13 = .ok (.invokevirtual 203, 3) := dk_182 rfl rfl rfl rfl
theorem dX11_image_16 : decode cX11_image 16 = .ok (.ireturn, 1) := dk_172 rfl
theorem dX11_image_17 : decode cX11_image 17 = .ok (.aload_n 0, 1) := dk_42 rfl
theorem dX11_image_18 : decode cX11_image 18 = .ok (.getfield 219, 3) := dk_180 rfl rfl rfl rfl
theorem dX11_image_21 : decode cX11_image 21 = .ok (.iconst 3, 1) := dk_6 rfl
theorem dX11_image_22 : decode cX11_image 22 = .ok (.if_icmp .ne 9, 3) := dk_160 rfl rfl rfl (by decide)
theorem dX11_image_25 : decode cX11_image 25 = .ok (.aload_n 0, 1) := dk_42 rfl
theorem dX11_image_26 : decode cX11_image 26 = .ok (.iconst 3, 1) := dk_6 rfl
theorem dX11_image_27 : decode cX11_image 27 = .ok (.invokevirtual 203, 3) := dk_182 rfl rfl rfl rfl
theorem dX11_image_30 : decode cX11_image 30 = .ok (.ireturn, 1) := dk_172 rfl
theorem dX11_image_31 : decode cX11_image 31 = .ok (.aload_n 0, 1) := dk_42 rfl
theorem dX11_image_32 : decode cX11_image 32 = .ok (.getfield 26, 3) := dk_180 rfl rfl rfl rfl
theorem dX11_image_35 : decode cX11_image 35 = .ok (.iconst 0, 1) := dk_3 rfl
theorem dX11_image_36 : decode cX11_image 36 = .ok (.aload_n 0, 1) := dk_42 rfl
theorem dX11_image_37 : decode cX11_image 37 = .ok (.getfield 32, 3) := dk_180 rfl rfl rfl rfl
theorem dX11_image_40 : decode cX11_image 40 = .ok (.bipush 44, 2) := dk_16 rfl rfl (by decide)
theorem dX11_image_42 : decode cX11_image 42 = .ok (.aload_n 0, 1) := dk_42 rfl
theorem dX11_image_43 : decode cX11_image 43 = .ok (.getfield 219, 3) := dk_180 rfl rfl rfl rfl
theorem dX11_image_46 : decode cX11_image 46 = .ok (.imul, 1) := dk_104 rfl
theorem dX11_image_47 : decode cX11_image 47 = .ok (.bipush 44, 2) := dk_16 rfl rfl (by decide)
theorem dX11_image_49 : decode cX11_image 49 = .ok (.invokestatic 209, 3) := dk_184 rfl rfl rfl rfl
theorem dX11_image_52 : decode cX11_image 52 = .ok (.aload_n 0, 1) := dk_42 rfl
theorem dX11_image_53 : decode cX11_image 53 = .ok (.dup, 1) := dk_89 rfl
theorem dX11_image_54 : decode cX11_image 54 = .ok (.getfield 219, 3) := dk_180 rfl rfl rfl rfl
theorem dX11_image_57 : decode cX11_image 57 = .ok (.iconst 1, 1) := dk_4 rfl
theorem dX11_image_58 : decode cX11_image 58 = .ok (.iadd, 1) := dk_96 rfl
theorem dX11_image_59 : decode cX11_image 59 = .ok (.putfield 219, 3) := dk_181 rfl rfl rfl rfl
theorem dX11_image_62 : decode cX11_image 62 = .ok (.aload_n 0, 1) := dk_42 rfl
theorem dX11_image_63 : decode cX11_image 63 = .ok (.getfield 219, 3) := dk_180 rfl rfl rfl rfl
theorem dX11_image_66 : decode cX11_image 66 = .ok (.iconst 1, 1) := dk_4 rfl
theorem dX11_image_67 : decode cX11_image 67 = .ok (.isub, 1) := dk_100 rfl
theorem dX11_image_68 : decode cX11_image 68 = .ok (.ireturn, 1) := dk_172 rfl
theorem dX11_back_0 : decode cX11_back 0 = .ok (.aload_n 0, 1) := dk_42 rfl
theorem dX11_back_1 : decode cX11_back 1 = .ok (.invokevirtual 200, 3) := dk_182 rfl rfl rfl rfl
theorem dX11_back_4 : decode cX11_back 4 = .ok (.iload_n 1, 1) := dk_27 rfl
theorem dX11_back_5 : decode cX11_back 5 = .ok (.iconst 0, 1) := dk_3 rfl
theorem dX11_back_6 : decode cX11_back 6 = .ok (.aload_n 0, 1) := dk_42 rfl
theorem dX11_back_7 : decode cX11_back 7 = .ok (.getfield 219, 3) := dk_180 rfl rfl rfl rfl
theorem dX11_back_10 : decode cX11_back 10 = .ok (.iconst 1, 1) := dk_4 rfl
theorem dX11_back_11 : decode cX11_back 11 = .ok (.isub, 1) := dk_100 rfl
theorem dX11_back_12 : decode cX11_back 12 = .ok (.invokestatic 182, 3) := dk_184 rfl rfl rfl rfl
theorem dX11_back_15 : decode cX11_back 15 = .ok (.ifCond .ne 9, 3) := dk_154 rfl rfl rfl (by decide)
theorem dX11_back_18 : decode cX11_back 18 = .ok (.aload_n 0, 1) := dk_42 rfl
theorem dX11_back_19 : decode cX11_back 19 = .ok (.iconst 1, 1) := dk_4 rfl
theorem dX11_back_20 : decode cX11_back 20 = .ok (.invokevirtual 473, 3) := dk_182 rfl rfl rfl rfl
theorem dX11_back_23 : decode cX11_back 23 = .ok (.ireturn, 1) := dk_172 rfl
theorem dX11_back_24 : decode cX11_back 24 = .ok (.aload_n 0, 1) := dk_42 rfl
theorem dX11_back_25 : decode cX11_back 25 = .ok (.getfield 32, 3) := dk_180 rfl rfl rfl rfl
theorem dX11_back_28 : decode cX11_back 28 = .ok (.bipush 44, 2) := dk_16 rfl rfl (by decide)
theorem dX11_back_30 : decode cX11_back 30 = .ok (.iload_n 1, 1) := dk_27 rfl
theorem dX11_back_31 : decode cX11_back 31 = .ok (.imul, 1) := dk_104 rfl
theorem dX11_back_32 : decode cX11_back 32 = .ok (.aload_n 0, 1) := dk_42 rfl
theorem dX11_back_33 : decode cX11_back 33 = .ok (.getfield 26, 3) := dk_180 rfl rfl rfl rfl
theorem dX11_back_36 : decode cX11_back 36 = .ok (.iconst 0, 1) := dk_3 rfl
theorem dX11_back_37 : decode cX11_back 37 = .ok (.bipush 44, 2) := dk_16 rfl rfl (by decide)
theorem dX11_back_39 : decode cX11_back 39 = .ok (.invokestatic 209, 3) := dk_184 rfl rfl rfl rfl
theorem dX11_back_42 : decode cX11_back 42 = .ok (.aload_n 0, 1) := dk_42 rfl
theorem dX11_back_43 : decode cX11_back 43 = .ok (.iconst 0, 1) := dk_3 rfl
theorem dX11_back_44 : decode cX11_back 44 = .ok (.putfield 216, 3) := dk_181 rfl rfl rfl rfl
theorem dX11_back_47 : decode cX11_back 47 = .ok (.iconst 1, 1) := dk_4 rfl
theorem dX11_back_48 : decode cX11_back 48 = .ok (.ireturn, 1) := dk_172 rfl
theorem dX11_led_0 : decode cX11_led 0 = .ok (.iconst 0, 1) := dk_3 rfl
theorem dX11_led_1 : decode cX11_led 1 = .ok (.istore_n 2, 1) := dk_61 rfl
theorem dX11_led_2 : decode cX11_led 2 = .ok (.iconst 0, 1) := dk_3 rfl
theorem dX11_led_3 : decode cX11_led 3 = .ok (.istore_n 3, 1) := dk_62 rfl
theorem dX11_led_4 : decode cX11_led 4 = .ok (.aload_n 0, 1) := dk_42 rfl
theorem dX11_led_5 : decode cX11_led 5 = .ok (.getfield 213, 3) := dk_180 rfl rfl rfl rfl
theorem dX11_led_8 : decode cX11_led 8 = .ok (.ifCond .eq 46, 3) := dk_153 rfl rfl rfl (by decide)
theorem dX11_led_11 : decode cX11_led 11 = .ok (.iload_n 3, 1) := dk_29 rfl
theorem dX11_led_12 : decode cX11_led 12 = .ok (.aload_n 0, 1) := dk_42 rfl
theorem dX11_led_13 : decode cX11_led 13 = .ok (.getfield 20, 3) := dk_180 rfl rfl rfl rfl
theorem dX11_led_16 : decode cX11_led 16 = .ok (.bipush 10, 2) := dk_16 rfl rfl (by decide)
theorem dX11_led_18 : decode cX11_led 18 = .ok (.iaload, 1) := dk_46 rfl
theorem dX11_led_19 : decode cX11_led 19 = .ok (.if_icmp .ge 35, 3) := dk_162 rfl rfl rfl (by decide)
theorem dX11_led_22 : decode cX11_led 22 = .ok (.aload_n 0, 1) := dk_42 rfl
theorem dX11_led_23 : decode cX11_led 23 = .ok (.iload_n 3, 1) := dk_29 rfl
theorem dX11_led_24 : decode cX11_led 24 = .ok (.invokevirtual 339, 3) := dk_182 rfl rfl rfl rfl
theorem dX11_led_27 : decode cX11_led 27 = .ok (.ifCond .eq 6, 3) := dk_153 rfl rfl rfl (by decide)
theorem dX11_led_30 : decode cX11_led 30 = .ok (.goto 18, 3) := dk_167 rfl rfl rfl (by decide)
theorem dX11_led_33 : decode cX11_led 33 = .ok (.iload_n 2, 1) := dk_28 rfl
theorem dX11_led_34 : decode cX11_led 34 = .ok (.iload_n 1, 1) := dk_27 rfl
theorem dX11_led_35 : decode cX11_led 35 = .ok (.if_icmp .ne 10, 3) := dk_160 rfl rfl rfl (by decide)
theorem dX11_led_38 : decode cX11_led 38 = .ok (.aload_n 0, 1) := dk_42 rfl
theorem dX11_led_39 : decode cX11_led 39 = .ok (.iconst 0, 1) := dk_3 rfl
theorem dX11_led_40 : decode cX11_led 40 = .ok (.putfield 83, 3) := dk_181 rfl rfl rfl rfl
theorem dX11_led_43 : decode cX11_led 43 = .ok (.iload_n 3, 1) := dk_29 rfl
theorem dX11_led_44 : decode cX11_led 44 = .ok (.ireturn, 1) := dk_172 rfl
theorem dX11_led_45 : decode cX11_led 45 = .ok (.iinc 2 1, 3) := dk_132 rfl rfl rfl rfl (by decide)
theorem dX11_led_48 : decode cX11_led 48 = .ok (.iinc 3 1, 3) := dk_132 rfl rfl rfl rfl (by decide)
theorem dX11_led_51 : decode cX11_led 51 = .ok (.goto (-47), 3) := dk_167 rfl rfl rfl (by decide)
theorem dX11_led_54 : decode cX11_led 54 = .ok (.aload_n 0, 1) := dk_42 rfl
theorem dX11_led_55 : decode cX11_led 55 = .ok (.iconst 1, 1) := dk_4 rfl
theorem dX11_led_56 : decode cX11_led 56 = .ok (.putfield 83, 3) := dk_181 rfl rfl rfl rfl
theorem dX11_led_59 : decode cX11_led 59 = .ok (.iconst 0, 1) := dk_3 rfl
theorem dX11_led_60 : decode cX11_led 60 = .ok (.ireturn, 1) := dk_172 rfl
set_option maxHeartbeats 4000000 in
set_option maxRecDepth 100000 in
theorem m_led (l : Launch) (g : Gx) (h0 : Nat) (p0 : Int32) (m_thrown : Int32) (a_tape : Nat) (m_taped : Int32) (m_size : Int32) (m_at : Int32) (m_end : Int32) (m_token : Int32) (m_whole : Int32) (m_nameSize : Int32) (m_fault : Int32) (m_place : Int32) (m_trouble : Int32) (a_letters : Nat) (m_failed : Int32) (m_hasHouse : Int32) (a_r : Nat) (a_fresh : Nat) (a_st : Nat) (a_undone : Nat) (a_kept : Nat) (m_undos : Int32) (m_images : Int32) (a_from : Nat) (a_begin : Nat) (a_motor : Nat) (a_change : Nat) (a_startFrame : Nat) (a_changeFrame : Nat) (a_lostAt : Nat) (a_blackAt : Nat) (a_slips : Nat) (a_leftArc : Nat) (a_died : Nat) (a_arcs : Nat) (m_bestSum : Int32) (m_nearest : Int32) (m_nearestTown : Int32) (a_there : Nat) (a_backAt : Nat) (a_sorted : Nat) (a_parts : Nat) (m_seed1 : Int32) (m_darkNow : Int32) (d_r : Nat → Int32) (d_st : Nat → Int32) (hv_m_hasHouse : IV m_hasHouse 0 1) (hp_d_r : RInv d_r) : cI l g yX11_led cX11_led 4 (some .int) 2 42 0 0 [.ref h0, .int p0] [(cO11_i1r1i10r1i2r5i2r12i3r4i2 h0 m_thrown a_tape m_taped m_size m_at m_end m_token m_whole m_nameSize m_fault m_place m_trouble a_letters m_failed m_hasHouse a_r a_fresh a_st a_undone a_kept m_undos m_images a_from a_begin a_motor a_change a_startFrame a_changeFrame a_lostAt a_blackAt a_slips a_leftArc a_died a_arcs m_bestSum m_nearest m_nearestTown a_there a_backAt a_sorted a_parts m_seed1 m_darkNow), (cAI g a_r 311 d_r), (cAI g a_st 44 d_st)] (fun r w => ∃ (m_thrown2 : Int32), w = [(cO11_i1r1i10r1i2r5i2r12i3r4i2 h0 m_thrown2 a_tape m_taped m_size m_at m_end m_token m_whole m_nameSize m_fault m_place m_trouble a_letters m_failed m_hasHouse a_r a_fresh a_st a_undone a_kept m_undos m_images a_from a_begin a_motor a_change a_startFrame a_changeFrame a_lostAt a_blackAt a_slips a_leftArc a_died a_arcs m_bestSum m_nearest m_nearestTown a_there a_backAt a_sorted a_parts m_seed1 m_darkNow), (cAI g a_r 311 d_r), (cAI g a_st 44 d_st)]) := by
  refine cI.of (by decide) (Nat.le_of_ble_eq_true rfl) ?_
  intro p e s m args below meth c A X hr hi
  refine k_lveq [(0, .ref h0), (1, .int p0)] rfl ?_
  refine k_iconst (v := 0) X dX11_led_0 (by decide) ?_
  refine k_istore_n [(2, .int 0), (0, .ref h0), (1, .int p0)] X dX11_led_1 (by decide) rfl ?_
  refine k_iconst (v := 0) X dX11_led_2 (by decide) ?_
  refine k_istore_n [(3, .int 0), (2, .int 0), (0, .ref h0), (1, .int p0)] X dX11_led_3 (by decide) rfl ?_
  refine (fun hL : ∀ (nn_4 : Nat) (u_1 : Int32) (u_2 : Int32), (2147483647 - u_2.toInt).toNat = nn_4 → (IV u_2 0 8) → Wk p l e _ s m args below meth c _ A g _ _ _ [(cO11_i1r1i10r1i2r5i2r12i3r4i2 h0 m_thrown a_tape m_taped m_size m_at m_end m_token m_whole m_nameSize m_fault m_place m_trouble a_letters m_failed m_hasHouse a_r a_fresh a_st a_undone a_kept m_undos m_images a_from a_begin a_motor a_change a_startFrame a_changeFrame a_lostAt a_blackAt a_slips a_leftArc a_died a_arcs m_bestSum m_nearest m_nearestTown a_there a_backAt a_sorted a_parts m_seed1 m_darkNow), (cAI g a_r 311 d_r), (cAI g a_st 44 d_st)] [(3, .int u_2), (2, .int u_1), (0, .ref h0), (1, .int p0)] 4 [] => hL _ 0 0 rfl (iv_w (show IV 0 0 0 from (by decide)) (by decide) (by decide))) ?_
  refine fun nn_4 => Nat.strongRecOn nn_4 (fun nn_4 ih_6 => ?_)
  intro u_1 u_2 hm_5 hv_3
  refine k_aload_n X dX11_led_4 2 rfl ?_
  refine k_get (ci := 11) X inlX11 rfl 14 (by decide) dX11_led_5 mw474 0 rfl rfl ?_
  refine k_if_eq 54 X dX11_led_8 (by decide) (fun h_7 => ?_) (fun h_7 => ?_)
  · skip
    have iv_8 : IV m_hasHouse 0 0 := iv_meet hv_m_hasHouse (iv_e h_7 (show IV 0 0 0 from (by decide))) (by decide) (by decide)
    refine k_aload_n X dX11_led_54 2 rfl ?_
    refine k_iconst (v := 1) X dX11_led_55 (by decide) ?_
    refine k_put (ci := 11) [(cO11_i1r1i10r1i2r5i2r12i3r4i2 h0 1 a_tape m_taped m_size m_at m_end m_token m_whole m_nameSize m_fault m_place m_trouble a_letters m_failed m_hasHouse a_r a_fresh a_st a_undone a_kept m_undos m_images a_from a_begin a_motor a_change a_startFrame a_changeFrame a_lostAt a_blackAt a_slips a_leftArc a_died a_arcs m_bestSum m_nearest m_nearestTown a_there a_backAt a_sorted a_parts m_seed1 m_darkNow), (cAI g a_r 311 d_r), (cAI g a_st 44 d_st)] X inlX11 rfl tyX11_ok nmX11 0 (by decide) rfl dX11_led_56 mw204 0 rfl rfl rfl (Nat.le_of_ble_eq_true rfl) rfl ?_
    refine k_iconst (v := 0) X dX11_led_59 (by decide) ?_
    exact k_iret X hr dX11_led_60 (Nat.le_of_ble_eq_true rfl) (Nat.le_of_ble_eq_true rfl) [0, 1, 2] (by decide) rfl rfl ⟨1, rfl⟩
  · skip
    have iv_9 : IV m_hasHouse 1 1 := iv_neL h_7 hv_m_hasHouse (show IV 0 0 0 from (by decide)) (by decide)
    refine k_iload_n X dX11_led_11 0 rfl ?_
    refine k_aload_n X dX11_led_12 2 rfl ?_
    refine k_get (ci := 11) X inlX11 rfl 15 (by decide) dX11_led_13 mw170 0 rfl rfl ?_
    refine k_bipush (v := 10) X dX11_led_16 (by decide) ?_
    refine k_iald X dX11_led_18 1 rfl (by unfold vp_in; decide) ?_
    refine k_nm (fun z_10 ez_10 => ?_)
    have i_11 : z_10.toInt = (d_r 10).toInt := by rw [ez_10]; rfl
    have iv_12 : IV z_10 0 6 := rb_10 ez_10 hp_d_r
    refine k_ic_ge 54 X dX11_led_19 (by decide) (fun h_13 => ?_) (fun h_13 => ?_)
    · skip
      have j_14 : z_10.toInt ≤ u_2.toInt := iv_le h_13
      refine k_aload_n X dX11_led_54 2 rfl ?_
      refine k_iconst (v := 1) X dX11_led_55 (by decide) ?_
      refine k_put (ci := 11) [(cO11_i1r1i10r1i2r5i2r12i3r4i2 h0 1 a_tape m_taped m_size m_at m_end m_token m_whole m_nameSize m_fault m_place m_trouble a_letters m_failed m_hasHouse a_r a_fresh a_st a_undone a_kept m_undos m_images a_from a_begin a_motor a_change a_startFrame a_changeFrame a_lostAt a_blackAt a_slips a_leftArc a_died a_arcs m_bestSum m_nearest m_nearestTown a_there a_backAt a_sorted a_parts m_seed1 m_darkNow), (cAI g a_r 311 d_r), (cAI g a_st 44 d_st)] X inlX11 rfl tyX11_ok nmX11 0 (by decide) rfl dX11_led_56 mw204 0 rfl rfl rfl (Nat.le_of_ble_eq_true rfl) rfl ?_
      refine k_iconst (v := 0) X dX11_led_59 (by decide) ?_
      exact k_iret X hr dX11_led_60 (Nat.le_of_ble_eq_true rfl) (Nat.le_of_ble_eq_true rfl) [0, 1, 2] (by decide) rfl rfl ⟨1, rfl⟩
    · skip
      have j_15 : u_2.toInt < z_10.toInt := iv_nle h_13
      have iv_16 : IV u_2 0 5 := iv_ltL (iv_nle h_13) hv_3 iv_12 (by decide)
      have iv_17 : IV z_10 1 6 := iv_ltR (iv_nle h_13) hv_3 iv_12 (by decide)
      refine k_aload_n X dX11_led_22 2 rfl ?_
      refine k_iload_n X dX11_led_23 0 rfl ?_
      refine k_callVI (n := 1) (As := [.int u_2]) (st := []) X [(cO11_i1r1i10r1i2r5i2r12i3r4i2 h0 m_thrown a_tape m_taped m_size m_at m_end m_token m_whole m_nameSize m_fault m_place m_trouble a_letters m_failed m_hasHouse a_r a_fresh a_st a_undone a_kept m_undos m_images a_from a_begin a_motor a_change a_startFrame a_changeFrame a_lostAt a_blackAt a_slips a_leftArc a_died a_arcs m_bestSum m_nearest m_nearestTown a_there a_backAt a_sorted a_parts m_seed1 m_darkNow), (cAI g a_st 44 d_st)] [(cAI g a_r 311 d_r)] [0, 2] [1] (m_isMended l g h0 u_2 m_thrown a_tape m_taped m_size m_at m_end m_token m_whole m_nameSize m_fault m_place m_trouble a_letters m_failed m_hasHouse a_r a_fresh a_st a_undone a_kept m_undos m_images a_from a_begin a_motor a_change a_startFrame a_changeFrame a_lostAt a_blackAt a_slips a_leftArc a_died a_arcs m_bestSum m_nearest m_nearestTown a_there a_backAt a_sorted a_parts m_seed1 m_darkNow d_st) dX11_led_24 mw682 mw683 mw684 mw5 mw685 rfl 11 rfl rfl 0 _ rfl yk_yX11_isMended_1 rfl (Nat.le_of_ble_eq_true rfl) (Nat.le_of_ble_eq_true rfl) (Nat.le_of_ble_eq_true rfl) (Nat.le_of_ble_eq_true rfl) (Nat.le_of_ble_eq_true rfl) rfl rfl (by decide) rfl (by decide) (by decide) ?_
      rintro r_18 w ⟨iv_19, rfl⟩
      refine k_ws [(cAI g a_r 311 d_r), (cO11_i1r1i10r1i2r5i2r12i3r4i2 h0 m_thrown a_tape m_taped m_size m_at m_end m_token m_whole m_nameSize m_fault m_place m_trouble a_letters m_failed m_hasHouse a_r a_fresh a_st a_undone a_kept m_undos m_images a_from a_begin a_motor a_change a_startFrame a_changeFrame a_lostAt a_blackAt a_slips a_leftArc a_died a_arcs m_bestSum m_nearest m_nearestTown a_there a_backAt a_sorted a_parts m_seed1 m_darkNow), (cAI g a_st 44 d_st)] rfl ?_
      refine k_if_eq 33 X dX11_led_27 (by decide) (fun h_20 => ?_) (fun h_20 => ?_)
      · skip
        have iv_21 : IV r_18 0 0 := iv_meet iv_19 (iv_e h_20 (show IV 0 0 0 from (by decide))) (by decide) (by decide)
        refine k_iload_n X dX11_led_33 1 rfl ?_
        refine k_iload_n X dX11_led_34 3 rfl ?_
        refine k_ic_ne 45 X dX11_led_35 (by decide) (fun h_22 => ?_) (fun h_22 => ?_)
        · skip
          obtain ⟨z_23, ez_23⟩ : ∃ y : Int32, u_1 + Int32.ofInt 1 = y := ⟨_, rfl⟩
          refine k_iinc z_23 [(2, .int z_23), (3, .int u_2), (0, .ref h0), (1, .int p0)] 1 X dX11_led_45 rfl ez_23 (by decide) rfl ?_
          obtain ⟨z_24, ez_24⟩ : ∃ y : Int32, u_2 + Int32.ofInt 1 = y := ⟨_, rfl⟩
          refine k_iinc z_24 [(3, .int z_24), (2, .int z_23), (0, .ref h0), (1, .int p0)] 1 X dX11_led_48 rfl ez_24 (by decide) rfl ?_
          have i_25 : z_24.toInt = u_2.toInt + 1 := in_inc ez_24 (by decide) iv_16 (by decide) (by decide)
          have iv_26 : IV z_24 1 6 := iz1 i_25 iv_16 (by decide) (by decide)
          refine k_goto 4 X dX11_led_51 (by decide) ?_
          refine k_sub [(cO11_i1r1i10r1i2r5i2r12i3r4i2 h0 m_thrown a_tape m_taped m_size m_at m_end m_token m_whole m_nameSize m_fault m_place m_trouble a_letters m_failed m_hasHouse a_r a_fresh a_st a_undone a_kept m_undos m_images a_from a_begin a_motor a_change a_startFrame a_changeFrame a_lostAt a_blackAt a_slips a_leftArc a_died a_arcs m_bestSum m_nearest m_nearestTown a_there a_backAt a_sorted a_parts m_seed1 m_darkNow), (cAI g a_r 311 d_r), (cAI g a_st 44 d_st)] [1, 0, 2] rfl (by decide) rfl ?_
          exact ih_6 _ (by omega) z_23 z_24 rfl (iv_w iv_26 (by decide) (by decide))
        · skip
          refine k_aload_n X dX11_led_38 2 rfl ?_
          refine k_iconst (v := 0) X dX11_led_39 (by decide) ?_
          refine k_put (ci := 11) [(cAI g a_r 311 d_r), (cO11_i1r1i10r1i2r5i2r12i3r4i2 h0 0 a_tape m_taped m_size m_at m_end m_token m_whole m_nameSize m_fault m_place m_trouble a_letters m_failed m_hasHouse a_r a_fresh a_st a_undone a_kept m_undos m_images a_from a_begin a_motor a_change a_startFrame a_changeFrame a_lostAt a_blackAt a_slips a_leftArc a_died a_arcs m_bestSum m_nearest m_nearestTown a_there a_backAt a_sorted a_parts m_seed1 m_darkNow), (cAI g a_st 44 d_st)] X inlX11 rfl tyX11_ok nmX11 0 (by decide) rfl dX11_led_40 mw204 1 rfl rfl rfl (Nat.le_of_ble_eq_true rfl) rfl ?_
          refine k_iload_n X dX11_led_43 0 rfl ?_
          exact k_iret X hr dX11_led_44 (Nat.le_of_ble_eq_true rfl) (Nat.le_of_ble_eq_true rfl) [1, 0, 2] (by decide) rfl rfl ⟨0, rfl⟩
      · skip
        have iv_27 : IV r_18 1 1 := iv_neL h_20 iv_19 (show IV 0 0 0 from (by decide)) (by decide)
        refine k_goto 48 X dX11_led_30 (by decide) ?_
        obtain ⟨z_28, ez_28⟩ : ∃ y : Int32, u_2 + Int32.ofInt 1 = y := ⟨_, rfl⟩
        refine k_iinc z_28 [(3, .int z_28), (2, .int u_1), (0, .ref h0), (1, .int p0)] 0 X dX11_led_48 rfl ez_28 (by decide) rfl ?_
        have i_29 : z_28.toInt = u_2.toInt + 1 := in_inc ez_28 (by decide) iv_16 (by decide) (by decide)
        have iv_30 : IV z_28 1 6 := iz1 i_29 iv_16 (by decide) (by decide)
        refine k_goto 4 X dX11_led_51 (by decide) ?_
        refine k_sub [(cO11_i1r1i10r1i2r5i2r12i3r4i2 h0 m_thrown a_tape m_taped m_size m_at m_end m_token m_whole m_nameSize m_fault m_place m_trouble a_letters m_failed m_hasHouse a_r a_fresh a_st a_undone a_kept m_undos m_images a_from a_begin a_motor a_change a_startFrame a_changeFrame a_lostAt a_blackAt a_slips a_leftArc a_died a_arcs m_bestSum m_nearest m_nearestTown a_there a_backAt a_sorted a_parts m_seed1 m_darkNow), (cAI g a_r 311 d_r), (cAI g a_st 44 d_st)] [1, 0, 2] rfl (by decide) rfl ?_
        exact ih_6 _ (by omega) u_1 z_28 rfl (iv_w iv_30 (by decide) (by decide))

theorem dX11_size_0 : decode cX11_size 0 = .ok (.aload_n 0, 1) := dk_42 rfl
theorem dX11_size_1 : decode cX11_size 1 = .ok (.iconst 0, 1) := dk_3 rfl
theorem dX11_size_2 : decode cX11_size 2 = .ok (.putfield 83, 3) := dk_181 rfl rfl rfl rfl
theorem dX11_size_5 : decode cX11_size 5 = .ok (.iload_n 1, 1) := dk_27 rfl
theorem dX11_size_6 : decode cX11_size 6 = .ok (.bipush 17, 2) := dk_16 rfl rfl (by decide)
theorem dX11_size_8 : decode cX11_size 8 = .ok (.if_icmp .ne 8, 3) := dk_160 rfl rfl rfl (by decide)
theorem dX11_size_11 : decode cX11_size 11 = .ok (.aload_n 0, 1) := dk_42 rfl
theorem dX11_size_12 : decode cX11_size 12 = .ok (.getfield 89, 3) := dk_180 rfl rfl rfl rfl
theorem dX11_size_15 : decode cX11_size 15 = .ok (.ireturn, 1) := dk_172 rfl
theorem dX11_size_16 : decode cX11_size 16 = .ok (.aload_n 0, 1) := dk_42 rfl
theorem dX11_size_17 : decode cX11_size 17 = .ok (.getfield 213, 3) := dk_180 rfl rfl rfl rfl
theorem dX11_size_20 : decode cX11_size 20 = .ok (.ifCond .ne 19, 3) := dk_154 rfl rfl rfl (by decide)
theorem dX11_size_23 : decode cX11_size 23 = .ok (.iload_n 1, 1) := dk_27 rfl
theorem dX11_size_24 : decode cX11_size 24 = .ok (.iconst 0, 1) := dk_3 rfl
theorem dX11_size_25 : decode cX11_size 25 = .ok (.bipush 16, 2) := dk_16 rfl rfl (by decide)
theorem dX11_size_27 : decode cX11_size 27 = .ok (.invokestatic 182, 3) := dk_184 rfl rfl rfl rfl
theorem dX11_size_30 : decode cX11_size 30 = .ok (.ifCond .eq 7, 3) := dk_153 rfl rfl rfl (by decide)
theorem dX11_size_33 : decode cX11_size 33 = .ok (.iconst 0, 1) := dk_3 rfl
theorem dX11_size_34 : decode cX11_size 34 = .ok (.goto 4, 3) := dk_167 rfl rfl rfl (by decide)
theorem dX11_size_37 : decode cX11_size 37 = .ok (.iconst (-1), 1) := dk_2 rfl
theorem dX11_size_38 : decode cX11_size 38 = .ok (.ireturn, 1) := dk_172 rfl
theorem dX11_size_39 : decode cX11_size 39 = .ok (.iload_n 1, 1) := dk_27 rfl
theorem dX11_size_40 : decode cX11_size 40 = .ok (.bipush 9, 2) := dk_16 rfl rfl (by decide)
theorem dX11_size_42 : decode cX11_size 42 = .ok (.if_icmp .ne 22, 3) := dk_160 rfl rfl rfl (by decide)
theorem dX11_size_45 : decode cX11_size 45 = .ok (.aload_n 0, 1) := dk_42 rfl
theorem dX11_size_46 : decode cX11_size 46 = .ok (.getfield 20, 3) := dk_180 rfl rfl rfl rfl
theorem dX11_size_49 : decode cX11_size 49 = .ok (.bipush 9, 2) := dk_16 rfl rfl (by decide)
theorem dX11_size_51 : decode cX11_size 51 = .ok (.iaload, 1) := dk_46 rfl
theorem dX11_size_52 : decode cX11_size 52 = .ok (.aload_n 0, 1) := dk_42 rfl
theorem dX11_size_53 : decode cX11_size 53 = .ok (.getfield 26, 3) := dk_180 rfl rfl rfl rfl
theorem dX11_size_56 : decode cX11_size 56 = .ok (.bipush 43, 2) := dk_16 rfl rfl (by decide)
theorem dX11_size_58 : decode cX11_size 58 = .ok (.iaload, 1) := dk_46 rfl
theorem dX11_size_59 : decode cX11_size 59 = .ok (.invokestatic 394, 3) := dk_184 rfl rfl rfl rfl
theorem dX11_size_62 : decode cX11_size 62 = .ok (.iadd, 1) := dk_96 rfl
theorem dX11_size_63 : decode cX11_size 63 = .ok (.ireturn, 1) := dk_172 rfl
theorem dX11_size_64 : decode cX11_size 64 = .ok (.iload_n 1, 1) := dk_27 rfl
theorem dX11_size_65 : decode cX11_size 65 = .ok (.iconst 0, 1) := dk_3 rfl
theorem dX11_size_66 : decode cX11_size 66 = .ok (.bipush 14, 2) := dk_16 rfl rfl (by decide)
theorem dX11_size_68 : decode cX11_size 68 = .ok (.invokestatic 182, 3) := dk_184 rfl rfl rfl rfl
theorem dX11_size_71 : decode cX11_size 71 = .ok (.ifCond .eq 10, 3) := dk_153 rfl rfl rfl (by decide)
theorem dX11_size_74 : decode cX11_size 74 = .ok (.aload_n 0, 1) := dk_42 rfl
theorem dX11_size_75 : decode cX11_size 75 = .ok (.getfield 20, 3) := dk_180 rfl rfl rfl rfl
theorem dX11_size_78 : decode cX11_size 78 = .ok (.iload_n 1, 1) := dk_27 rfl
theorem dX11_size_79 : decode cX11_size 79 = .ok (.iaload, 1) := dk_46 rfl
theorem dX11_size_80 : decode cX11_size 80 = .ok (.ireturn, 1) := dk_172 rfl
theorem dX11_size_81 : decode cX11_size 81 = .ok (.iload_n 1, 1) := dk_27 rfl
theorem dX11_size_82 : decode cX11_size 82 = .ok (.bipush 15, 2) := dk_16 rfl rfl (by decide)
theorem dX11_size_84 : decode cX11_size 84 = .ok (.if_icmp .ne 10, 3) := dk_160 rfl rfl rfl (by decide)
theorem dX11_size_87 : decode cX11_size 87 = .ok (.aload_n 0, 1) := dk_42 rfl
theorem dX11_size_88 : decode cX11_size 88 = .ok (.getfield 216, 3) := dk_180 rfl rfl rfl rfl
theorem dX11_size_91 : decode cX11_size 91 = .ok (.goto 17, 3) := dk_167 rfl rfl rfl (by decide)
theorem dX11_size_94 : decode cX11_size 94 = .ok (.iload_n 1, 1) := dk_27 rfl
theorem dX11_size_95 : decode cX11_size 95 = .ok (.bipush 16, 2) := dk_16 rfl rfl (by decide)
theorem dX11_size_97 : decode cX11_size 97 = .ok (.if_icmp .ne 10, 3) := by decide +kernel
theorem dX11_size_100 : decode cX11_size 100 = .ok (.aload_n 0, 1) := by decide +kernel
theorem dX11_size_101 : decode cX11_size 101 = .ok (.getfield 219, 3) := by decide +kernel
theorem dX11_size_104 : decode cX11_size 104 = .ok (.goto 4, 3) := by decide +kernel
theorem dX11_size_107 : decode cX11_size 107 = .ok (.iconst (-1), 1) := by decide +kernel
theorem dX11_size_108 : decode cX11_size 108 = .ok (.ireturn, 1) := by decide +kernel
set_option maxHeartbeats 4000000 in
set_option maxRecDepth 100000 in
theorem m_size (l : Launch) (g : Gx) (h0 : Nat) (p0 : Int32) (m_thrown : Int32) (a_tape : Nat) (m_taped : Int32) (m_size : Int32) (m_at : Int32) (m_end : Int32) (m_token : Int32) (m_whole : Int32) (m_nameSize : Int32) (m_fault : Int32) (m_place : Int32) (m_trouble : Int32) (a_letters : Nat) (m_failed : Int32) (m_hasHouse : Int32) (a_r : Nat) (a_fresh : Nat) (a_st : Nat) (a_undone : Nat) (a_kept : Nat) (m_undos : Int32) (m_images : Int32) (a_from : Nat) (a_begin : Nat) (a_motor : Nat) (a_change : Nat) (a_startFrame : Nat) (a_changeFrame : Nat) (a_lostAt : Nat) (a_blackAt : Nat) (a_slips : Nat) (a_leftArc : Nat) (a_died : Nat) (a_arcs : Nat) (m_bestSum : Int32) (m_nearest : Int32) (m_nearestTown : Int32) (a_there : Nat) (a_backAt : Nat) (a_sorted : Nat) (a_parts : Nat) (m_seed1 : Int32) (m_darkNow : Int32) (d_r : Nat → Int32) (d_st : Nat → Int32) (hv_m_hasHouse : IV m_hasHouse 0 1) (hv_m_undos : IV m_undos 0 12) (hv_m_images : IV m_images 0 3) (hv_m_taped : IV m_taped 0 900) (hp_d_r : RInv d_r) : cI l g yX11_size cX11_size 2 (some .int) 1 22 0 0 [.ref h0, .int p0] [(cO11_i1r1i10r1i2r5i2r12i3r4i2 h0 m_thrown a_tape m_taped m_size m_at m_end m_token m_whole m_nameSize m_fault m_place m_trouble a_letters m_failed m_hasHouse a_r a_fresh a_st a_undone a_kept m_undos m_images a_from a_begin a_motor a_change a_startFrame a_changeFrame a_lostAt a_blackAt a_slips a_leftArc a_died a_arcs m_bestSum m_nearest m_nearestTown a_there a_backAt a_sorted a_parts m_seed1 m_darkNow), (cAI g a_r 311 d_r), (cAI g a_st 44 d_st)] (fun r w => ∃ (m_thrown2 : Int32), w = [(cO11_i1r1i10r1i2r5i2r12i3r4i2 h0 m_thrown2 a_tape m_taped m_size m_at m_end m_token m_whole m_nameSize m_fault m_place m_trouble a_letters m_failed m_hasHouse a_r a_fresh a_st a_undone a_kept m_undos m_images a_from a_begin a_motor a_change a_startFrame a_changeFrame a_lostAt a_blackAt a_slips a_leftArc a_died a_arcs m_bestSum m_nearest m_nearestTown a_there a_backAt a_sorted a_parts m_seed1 m_darkNow), (cAI g a_r 311 d_r), (cAI g a_st 44 d_st)]) := by
  refine cI.of (by decide) (Nat.le_of_ble_eq_true rfl) ?_
  intro p e s m args below meth c A X hr hi
  refine k_lveq [(0, .ref h0), (1, .int p0)] rfl ?_
  refine k_aload_n X dX11_size_0 0 rfl ?_
  refine k_iconst (v := 0) X dX11_size_1 (by decide) ?_
  refine k_put (ci := 11) [(cO11_i1r1i10r1i2r5i2r12i3r4i2 h0 0 a_tape m_taped m_size m_at m_end m_token m_whole m_nameSize m_fault m_place m_trouble a_letters m_failed m_hasHouse a_r a_fresh a_st a_undone a_kept m_undos m_images a_from a_begin a_motor a_change a_startFrame a_changeFrame a_lostAt a_blackAt a_slips a_leftArc a_died a_arcs m_bestSum m_nearest m_nearestTown a_there a_backAt a_sorted a_parts m_seed1 m_darkNow), (cAI g a_r 311 d_r), (cAI g a_st 44 d_st)] X inlX11 rfl tyX11_ok nmX11 0 (by decide) rfl dX11_size_2 mw204 0 rfl rfl rfl (Nat.le_of_ble_eq_true rfl) rfl ?_
  refine k_iload_n X dX11_size_5 1 rfl ?_
  refine k_bipush (v := 17) X dX11_size_6 (by decide) ?_
  refine k_ic_ne 16 X dX11_size_8 (by decide) (fun h_1 => ?_) (fun h_1 => ?_)
  · skip
    refine k_aload_n X dX11_size_16 0 rfl ?_
    refine k_get (ci := 11) X inlX11 rfl 14 (by decide) dX11_size_17 mw474 0 rfl rfl ?_
    refine k_if_ne 39 X dX11_size_20 (by decide) (fun h_2 => ?_) (fun h_2 => ?_)
    · skip
      have iv_3 : IV m_hasHouse 1 1 := iv_neL h_2 hv_m_hasHouse (show IV 0 0 0 from (by decide)) (by decide)
      refine k_iload_n X dX11_size_39 1 rfl ?_
      refine k_bipush (v := 9) X dX11_size_40 (by decide) ?_
      refine k_ic_ne 64 X dX11_size_42 (by decide) (fun h_4 => ?_) (fun h_4 => ?_)
      · skip
        refine k_iload_n X dX11_size_64 1 rfl ?_
        refine k_iconst (v := 0) X dX11_size_65 (by decide) ?_
        refine k_bipush (v := 14) X dX11_size_66 (by decide) ?_
        refine k_callSI (n := 3) (As := [.int p0, .int 0, .int 14]) (st := []) X [] [(cO11_i1r1i10r1i2r5i2r12i3r4i2 h0 0 a_tape m_taped m_size m_at m_end m_token m_whole m_nameSize m_fault m_place m_trouble a_letters m_failed m_hasHouse a_r a_fresh a_st a_undone a_kept m_undos m_images a_from a_begin a_motor a_change a_startFrame a_changeFrame a_lostAt a_blackAt a_slips a_leftArc a_died a_arcs m_bestSum m_nearest m_nearestTown a_there a_backAt a_sorted a_parts m_seed1 m_darkNow), (cAI g a_r 311 d_r), (cAI g a_st 44 d_st)] [] [0, 1, 2] (m_in l g p0 0 14) dX11_size_68 mw482 mw483 mw5 mw484 yk_yX11_in_3 rfl (Nat.le_of_ble_eq_true rfl) (Nat.le_of_ble_eq_true rfl) (Nat.le_of_ble_eq_true rfl) (Nat.le_of_ble_eq_true rfl) (Nat.le_of_ble_eq_true rfl) rfl rfl (by decide) rfl (by decide) (by decide) ?_
        rintro r_5 w ⟨iv_6, hk_7, hk_8, rfl⟩
        refine k_ws [(cO11_i1r1i10r1i2r5i2r12i3r4i2 h0 0 a_tape m_taped m_size m_at m_end m_token m_whole m_nameSize m_fault m_place m_trouble a_letters m_failed m_hasHouse a_r a_fresh a_st a_undone a_kept m_undos m_images a_from a_begin a_motor a_change a_startFrame a_changeFrame a_lostAt a_blackAt a_slips a_leftArc a_died a_arcs m_bestSum m_nearest m_nearestTown a_there a_backAt a_sorted a_parts m_seed1 m_darkNow), (cAI g a_r 311 d_r), (cAI g a_st 44 d_st)] rfl ?_
        refine k_if_eq 81 X dX11_size_71 (by decide) (fun h_9 => ?_) (fun h_9 => ?_)
        · skip
          have iv_10 : IV r_5 0 0 := iv_meet iv_6 (iv_e h_9 (show IV 0 0 0 from (by decide))) (by decide) (by decide)
          have hc_11 := hk_8 (iv_eq iv_10 (show IV 0 0 0 from (by decide)))
          have j_12 : p0.toInt < 0 ∨ 14 < p0.toInt := hc_11
          refine k_iload_n X dX11_size_81 1 rfl ?_
          refine k_bipush (v := 15) X dX11_size_82 (by decide) ?_
          refine k_ic_ne 94 X dX11_size_84 (by decide) (fun h_13 => ?_) (fun h_13 => ?_)
          · skip
            refine k_iload_n X dX11_size_94 1 rfl ?_
            refine k_bipush (v := 16) X dX11_size_95 (by decide) ?_
            refine k_ic_ne 107 X dX11_size_97 (by decide) (fun h_14 => ?_) (fun h_14 => ?_)
            · skip
              refine k_iconst (v := -1) X dX11_size_107 (by decide) ?_
              exact k_iret X hr dX11_size_108 (Nat.le_of_ble_eq_true rfl) (Nat.le_of_ble_eq_true rfl) [0, 1, 2] (by decide) rfl rfl ⟨0, rfl⟩
            · skip
              have iv_15 : IV p0 16 16 := iv_meet (iv_any p0) (iv_e h_14 (show IV 16 16 16 from (by decide))) (by decide) (by decide)
              refine k_aload_n X dX11_size_100 0 rfl ?_
              refine k_get (ci := 11) X inlX11 rfl 21 (by decide) dX11_size_101 mw476 0 rfl rfl ?_
              refine k_goto 108 X dX11_size_104 (by decide) ?_
              exact k_iret X hr dX11_size_108 (Nat.le_of_ble_eq_true rfl) (Nat.le_of_ble_eq_true rfl) [0, 1, 2] (by decide) rfl rfl ⟨0, rfl⟩
          · skip
            have iv_16 : IV p0 15 15 := iv_meet (iv_any p0) (iv_e h_13 (show IV 15 15 15 from (by decide))) (by decide) (by decide)
            refine k_aload_n X dX11_size_87 0 rfl ?_
            refine k_get (ci := 11) X inlX11 rfl 20 (by decide) dX11_size_88 mw475 0 rfl rfl ?_
            refine k_goto 108 X dX11_size_91 (by decide) ?_
            exact k_iret X hr dX11_size_108 (Nat.le_of_ble_eq_true rfl) (Nat.le_of_ble_eq_true rfl) [0, 1, 2] (by decide) rfl rfl ⟨0, rfl⟩
        · skip
          have hc_17 := hk_7.resolve_left h_9
          have j_18 : 0 ≤ p0.toInt := hc_17.1
          have iv_19 : IV p0 0 2147483647 := iv_leR hc_17.1 (show IV 0 0 0 from (by decide)) (iv_any p0) (by decide)
          have j_20 : p0.toInt ≤ 14 := hc_17.2
          have iv_21 : IV p0 0 14 := iv_leL hc_17.2 iv_19 (show IV 14 14 14 from (by decide)) (by decide)
          have iv_22 : IV r_5 1 1 := iv_neL h_9 iv_6 (show IV 0 0 0 from (by decide)) (by decide)
          refine k_aload_n X dX11_size_74 0 rfl ?_
          refine k_get (ci := 11) X inlX11 rfl 15 (by decide) dX11_size_75 mw170 0 rfl rfl ?_
          refine k_iload_n X dX11_size_78 1 rfl ?_
          refine k_iald X dX11_size_79 1 rfl (iv_in iv_21 (by decide) (by decide)) ?_
          refine k_nm (fun z_23 ez_23 => ?_)
          exact k_iret X hr dX11_size_80 (Nat.le_of_ble_eq_true rfl) (Nat.le_of_ble_eq_true rfl) [0, 1, 2] (by decide) rfl rfl ⟨0, rfl⟩
      · skip
        have iv_24 : IV p0 9 9 := iv_meet (iv_any p0) (iv_e h_4 (show IV 9 9 9 from (by decide))) (by decide) (by decide)
        refine k_aload_n X dX11_size_45 0 rfl ?_
        refine k_get (ci := 11) X inlX11 rfl 15 (by decide) dX11_size_46 mw170 0 rfl rfl ?_
        refine k_bipush (v := 9) X dX11_size_49 (by decide) ?_
        refine k_iald X dX11_size_51 1 rfl (by unfold vp_in; decide) ?_
        refine k_nm (fun z_25 ez_25 => ?_)
        have i_26 : z_25.toInt = (d_r 9).toInt := by rw [ez_25]; rfl
        have iv_27 : IV z_25 0 8 := rb_9 ez_25 hp_d_r
        refine k_aload_n X dX11_size_52 0 rfl ?_
        refine k_get (ci := 11) X inlX11 rfl 17 (by decide) dX11_size_53 mw172 0 rfl rfl ?_
        refine k_bipush (v := 43) X dX11_size_56 (by decide) ?_
        refine k_iald X dX11_size_58 2 rfl (by unfold vp_in; decide) ?_
        refine k_nm (fun z_28 ez_28 => ?_)
        refine k_callSI (n := 1) (As := [.int z_28]) (st := [.int z_25]) X [] [(cO11_i1r1i10r1i2r5i2r12i3r4i2 h0 0 a_tape m_taped m_size m_at m_end m_token m_whole m_nameSize m_fault m_place m_trouble a_letters m_failed m_hasHouse a_r a_fresh a_st a_undone a_kept m_undos m_images a_from a_begin a_motor a_change a_startFrame a_changeFrame a_lostAt a_blackAt a_slips a_leftArc a_died a_arcs m_bestSum m_nearest m_nearestTown a_there a_backAt a_sorted a_parts m_seed1 m_darkNow), (cAI g a_r 311 d_r), (cAI g a_st 44 d_st)] [] [0, 1, 2] (m_ones l g z_28) dX11_size_59 mw1110 mw1111 mw5 mw1112 yk_yX11_ones_1 rfl (Nat.le_of_ble_eq_true rfl) (Nat.le_of_ble_eq_true rfl) (Nat.le_of_ble_eq_true rfl) (Nat.le_of_ble_eq_true rfl) (Nat.le_of_ble_eq_true rfl) rfl rfl (by decide) rfl (by decide) (by decide) ?_
        rintro r_29 w rfl
        refine k_ws [(cO11_i1r1i10r1i2r5i2r12i3r4i2 h0 0 a_tape m_taped m_size m_at m_end m_token m_whole m_nameSize m_fault m_place m_trouble a_letters m_failed m_hasHouse a_r a_fresh a_st a_undone a_kept m_undos m_images a_from a_begin a_motor a_change a_startFrame a_changeFrame a_lostAt a_blackAt a_slips a_leftArc a_died a_arcs m_bestSum m_nearest m_nearestTown a_there a_backAt a_sorted a_parts m_seed1 m_darkNow), (cAI g a_r 311 d_r), (cAI g a_st 44 d_st)] rfl ?_
        refine k_iadd X dX11_size_62 ?_
        refine k_nm (fun z_30 ez_30 => ?_)
        exact k_iret X hr dX11_size_63 (Nat.le_of_ble_eq_true rfl) (Nat.le_of_ble_eq_true rfl) [0, 1, 2] (by decide) rfl rfl ⟨0, rfl⟩
    · skip
      have iv_32 : IV m_hasHouse 0 0 := iv_meet hv_m_hasHouse (iv_e h_2 (show IV 0 0 0 from (by decide))) (by decide) (by decide)
      refine k_iload_n X dX11_size_23 1 rfl ?_
      refine k_iconst (v := 0) X dX11_size_24 (by decide) ?_
      refine k_bipush (v := 16) X dX11_size_25 (by decide) ?_
      refine k_callSI (n := 3) (As := [.int p0, .int 0, .int 16]) (st := []) X [] [(cO11_i1r1i10r1i2r5i2r12i3r4i2 h0 0 a_tape m_taped m_size m_at m_end m_token m_whole m_nameSize m_fault m_place m_trouble a_letters m_failed m_hasHouse a_r a_fresh a_st a_undone a_kept m_undos m_images a_from a_begin a_motor a_change a_startFrame a_changeFrame a_lostAt a_blackAt a_slips a_leftArc a_died a_arcs m_bestSum m_nearest m_nearestTown a_there a_backAt a_sorted a_parts m_seed1 m_darkNow), (cAI g a_r 311 d_r), (cAI g a_st 44 d_st)] [] [0, 1, 2] (m_in l g p0 0 16) dX11_size_27 mw482 mw483 mw5 mw484 yk_yX11_in_3 rfl (Nat.le_of_ble_eq_true rfl) (Nat.le_of_ble_eq_true rfl) (Nat.le_of_ble_eq_true rfl) (Nat.le_of_ble_eq_true rfl) (Nat.le_of_ble_eq_true rfl) rfl rfl (by decide) rfl (by decide) (by decide) ?_
      rintro r_33 w ⟨iv_34, hk_35, hk_36, rfl⟩
      refine k_ws [(cO11_i1r1i10r1i2r5i2r12i3r4i2 h0 0 a_tape m_taped m_size m_at m_end m_token m_whole m_nameSize m_fault m_place m_trouble a_letters m_failed m_hasHouse a_r a_fresh a_st a_undone a_kept m_undos m_images a_from a_begin a_motor a_change a_startFrame a_changeFrame a_lostAt a_blackAt a_slips a_leftArc a_died a_arcs m_bestSum m_nearest m_nearestTown a_there a_backAt a_sorted a_parts m_seed1 m_darkNow), (cAI g a_r 311 d_r), (cAI g a_st 44 d_st)] rfl ?_
      refine k_if_eq 37 X dX11_size_30 (by decide) (fun h_37 => ?_) (fun h_37 => ?_)
      · skip
        have iv_38 : IV r_33 0 0 := iv_meet iv_34 (iv_e h_37 (show IV 0 0 0 from (by decide))) (by decide) (by decide)
        have hc_39 := hk_36 (iv_eq iv_38 (show IV 0 0 0 from (by decide)))
        have j_40 : p0.toInt < 0 ∨ 16 < p0.toInt := hc_39
        refine k_iconst (v := -1) X dX11_size_37 (by decide) ?_
        exact k_iret X hr dX11_size_38 (Nat.le_of_ble_eq_true rfl) (Nat.le_of_ble_eq_true rfl) [0, 1, 2] (by decide) rfl rfl ⟨0, rfl⟩
      · skip
        have hc_41 := hk_35.resolve_left h_37
        have j_42 : 0 ≤ p0.toInt := hc_41.1
        have iv_43 : IV p0 0 2147483647 := iv_leR hc_41.1 (show IV 0 0 0 from (by decide)) (iv_any p0) (by decide)
        have j_44 : p0.toInt ≤ 16 := hc_41.2
        have iv_45 : IV p0 0 16 := iv_leL hc_41.2 iv_43 (show IV 16 16 16 from (by decide)) (by decide)
        have iv_46 : IV r_33 1 1 := iv_neL h_37 iv_34 (show IV 0 0 0 from (by decide)) (by decide)
        refine k_iconst (v := 0) X dX11_size_33 (by decide) ?_
        refine k_goto 38 X dX11_size_34 (by decide) ?_
        exact k_iret X hr dX11_size_38 (Nat.le_of_ble_eq_true rfl) (Nat.le_of_ble_eq_true rfl) [0, 1, 2] (by decide) rfl rfl ⟨0, rfl⟩
  · skip
    have iv_47 : IV p0 17 17 := iv_meet (iv_any p0) (iv_e h_1 (show IV 17 17 17 from (by decide))) (by decide) (by decide)
    refine k_aload_n X dX11_size_11 0 rfl ?_
    refine k_get (ci := 11) X inlX11 rfl 2 (by decide) dX11_size_12 mw205 0 rfl rfl ?_
    exact k_iret X hr dX11_size_15 (Nat.le_of_ble_eq_true rfl) (Nat.le_of_ble_eq_true rfl) [0, 1, 2] (by decide) rfl rfl ⟨0, rfl⟩

theorem dX11_trouble_0 : decode cX11_trouble 0 = .ok (.aload_n 0, 1) := dk_42 rfl
theorem dX11_trouble_1 : decode cX11_trouble 1 = .ok (.iconst 0, 1) := dk_3 rfl
theorem dX11_trouble_2 : decode cX11_trouble 2 = .ok (.putfield 83, 3) := dk_181 rfl rfl rfl rfl
theorem dX11_trouble_5 : decode cX11_trouble 5 = .ok (.aload_n 0, 1) := dk_42 rfl
theorem dX11_trouble_6 : decode cX11_trouble 6 = .ok (.getfield 86, 3) := dk_180 rfl rfl rfl rfl
theorem dX11_trouble_9 : decode cX11_trouble 9 = .ok (.ireturn, 1) := dk_172 rfl
set_option maxHeartbeats 4000000 in
set_option maxRecDepth 100000 in
theorem m_trouble (l : Launch) (g : Gx) (h0 : Nat) (m_thrown : Int32) (a_tape : Nat) (m_taped : Int32) (m_size : Int32) (m_at : Int32) (m_end : Int32) (m_token : Int32) (m_whole : Int32) (m_nameSize : Int32) (m_fault : Int32) (m_place : Int32) (m_trouble : Int32) (a_letters : Nat) (m_failed : Int32) (m_hasHouse : Int32) (a_r : Nat) (a_fresh : Nat) (a_st : Nat) (a_undone : Nat) (a_kept : Nat) (m_undos : Int32) (m_images : Int32) (a_from : Nat) (a_begin : Nat) (a_motor : Nat) (a_change : Nat) (a_startFrame : Nat) (a_changeFrame : Nat) (a_lostAt : Nat) (a_blackAt : Nat) (a_slips : Nat) (a_leftArc : Nat) (a_died : Nat) (a_arcs : Nat) (m_bestSum : Int32) (m_nearest : Int32) (m_nearestTown : Int32) (a_there : Nat) (a_backAt : Nat) (a_sorted : Nat) (a_parts : Nat) (m_seed1 : Int32) (m_darkNow : Int32) : cI l g yX11_trouble cX11_trouble 1 (some .int) 0 0 0 0 [.ref h0] [(cO11_i1r1i10r1i2r5i2r12i3r4i2 h0 m_thrown a_tape m_taped m_size m_at m_end m_token m_whole m_nameSize m_fault m_place m_trouble a_letters m_failed m_hasHouse a_r a_fresh a_st a_undone a_kept m_undos m_images a_from a_begin a_motor a_change a_startFrame a_changeFrame a_lostAt a_blackAt a_slips a_leftArc a_died a_arcs m_bestSum m_nearest m_nearestTown a_there a_backAt a_sorted a_parts m_seed1 m_darkNow)] (fun r w => ∃ (m_thrown2 : Int32), w = [(cO11_i1r1i10r1i2r5i2r12i3r4i2 h0 m_thrown2 a_tape m_taped m_size m_at m_end m_token m_whole m_nameSize m_fault m_place m_trouble a_letters m_failed m_hasHouse a_r a_fresh a_st a_undone a_kept m_undos m_images a_from a_begin a_motor a_change a_startFrame a_changeFrame a_lostAt a_blackAt a_slips a_leftArc a_died a_arcs m_bestSum m_nearest m_nearestTown a_there a_backAt a_sorted a_parts m_seed1 m_darkNow)]) := by
  refine cI.of (by decide) (Nat.le_of_ble_eq_true rfl) ?_
  intro p e s m args below meth c A X hr hi
  refine k_lveq [(0, .ref h0)] rfl ?_
  refine k_aload_n X dX11_trouble_0 0 rfl ?_
  refine k_iconst (v := 0) X dX11_trouble_1 (by decide) ?_
  refine k_put (ci := 11) [(cO11_i1r1i10r1i2r5i2r12i3r4i2 h0 0 a_tape m_taped m_size m_at m_end m_token m_whole m_nameSize m_fault m_place m_trouble a_letters m_failed m_hasHouse a_r a_fresh a_st a_undone a_kept m_undos m_images a_from a_begin a_motor a_change a_startFrame a_changeFrame a_lostAt a_blackAt a_slips a_leftArc a_died a_arcs m_bestSum m_nearest m_nearestTown a_there a_backAt a_sorted a_parts m_seed1 m_darkNow)] X inlX11 rfl tyX11_ok nmX11 0 (by decide) rfl dX11_trouble_2 mw204 0 rfl rfl rfl (Nat.le_of_ble_eq_true rfl) rfl ?_
  refine k_aload_n X dX11_trouble_5 0 rfl ?_
  refine k_get (ci := 11) X inlX11 rfl 11 (by decide) dX11_trouble_6 mw481 0 rfl rfl ?_
  exact k_iret X hr dX11_trouble_9 (Nat.le_of_ble_eq_true rfl) (Nat.le_of_ble_eq_true rfl) [0] (by decide) rfl rfl ⟨0, rfl⟩

theorem dX11_fault_0 : decode cX11_fault 0 = .ok (.aload_n 0, 1) := dk_42 rfl
theorem dX11_fault_1 : decode cX11_fault 1 = .ok (.iconst 0, 1) := dk_3 rfl
theorem dX11_fault_2 : decode cX11_fault 2 = .ok (.putfield 83, 3) := dk_181 rfl rfl rfl rfl
theorem dX11_fault_5 : decode cX11_fault 5 = .ok (.aload_n 0, 1) := dk_42 rfl
theorem dX11_fault_6 : decode cX11_fault 6 = .ok (.getfield 125, 3) := dk_180 rfl rfl rfl rfl
theorem dX11_fault_9 : decode cX11_fault 9 = .ok (.ireturn, 1) := dk_172 rfl
set_option maxHeartbeats 4000000 in
set_option maxRecDepth 100000 in
theorem m_fault (l : Launch) (g : Gx) (h0 : Nat) (m_thrown : Int32) (a_tape : Nat) (m_taped : Int32) (m_size : Int32) (m_at : Int32) (m_end : Int32) (m_token : Int32) (m_whole : Int32) (m_nameSize : Int32) (m_fault : Int32) (m_place : Int32) (m_trouble : Int32) (a_letters : Nat) (m_failed : Int32) (m_hasHouse : Int32) (a_r : Nat) (a_fresh : Nat) (a_st : Nat) (a_undone : Nat) (a_kept : Nat) (m_undos : Int32) (m_images : Int32) (a_from : Nat) (a_begin : Nat) (a_motor : Nat) (a_change : Nat) (a_startFrame : Nat) (a_changeFrame : Nat) (a_lostAt : Nat) (a_blackAt : Nat) (a_slips : Nat) (a_leftArc : Nat) (a_died : Nat) (a_arcs : Nat) (m_bestSum : Int32) (m_nearest : Int32) (m_nearestTown : Int32) (a_there : Nat) (a_backAt : Nat) (a_sorted : Nat) (a_parts : Nat) (m_seed1 : Int32) (m_darkNow : Int32) : cI l g yX11_fault cX11_fault 1 (some .int) 0 0 0 0 [.ref h0] [(cO11_i1r1i10r1i2r5i2r12i3r4i2 h0 m_thrown a_tape m_taped m_size m_at m_end m_token m_whole m_nameSize m_fault m_place m_trouble a_letters m_failed m_hasHouse a_r a_fresh a_st a_undone a_kept m_undos m_images a_from a_begin a_motor a_change a_startFrame a_changeFrame a_lostAt a_blackAt a_slips a_leftArc a_died a_arcs m_bestSum m_nearest m_nearestTown a_there a_backAt a_sorted a_parts m_seed1 m_darkNow)] (fun r w => ∃ (m_thrown2 : Int32), w = [(cO11_i1r1i10r1i2r5i2r12i3r4i2 h0 m_thrown2 a_tape m_taped m_size m_at m_end m_token m_whole m_nameSize m_fault m_place m_trouble a_letters m_failed m_hasHouse a_r a_fresh a_st a_undone a_kept m_undos m_images a_from a_begin a_motor a_change a_startFrame a_changeFrame a_lostAt a_blackAt a_slips a_leftArc a_died a_arcs m_bestSum m_nearest m_nearestTown a_there a_backAt a_sorted a_parts m_seed1 m_darkNow)]) := by
  refine cI.of (by decide) (Nat.le_of_ble_eq_true rfl) ?_
  intro p e s m args below meth c A X hr hi
  refine k_lveq [(0, .ref h0)] rfl ?_
  refine k_aload_n X dX11_fault_0 0 rfl ?_
  refine k_iconst (v := 0) X dX11_fault_1 (by decide) ?_
  refine k_put (ci := 11) [(cO11_i1r1i10r1i2r5i2r12i3r4i2 h0 0 a_tape m_taped m_size m_at m_end m_token m_whole m_nameSize m_fault m_place m_trouble a_letters m_failed m_hasHouse a_r a_fresh a_st a_undone a_kept m_undos m_images a_from a_begin a_motor a_change a_startFrame a_changeFrame a_lostAt a_blackAt a_slips a_leftArc a_died a_arcs m_bestSum m_nearest m_nearestTown a_there a_backAt a_sorted a_parts m_seed1 m_darkNow)] X inlX11 rfl tyX11_ok nmX11 0 (by decide) rfl dX11_fault_2 mw204 0 rfl rfl rfl (Nat.le_of_ble_eq_true rfl) rfl ?_
  refine k_aload_n X dX11_fault_5 0 rfl ?_
  refine k_get (ci := 11) X inlX11 rfl 9 (by decide) dX11_fault_6 mw468 0 rfl rfl ?_
  exact k_iret X hr dX11_fault_9 (Nat.le_of_ble_eq_true rfl) (Nat.le_of_ble_eq_true rfl) [0] (by decide) rfl rfl ⟨0, rfl⟩

theorem dX11_where_0 : decode cX11_where 0 = .ok (.aload_n 0, 1) := dk_42 rfl
theorem dX11_where_1 : decode cX11_where 1 = .ok (.iconst 0, 1) := dk_3 rfl
theorem dX11_where_2 : decode cX11_where 2 = .ok (.putfield 83, 3) := dk_181 rfl rfl rfl rfl
theorem dX11_where_5 : decode cX11_where 5 = .ok (.aload_n 0, 1) := dk_42 rfl
theorem dX11_where_6 : decode cX11_where 6 = .ok (.getfield 86, 3) := dk_180 rfl rfl rfl rfl
theorem dX11_where_9 : decode cX11_where 9 = .ok (.iconst 4, 1) := dk_7 rfl
theorem dX11_where_10 : decode cX11_where 10 = .ok (.if_icmp .ne 10, 3) := dk_160 rfl rfl rfl (by decide)
theorem dX11_where_13 : decode cX11_where 13 = .ok (.aload_n 0, 1) := dk_42 rfl
theorem dX11_where_14 : decode cX11_where 14 = .ok (.getfield 13, 3) := dk_180 rfl rfl rfl rfl
theorem dX11_where_17 : decode cX11_where 17 = .ok (.goto 4, 3) := dk_167 rfl rfl rfl (by decide)
theorem dX11_where_20 : decode cX11_where 20 = .ok (.iconst (-1), 1) := dk_2 rfl
theorem dX11_where_21 : decode cX11_where 21 = .ok (.ireturn, 1) := dk_172 rfl
set_option maxHeartbeats 4000000 in
set_option maxRecDepth 100000 in
theorem m_where (l : Launch) (g : Gx) (h0 : Nat) (m_thrown : Int32) (a_tape : Nat) (m_taped : Int32) (m_size : Int32) (m_at : Int32) (m_end : Int32) (m_token : Int32) (m_whole : Int32) (m_nameSize : Int32) (m_fault : Int32) (m_place : Int32) (m_trouble : Int32) (a_letters : Nat) (m_failed : Int32) (m_hasHouse : Int32) (a_r : Nat) (a_fresh : Nat) (a_st : Nat) (a_undone : Nat) (a_kept : Nat) (m_undos : Int32) (m_images : Int32) (a_from : Nat) (a_begin : Nat) (a_motor : Nat) (a_change : Nat) (a_startFrame : Nat) (a_changeFrame : Nat) (a_lostAt : Nat) (a_blackAt : Nat) (a_slips : Nat) (a_leftArc : Nat) (a_died : Nat) (a_arcs : Nat) (m_bestSum : Int32) (m_nearest : Int32) (m_nearestTown : Int32) (a_there : Nat) (a_backAt : Nat) (a_sorted : Nat) (a_parts : Nat) (m_seed1 : Int32) (m_darkNow : Int32) : cI l g yX11_where cX11_where 1 (some .int) 0 0 0 0 [.ref h0] [(cO11_i1r1i10r1i2r5i2r12i3r4i2 h0 m_thrown a_tape m_taped m_size m_at m_end m_token m_whole m_nameSize m_fault m_place m_trouble a_letters m_failed m_hasHouse a_r a_fresh a_st a_undone a_kept m_undos m_images a_from a_begin a_motor a_change a_startFrame a_changeFrame a_lostAt a_blackAt a_slips a_leftArc a_died a_arcs m_bestSum m_nearest m_nearestTown a_there a_backAt a_sorted a_parts m_seed1 m_darkNow)] (fun r w => ∃ (m_thrown2 : Int32), w = [(cO11_i1r1i10r1i2r5i2r12i3r4i2 h0 m_thrown2 a_tape m_taped m_size m_at m_end m_token m_whole m_nameSize m_fault m_place m_trouble a_letters m_failed m_hasHouse a_r a_fresh a_st a_undone a_kept m_undos m_images a_from a_begin a_motor a_change a_startFrame a_changeFrame a_lostAt a_blackAt a_slips a_leftArc a_died a_arcs m_bestSum m_nearest m_nearestTown a_there a_backAt a_sorted a_parts m_seed1 m_darkNow)]) := by
  refine cI.of (by decide) (Nat.le_of_ble_eq_true rfl) ?_
  intro p e s m args below meth c A X hr hi
  refine k_lveq [(0, .ref h0)] rfl ?_
  refine k_aload_n X dX11_where_0 0 rfl ?_
  refine k_iconst (v := 0) X dX11_where_1 (by decide) ?_
  refine k_put (ci := 11) [(cO11_i1r1i10r1i2r5i2r12i3r4i2 h0 0 a_tape m_taped m_size m_at m_end m_token m_whole m_nameSize m_fault m_place m_trouble a_letters m_failed m_hasHouse a_r a_fresh a_st a_undone a_kept m_undos m_images a_from a_begin a_motor a_change a_startFrame a_changeFrame a_lostAt a_blackAt a_slips a_leftArc a_died a_arcs m_bestSum m_nearest m_nearestTown a_there a_backAt a_sorted a_parts m_seed1 m_darkNow)] X inlX11 rfl tyX11_ok nmX11 0 (by decide) rfl dX11_where_2 mw204 0 rfl rfl rfl (Nat.le_of_ble_eq_true rfl) rfl ?_
  refine k_aload_n X dX11_where_5 0 rfl ?_
  refine k_get (ci := 11) X inlX11 rfl 11 (by decide) dX11_where_6 mw481 0 rfl rfl ?_
  refine k_iconst (v := 4) X dX11_where_9 (by decide) ?_
  refine k_ic_ne 20 X dX11_where_10 (by decide) (fun h_1 => ?_) (fun h_1 => ?_)
  · skip
    refine k_iconst (v := -1) X dX11_where_20 (by decide) ?_
    exact k_iret X hr dX11_where_21 (Nat.le_of_ble_eq_true rfl) (Nat.le_of_ble_eq_true rfl) [0] (by decide) rfl rfl ⟨0, rfl⟩
  · skip
    have iv_2 : IV m_trouble 4 4 := iv_meet (iv_any m_trouble) (iv_e h_1 (show IV 4 4 4 from (by decide))) (by decide) (by decide)
    refine k_aload_n X dX11_where_13 0 rfl ?_
    refine k_get (ci := 11) X inlX11 rfl 10 (by decide) dX11_where_14 mw168 0 rfl rfl ?_
    refine k_goto 21 X dX11_where_17 (by decide) ?_
    exact k_iret X hr dX11_where_21 (Nat.le_of_ble_eq_true rfl) (Nat.le_of_ble_eq_true rfl) [0] (by decide) rfl rfl ⟨0, rfl⟩

theorem dX11_feed_0 : decode cX11_feed 0 = .ok (.aload_n 0, 1) := dk_42 rfl
theorem dX11_feed_1 : decode cX11_feed 1 = .ok (.iconst 0, 1) := dk_3 rfl
theorem dX11_feed_2 : decode cX11_feed 2 = .ok (.putfield 83, 3) := dk_181 rfl rfl rfl rfl
theorem dX11_feed_5 : decode cX11_feed 5 = .ok (.aload_n 0, 1) := dk_42 rfl
theorem dX11_feed_6 : decode cX11_feed 6 = .ok (.getfield 89, 3) := dk_180 rfl rfl rfl rfl
theorem dX11_feed_9 : decode cX11_feed 9 = .ok (.bipush 20, 2) := dk_16 rfl rfl (by decide)
theorem dX11_feed_11 : decode cX11_feed 11 = .ok (.iadd, 1) := dk_96 rfl
theorem dX11_feed_12 : decode cX11_feed 12 = .ok (.sipush 900, 3) := dk_17 rfl rfl rfl (by decide)
theorem dX11_feed_15 : decode cX11_feed 15 = .ok (.if_icmp .le 5, 3) := dk_164 rfl rfl rfl (by decide)
theorem dX11_feed_18 : decode cX11_feed 18 = .ok (.iconst (-1), 1) := dk_2 rfl
theorem dX11_feed_19 : decode cX11_feed 19 = .ok (.ireturn, 1) := dk_172 rfl
theorem dX11_feed_20 : decode cX11_feed 20 = .ok (.iconst 0, 1) := dk_3 rfl
theorem dX11_feed_21 : decode cX11_feed 21 = .ok (.istore 6, 2) := dk_54 rfl rfl rfl
theorem dX11_feed_23 : decode cX11_feed 23 = .ok (.iload 6, 2) := dk_21 rfl rfl rfl
theorem dX11_feed_25 : decode cX11_feed 25 = .ok (.bipush 20, 2) := dk_16 rfl rfl (by decide)
theorem dX11_feed_27 : decode cX11_feed 27 = .ok (.if_icmp .ge 93, 3) := dk_162 rfl rfl rfl (by decide)
theorem dX11_feed_30 : decode cX11_feed 30 = .ok (.iload 6, 2) := dk_21 rfl rfl rfl
theorem dX11_feed_32 : decode cX11_feed 32 = .ok (.iconst 4, 1) := dk_7 rfl
theorem dX11_feed_33 : decode cX11_feed 33 = .ok (.if_icmp .ge 7, 3) := dk_162 rfl rfl rfl (by decide)
theorem dX11_feed_36 : decode cX11_feed 36 = .ok (.iload_n 1, 1) := dk_27 rfl
theorem dX11_feed_37 : decode cX11_feed 37 = .ok (.goto 39, 3) := dk_167 rfl rfl rfl (by decide)
theorem dX11_feed_40 : decode cX11_feed 40 = .ok (.iload 6, 2) := dk_21 rfl rfl rfl
theorem dX11_feed_42 : decode cX11_feed 42 = .ok (.bipush 8, 2) := dk_16 rfl rfl (by decide)
theorem dX11_feed_44 : decode cX11_feed 44 = .ok (.if_icmp .ge 7, 3) := dk_162 rfl rfl rfl (by decide)
theorem dX11_feed_47 : decode cX11_feed 47 = .ok (.iload_n 2, 1) := dk_28 rfl
theorem dX11_feed_48 : decode cX11_feed 48 = .ok (.goto 28, 3) := dk_167 rfl rfl rfl (by decide)
theorem dX11_feed_51 : decode cX11_feed 51 = .ok (.iload 6, 2) := dk_21 rfl rfl rfl
theorem dX11_feed_53 : decode cX11_feed 53 = .ok (.bipush 12, 2) := dk_16 rfl rfl (by decide)
theorem dX11_feed_55 : decode cX11_feed 55 = .ok (.if_icmp .ge 7, 3) := dk_162 rfl rfl rfl (by decide)
theorem dX11_feed_58 : decode cX11_feed 58 = .ok (.iload_n 3, 1) := dk_29 rfl
theorem dX11_feed_59 : decode cX11_feed 59 = .ok (.goto 17, 3) := dk_167 rfl rfl rfl (by decide)
theorem dX11_feed_62 : decode cX11_feed 62 = .ok (.iload 6, 2) := dk_21 rfl rfl rfl
theorem dX11_feed_64 : decode cX11_feed 64 = .ok (.bipush 16, 2) := dk_16 rfl rfl (by decide)
theorem dX11_feed_66 : decode cX11_feed 66 = .ok (.if_icmp .ge 8, 3) := dk_162 rfl rfl rfl (by decide)
theorem dX11_feed_69 : decode cX11_feed 69 = .ok (.iload 4, 2) := dk_21 rfl rfl rfl
theorem dX11_feed_71 : decode cX11_feed 71 = .ok (.goto 5, 3) := dk_167 rfl rfl rfl (by decide)
theorem dX11_feed_74 : decode cX11_feed 74 = .ok (.iload 5, 2) := dk_21 rfl rfl rfl
theorem dX11_feed_76 : decode cX11_feed 76 = .ok (.istore 7, 2) := dk_54 rfl rfl rfl
theorem dX11_feed_78 : decode cX11_feed 78 = .ok (.aload_n 0, 1) := dk_42 rfl
theorem dX11_feed_79 : decode cX11_feed 79 = .ok (.getfield 7, 3) := dk_180 rfl rfl rfl rfl
theorem dX11_feed_82 : decode cX11_feed 82 = .ok (.aload_n 0, 1) := dk_42 rfl
theorem dX11_feed_83 : decode cX11_feed 83 = .ok (.getfield 89, 3) := dk_180 rfl rfl rfl rfl
theorem dX11_feed_86 : decode cX11_feed 86 = .ok (.iload 7, 2) := dk_21 rfl rfl rfl
theorem dX11_feed_88 : decode cX11_feed 88 = .ok (.bipush 24, 2) := dk_16 rfl rfl (by decide)
theorem dX11_feed_90 : decode cX11_feed 90 = .ok (.bipush 8, 2) := dk_16 rfl rfl (by decide)
theorem dX11_feed_92 : decode cX11_feed 92 = .ok (.iload 6, 2) := dk_21 rfl rfl rfl
theorem dX11_feed_94 : decode cX11_feed 94 = .ok (.iconst 4, 1) := dk_7 rfl
theorem dX11_feed_95 : decode cX11_feed 95 = .ok (.irem, 1) := dk_112 rfl
theorem dX11_feed_96 : decode cX11_feed 96 = .ok (.imul, 1) := dk_104 rfl
theorem dX11_feed_97 : decode cX11_feed 97 = .ok (.isub, 1) := by decide +kernel
theorem dX11_feed_98 : decode cX11_feed 98 = .ok (.ishr, 1) := by decide +kernel
theorem dX11_feed_99 : decode cX11_feed 99 = .ok (.sipush 255, 3) := by decide +kernel
theorem dX11_feed_102 : decode cX11_feed 102 = .ok (.iand, 1) := by decide +kernel
theorem dX11_feed_103 : decode cX11_feed 103 = .ok (.iastore, 1) := by decide +kernel
theorem dX11_feed_104 : decode cX11_feed 104 = .ok (.aload_n 0, 1) := by decide +kernel
theorem dX11_feed_105 : decode cX11_feed 105 = .ok (.dup, 1) := by decide +kernel
theorem dX11_feed_106 : decode cX11_feed 106 = .ok (.getfield 89, 3) := by decide +kernel
theorem dX11_feed_109 : decode cX11_feed 109 = .ok (.iconst 1, 1) := by decide +kernel
theorem dX11_feed_110 : decode cX11_feed 110 = .ok (.iadd, 1) := by decide +kernel
theorem dX11_feed_111 : decode cX11_feed 111 = .ok (.putfield 89, 3) := by decide +kernel
theorem dX11_feed_114 : decode cX11_feed 114 = .ok (.iinc 6 1, 3) := by decide +kernel
theorem dX11_feed_117 : decode cX11_feed 117 = .ok (.goto (-94), 3) := by decide +kernel
theorem dX11_feed_120 : decode cX11_feed 120 = .ok (.aload_n 0, 1) := by decide +kernel
theorem dX11_feed_121 : decode cX11_feed 121 = .ok (.getfield 89, 3) := by decide +kernel
theorem dX11_feed_124 : decode cX11_feed 124 = .ok (.ireturn, 1) := by decide +kernel
