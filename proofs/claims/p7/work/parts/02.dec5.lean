theorem dX12_dampOf_25 : decode cX12_dampOf 25 = .ok (.getfield 34, 3) := by decide +kernel
theorem dX12_dampOf_28 : decode cX12_dampOf 28 = .ok (.iconst 1, 1) := by decide +kernel
theorem dX12_dampOf_29 : decode cX12_dampOf 29 = .ok (.iload_n 3, 1) := by decide +kernel
theorem dX12_dampOf_30 : decode cX12_dampOf 30 = .ok (.bipush 7, 2) := by decide +kernel
theorem dX12_dampOf_32 : decode cX12_dampOf 32 = .ok (.irem, 1) := by decide +kernel
theorem dX12_dampOf_33 : decode cX12_dampOf 33 = .ok (.iastore, 1) := by decide +kernel
theorem dX12_dampOf_34 : decode cX12_dampOf 34 = .ok (.aload_n 0, 1) := by decide +kernel
theorem dX12_dampOf_35 : decode cX12_dampOf 35 = .ok (.getfield 34, 3) := by decide +kernel
theorem dX12_dampOf_38 : decode cX12_dampOf 38 = .ok (.iconst 2, 1) := by decide +kernel
theorem dX12_dampOf_39 : decode cX12_dampOf 39 = .ok (.aload_n 0, 1) := by decide +kernel
theorem dX12_dampOf_40 : decode cX12_dampOf 40 = .ok (.getfield 256, 3) := by decide +kernel
theorem dX12_dampOf_43 : decode cX12_dampOf 43 = .ok (.iastore, 1) := by decide +kernel
theorem dX12_dampOf_44 : decode cX12_dampOf 44 = .ok (.aload_n 0, 1) := by decide +kernel
theorem dX12_dampOf_45 : decode cX12_dampOf 45 = .ok (.getfield 34, 3) := by decide +kernel
theorem dX12_dampOf_48 : decode cX12_dampOf 48 = .ok (.iconst 3, 1) := by decide +kernel
theorem dX12_dampOf_49 : decode cX12_dampOf 49 = .ok (.aload_n 0, 1) := by decide +kernel
theorem dX12_dampOf_50 : decode cX12_dampOf 50 = .ok (.getfield 253, 3) := by decide +kernel
theorem dX12_dampOf_53 : decode cX12_dampOf 53 = .ok (.iastore, 1) := by decide +kernel
theorem dX12_dampOf_54 : decode cX12_dampOf 54 = .ok (.aload_n 0, 1) := by decide +kernel
theorem dX12_dampOf_55 : decode cX12_dampOf 55 = .ok (.getfield 34, 3) := by decide +kernel
theorem dX12_dampOf_58 : decode cX12_dampOf 58 = .ok (.iconst 4, 1) := by decide +kernel
theorem dX12_dampOf_59 : decode cX12_dampOf 59 = .ok (.iload_n 2, 1) := by decide +kernel
theorem dX12_dampOf_60 : decode cX12_dampOf 60 = .ok (.iastore, 1) := by decide +kernel
theorem dX12_dampOf_61 : decode cX12_dampOf 61 = .ok (.iconst 0, 1) := by decide +kernel
theorem dX12_dampOf_62 : decode cX12_dampOf 62 = .ok (.bipush 9, 2) := by decide +kernel
theorem dX12_dampOf_64 : decode cX12_dampOf 64 = .ok (.aload_n 0, 1) := by decide +kernel
theorem dX12_dampOf_65 : decode cX12_dampOf 65 = .ok (.aload_n 0, 1) := by decide +kernel
theorem dX12_dampOf_66 : decode cX12_dampOf 66 = .ok (.getfield 52, 3) := by decide +kernel
theorem dX12_dampOf_69 : decode cX12_dampOf 69 = .ok (.invokevirtual 290, 3) := by decide +kernel
theorem dX12_dampOf_72 : decode cX12_dampOf 72 = .ok (.invokestatic 293, 3) := by decide +kernel
theorem dX12_dampOf_75 : decode cX12_dampOf 75 = .ok (.invokestatic 295, 3) := by decide +kernel
theorem dX12_dampOf_78 : decode cX12_dampOf 78 = .ok (.istore_n 2, 1) := by decide +kernel
theorem dX12_dampOf_79 : decode cX12_dampOf 79 = .ok (.iinc 3 1, 3) := by decide +kernel
theorem dX12_dampOf_82 : decode cX12_dampOf 82 = .ok (.goto (-78), 3) := by decide +kernel
theorem dX12_dampOf_85 : decode cX12_dampOf 85 = .ok (.iload_n 2, 1) := by decide +kernel
theorem dX12_dampOf_86 : decode cX12_dampOf 86 = .ok (.ireturn, 1) := by decide +kernel
theorem dX12_damp_0 : decode cX12_damp 0 = .ok (.aload_n 0, 1) := by decide +kernel
theorem dX12_damp_1 : decode cX12_damp 1 = .ok (.getfield 253, 3) := by decide +kernel
theorem dX12_damp_4 : decode cX12_damp 4 = .ok (.ifCond .le 22, 3) := by decide +kernel
theorem dX12_damp_7 : decode cX12_damp 7 = .ok (.iload_n 1, 1) := by decide +kernel
theorem dX12_damp_8 : decode cX12_damp 8 = .ok (.iconst 0, 1) := by decide +kernel
theorem dX12_damp_9 : decode cX12_damp 9 = .ok (.sipush 999, 3) := by decide +kernel
theorem dX12_damp_12 : decode cX12_damp 12 = .ok (.invokestatic 216, 3) := by decide +kernel
theorem dX12_damp_15 : decode cX12_damp 15 = .ok (.ifCond .eq 11, 3) := by decide +kernel
theorem dX12_damp_18 : decode cX12_damp 18 = .ok (.aload_n 0, 1) := by decide +kernel
theorem dX12_damp_19 : decode cX12_damp 19 = .ok (.iload_n 1, 1) := by decide +kernel
theorem dX12_damp_20 : decode cX12_damp 20 = .ok (.invokevirtual 297, 3) := by decide +kernel
theorem dX12_damp_23 : decode cX12_damp 23 = .ok (.goto 4, 3) := by decide +kernel
theorem dX12_damp_26 : decode cX12_damp 26 = .ok (.iconst (-1), 1) := by decide +kernel
theorem dX12_damp_27 : decode cX12_damp 27 = .ok (.ireturn, 1) := by decide +kernel
theorem dX12_pass_0 : decode cX12_pass 0 = .ok (.iconst 0, 1) := by decide +kernel
theorem dX12_pass_1 : decode cX12_pass 1 = .ok (.istore_n 3, 1) := by decide +kernel
theorem dX12_pass_2 : decode cX12_pass 2 = .ok (.iload_n 3, 1) := by decide +kernel
theorem dX12_pass_3 : decode cX12_pass 3 = .ok (.aload_n 0, 1) := by decide +kernel
theorem dX12_pass_4 : decode cX12_pass 4 = .ok (.getfield 253, 3) := by decide +kernel
theorem dX12_pass_7 : decode cX12_pass 7 = .ok (.if_icmp .ge 96, 3) := by decide +kernel
theorem dX12_pass_10 : decode cX12_pass 10 = .ok (.aload_n 0, 1) := by decide +kernel
theorem dX12_pass_11 : decode cX12_pass 11 = .ok (.iload_n 3, 1) := by decide +kernel
theorem dX12_pass_12 : decode cX12_pass 12 = .ok (.iconst 2, 1) := by decide +kernel
theorem dX12_pass_13 : decode cX12_pass 13 = .ok (.invokevirtual 284, 3) := by decide +kernel
theorem dX12_pass_16 : decode cX12_pass 16 = .ok (.istore 4, 2) := by decide +kernel
theorem dX12_pass_18 : decode cX12_pass 18 = .ok (.iload 4, 2) := by decide +kernel
theorem dX12_pass_20 : decode cX12_pass 20 = .ok (.iconst 2, 1) := by decide +kernel
theorem dX12_pass_21 : decode cX12_pass 21 = .ok (.if_icmp .ge 12, 3) := by decide +kernel
theorem dX12_pass_24 : decode cX12_pass 24 = .ok (.aload_n 0, 1) := by decide +kernel
theorem dX12_pass_25 : decode cX12_pass 25 = .ok (.iload_n 3, 1) := by decide +kernel
theorem dX12_pass_26 : decode cX12_pass 26 = .ok (.iconst 1, 1) := by decide +kernel
theorem dX12_pass_27 : decode cX12_pass 27 = .ok (.invokevirtual 284, 3) := by decide +kernel
theorem dX12_pass_30 : decode cX12_pass 30 = .ok (.goto 11, 3) := by decide +kernel
theorem dX12_pass_33 : decode cX12_pass 33 = .ok (.aload_n 0, 1) := by decide +kernel
theorem dX12_pass_34 : decode cX12_pass 34 = .ok (.iload_n 3, 1) := by decide +kernel
theorem dX12_pass_35 : decode cX12_pass 35 = .ok (.iconst 1, 1) := by decide +kernel
theorem dX12_pass_36 : decode cX12_pass 36 = .ok (.invokevirtual 284, 3) := by decide +kernel
theorem dX12_pass_39 : decode cX12_pass 39 = .ok (.iload_n 2, 1) := by decide +kernel
theorem dX12_pass_40 : decode cX12_pass 40 = .ok (.imul, 1) := by decide +kernel
theorem dX12_pass_41 : decode cX12_pass 41 = .ok (.istore 5, 2) := by decide +kernel
theorem dX12_pass_43 : decode cX12_pass 43 = .ok (.aload_n 0, 1) := by decide +kernel
theorem dX12_pass_44 : decode cX12_pass 44 = .ok (.getfield 46, 3) := by decide +kernel
theorem dX12_pass_47 : decode cX12_pass 47 = .ok (.iload_n 3, 1) := by decide +kernel
theorem dX12_pass_48 : decode cX12_pass 48 = .ok (.iaload, 1) := by decide +kernel
theorem dX12_pass_49 : decode cX12_pass 49 = .ok (.iload 4, 2) := by decide +kernel
theorem dX12_pass_51 : decode cX12_pass 51 = .ok (.iconst 2, 1) := by decide +kernel
theorem dX12_pass_52 : decode cX12_pass 52 = .ok (.irem, 1) := by decide +kernel
theorem dX12_pass_53 : decode cX12_pass 53 = .ok (.ifCond .ne 8, 3) := by decide +kernel
theorem dX12_pass_56 : decode cX12_pass 56 = .ok (.iload 5, 2) := by decide +kernel
theorem dX12_pass_58 : decode cX12_pass 58 = .ok (.goto 6, 3) := by decide +kernel
theorem dX12_pass_61 : decode cX12_pass 61 = .ok (.iload 5, 2) := by decide +kernel
theorem dX12_pass_63 : decode cX12_pass 63 = .ok (.ineg, 1) := by decide +kernel
theorem dX12_pass_64 : decode cX12_pass 64 = .ok (.iadd, 1) := by decide +kernel
theorem dX12_pass_65 : decode cX12_pass 65 = .ok (.istore 6, 2) := by decide +kernel
theorem dX12_pass_67 : decode cX12_pass 67 = .ok (.aload_n 0, 1) := by decide +kernel
theorem dX12_pass_68 : decode cX12_pass 68 = .ok (.getfield 46, 3) := by decide +kernel
theorem dX12_pass_71 : decode cX12_pass 71 = .ok (.iload_n 3, 1) := by decide +kernel
theorem dX12_pass_72 : decode cX12_pass 72 = .ok (.iload_n 3, 1) := by decide +kernel
theorem dX12_pass_73 : decode cX12_pass 73 = .ok (.iload_n 1, 1) := by decide +kernel
theorem dX12_pass_74 : decode cX12_pass 74 = .ok (.if_icmp .ne 10, 3) := by decide +kernel
theorem dX12_pass_77 : decode cX12_pass 77 = .ok (.aload_n 0, 1) := by decide +kernel
theorem dX12_pass_78 : decode cX12_pass 78 = .ok (.getfield 256, 3) := by decide +kernel
theorem dX12_pass_81 : decode cX12_pass 81 = .ok (.goto 15, 3) := by decide +kernel
theorem dX12_pass_84 : decode cX12_pass 84 = .ok (.iconst 1, 1) := by decide +kernel
theorem dX12_pass_85 : decode cX12_pass 85 = .ok (.sipush 199, 3) := by decide +kernel
theorem dX12_pass_88 : decode cX12_pass 88 = .ok (.iload 6, 2) := by decide +kernel
theorem dX12_pass_90 : decode cX12_pass 90 = .ok (.invokestatic 293, 3) := by decide +kernel
theorem dX12_pass_93 : decode cX12_pass 93 = .ok (.invokestatic 295, 3) := by decide +kernel
theorem dX12_pass_96 : decode cX12_pass 96 = .ok (.iastore, 1) := by decide +kernel
theorem dX12_pass_97 : decode cX12_pass 97 = .ok (.iinc 3 1, 3) := by decide +kernel
theorem dX12_pass_100 : decode cX12_pass 100 = .ok (.goto (-98), 3) := by decide +kernel
theorem dX12_pass_103 : decode cX12_pass 103 = .ok (.return_, 1) := by decide +kernel
theorem dX12_day_0 : decode cX12_day 0 = .ok (.aload_n 0, 1) := by decide +kernel
theorem dX12_day_1 : decode cX12_day 1 = .ok (.getfield 253, 3) := by decide +kernel
theorem dX12_day_4 : decode cX12_day 4 = .ok (.ifCond .eq 27, 3) := by decide +kernel
theorem dX12_day_7 : decode cX12_day 7 = .ok (.iload_n 1, 1) := by decide +kernel
theorem dX12_day_8 : decode cX12_day 8 = .ok (.iconst (-1), 1) := by decide +kernel
theorem dX12_day_9 : decode cX12_day 9 = .ok (.aload_n 0, 1) := by decide +kernel
theorem dX12_day_10 : decode cX12_day 10 = .ok (.getfield 253, 3) := by decide +kernel
theorem dX12_day_13 : decode cX12_day 13 = .ok (.iconst 1, 1) := by decide +kernel
theorem dX12_day_14 : decode cX12_day 14 = .ok (.isub, 1) := by decide +kernel
theorem dX12_day_15 : decode cX12_day 15 = .ok (.invokestatic 216, 3) := by decide +kernel
theorem dX12_day_18 : decode cX12_day 18 = .ok (.ifCond .eq 13, 3) := by decide +kernel
theorem dX12_day_21 : decode cX12_day 21 = .ok (.aload_n 0, 1) := by decide +kernel
theorem dX12_day_22 : decode cX12_day 22 = .ok (.getfield 259, 3) := by decide +kernel
theorem dX12_day_25 : decode cX12_day 25 = .ok (.sipush 999, 3) := by decide +kernel
theorem dX12_day_28 : decode cX12_day 28 = .ok (.if_icmp .le 5, 3) := by decide +kernel
theorem dX12_day_31 : decode cX12_day 31 = .ok (.iconst (-1), 1) := by decide +kernel
theorem dX12_day_32 : decode cX12_day 32 = .ok (.ireturn, 1) := by decide +kernel
theorem dX12_day_33 : decode cX12_day 33 = .ok (.aload_n 0, 1) := by decide +kernel
theorem dX12_day_34 : decode cX12_day 34 = .ok (.getfield 262, 3) := by decide +kernel
theorem dX12_day_37 : decode cX12_day 37 = .ok (.bipush 60, 2) := by decide +kernel
theorem dX12_day_39 : decode cX12_day 39 = .ok (.if_icmp .ne 44, 3) := by decide +kernel
theorem dX12_day_42 : decode cX12_day 42 = .ok (.bipush 6, 2) := by decide +kernel
theorem dX12_day_44 : decode cX12_day 44 = .ok (.istore_n 2, 1) := by decide +kernel
theorem dX12_day_45 : decode cX12_day 45 = .ok (.iload_n 2, 1) := by decide +kernel
theorem dX12_day_46 : decode cX12_day 46 = .ok (.sipush 360, 3) := by decide +kernel
theorem dX12_day_49 : decode cX12_day 49 = .ok (.if_icmp .ge 24, 3) := by decide +kernel
theorem dX12_day_52 : decode cX12_day 52 = .ok (.aload_n 0, 1) := by decide +kernel
theorem dX12_day_53 : decode cX12_day 53 = .ok (.getfield 62, 3) := by decide +kernel
theorem dX12_day_56 : decode cX12_day 56 = .ok (.iload_n 2, 1) := by decide +kernel
theorem dX12_day_57 : decode cX12_day 57 = .ok (.bipush 6, 2) := by decide +kernel
theorem dX12_day_59 : decode cX12_day 59 = .ok (.isub, 1) := by decide +kernel
theorem dX12_day_60 : decode cX12_day 60 = .ok (.aload_n 0, 1) := by decide +kernel
theorem dX12_day_61 : decode cX12_day 61 = .ok (.getfield 62, 3) := by decide +kernel
theorem dX12_day_64 : decode cX12_day 64 = .ok (.iload_n 2, 1) := by decide +kernel
theorem dX12_day_65 : decode cX12_day 65 = .ok (.iaload, 1) := by decide +kernel
theorem dX12_day_66 : decode cX12_day 66 = .ok (.iastore, 1) := by decide +kernel
theorem dX12_day_67 : decode cX12_day 67 = .ok (.iinc 2 1, 3) := by decide +kernel
theorem dX12_day_70 : decode cX12_day 70 = .ok (.goto (-25), 3) := by decide +kernel
theorem dX12_day_73 : decode cX12_day 73 = .ok (.aload_n 0, 1) := by decide +kernel
theorem dX12_day_74 : decode cX12_day 74 = .ok (.dup, 1) := by decide +kernel
theorem dX12_day_75 : decode cX12_day 75 = .ok (.getfield 262, 3) := by decide +kernel
theorem dX12_day_78 : decode cX12_day 78 = .ok (.iconst 1, 1) := by decide +kernel
theorem dX12_day_79 : decode cX12_day 79 = .ok (.isub, 1) := by decide +kernel
theorem dX12_day_80 : decode cX12_day 80 = .ok (.putfield 262, 3) := by decide +kernel
theorem dX12_day_83 : decode cX12_day 83 = .ok (.iconst 0, 1) := by decide +kernel
theorem dX12_day_84 : decode cX12_day 84 = .ok (.istore_n 2, 1) := by decide +kernel
theorem dX12_day_85 : decode cX12_day 85 = .ok (.iload_n 2, 1) := by decide +kernel
theorem dX12_day_86 : decode cX12_day 86 = .ok (.bipush 6, 2) := by decide +kernel
theorem dX12_day_88 : decode cX12_day 88 = .ok (.if_icmp .ge 29, 3) := by decide +kernel
theorem dX12_day_91 : decode cX12_day 91 = .ok (.aload_n 0, 1) := by decide +kernel
theorem dX12_day_92 : decode cX12_day 92 = .ok (.getfield 62, 3) := by decide +kernel
theorem dX12_day_95 : decode cX12_day 95 = .ok (.bipush 6, 2) := by decide +kernel
theorem dX12_day_97 : decode cX12_day 97 = .ok (.aload_n 0, 1) := by decide +kernel
theorem dX12_day_98 : decode cX12_day 98 = .ok (.getfield 262, 3) := by decide +kernel
theorem dX12_day_101 : decode cX12_day 101 = .ok (.imul, 1) := by decide +kernel
theorem dX12_day_102 : decode cX12_day 102 = .ok (.iload_n 2, 1) := by decide +kernel
theorem dX12_day_103 : decode cX12_day 103 = .ok (.iadd, 1) := by decide +kernel
theorem dX12_day_104 : decode cX12_day 104 = .ok (.aload_n 0, 1) := by decide +kernel
theorem dX12_day_105 : decode cX12_day 105 = .ok (.getfield 46, 3) := by decide +kernel
theorem dX12_day_108 : decode cX12_day 108 = .ok (.iload_n 2, 1) := by decide +kernel
theorem dX12_day_109 : decode cX12_day 109 = .ok (.iaload, 1) := by decide +kernel
theorem dX12_day_110 : decode cX12_day 110 = .ok (.iastore, 1) := by decide +kernel
theorem dX12_day_111 : decode cX12_day 111 = .ok (.iinc 2 1, 3) := by decide +kernel
theorem dX12_day_114 : decode cX12_day 114 = .ok (.goto (-29), 3) := by decide +kernel
theorem dX12_day_117 : decode cX12_day 117 = .ok (.aload_n 0, 1) := by decide +kernel
theorem dX12_day_118 : decode cX12_day 118 = .ok (.dup, 1) := by decide +kernel
theorem dX12_day_119 : decode cX12_day 119 = .ok (.getfield 262, 3) := by decide +kernel
theorem dX12_day_122 : decode cX12_day 122 = .ok (.iconst 1, 1) := by decide +kernel
theorem dX12_day_123 : decode cX12_day 123 = .ok (.iadd, 1) := by decide +kernel
theorem dX12_day_124 : decode cX12_day 124 = .ok (.putfield 262, 3) := by decide +kernel
theorem dX12_day_127 : decode cX12_day 127 = .ok (.aload_n 0, 1) := by decide +kernel
theorem dX12_day_128 : decode cX12_day 128 = .ok (.iload_n 1, 1) := by decide +kernel
theorem dX12_day_129 : decode cX12_day 129 = .ok (.aload_n 0, 1) := by decide +kernel
theorem dX12_day_130 : decode cX12_day 130 = .ok (.aload_n 0, 1) := by decide +kernel
theorem dX12_day_131 : decode cX12_day 131 = .ok (.getfield 259, 3) := by decide +kernel
theorem dX12_day_134 : decode cX12_day 134 = .ok (.invokevirtual 297, 3) := by decide +kernel
theorem dX12_day_137 : decode cX12_day 137 = .ok (.invokevirtual 300, 3) := by decide +kernel
theorem dX12_day_140 : decode cX12_day 140 = .ok (.aload_n 0, 1) := by decide +kernel
theorem dX12_day_141 : decode cX12_day 141 = .ok (.dup, 1) := by decide +kernel
theorem dX12_day_142 : decode cX12_day 142 = .ok (.getfield 259, 3) := by decide +kernel
theorem dX12_day_145 : decode cX12_day 145 = .ok (.iconst 1, 1) := by decide +kernel
theorem dX12_day_146 : decode cX12_day 146 = .ok (.iadd, 1) := by decide +kernel
theorem dX12_day_147 : decode cX12_day 147 = .ok (.putfield 259, 3) := by decide +kernel
theorem dX12_day_150 : decode cX12_day 150 = .ok (.aload_n 0, 1) := by decide +kernel
theorem dX12_day_151 : decode cX12_day 151 = .ok (.getfield 259, 3) := by decide +kernel
theorem dX12_day_154 : decode cX12_day 154 = .ok (.ireturn, 1) := by decide +kernel
theorem dX12_undo_0 : decode cX12_undo 0 = .ok (.aload_n 0, 1) := by decide +kernel
theorem dX12_undo_1 : decode cX12_undo 1 = .ok (.getfield 262, 3) := by decide +kernel
theorem dX12_undo_4 : decode cX12_undo 4 = .ok (.ifCond .ne 5, 3) := by decide +kernel
theorem dX12_undo_7 : decode cX12_undo 7 = .ok (.iconst (-1), 1) := by decide +kernel
theorem dX12_undo_8 : decode cX12_undo 8 = .ok (.ireturn, 1) := by decide +kernel
theorem dX12_undo_9 : decode cX12_undo 9 = .ok (.aload_n 0, 1) := by decide +kernel
theorem dX12_undo_10 : decode cX12_undo 10 = .ok (.dup, 1) := by decide +kernel
theorem dX12_undo_11 : decode cX12_undo 11 = .ok (.getfield 262, 3) := by decide +kernel
theorem dX12_undo_14 : decode cX12_undo 14 = .ok (.iconst 1, 1) := by decide +kernel
theorem dX12_undo_15 : decode cX12_undo 15 = .ok (.isub, 1) := by decide +kernel
theorem dX12_undo_16 : decode cX12_undo 16 = .ok (.putfield 262, 3) := by decide +kernel
theorem dX12_undo_19 : decode cX12_undo 19 = .ok (.iconst 0, 1) := by decide +kernel
theorem dX12_undo_20 : decode cX12_undo 20 = .ok (.istore_n 1, 1) := by decide +kernel
theorem dX12_undo_21 : decode cX12_undo 21 = .ok (.iload_n 1, 1) := by decide +kernel
theorem dX12_undo_22 : decode cX12_undo 22 = .ok (.bipush 6, 2) := by decide +kernel
theorem dX12_undo_24 : decode cX12_undo 24 = .ok (.if_icmp .ge 29, 3) := by decide +kernel
theorem dX12_undo_27 : decode cX12_undo 27 = .ok (.aload_n 0, 1) := by decide +kernel
theorem dX12_undo_28 : decode cX12_undo 28 = .ok (.getfield 46, 3) := by decide +kernel
theorem dX12_undo_31 : decode cX12_undo 31 = .ok (.iload_n 1, 1) := by decide +kernel
theorem dX12_undo_32 : decode cX12_undo 32 = .ok (.aload_n 0, 1) := by decide +kernel
theorem dX12_undo_33 : decode cX12_undo 33 = .ok (.getfield 62, 3) := by decide +kernel
theorem dX12_undo_36 : decode cX12_undo 36 = .ok (.bipush 6, 2) := by decide +kernel
theorem dX12_undo_38 : decode cX12_undo 38 = .ok (.aload_n 0, 1) := by decide +kernel
theorem dX12_undo_39 : decode cX12_undo 39 = .ok (.getfield 262, 3) := by decide +kernel
theorem dX12_undo_42 : decode cX12_undo 42 = .ok (.imul, 1) := by decide +kernel
theorem dX12_undo_43 : decode cX12_undo 43 = .ok (.iload_n 1, 1) := by decide +kernel
theorem dX12_undo_44 : decode cX12_undo 44 = .ok (.iadd, 1) := by decide +kernel
theorem dX12_undo_45 : decode cX12_undo 45 = .ok (.iaload, 1) := by decide +kernel
theorem dX12_undo_46 : decode cX12_undo 46 = .ok (.iastore, 1) := by decide +kernel
theorem dX12_undo_47 : decode cX12_undo 47 = .ok (.iinc 1 1, 3) := by decide +kernel
theorem dX12_undo_50 : decode cX12_undo 50 = .ok (.goto (-29), 3) := by decide +kernel
theorem dX12_undo_53 : decode cX12_undo 53 = .ok (.aload_n 0, 1) := by decide +kernel
theorem dX12_undo_54 : decode cX12_undo 54 = .ok (.dup, 1) := by decide +kernel
theorem dX12_undo_55 : decode cX12_undo 55 = .ok (.getfield 259, 3) := by decide +kernel
theorem dX12_undo_58 : decode cX12_undo 58 = .ok (.iconst 1, 1) := by decide +kernel
theorem dX12_undo_59 : decode cX12_undo 59 = .ok (.isub, 1) := by decide +kernel
theorem dX12_undo_60 : decode cX12_undo 60 = .ok (.putfield 259, 3) := by decide +kernel
theorem dX12_undo_63 : decode cX12_undo 63 = .ok (.aload_n 0, 1) := by decide +kernel
theorem dX12_undo_64 : decode cX12_undo 64 = .ok (.getfield 259, 3) := by decide +kernel
theorem dX12_undo_67 : decode cX12_undo 67 = .ok (.ireturn, 1) := by decide +kernel
theorem dX12_layBeats_0 : decode cX12_layBeats 0 = .ok (.iconst 0, 1) := by decide +kernel
theorem dX12_layBeats_1 : decode cX12_layBeats 1 = .ok (.istore_n 2, 1) := by decide +kernel
theorem dX12_layBeats_2 : decode cX12_layBeats 2 = .ok (.iload_n 2, 1) := by decide +kernel
theorem dX12_layBeats_3 : decode cX12_layBeats 3 = .ok (.iload_n 1, 1) := by decide +kernel
theorem dX12_layBeats_4 : decode cX12_layBeats 4 = .ok (.if_icmp .ge 57, 3) := by decide +kernel
theorem dX12_layBeats_7 : decode cX12_layBeats 7 = .ok (.iconst 0, 1) := by decide +kernel
theorem dX12_layBeats_8 : decode cX12_layBeats 8 = .ok (.istore_n 3, 1) := by decide +kernel
theorem dX12_layBeats_9 : decode cX12_layBeats 9 = .ok (.iload_n 3, 1) := by decide +kernel
theorem dX12_layBeats_10 : decode cX12_layBeats 10 = .ok (.aload_n 0, 1) := by decide +kernel
theorem dX12_layBeats_11 : decode cX12_layBeats 11 = .ok (.getfield 253, 3) := by decide +kernel
theorem dX12_layBeats_14 : decode cX12_layBeats 14 = .ok (.if_icmp .ge 41, 3) := by decide +kernel
theorem dX12_layBeats_17 : decode cX12_layBeats 17 = .ok (.aload_n 0, 1) := by decide +kernel
theorem dX12_layBeats_18 : decode cX12_layBeats 18 = .ok (.getfield 65, 3) := by decide +kernel
theorem dX12_layBeats_21 : decode cX12_layBeats 21 = .ok (.bipush 6, 2) := by decide +kernel
theorem dX12_layBeats_23 : decode cX12_layBeats 23 = .ok (.iload_n 2, 1) := by decide +kernel
theorem dX12_layBeats_24 : decode cX12_layBeats 24 = .ok (.imul, 1) := by decide +kernel
theorem dX12_layBeats_25 : decode cX12_layBeats 25 = .ok (.iload_n 3, 1) := by decide +kernel
theorem dX12_layBeats_26 : decode cX12_layBeats 26 = .ok (.iadd, 1) := by decide +kernel
theorem dX12_layBeats_27 : decode cX12_layBeats 27 = .ok (.iload_n 2, 1) := by decide +kernel
theorem dX12_layBeats_28 : decode cX12_layBeats 28 = .ok (.ifCond .ne 12, 3) := by decide +kernel
theorem dX12_layBeats_31 : decode cX12_layBeats 31 = .ok (.aload_n 0, 1) := by decide +kernel
theorem dX12_layBeats_32 : decode cX12_layBeats 32 = .ok (.getfield 46, 3) := by decide +kernel
theorem dX12_layBeats_35 : decode cX12_layBeats 35 = .ok (.iload_n 3, 1) := by decide +kernel
theorem dX12_layBeats_36 : decode cX12_layBeats 36 = .ok (.iaload, 1) := by decide +kernel
theorem dX12_layBeats_37 : decode cX12_layBeats 37 = .ok (.goto 11, 3) := by decide +kernel
theorem dX12_layBeats_40 : decode cX12_layBeats 40 = .ok (.aload_n 0, 1) := by decide +kernel
theorem dX12_layBeats_41 : decode cX12_layBeats 41 = .ok (.iload_n 2, 1) := by decide +kernel
theorem dX12_layBeats_42 : decode cX12_layBeats 42 = .ok (.iconst 1, 1) := by decide +kernel
theorem dX12_layBeats_43 : decode cX12_layBeats 43 = .ok (.isub, 1) := by decide +kernel
theorem dX12_layBeats_44 : decode cX12_layBeats 44 = .ok (.iload_n 3, 1) := by decide +kernel
theorem dX12_layBeats_45 : decode cX12_layBeats 45 = .ok (.invokevirtual 303, 3) := by decide +kernel
theorem dX12_layBeats_48 : decode cX12_layBeats 48 = .ok (.iastore, 1) := by decide +kernel
theorem dX12_layBeats_49 : decode cX12_layBeats 49 = .ok (.iinc 3 1, 3) := by decide +kernel
theorem dX12_layBeats_52 : decode cX12_layBeats 52 = .ok (.goto (-43), 3) := by decide +kernel
theorem dX12_layBeats_55 : decode cX12_layBeats 55 = .ok (.iinc 2 1, 3) := by decide +kernel
theorem dX12_layBeats_58 : decode cX12_layBeats 58 = .ok (.goto (-56), 3) := by decide +kernel
theorem dX12_layBeats_61 : decode cX12_layBeats 61 = .ok (.return_, 1) := by decide +kernel
theorem dX12_beatBehind_0 : decode cX12_beatBehind 0 = .ok (.aload_n 0, 1) := by decide +kernel
theorem dX12_beatBehind_1 : decode cX12_beatBehind 1 = .ok (.getfield 65, 3) := by decide +kernel
theorem dX12_beatBehind_4 : decode cX12_beatBehind 4 = .ok (.bipush 6, 2) := by decide +kernel
theorem dX12_beatBehind_6 : decode cX12_beatBehind 6 = .ok (.iload_n 1, 1) := by decide +kernel
theorem dX12_beatBehind_7 : decode cX12_beatBehind 7 = .ok (.imul, 1) := by decide +kernel
theorem dX12_beatBehind_8 : decode cX12_beatBehind 8 = .ok (.iload_n 2, 1) := by decide +kernel
theorem dX12_beatBehind_9 : decode cX12_beatBehind 9 = .ok (.iadd, 1) := by decide +kernel
theorem dX12_beatBehind_10 : decode cX12_beatBehind 10 = .ok (.iaload, 1) := by decide +kernel
theorem dX12_beatBehind_11 : decode cX12_beatBehind 11 = .ok (.istore_n 3, 1) := by decide +kernel
theorem dX12_beatBehind_12 : decode cX12_beatBehind 12 = .ok (.aload_n 0, 1) := by decide +kernel
theorem dX12_beatBehind_13 : decode cX12_beatBehind 13 = .ok (.iload_n 2, 1) := by decide +kernel
theorem dX12_beatBehind_14 : decode cX12_beatBehind 14 = .ok (.iconst 3, 1) := by decide +kernel
theorem dX12_beatBehind_15 : decode cX12_beatBehind 15 = .ok (.invokevirtual 284, 3) := by decide +kernel
theorem dX12_beatBehind_18 : decode cX12_beatBehind 18 = .ok (.istore 4, 2) := by decide +kernel
theorem dX12_beatBehind_20 : decode cX12_beatBehind 20 = .ok (.iload 4, 2) := by decide +kernel
theorem dX12_beatBehind_22 : decode cX12_beatBehind 22 = .ok (.iconst (-1), 1) := by decide +kernel
theorem dX12_beatBehind_23 : decode cX12_beatBehind 23 = .ok (.if_icmp .ne 5, 3) := by decide +kernel
theorem dX12_beatBehind_26 : decode cX12_beatBehind 26 = .ok (.iload_n 3, 1) := by decide +kernel
theorem dX12_beatBehind_27 : decode cX12_beatBehind 27 = .ok (.ireturn, 1) := by decide +kernel
theorem dX12_beatBehind_28 : decode cX12_beatBehind 28 = .ok (.aload_n 0, 1) := by decide +kernel
theorem dX12_beatBehind_29 : decode cX12_beatBehind 29 = .ok (.getfield 65, 3) := by decide +kernel
theorem dX12_beatBehind_32 : decode cX12_beatBehind 32 = .ok (.bipush 6, 2) := by decide +kernel
theorem dX12_beatBehind_34 : decode cX12_beatBehind 34 = .ok (.iconst 0, 1) := by decide +kernel
theorem dX12_beatBehind_35 : decode cX12_beatBehind 35 = .ok (.iload_n 1, 1) := by decide +kernel
theorem dX12_beatBehind_36 : decode cX12_beatBehind 36 = .ok (.aload_n 0, 1) := by decide +kernel
theorem dX12_beatBehind_37 : decode cX12_beatBehind 37 = .ok (.getfield 287, 3) := by decide +kernel
theorem dX12_beatBehind_40 : decode cX12_beatBehind 40 = .ok (.isub, 1) := by decide +kernel
theorem dX12_beatBehind_41 : decode cX12_beatBehind 41 = .ok (.invokestatic 295, 3) := by decide +kernel
theorem dX12_beatBehind_44 : decode cX12_beatBehind 44 = .ok (.imul, 1) := by decide +kernel
theorem dX12_beatBehind_45 : decode cX12_beatBehind 45 = .ok (.iload 4, 2) := by decide +kernel
theorem dX12_beatBehind_47 : decode cX12_beatBehind 47 = .ok (.iadd, 1) := by decide +kernel
theorem dX12_beatBehind_48 : decode cX12_beatBehind 48 = .ok (.iaload, 1) := by decide +kernel
theorem dX12_beatBehind_49 : decode cX12_beatBehind 49 = .ok (.istore 5, 2) := by decide +kernel
theorem dX12_beatBehind_51 : decode cX12_beatBehind 51 = .ok (.iconst 1, 1) := by decide +kernel
theorem dX12_beatBehind_52 : decode cX12_beatBehind 52 = .ok (.sipush 199, 3) := by decide +kernel
theorem dX12_beatBehind_55 : decode cX12_beatBehind 55 = .ok (.iload_n 3, 1) := by decide +kernel
theorem dX12_beatBehind_56 : decode cX12_beatBehind 56 = .ok (.aload_n 0, 1) := by decide +kernel
theorem dX12_beatBehind_57 : decode cX12_beatBehind 57 = .ok (.iload_n 2, 1) := by decide +kernel
theorem dX12_beatBehind_58 : decode cX12_beatBehind 58 = .ok (.iconst 4, 1) := by decide +kernel
theorem dX12_beatBehind_59 : decode cX12_beatBehind 59 = .ok (.invokevirtual 284, 3) := by decide +kernel
theorem dX12_beatBehind_62 : decode cX12_beatBehind 62 = .ok (.iload 5, 2) := by decide +kernel
theorem dX12_beatBehind_64 : decode cX12_beatBehind 64 = .ok (.iload_n 3, 1) := by decide +kernel
theorem dX12_beatBehind_65 : decode cX12_beatBehind 65 = .ok (.isub, 1) := by decide +kernel
theorem dX12_beatBehind_66 : decode cX12_beatBehind 66 = .ok (.imul, 1) := by decide +kernel
theorem dX12_beatBehind_67 : decode cX12_beatBehind 67 = .ok (.bipush 10, 2) := by decide +kernel
theorem dX12_beatBehind_69 : decode cX12_beatBehind 69 = .ok (.idiv, 1) := by decide +kernel
theorem dX12_beatBehind_70 : decode cX12_beatBehind 70 = .ok (.iadd, 1) := by decide +kernel
theorem dX12_beatBehind_71 : decode cX12_beatBehind 71 = .ok (.invokestatic 293, 3) := by decide +kernel
theorem dX12_beatBehind_74 : decode cX12_beatBehind 74 = .ok (.invokestatic 295, 3) := by decide +kernel
theorem dX12_beatBehind_77 : decode cX12_beatBehind 77 = .ok (.ireturn, 1) := by decide +kernel
theorem dX12_play_0 : decode cX12_play 0 = .ok (.aload_n 0, 1) := by decide +kernel
theorem dX12_play_1 : decode cX12_play 1 = .ok (.aload_n 0, 1) := by decide +kernel
theorem dX12_play_2 : decode cX12_play 2 = .ok (.getfield 56, 3) := by decide +kernel
theorem dX12_play_5 : decode cX12_play 5 = .ok (.invokevirtual 306, 3) := by decide +kernel
theorem dX12_play_8 : decode cX12_play 8 = .ok (.iconst 0, 1) := by decide +kernel
theorem dX12_play_9 : decode cX12_play 9 = .ok (.istore_n 1, 1) := by decide +kernel
theorem dX12_play_10 : decode cX12_play 10 = .ok (.iload_n 1, 1) := by decide +kernel
theorem dX12_play_11 : decode cX12_play 11 = .ok (.aload_n 0, 1) := by decide +kernel
theorem dX12_play_12 : decode cX12_play 12 = .ok (.getfield 56, 3) := by decide +kernel
theorem dX12_play_15 : decode cX12_play 15 = .ok (.if_icmp .ge 151, 3) := by decide +kernel
theorem dX12_play_18 : decode cX12_play 18 = .ok (.iconst 0, 1) := by decide +kernel
theorem dX12_play_19 : decode cX12_play 19 = .ok (.istore_n 2, 1) := by decide +kernel
theorem dX12_play_20 : decode cX12_play 20 = .ok (.iconst 0, 1) := by decide +kernel
theorem dX12_play_21 : decode cX12_play 21 = .ok (.istore_n 3, 1) := by decide +kernel
theorem dX12_play_22 : decode cX12_play 22 = .ok (.iload_n 3, 1) := by decide +kernel
theorem dX12_play_23 : decode cX12_play 23 = .ok (.aload_n 0, 1) := by decide +kernel
theorem dX12_play_24 : decode cX12_play 24 = .ok (.getfield 253, 3) := by decide +kernel
theorem dX12_play_27 : decode cX12_play 27 = .ok (.if_icmp .ge 80, 3) := by decide +kernel
theorem dX12_play_30 : decode cX12_play 30 = .ok (.iload_n 1, 1) := by decide +kernel
theorem dX12_play_31 : decode cX12_play 31 = .ok (.ifCond .ne 7, 3) := by decide +kernel
theorem dX12_play_34 : decode cX12_play 34 = .ok (.iconst 0, 1) := by decide +kernel
theorem dX12_play_35 : decode cX12_play 35 = .ok (.goto 16, 3) := by decide +kernel
theorem dX12_play_38 : decode cX12_play 38 = .ok (.aload_n 0, 1) := by decide +kernel
theorem dX12_play_39 : decode cX12_play 39 = .ok (.getfield 71, 3) := by decide +kernel
theorem dX12_play_42 : decode cX12_play 42 = .ok (.bipush 6, 2) := by decide +kernel
theorem dX12_play_44 : decode cX12_play 44 = .ok (.iload_n 1, 1) := by decide +kernel
theorem dX12_play_45 : decode cX12_play 45 = .ok (.iconst 1, 1) := by decide +kernel
theorem dX12_play_46 : decode cX12_play 46 = .ok (.isub, 1) := by decide +kernel
theorem dX12_play_47 : decode cX12_play 47 = .ok (.imul, 1) := by decide +kernel
theorem dX12_play_48 : decode cX12_play 48 = .ok (.iload_n 3, 1) := by decide +kernel
theorem dX12_play_49 : decode cX12_play 49 = .ok (.iadd, 1) := by decide +kernel
theorem dX12_play_50 : decode cX12_play 50 = .ok (.iaload, 1) := by decide +kernel
theorem dX12_play_51 : decode cX12_play 51 = .ok (.istore 4, 2) := by decide +kernel
theorem dX12_play_53 : decode cX12_play 53 = .ok (.aload_n 0, 1) := by decide +kernel
theorem dX12_play_54 : decode cX12_play 54 = .ok (.getfield 68, 3) := by decide +kernel
theorem dX12_play_57 : decode cX12_play 57 = .ok (.bipush 6, 2) := by decide +kernel
theorem dX12_play_59 : decode cX12_play 59 = .ok (.iload_n 1, 1) := by decide +kernel
theorem dX12_play_60 : decode cX12_play 60 = .ok (.imul, 1) := by decide +kernel
theorem dX12_play_61 : decode cX12_play 61 = .ok (.iload_n 3, 1) := by decide +kernel
theorem dX12_play_62 : decode cX12_play 62 = .ok (.iadd, 1) := by decide +kernel
theorem dX12_play_63 : decode cX12_play 63 = .ok (.iload 4, 2) := by decide +kernel
theorem dX12_play_65 : decode cX12_play 65 = .ok (.aload_n 0, 1) := by decide +kernel
theorem dX12_play_66 : decode cX12_play 66 = .ok (.getfield 65, 3) := by decide +kernel
theorem dX12_play_69 : decode cX12_play 69 = .ok (.bipush 6, 2) := by decide +kernel
theorem dX12_play_71 : decode cX12_play 71 = .ok (.iload_n 1, 1) := by decide +kernel
theorem dX12_play_72 : decode cX12_play 72 = .ok (.imul, 1) := by decide +kernel
theorem dX12_play_73 : decode cX12_play 73 = .ok (.iload_n 3, 1) := by decide +kernel
theorem dX12_play_74 : decode cX12_play 74 = .ok (.iadd, 1) := by decide +kernel
theorem dX12_play_75 : decode cX12_play 75 = .ok (.iaload, 1) := by decide +kernel
theorem dX12_play_76 : decode cX12_play 76 = .ok (.iadd, 1) := by decide +kernel
theorem dX12_play_77 : decode cX12_play 77 = .ok (.aload_n 0, 1) := by decide +kernel
theorem dX12_play_78 : decode cX12_play 78 = .ok (.getfield 49, 3) := by decide +kernel
theorem dX12_play_81 : decode cX12_play 81 = .ok (.iload_n 3, 1) := by decide +kernel
theorem dX12_play_82 : decode cX12_play 82 = .ok (.iaload, 1) := by decide +kernel
theorem dX12_play_83 : decode cX12_play 83 = .ok (.iadd, 1) := by decide +kernel
theorem dX12_play_84 : decode cX12_play 84 = .ok (.iastore, 1) := by decide +kernel
theorem dX12_play_85 : decode cX12_play 85 = .ok (.iload_n 2, 1) := by decide +kernel
theorem dX12_play_86 : decode cX12_play 86 = .ok (.aload_n 0, 1) := by decide +kernel
theorem dX12_play_87 : decode cX12_play 87 = .ok (.getfield 68, 3) := by decide +kernel
theorem dX12_play_90 : decode cX12_play 90 = .ok (.bipush 6, 2) := by decide +kernel
theorem dX12_play_92 : decode cX12_play 92 = .ok (.iload_n 1, 1) := by decide +kernel
theorem dX12_play_93 : decode cX12_play 93 = .ok (.imul, 1) := by decide +kernel
theorem dX12_play_94 : decode cX12_play 94 = .ok (.iload_n 3, 1) := by decide +kernel
theorem dX12_play_95 : decode cX12_play 95 = .ok (.iadd, 1) := by decide +kernel
theorem dX12_play_96 : decode cX12_play 96 = .ok (.iaload, 1) := by decide +kernel
theorem dX12_play_97 : decode cX12_play 97 = .ok (.invokestatic 295, 3) := by decide +kernel
theorem dX12_play_100 : decode cX12_play 100 = .ok (.istore_n 2, 1) := by decide +kernel
theorem dX12_play_101 : decode cX12_play 101 = .ok (.iinc 3 1, 3) := by decide +kernel
theorem dX12_play_104 : decode cX12_play 104 = .ok (.goto (-82), 3) := by decide +kernel
theorem dX12_play_107 : decode cX12_play 107 = .ok (.iconst 0, 1) := by decide +kernel
theorem dX12_play_108 : decode cX12_play 108 = .ok (.istore_n 3, 1) := by decide +kernel
theorem dX12_play_109 : decode cX12_play 109 = .ok (.iload_n 3, 1) := by decide +kernel
theorem dX12_play_110 : decode cX12_play 110 = .ok (.aload_n 0, 1) := by decide +kernel
theorem dX12_play_111 : decode cX12_play 111 = .ok (.getfield 253, 3) := by decide +kernel
theorem dX12_play_114 : decode cX12_play 114 = .ok (.if_icmp .ge 46, 3) := by decide +kernel
theorem dX12_play_117 : decode cX12_play 117 = .ok (.aload_n 0, 1) := by decide +kernel
theorem dX12_play_118 : decode cX12_play 118 = .ok (.getfield 71, 3) := by decide +kernel
theorem dX12_play_121 : decode cX12_play 121 = .ok (.bipush 6, 2) := by decide +kernel
theorem dX12_play_123 : decode cX12_play 123 = .ok (.iload_n 1, 1) := by decide +kernel
theorem dX12_play_124 : decode cX12_play 124 = .ok (.imul, 1) := by decide +kernel
theorem dX12_play_125 : decode cX12_play 125 = .ok (.iload_n 3, 1) := by decide +kernel
theorem dX12_play_126 : decode cX12_play 126 = .ok (.iadd, 1) := by decide +kernel
theorem dX12_play_127 : decode cX12_play 127 = .ok (.aload_n 0, 1) := by decide +kernel
theorem dX12_play_128 : decode cX12_play 128 = .ok (.getfield 265, 3) := by decide +kernel
theorem dX12_play_131 : decode cX12_play 131 = .ok (.iload_n 1, 1) := by decide +kernel
theorem dX12_play_132 : decode cX12_play 132 = .ok (.invokestatic 226, 3) := by decide +kernel
theorem dX12_play_135 : decode cX12_play 135 = .ok (.ifCond .eq 7, 3) := by decide +kernel
theorem dX12_play_138 : decode cX12_play 138 = .ok (.iload_n 2, 1) := by decide +kernel
theorem dX12_play_139 : decode cX12_play 139 = .ok (.goto 14, 3) := by decide +kernel
theorem dX12_play_142 : decode cX12_play 142 = .ok (.aload_n 0, 1) := by decide +kernel
theorem dX12_play_143 : decode cX12_play 143 = .ok (.getfield 68, 3) := by decide +kernel
theorem dX12_play_146 : decode cX12_play 146 = .ok (.bipush 6, 2) := by decide +kernel
theorem dX12_play_148 : decode cX12_play 148 = .ok (.iload_n 1, 1) := by decide +kernel
theorem dX12_play_149 : decode cX12_play 149 = .ok (.imul, 1) := by decide +kernel
theorem dX12_play_150 : decode cX12_play 150 = .ok (.iload_n 3, 1) := by decide +kernel
theorem dX12_play_151 : decode cX12_play 151 = .ok (.iadd, 1) := by decide +kernel
theorem dX12_play_152 : decode cX12_play 152 = .ok (.iaload, 1) := by decide +kernel
theorem dX12_play_153 : decode cX12_play 153 = .ok (.iastore, 1) := by decide +kernel
theorem dX12_play_154 : decode cX12_play 154 = .ok (.iinc 3 1, 3) := by decide +kernel
theorem dX12_play_157 : decode cX12_play 157 = .ok (.goto (-48), 3) := by decide +kernel
theorem dX12_play_160 : decode cX12_play 160 = .ok (.iinc 1 1, 3) := by decide +kernel
theorem dX12_play_163 : decode cX12_play 163 = .ok (.goto (-153), 3) := by decide +kernel
theorem dX12_play_166 : decode cX12_play 166 = .ok (.return_, 1) := by decide +kernel
theorem dX12_isBar_0 : decode cX12_isBar 0 = .ok (.aload_n 0, 1) := by decide +kernel
theorem dX12_isBar_1 : decode cX12_isBar 1 = .ok (.getfield 253, 3) := by decide +kernel
theorem dX12_isBar_4 : decode cX12_isBar 4 = .ok (.ifCond .le 21, 3) := by decide +kernel
theorem dX12_isBar_7 : decode cX12_isBar 7 = .ok (.iload_n 1, 1) := by decide +kernel
theorem dX12_isBar_8 : decode cX12_isBar 8 = .ok (.iconst 0, 1) := by decide +kernel
theorem dX12_isBar_9 : decode cX12_isBar 9 = .ok (.aload_n 0, 1) := by decide +kernel
theorem dX12_isBar_10 : decode cX12_isBar 10 = .ok (.getfield 56, 3) := by decide +kernel
theorem dX12_isBar_13 : decode cX12_isBar 13 = .ok (.iconst 1, 1) := by decide +kernel
theorem dX12_isBar_14 : decode cX12_isBar 14 = .ok (.isub, 1) := by decide +kernel
theorem dX12_isBar_15 : decode cX12_isBar 15 = .ok (.invokestatic 216, 3) := by decide +kernel
theorem dX12_isBar_18 : decode cX12_isBar 18 = .ok (.ifCond .eq 7, 3) := by decide +kernel
theorem dX12_isBar_21 : decode cX12_isBar 21 = .ok (.iconst 1, 1) := by decide +kernel
theorem dX12_isBar_22 : decode cX12_isBar 22 = .ok (.goto 4, 3) := by decide +kernel
theorem dX12_isBar_25 : decode cX12_isBar 25 = .ok (.iconst 0, 1) := by decide +kernel
theorem dX12_isBar_26 : decode cX12_isBar 26 = .ok (.ireturn, 1) := by decide +kernel
theorem dX12_time_0 : decode cX12_time 0 = .ok (.aload_n 0, 1) := by decide +kernel
theorem dX12_time_1 : decode cX12_time 1 = .ok (.iload_n 1, 1) := by decide +kernel
theorem dX12_time_2 : decode cX12_time 2 = .ok (.invokevirtual 281, 3) := by decide +kernel
theorem dX12_time_5 : decode cX12_time 5 = .ok (.ifCond .eq 20, 3) := by decide +kernel
theorem dX12_time_8 : decode cX12_time 8 = .ok (.aload_n 0, 1) := by decide +kernel
theorem dX12_time_9 : decode cX12_time 9 = .ok (.iload_n 2, 1) := by decide +kernel
theorem dX12_time_10 : decode cX12_time 10 = .ok (.invokevirtual 309, 3) := by decide +kernel
theorem dX12_time_13 : decode cX12_time 13 = .ok (.ifCond .eq 12, 3) := by decide +kernel
theorem dX12_time_16 : decode cX12_time 16 = .ok (.iload_n 3, 1) := by decide +kernel
theorem dX12_time_17 : decode cX12_time 17 = .ok (.iconst 0, 1) := by decide +kernel
theorem dX12_time_18 : decode cX12_time 18 = .ok (.iconst 2, 1) := by decide +kernel
theorem dX12_time_19 : decode cX12_time 19 = .ok (.invokestatic 216, 3) := by decide +kernel
theorem dX12_time_22 : decode cX12_time 22 = .ok (.ifCond .ne 5, 3) := by decide +kernel
theorem dX12_time_25 : decode cX12_time 25 = .ok (.iconst (-1), 1) := by decide +kernel
theorem dX12_time_26 : decode cX12_time 26 = .ok (.ireturn, 1) := by decide +kernel
theorem dX12_time_27 : decode cX12_time 27 = .ok (.aload_n 0, 1) := by decide +kernel
theorem dX12_time_28 : decode cX12_time 28 = .ok (.invokevirtual 312, 3) := by decide +kernel
theorem dX12_time_31 : decode cX12_time 31 = .ok (.iload_n 3, 1) := by decide +kernel
theorem dX12_time_32 : decode cX12_time 32 = .ok (.ifCond .ne 17, 3) := by decide +kernel
theorem dX12_time_35 : decode cX12_time 35 = .ok (.aload_n 0, 1) := by decide +kernel
theorem dX12_time_36 : decode cX12_time 36 = .ok (.getfield 68, 3) := by decide +kernel
theorem dX12_time_39 : decode cX12_time 39 = .ok (.bipush 6, 2) := by decide +kernel
theorem dX12_time_41 : decode cX12_time 41 = .ok (.iload_n 2, 1) := by decide +kernel
theorem dX12_time_42 : decode cX12_time 42 = .ok (.imul, 1) := by decide +kernel
theorem dX12_time_43 : decode cX12_time 43 = .ok (.iload_n 1, 1) := by decide +kernel
theorem dX12_time_44 : decode cX12_time 44 = .ok (.iadd, 1) := by decide +kernel
theorem dX12_time_45 : decode cX12_time 45 = .ok (.iaload, 1) := by decide +kernel
theorem dX12_time_46 : decode cX12_time 46 = .ok (.goto 33, 3) := by decide +kernel
theorem dX12_time_49 : decode cX12_time 49 = .ok (.iload_n 3, 1) := by decide +kernel
theorem dX12_time_50 : decode cX12_time 50 = .ok (.iconst 1, 1) := by decide +kernel
theorem dX12_time_51 : decode cX12_time 51 = .ok (.if_icmp .ne 17, 3) := by decide +kernel
theorem dX12_time_54 : decode cX12_time 54 = .ok (.aload_n 0, 1) := by decide +kernel
theorem dX12_time_55 : decode cX12_time 55 = .ok (.getfield 71, 3) := by decide +kernel
theorem dX12_time_58 : decode cX12_time 58 = .ok (.bipush 6, 2) := by decide +kernel
theorem dX12_time_60 : decode cX12_time 60 = .ok (.iload_n 2, 1) := by decide +kernel
theorem dX12_time_61 : decode cX12_time 61 = .ok (.imul, 1) := by decide +kernel
theorem dX12_time_62 : decode cX12_time 62 = .ok (.iload_n 1, 1) := by decide +kernel
theorem dX12_time_63 : decode cX12_time 63 = .ok (.iadd, 1) := by decide +kernel
theorem dX12_time_64 : decode cX12_time 64 = .ok (.iaload, 1) := by decide +kernel
theorem dX12_time_65 : decode cX12_time 65 = .ok (.goto 14, 3) := by decide +kernel
theorem dX12_time_68 : decode cX12_time 68 = .ok (.aload_n 0, 1) := by decide +kernel
theorem dX12_time_69 : decode cX12_time 69 = .ok (.getfield 65, 3) := by decide +kernel
theorem dX12_time_72 : decode cX12_time 72 = .ok (.bipush 6, 2) := by decide +kernel
theorem dX12_time_74 : decode cX12_time 74 = .ok (.iload_n 2, 1) := by decide +kernel
theorem dX12_time_75 : decode cX12_time 75 = .ok (.imul, 1) := by decide +kernel
theorem dX12_time_76 : decode cX12_time 76 = .ok (.iload_n 1, 1) := by decide +kernel
theorem dX12_time_77 : decode cX12_time 77 = .ok (.iadd, 1) := by decide +kernel
theorem dX12_time_78 : decode cX12_time 78 = .ok (.iaload, 1) := by decide +kernel
theorem dX12_time_79 : decode cX12_time 79 = .ok (.ireturn, 1) := by decide +kernel
theorem dX12_spreadAt_0 : decode cX12_spreadAt 0 = .ok (.aload_n 0, 1) := by decide +kernel
theorem dX12_spreadAt_1 : decode cX12_spreadAt 1 = .ok (.getfield 68, 3) := by decide +kernel
theorem dX12_spreadAt_4 : decode cX12_spreadAt 4 = .ok (.bipush 6, 2) := by decide +kernel
theorem dX12_spreadAt_6 : decode cX12_spreadAt 6 = .ok (.iload_n 1, 1) := by decide +kernel
theorem dX12_spreadAt_7 : decode cX12_spreadAt 7 = .ok (.imul, 1) := by decide +kernel
theorem dX12_spreadAt_8 : decode cX12_spreadAt 8 = .ok (.iaload, 1) := by decide +kernel
theorem dX12_spreadAt_9 : decode cX12_spreadAt 9 = .ok (.istore_n 2, 1) := by decide +kernel
theorem dX12_spreadAt_10 : decode cX12_spreadAt 10 = .ok (.iload_n 2, 1) := by decide +kernel
theorem dX12_spreadAt_11 : decode cX12_spreadAt 11 = .ok (.istore_n 3, 1) := by decide +kernel
theorem dX12_spreadAt_12 : decode cX12_spreadAt 12 = .ok (.iconst 1, 1) := by decide +kernel
theorem dX12_spreadAt_13 : decode cX12_spreadAt 13 = .ok (.istore 4, 2) := by decide +kernel
theorem dX12_spreadAt_15 : decode cX12_spreadAt 15 = .ok (.iload 4, 2) := by decide +kernel
theorem dX12_spreadAt_17 : decode cX12_spreadAt 17 = .ok (.aload_n 0, 1) := by decide +kernel
theorem dX12_spreadAt_18 : decode cX12_spreadAt 18 = .ok (.getfield 253, 3) := by decide +kernel
theorem dX12_spreadAt_21 : decode cX12_spreadAt 21 = .ok (.if_icmp .ge 43, 3) := by decide +kernel
theorem dX12_spreadAt_24 : decode cX12_spreadAt 24 = .ok (.iload_n 2, 1) := by decide +kernel
theorem dX12_spreadAt_25 : decode cX12_spreadAt 25 = .ok (.aload_n 0, 1) := by decide +kernel
theorem dX12_spreadAt_26 : decode cX12_spreadAt 26 = .ok (.getfield 68, 3) := by decide +kernel
theorem dX12_spreadAt_29 : decode cX12_spreadAt 29 = .ok (.bipush 6, 2) := by decide +kernel
theorem dX12_spreadAt_31 : decode cX12_spreadAt 31 = .ok (.iload_n 1, 1) := by decide +kernel
theorem dX12_spreadAt_32 : decode cX12_spreadAt 32 = .ok (.imul, 1) := by decide +kernel
theorem dX12_spreadAt_33 : decode cX12_spreadAt 33 = .ok (.iload 4, 2) := by decide +kernel
theorem dX12_spreadAt_35 : decode cX12_spreadAt 35 = .ok (.iadd, 1) := by decide +kernel
theorem dX12_spreadAt_36 : decode cX12_spreadAt 36 = .ok (.iaload, 1) := by decide +kernel
theorem dX12_spreadAt_37 : decode cX12_spreadAt 37 = .ok (.invokestatic 293, 3) := by decide +kernel
theorem dX12_spreadAt_40 : decode cX12_spreadAt 40 = .ok (.istore_n 2, 1) := by decide +kernel
theorem dX12_spreadAt_41 : decode cX12_spreadAt 41 = .ok (.iload_n 3, 1) := by decide +kernel
theorem dX12_spreadAt_42 : decode cX12_spreadAt 42 = .ok (.aload_n 0, 1) := by decide +kernel
theorem dX12_spreadAt_43 : decode cX12_spreadAt 43 = .ok (.getfield 68, 3) := by decide +kernel
theorem dX12_spreadAt_46 : decode cX12_spreadAt 46 = .ok (.bipush 6, 2) := by decide +kernel
theorem dX12_spreadAt_48 : decode cX12_spreadAt 48 = .ok (.iload_n 1, 1) := by decide +kernel
theorem dX12_spreadAt_49 : decode cX12_spreadAt 49 = .ok (.imul, 1) := by decide +kernel
theorem dX12_spreadAt_50 : decode cX12_spreadAt 50 = .ok (.iload 4, 2) := by decide +kernel
theorem dX12_spreadAt_52 : decode cX12_spreadAt 52 = .ok (.iadd, 1) := by decide +kernel
theorem dX12_spreadAt_53 : decode cX12_spreadAt 53 = .ok (.iaload, 1) := by decide +kernel
theorem dX12_spreadAt_54 : decode cX12_spreadAt 54 = .ok (.invokestatic 295, 3) := by decide +kernel
theorem dX12_spreadAt_57 : decode cX12_spreadAt 57 = .ok (.istore_n 3, 1) := by decide +kernel
theorem dX12_spreadAt_58 : decode cX12_spreadAt 58 = .ok (.iinc 4 1, 3) := by decide +kernel
theorem dX12_spreadAt_61 : decode cX12_spreadAt 61 = .ok (.goto (-46), 3) := by decide +kernel
theorem dX12_spreadAt_64 : decode cX12_spreadAt 64 = .ok (.iload_n 3, 1) := by decide +kernel
theorem dX12_spreadAt_65 : decode cX12_spreadAt 65 = .ok (.iload_n 2, 1) := by decide +kernel
theorem dX12_spreadAt_66 : decode cX12_spreadAt 66 = .ok (.isub, 1) := by decide +kernel
theorem dX12_spreadAt_67 : decode cX12_spreadAt 67 = .ok (.ireturn, 1) := by decide +kernel
theorem dX12_spread_0 : decode cX12_spread 0 = .ok (.aload_n 0, 1) := by decide +kernel
theorem dX12_spread_1 : decode cX12_spread 1 = .ok (.iload_n 1, 1) := by decide +kernel
theorem dX12_spread_2 : decode cX12_spread 2 = .ok (.invokevirtual 309, 3) := by decide +kernel
theorem dX12_spread_5 : decode cX12_spread 5 = .ok (.ifCond .ne 5, 3) := by decide +kernel
theorem dX12_spread_8 : decode cX12_spread 8 = .ok (.iconst (-1), 1) := by decide +kernel
theorem dX12_spread_9 : decode cX12_spread 9 = .ok (.ireturn, 1) := by decide +kernel
theorem dX12_spread_10 : decode cX12_spread 10 = .ok (.aload_n 0, 1) := by decide +kernel
theorem dX12_spread_11 : decode cX12_spread 11 = .ok (.invokevirtual 312, 3) := by decide +kernel
theorem dX12_spread_14 : decode cX12_spread 14 = .ok (.aload_n 0, 1) := by decide +kernel
theorem dX12_spread_15 : decode cX12_spread 15 = .ok (.iload_n 1, 1) := by decide +kernel
theorem dX12_spread_16 : decode cX12_spread 16 = .ok (.invokevirtual 315, 3) := by decide +kernel
theorem dX12_spread_19 : decode cX12_spread 19 = .ok (.ireturn, 1) := by decide +kernel
theorem dX12_worstBar_0 : decode cX12_worstBar 0 = .ok (.aload_n 0, 1) := by decide +kernel
theorem dX12_worstBar_1 : decode cX12_worstBar 1 = .ok (.invokevirtual 312, 3) := by decide +kernel
theorem dX12_worstBar_4 : decode cX12_worstBar 4 = .ok (.iconst 0, 1) := by decide +kernel
theorem dX12_worstBar_5 : decode cX12_worstBar 5 = .ok (.istore_n 1, 1) := by decide +kernel
theorem dX12_worstBar_6 : decode cX12_worstBar 6 = .ok (.iconst 1, 1) := by decide +kernel
theorem dX12_worstBar_7 : decode cX12_worstBar 7 = .ok (.istore_n 2, 1) := by decide +kernel
theorem dX12_worstBar_8 : decode cX12_worstBar 8 = .ok (.iload_n 2, 1) := by decide +kernel
theorem dX12_worstBar_9 : decode cX12_worstBar 9 = .ok (.aload_n 0, 1) := by decide +kernel
theorem dX12_worstBar_10 : decode cX12_worstBar 10 = .ok (.getfield 56, 3) := by decide +kernel
theorem dX12_worstBar_13 : decode cX12_worstBar 13 = .ok (.if_icmp .ge 28, 3) := by decide +kernel
theorem dX12_worstBar_16 : decode cX12_worstBar 16 = .ok (.aload_n 0, 1) := by decide +kernel
theorem dX12_worstBar_17 : decode cX12_worstBar 17 = .ok (.iload_n 2, 1) := by decide +kernel
theorem dX12_worstBar_18 : decode cX12_worstBar 18 = .ok (.invokevirtual 315, 3) := by decide +kernel
theorem dX12_worstBar_21 : decode cX12_worstBar 21 = .ok (.aload_n 0, 1) := by decide +kernel
theorem dX12_worstBar_22 : decode cX12_worstBar 22 = .ok (.iload_n 1, 1) := by decide +kernel
theorem dX12_worstBar_23 : decode cX12_worstBar 23 = .ok (.invokevirtual 315, 3) := by decide +kernel
theorem dX12_worstBar_26 : decode cX12_worstBar 26 = .ok (.if_icmp .le 7, 3) := by decide +kernel
theorem dX12_worstBar_29 : decode cX12_worstBar 29 = .ok (.iload_n 2, 1) := by decide +kernel
theorem dX12_worstBar_30 : decode cX12_worstBar 30 = .ok (.goto 4, 3) := by decide +kernel
theorem dX12_worstBar_33 : decode cX12_worstBar 33 = .ok (.iload_n 1, 1) := by decide +kernel
theorem dX12_worstBar_34 : decode cX12_worstBar 34 = .ok (.istore_n 1, 1) := by decide +kernel
theorem dX12_worstBar_35 : decode cX12_worstBar 35 = .ok (.iinc 2 1, 3) := by decide +kernel
theorem dX12_worstBar_38 : decode cX12_worstBar 38 = .ok (.goto (-30), 3) := by decide +kernel
theorem dX12_worstBar_41 : decode cX12_worstBar 41 = .ok (.iload_n 1, 1) := by decide +kernel
theorem dX12_worstBar_42 : decode cX12_worstBar 42 = .ok (.ireturn, 1) := by decide +kernel
theorem dX12_worstNow_0 : decode cX12_worstNow 0 = .ok (.aload_n 0, 1) := by decide +kernel
theorem dX12_worstNow_1 : decode cX12_worstNow 1 = .ok (.aload_n 0, 1) := by decide +kernel
theorem dX12_worstNow_2 : decode cX12_worstNow 2 = .ok (.invokevirtual 318, 3) := by decide +kernel
theorem dX12_worstNow_5 : decode cX12_worstNow 5 = .ok (.invokevirtual 315, 3) := by decide +kernel
theorem dX12_worstNow_8 : decode cX12_worstNow 8 = .ok (.ireturn, 1) := by decide +kernel
theorem dX12_worst_0 : decode cX12_worst 0 = .ok (.aload_n 0, 1) := by decide +kernel
theorem dX12_worst_1 : decode cX12_worst 1 = .ok (.getfield 253, 3) := by decide +kernel
theorem dX12_worst_4 : decode cX12_worst 4 = .ok (.ifCond .eq 12, 3) := by decide +kernel
theorem dX12_worst_7 : decode cX12_worst 7 = .ok (.iload_n 1, 1) := by decide +kernel
theorem dX12_worst_8 : decode cX12_worst 8 = .ok (.iconst 0, 1) := by decide +kernel
theorem dX12_worst_9 : decode cX12_worst 9 = .ok (.iconst 1, 1) := by decide +kernel
theorem dX12_worst_10 : decode cX12_worst 10 = .ok (.invokestatic 216, 3) := by decide +kernel
theorem dX12_worst_13 : decode cX12_worst 13 = .ok (.ifCond .ne 7, 3) := by decide +kernel
theorem dX12_worst_16 : decode cX12_worst 16 = .ok (.iconst (-1), 1) := by decide +kernel
theorem dX12_worst_17 : decode cX12_worst 17 = .ok (.goto 18, 3) := by decide +kernel
theorem dX12_worst_20 : decode cX12_worst 20 = .ok (.iload_n 1, 1) := by decide +kernel
theorem dX12_worst_21 : decode cX12_worst 21 = .ok (.ifCond .ne 10, 3) := by decide +kernel
theorem dX12_worst_24 : decode cX12_worst 24 = .ok (.aload_n 0, 1) := by decide +kernel
theorem dX12_worst_25 : decode cX12_worst 25 = .ok (.invokevirtual 321, 3) := by decide +kernel
theorem dX12_worst_28 : decode cX12_worst 28 = .ok (.goto 7, 3) := by decide +kernel
theorem dX12_worst_31 : decode cX12_worst 31 = .ok (.aload_n 0, 1) := by decide +kernel
theorem dX12_worst_32 : decode cX12_worst 32 = .ok (.invokevirtual 318, 3) := by decide +kernel
theorem dX12_worst_35 : decode cX12_worst 35 = .ok (.ireturn, 1) := by decide +kernel
theorem dX12_parts_0 : decode cX12_parts 0 = .ok (.aload_n 0, 1) := by decide +kernel
theorem dX12_parts_1 : decode cX12_parts 1 = .ok (.getfield 253, 3) := by decide +kernel
theorem dX12_parts_4 : decode cX12_parts 4 = .ok (.ifCond .ne 5, 3) := by decide +kernel
theorem dX12_parts_7 : decode cX12_parts 7 = .ok (.iconst (-1), 1) := by decide +kernel
theorem dX12_parts_8 : decode cX12_parts 8 = .ok (.ireturn, 1) := by decide +kernel
theorem dX12_parts_9 : decode cX12_parts 9 = .ok (.aload_n 0, 1) := by decide +kernel
theorem dX12_parts_10 : decode cX12_parts 10 = .ok (.invokevirtual 312, 3) := by decide +kernel
theorem dX12_parts_13 : decode cX12_parts 13 = .ok (.iconst 0, 1) := by decide +kernel
theorem dX12_parts_14 : decode cX12_parts 14 = .ok (.istore_n 1, 1) := by decide +kernel
theorem dX12_parts_15 : decode cX12_parts 15 = .ok (.iload_n 1, 1) := by decide +kernel
theorem dX12_parts_16 : decode cX12_parts 16 = .ok (.aload_n 0, 1) := by decide +kernel
theorem dX12_parts_17 : decode cX12_parts 17 = .ok (.getfield 56, 3) := by decide +kernel
theorem dX12_parts_20 : decode cX12_parts 20 = .ok (.if_icmp .ge 23, 3) := by decide +kernel
theorem dX12_parts_23 : decode cX12_parts 23 = .ok (.aload_n 0, 1) := by decide +kernel
theorem dX12_parts_24 : decode cX12_parts 24 = .ok (.iload_n 1, 1) := by decide +kernel
theorem dX12_parts_25 : decode cX12_parts 25 = .ok (.invokevirtual 315, 3) := by decide +kernel
theorem dX12_parts_28 : decode cX12_parts 28 = .ok (.aload_n 0, 1) := by decide +kernel
theorem dX12_parts_29 : decode cX12_parts 29 = .ok (.getfield 59, 3) := by decide +kernel
theorem dX12_parts_32 : decode cX12_parts 32 = .ok (.if_icmp .le 5, 3) := by decide +kernel
theorem dX12_parts_35 : decode cX12_parts 35 = .ok (.iload_n 1, 1) := by decide +kernel
theorem dX12_parts_36 : decode cX12_parts 36 = .ok (.ireturn, 1) := by decide +kernel
theorem dX12_parts_37 : decode cX12_parts 37 = .ok (.iinc 1 1, 3) := by decide +kernel
theorem dX12_parts_40 : decode cX12_parts 40 = .ok (.goto (-25), 3) := by decide +kernel
theorem dX12_parts_43 : decode cX12_parts 43 = .ok (.iconst (-1), 1) := by decide +kernel
theorem dX12_parts_44 : decode cX12_parts 44 = .ok (.ireturn, 1) := by decide +kernel
theorem dX12_lastAt_0 : decode cX12_lastAt 0 = .ok (.iconst 0, 1) := by decide +kernel
theorem dX12_lastAt_1 : decode cX12_lastAt 1 = .ok (.istore_n 2, 1) := by decide +kernel
theorem dX12_lastAt_2 : decode cX12_lastAt 2 = .ok (.iconst 1, 1) := by decide +kernel
theorem dX12_lastAt_3 : decode cX12_lastAt 3 = .ok (.istore_n 3, 1) := by decide +kernel
theorem dX12_lastAt_4 : decode cX12_lastAt 4 = .ok (.iload_n 3, 1) := by decide +kernel
theorem dX12_lastAt_5 : decode cX12_lastAt 5 = .ok (.aload_n 0, 1) := by decide +kernel
theorem dX12_lastAt_6 : decode cX12_lastAt 6 = .ok (.getfield 253, 3) := by decide +kernel
theorem dX12_lastAt_9 : decode cX12_lastAt 9 = .ok (.if_icmp .ge 40, 3) := by decide +kernel
theorem dX12_lastAt_12 : decode cX12_lastAt 12 = .ok (.aload_n 0, 1) := by decide +kernel
theorem dX12_lastAt_13 : decode cX12_lastAt 13 = .ok (.getfield 68, 3) := by decide +kernel
theorem dX12_lastAt_16 : decode cX12_lastAt 16 = .ok (.bipush 6, 2) := by decide +kernel
theorem dX12_lastAt_18 : decode cX12_lastAt 18 = .ok (.iload_n 1, 1) := by decide +kernel
theorem dX12_lastAt_19 : decode cX12_lastAt 19 = .ok (.imul, 1) := by decide +kernel
theorem dX12_lastAt_20 : decode cX12_lastAt 20 = .ok (.iload_n 3, 1) := by decide +kernel
theorem dX12_lastAt_21 : decode cX12_lastAt 21 = .ok (.iadd, 1) := by decide +kernel
theorem dX12_lastAt_22 : decode cX12_lastAt 22 = .ok (.iaload, 1) := by decide +kernel
theorem dX12_lastAt_23 : decode cX12_lastAt 23 = .ok (.aload_n 0, 1) := by decide +kernel
theorem dX12_lastAt_24 : decode cX12_lastAt 24 = .ok (.getfield 68, 3) := by decide +kernel
theorem dX12_lastAt_27 : decode cX12_lastAt 27 = .ok (.bipush 6, 2) := by decide +kernel
theorem dX12_lastAt_29 : decode cX12_lastAt 29 = .ok (.iload_n 1, 1) := by decide +kernel
theorem dX12_lastAt_30 : decode cX12_lastAt 30 = .ok (.imul, 1) := by decide +kernel
theorem dX12_lastAt_31 : decode cX12_lastAt 31 = .ok (.iload_n 2, 1) := by decide +kernel
theorem dX12_lastAt_32 : decode cX12_lastAt 32 = .ok (.iadd, 1) := by decide +kernel
theorem dX12_lastAt_33 : decode cX12_lastAt 33 = .ok (.iaload, 1) := by decide +kernel
theorem dX12_lastAt_34 : decode cX12_lastAt 34 = .ok (.if_icmp .le 7, 3) := by decide +kernel
theorem dX12_lastAt_37 : decode cX12_lastAt 37 = .ok (.iload_n 3, 1) := by decide +kernel
theorem dX12_lastAt_38 : decode cX12_lastAt 38 = .ok (.goto 4, 3) := by decide +kernel
theorem dX12_lastAt_41 : decode cX12_lastAt 41 = .ok (.iload_n 2, 1) := by decide +kernel
theorem dX12_lastAt_42 : decode cX12_lastAt 42 = .ok (.istore_n 2, 1) := by decide +kernel
theorem dX12_lastAt_43 : decode cX12_lastAt 43 = .ok (.iinc 3 1, 3) := by decide +kernel
theorem dX12_lastAt_46 : decode cX12_lastAt 46 = .ok (.goto (-42), 3) := by decide +kernel
theorem dX12_lastAt_49 : decode cX12_lastAt 49 = .ok (.iload_n 2, 1) := by decide +kernel
theorem dX12_lastAt_50 : decode cX12_lastAt 50 = .ok (.ireturn, 1) := by decide +kernel
theorem dX12_last_0 : decode cX12_last 0 = .ok (.aload_n 0, 1) := by decide +kernel
theorem dX12_last_1 : decode cX12_last 1 = .ok (.iload_n 1, 1) := by decide +kernel
theorem dX12_last_2 : decode cX12_last 2 = .ok (.invokevirtual 309, 3) := by decide +kernel
theorem dX12_last_5 : decode cX12_last 5 = .ok (.ifCond .ne 5, 3) := by decide +kernel
theorem dX12_last_8 : decode cX12_last 8 = .ok (.iconst (-1), 1) := by decide +kernel
theorem dX12_last_9 : decode cX12_last 9 = .ok (.ireturn, 1) := by decide +kernel
theorem dX12_last_10 : decode cX12_last 10 = .ok (.aload_n 0, 1) := by decide +kernel
theorem dX12_last_11 : decode cX12_last 11 = .ok (.invokevirtual 312, 3) := by decide +kernel
theorem dX12_last_14 : decode cX12_last 14 = .ok (.aload_n 0, 1) := by decide +kernel
theorem dX12_last_15 : decode cX12_last 15 = .ok (.iload_n 1, 1) := by decide +kernel
theorem dX12_last_16 : decode cX12_last 16 = .ok (.invokevirtual 324, 3) := by decide +kernel
theorem dX12_last_19 : decode cX12_last 19 = .ok (.ireturn, 1) := by decide +kernel
theorem dX12_areLike_0 : decode cX12_areLike 0 = .ok (.iconst 0, 1) := by decide +kernel
theorem dX12_areLike_1 : decode cX12_areLike 1 = .ok (.istore_n 3, 1) := by decide +kernel
theorem dX12_areLike_2 : decode cX12_areLike 2 = .ok (.iload_n 3, 1) := by decide +kernel
theorem dX12_areLike_3 : decode cX12_areLike 3 = .ok (.iconst 4, 1) := by decide +kernel
theorem dX12_areLike_4 : decode cX12_areLike 4 = .ok (.if_icmp .ge 68, 3) := by decide +kernel
theorem dX12_areLike_7 : decode cX12_areLike 7 = .ok (.iconst 0, 1) := by decide +kernel
theorem dX12_areLike_8 : decode cX12_areLike 8 = .ok (.istore 4, 2) := by decide +kernel
theorem dX12_areLike_10 : decode cX12_areLike 10 = .ok (.iload 4, 2) := by decide +kernel
theorem dX12_areLike_12 : decode cX12_areLike 12 = .ok (.aload_n 0, 1) := by decide +kernel
theorem dX12_areLike_13 : decode cX12_areLike 13 = .ok (.getfield 253, 3) := by decide +kernel
theorem dX12_areLike_16 : decode cX12_areLike 16 = .ok (.if_icmp .ge 50, 3) := by decide +kernel
theorem dX12_areLike_19 : decode cX12_areLike 19 = .ok (.aload_n 0, 1) := by decide +kernel
theorem dX12_areLike_20 : decode cX12_areLike 20 = .ok (.getfield 65, 3) := by decide +kernel
theorem dX12_areLike_23 : decode cX12_areLike 23 = .ok (.bipush 6, 2) := by decide +kernel
theorem dX12_areLike_25 : decode cX12_areLike 25 = .ok (.iconst 0, 1) := by decide +kernel
theorem dX12_areLike_26 : decode cX12_areLike 26 = .ok (.iload_n 1, 1) := by decide +kernel
theorem dX12_areLike_27 : decode cX12_areLike 27 = .ok (.iload_n 3, 1) := by decide +kernel
theorem dX12_areLike_28 : decode cX12_areLike 28 = .ok (.isub, 1) := by decide +kernel
theorem dX12_areLike_29 : decode cX12_areLike 29 = .ok (.invokestatic 295, 3) := by decide +kernel
theorem dX12_areLike_32 : decode cX12_areLike 32 = .ok (.imul, 1) := by decide +kernel
theorem dX12_areLike_33 : decode cX12_areLike 33 = .ok (.iload 4, 2) := by decide +kernel
theorem dX12_areLike_35 : decode cX12_areLike 35 = .ok (.iadd, 1) := by decide +kernel
theorem dX12_areLike_36 : decode cX12_areLike 36 = .ok (.iaload, 1) := by decide +kernel
theorem dX12_areLike_37 : decode cX12_areLike 37 = .ok (.aload_n 0, 1) := by decide +kernel
theorem dX12_areLike_38 : decode cX12_areLike 38 = .ok (.getfield 65, 3) := by decide +kernel
theorem dX12_areLike_41 : decode cX12_areLike 41 = .ok (.bipush 6, 2) := by decide +kernel
theorem dX12_areLike_43 : decode cX12_areLike 43 = .ok (.iconst 0, 1) := by decide +kernel
theorem dX12_areLike_44 : decode cX12_areLike 44 = .ok (.iload_n 2, 1) := by decide +kernel
theorem dX12_areLike_45 : decode cX12_areLike 45 = .ok (.iload_n 3, 1) := by decide +kernel
theorem dX12_areLike_46 : decode cX12_areLike 46 = .ok (.isub, 1) := by decide +kernel
theorem dX12_areLike_47 : decode cX12_areLike 47 = .ok (.invokestatic 295, 3) := by decide +kernel
theorem dX12_areLike_50 : decode cX12_areLike 50 = .ok (.imul, 1) := by decide +kernel
theorem dX12_areLike_51 : decode cX12_areLike 51 = .ok (.iload 4, 2) := by decide +kernel
theorem dX12_areLike_53 : decode cX12_areLike 53 = .ok (.iadd, 1) := by decide +kernel
theorem dX12_areLike_54 : decode cX12_areLike 54 = .ok (.iaload, 1) := by decide +kernel
theorem dX12_areLike_55 : decode cX12_areLike 55 = .ok (.if_icmp .eq 5, 3) := by decide +kernel
theorem dX12_areLike_58 : decode cX12_areLike 58 = .ok (.iconst 0, 1) := by decide +kernel
theorem dX12_areLike_59 : decode cX12_areLike 59 = .ok (.ireturn, 1) := by decide +kernel
theorem dX12_areLike_60 : decode cX12_areLike 60 = .ok (.iinc 4 1, 3) := by decide +kernel
theorem dX12_areLike_63 : decode cX12_areLike 63 = .ok (.goto (-53), 3) := by decide +kernel
theorem dX12_areLike_66 : decode cX12_areLike 66 = .ok (.iinc 3 1, 3) := by decide +kernel
theorem dX12_areLike_69 : decode cX12_areLike 69 = .ok (.goto (-67), 3) := by decide +kernel
theorem dX12_areLike_72 : decode cX12_areLike 72 = .ok (.iconst 1, 1) := by decide +kernel
theorem dX12_areLike_73 : decode cX12_areLike 73 = .ok (.ireturn, 1) := by decide +kernel
theorem dX12_settle_0 : decode cX12_settle 0 = .ok (.aload_n 0, 1) := by decide +kernel
theorem dX12_settle_1 : decode cX12_settle 1 = .ok (.getfield 253, 3) := by decide +kernel
theorem dX12_settle_4 : decode cX12_settle 4 = .ok (.ifCond .eq 12, 3) := by decide +kernel
theorem dX12_settle_7 : decode cX12_settle 7 = .ok (.iload_n 1, 1) := by decide +kernel
theorem dX12_settle_8 : decode cX12_settle 8 = .ok (.iconst 0, 1) := by decide +kernel
theorem dX12_settle_9 : decode cX12_settle 9 = .ok (.iconst 1, 1) := by decide +kernel
theorem dX12_settle_10 : decode cX12_settle 10 = .ok (.invokestatic 216, 3) := by decide +kernel
theorem dX12_settle_13 : decode cX12_settle 13 = .ok (.ifCond .ne 5, 3) := by decide +kernel
theorem dX12_settle_16 : decode cX12_settle 16 = .ok (.iconst (-1), 1) := by decide +kernel
theorem dX12_settle_17 : decode cX12_settle 17 = .ok (.ireturn, 1) := by decide +kernel
theorem dX12_settle_18 : decode cX12_settle 18 = .ok (.aload_n 0, 1) := by decide +kernel
theorem dX12_settle_19 : decode cX12_settle 19 = .ok (.sipush 201, 3) := by decide +kernel
theorem dX12_settle_22 : decode cX12_settle 22 = .ok (.invokevirtual 306, 3) := by decide +kernel
theorem dX12_settle_25 : decode cX12_settle 25 = .ok (.iconst 1, 1) := by decide +kernel
theorem dX12_settle_26 : decode cX12_settle 26 = .ok (.istore_n 2, 1) := by decide +kernel
theorem dX12_settle_27 : decode cX12_settle 27 = .ok (.iload_n 2, 1) := by decide +kernel
theorem dX12_settle_28 : decode cX12_settle 28 = .ok (.sipush 201, 3) := by decide +kernel
theorem dX12_settle_31 : decode cX12_settle 31 = .ok (.if_icmp .ge 43, 3) := by decide +kernel
theorem dX12_settle_34 : decode cX12_settle 34 = .ok (.iconst 0, 1) := by decide +kernel
theorem dX12_settle_35 : decode cX12_settle 35 = .ok (.istore_n 3, 1) := by decide +kernel
theorem dX12_settle_36 : decode cX12_settle 36 = .ok (.iload_n 3, 1) := by decide +kernel
theorem dX12_settle_37 : decode cX12_settle 37 = .ok (.iload_n 2, 1) := by decide +kernel
theorem dX12_settle_38 : decode cX12_settle 38 = .ok (.if_icmp .ge 30, 3) := by decide +kernel
theorem dX12_settle_41 : decode cX12_settle 41 = .ok (.aload_n 0, 1) := by decide +kernel
theorem dX12_settle_42 : decode cX12_settle 42 = .ok (.iload_n 3, 1) := by decide +kernel
theorem dX12_settle_43 : decode cX12_settle 43 = .ok (.iload_n 2, 1) := by decide +kernel
theorem dX12_settle_44 : decode cX12_settle 44 = .ok (.invokevirtual 327, 3) := by decide +kernel
theorem dX12_settle_47 : decode cX12_settle 47 = .ok (.ifCond .eq 15, 3) := by decide +kernel
theorem dX12_settle_50 : decode cX12_settle 50 = .ok (.iload_n 1, 1) := by decide +kernel
theorem dX12_settle_51 : decode cX12_settle 51 = .ok (.ifCond .ne 7, 3) := by decide +kernel
theorem dX12_settle_54 : decode cX12_settle 54 = .ok (.iload_n 3, 1) := by decide +kernel
theorem dX12_settle_55 : decode cX12_settle 55 = .ok (.goto 6, 3) := by decide +kernel
theorem dX12_settle_58 : decode cX12_settle 58 = .ok (.iload_n 2, 1) := by decide +kernel
theorem dX12_settle_59 : decode cX12_settle 59 = .ok (.iload_n 3, 1) := by decide +kernel
theorem dX12_settle_60 : decode cX12_settle 60 = .ok (.isub, 1) := by decide +kernel
theorem dX12_settle_61 : decode cX12_settle 61 = .ok (.ireturn, 1) := by decide +kernel
theorem dX12_settle_62 : decode cX12_settle 62 = .ok (.iinc 3 1, 3) := by decide +kernel
theorem dX12_settle_65 : decode cX12_settle 65 = .ok (.goto (-29), 3) := by decide +kernel
theorem dX12_settle_68 : decode cX12_settle 68 = .ok (.iinc 2 1, 3) := by decide +kernel
theorem dX12_settle_71 : decode cX12_settle 71 = .ok (.goto (-44), 3) := by decide +kernel
theorem dX12_settle_74 : decode cX12_settle 74 = .ok (.iconst (-1), 1) := by decide +kernel
theorem dX12_settle_75 : decode cX12_settle 75 = .ok (.ireturn, 1) := by decide +kernel
theorem dX12_ring_0 : decode cX12_ring 0 = .ok (.aload_n 0, 1) := by decide +kernel
theorem dX12_ring_1 : decode cX12_ring 1 = .ok (.iload_n 1, 1) := by decide +kernel
theorem dX12_ring_2 : decode cX12_ring 2 = .ok (.invokevirtual 281, 3) := by decide +kernel
theorem dX12_ring_5 : decode cX12_ring 5 = .ok (.ifCond .ne 5, 3) := by decide +kernel
theorem dX12_ring_8 : decode cX12_ring 8 = .ok (.iconst (-1), 1) := by decide +kernel
theorem dX12_ring_9 : decode cX12_ring 9 = .ok (.ireturn, 1) := by decide +kernel
theorem dX12_ring_10 : decode cX12_ring 10 = .ok (.iload_n 1, 1) := by decide +kernel
theorem dX12_ring_11 : decode cX12_ring 11 = .ok (.istore_n 2, 1) := by decide +kernel
theorem dX12_ring_12 : decode cX12_ring 12 = .ok (.iconst 0, 1) := by decide +kernel
theorem dX12_ring_13 : decode cX12_ring 13 = .ok (.istore_n 3, 1) := by decide +kernel
theorem dX12_ring_14 : decode cX12_ring 14 = .ok (.iload_n 3, 1) := by decide +kernel
theorem dX12_ring_15 : decode cX12_ring 15 = .ok (.aload_n 0, 1) := by decide +kernel
theorem dX12_ring_16 : decode cX12_ring 16 = .ok (.getfield 253, 3) := by decide +kernel
theorem dX12_ring_19 : decode cX12_ring 19 = .ok (.if_icmp .ge 21, 3) := by decide +kernel
theorem dX12_ring_22 : decode cX12_ring 22 = .ok (.iload_n 2, 1) := by decide +kernel
theorem dX12_ring_23 : decode cX12_ring 23 = .ok (.iconst (-1), 1) := by decide +kernel
theorem dX12_ring_24 : decode cX12_ring 24 = .ok (.if_icmp .eq 16, 3) := by decide +kernel
theorem dX12_ring_27 : decode cX12_ring 27 = .ok (.aload_n 0, 1) := by decide +kernel
theorem dX12_ring_28 : decode cX12_ring 28 = .ok (.iload_n 2, 1) := by decide +kernel
theorem dX12_ring_29 : decode cX12_ring 29 = .ok (.iconst 3, 1) := by decide +kernel
theorem dX12_ring_30 : decode cX12_ring 30 = .ok (.invokevirtual 284, 3) := by decide +kernel
theorem dX12_ring_33 : decode cX12_ring 33 = .ok (.istore_n 2, 1) := by decide +kernel
theorem dX12_ring_34 : decode cX12_ring 34 = .ok (.iinc 3 1, 3) := by decide +kernel
theorem dX12_ring_37 : decode cX12_ring 37 = .ok (.goto (-23), 3) := by decide +kernel
theorem dX12_ring_40 : decode cX12_ring 40 = .ok (.iconst 0, 1) := by decide +kernel
theorem dX12_ring_41 : decode cX12_ring 41 = .ok (.istore_n 3, 1) := by decide +kernel
theorem dX12_ring_42 : decode cX12_ring 42 = .ok (.iload_n 2, 1) := by decide +kernel
theorem dX12_ring_43 : decode cX12_ring 43 = .ok (.iconst (-1), 1) := by decide +kernel
theorem dX12_ring_44 : decode cX12_ring 44 = .ok (.if_icmp .eq 27, 3) := by decide +kernel
theorem dX12_ring_47 : decode cX12_ring 47 = .ok (.iload_n 3, 1) := by decide +kernel
theorem dX12_ring_48 : decode cX12_ring 48 = .ok (.iload_n 2, 1) := by decide +kernel
theorem dX12_ring_49 : decode cX12_ring 49 = .ok (.invokestatic 226, 3) := by decide +kernel
theorem dX12_ring_52 : decode cX12_ring 52 = .ok (.ifCond .ne 19, 3) := by decide +kernel
theorem dX12_ring_55 : decode cX12_ring 55 = .ok (.iload_n 3, 1) := by decide +kernel
theorem dX12_ring_56 : decode cX12_ring 56 = .ok (.iconst 1, 1) := by decide +kernel
theorem dX12_ring_57 : decode cX12_ring 57 = .ok (.iload_n 2, 1) := by decide +kernel
theorem dX12_ring_58 : decode cX12_ring 58 = .ok (.ishl, 1) := by decide +kernel
theorem dX12_ring_59 : decode cX12_ring 59 = .ok (.ior, 1) := by decide +kernel
theorem dX12_ring_60 : decode cX12_ring 60 = .ok (.istore_n 3, 1) := by decide +kernel
theorem dX12_ring_61 : decode cX12_ring 61 = .ok (.aload_n 0, 1) := by decide +kernel
theorem dX12_ring_62 : decode cX12_ring 62 = .ok (.iload_n 2, 1) := by decide +kernel
theorem dX12_ring_63 : decode cX12_ring 63 = .ok (.iconst 3, 1) := by decide +kernel
theorem dX12_ring_64 : decode cX12_ring 64 = .ok (.invokevirtual 284, 3) := by decide +kernel
theorem dX12_ring_67 : decode cX12_ring 67 = .ok (.istore_n 2, 1) := by decide +kernel
theorem dX12_ring_68 : decode cX12_ring 68 = .ok (.goto (-26), 3) := by decide +kernel
theorem dX12_ring_71 : decode cX12_ring 71 = .ok (.iload_n 3, 1) := by decide +kernel
theorem dX12_ring_72 : decode cX12_ring 72 = .ok (.ireturn, 1) := by decide +kernel
theorem dX12_head_0 : decode cX12_head 0 = .ok (.aload_n 0, 1) := by decide +kernel
theorem dX12_head_1 : decode cX12_head 1 = .ok (.iload_n 1, 1) := by decide +kernel
theorem dX12_head_2 : decode cX12_head 2 = .ok (.invokevirtual 281, 3) := by decide +kernel
theorem dX12_head_5 : decode cX12_head 5 = .ok (.ifCond .ne 5, 3) := by decide +kernel
theorem dX12_head_8 : decode cX12_head 8 = .ok (.iconst (-1), 1) := by decide +kernel
theorem dX12_head_9 : decode cX12_head 9 = .ok (.ireturn, 1) := by decide +kernel
theorem dX12_head_10 : decode cX12_head 10 = .ok (.iload_n 1, 1) := by decide +kernel
theorem dX12_head_11 : decode cX12_head 11 = .ok (.istore_n 2, 1) := by decide +kernel
theorem dX12_head_12 : decode cX12_head 12 = .ok (.iconst 0, 1) := by decide +kernel
theorem dX12_head_13 : decode cX12_head 13 = .ok (.istore_n 3, 1) := by decide +kernel
theorem dX12_head_14 : decode cX12_head 14 = .ok (.iload_n 3, 1) := by decide +kernel
theorem dX12_head_15 : decode cX12_head 15 = .ok (.aload_n 0, 1) := by decide +kernel
theorem dX12_head_16 : decode cX12_head 16 = .ok (.getfield 253, 3) := by decide +kernel
theorem dX12_head_19 : decode cX12_head 19 = .ok (.if_icmp .ge 28, 3) := by decide +kernel
theorem dX12_head_22 : decode cX12_head 22 = .ok (.aload_n 0, 1) := by decide +kernel
theorem dX12_head_23 : decode cX12_head 23 = .ok (.iload_n 2, 1) := by decide +kernel
theorem dX12_head_24 : decode cX12_head 24 = .ok (.iconst 3, 1) := by decide +kernel
theorem dX12_head_25 : decode cX12_head 25 = .ok (.invokevirtual 284, 3) := by decide +kernel
theorem dX12_head_28 : decode cX12_head 28 = .ok (.iconst (-1), 1) := by decide +kernel
theorem dX12_head_29 : decode cX12_head 29 = .ok (.if_icmp .ne 5, 3) := by decide +kernel
theorem dX12_head_32 : decode cX12_head 32 = .ok (.iload_n 2, 1) := by decide +kernel
theorem dX12_head_33 : decode cX12_head 33 = .ok (.ireturn, 1) := by decide +kernel
theorem dX12_head_34 : decode cX12_head 34 = .ok (.aload_n 0, 1) := by decide +kernel
theorem dX12_head_35 : decode cX12_head 35 = .ok (.iload_n 2, 1) := by decide +kernel
theorem dX12_head_36 : decode cX12_head 36 = .ok (.iconst 3, 1) := by decide +kernel
theorem dX12_head_37 : decode cX12_head 37 = .ok (.invokevirtual 284, 3) := by decide +kernel
theorem dX12_head_40 : decode cX12_head 40 = .ok (.istore_n 2, 1) := by decide +kernel
theorem dX12_head_41 : decode cX12_head 41 = .ok (.iinc 3 1, 3) := by decide +kernel
theorem dX12_head_44 : decode cX12_head 44 = .ok (.goto (-30), 3) := by decide +kernel
theorem dX12_head_47 : decode cX12_head 47 = .ok (.iconst (-1), 1) := by decide +kernel
theorem dX12_head_48 : decode cX12_head 48 = .ok (.ireturn, 1) := by decide +kernel
theorem dX12_keepBeats_0 : decode cX12_keepBeats 0 = .ok (.iconst 0, 1) := by decide +kernel
theorem dX12_keepBeats_1 : decode cX12_keepBeats 1 = .ok (.istore_n 2, 1) := by decide +kernel
theorem dX12_keepBeats_2 : decode cX12_keepBeats 2 = .ok (.iload_n 2, 1) := by decide +kernel
theorem dX12_keepBeats_3 : decode cX12_keepBeats 3 = .ok (.aload_n 0, 1) := by decide +kernel
theorem dX12_keepBeats_4 : decode cX12_keepBeats 4 = .ok (.getfield 253, 3) := by decide +kernel
theorem dX12_keepBeats_7 : decode cX12_keepBeats 7 = .ok (.if_icmp .ge 26, 3) := by decide +kernel
theorem dX12_keepBeats_10 : decode cX12_keepBeats 10 = .ok (.aload_n 0, 1) := by decide +kernel
theorem dX12_keepBeats_11 : decode cX12_keepBeats 11 = .ok (.getfield 74, 3) := by decide +kernel
theorem dX12_keepBeats_14 : decode cX12_keepBeats 14 = .ok (.bipush 6, 2) := by decide +kernel
theorem dX12_keepBeats_16 : decode cX12_keepBeats 16 = .ok (.iload_n 1, 1) := by decide +kernel
theorem dX12_keepBeats_17 : decode cX12_keepBeats 17 = .ok (.imul, 1) := by decide +kernel
theorem dX12_keepBeats_18 : decode cX12_keepBeats 18 = .ok (.iload_n 2, 1) := by decide +kernel
theorem dX12_keepBeats_19 : decode cX12_keepBeats 19 = .ok (.iadd, 1) := by decide +kernel
theorem dX12_keepBeats_20 : decode cX12_keepBeats 20 = .ok (.aload_n 0, 1) := by decide +kernel
theorem dX12_keepBeats_21 : decode cX12_keepBeats 21 = .ok (.getfield 46, 3) := by decide +kernel
theorem dX12_keepBeats_24 : decode cX12_keepBeats 24 = .ok (.iload_n 2, 1) := by decide +kernel
theorem dX12_keepBeats_25 : decode cX12_keepBeats 25 = .ok (.iaload, 1) := by decide +kernel
theorem dX12_keepBeats_26 : decode cX12_keepBeats 26 = .ok (.iastore, 1) := by decide +kernel
theorem dX12_keepBeats_27 : decode cX12_keepBeats 27 = .ok (.iinc 2 1, 3) := by decide +kernel
theorem dX12_keepBeats_30 : decode cX12_keepBeats 30 = .ok (.goto (-28), 3) := by decide +kernel
theorem dX12_keepBeats_33 : decode cX12_keepBeats 33 = .ok (.return_, 1) := by decide +kernel
theorem dX12_takeBeats_0 : decode cX12_takeBeats 0 = .ok (.iconst 0, 1) := by decide +kernel
theorem dX12_takeBeats_1 : decode cX12_takeBeats 1 = .ok (.istore_n 2, 1) := by decide +kernel
theorem dX12_takeBeats_2 : decode cX12_takeBeats 2 = .ok (.iload_n 2, 1) := by decide +kernel
theorem dX12_takeBeats_3 : decode cX12_takeBeats 3 = .ok (.aload_n 0, 1) := by decide +kernel
theorem dX12_takeBeats_4 : decode cX12_takeBeats 4 = .ok (.getfield 253, 3) := by decide +kernel
theorem dX12_takeBeats_7 : decode cX12_takeBeats 7 = .ok (.if_icmp .ge 26, 3) := by decide +kernel
theorem dX12_takeBeats_10 : decode cX12_takeBeats 10 = .ok (.aload_n 0, 1) := by decide +kernel
theorem dX12_takeBeats_11 : decode cX12_takeBeats 11 = .ok (.getfield 46, 3) := by decide +kernel
theorem dX12_takeBeats_14 : decode cX12_takeBeats 14 = .ok (.iload_n 2, 1) := by decide +kernel
theorem dX12_takeBeats_15 : decode cX12_takeBeats 15 = .ok (.aload_n 0, 1) := by decide +kernel
theorem dX12_takeBeats_16 : decode cX12_takeBeats 16 = .ok (.getfield 74, 3) := by decide +kernel
theorem dX12_takeBeats_19 : decode cX12_takeBeats 19 = .ok (.bipush 6, 2) := by decide +kernel
theorem dX12_takeBeats_21 : decode cX12_takeBeats 21 = .ok (.iload_n 1, 1) := by decide +kernel
theorem dX12_takeBeats_22 : decode cX12_takeBeats 22 = .ok (.imul, 1) := by decide +kernel
theorem dX12_takeBeats_23 : decode cX12_takeBeats 23 = .ok (.iload_n 2, 1) := by decide +kernel
theorem dX12_takeBeats_24 : decode cX12_takeBeats 24 = .ok (.iadd, 1) := by decide +kernel
theorem dX12_takeBeats_25 : decode cX12_takeBeats 25 = .ok (.iaload, 1) := by decide +kernel
theorem dX12_takeBeats_26 : decode cX12_takeBeats 26 = .ok (.iastore, 1) := by decide +kernel
theorem dX12_takeBeats_27 : decode cX12_takeBeats 27 = .ok (.iinc 2 1, 3) := by decide +kernel
theorem dX12_takeBeats_30 : decode cX12_takeBeats 30 = .ok (.goto (-28), 3) := by decide +kernel
theorem dX12_takeBeats_33 : decode cX12_takeBeats 33 = .ok (.return_, 1) := by decide +kernel
theorem dX12_weekFrom_0 : decode cX12_weekFrom 0 = .ok (.iload_n 1, 1) := by decide +kernel
theorem dX12_weekFrom_1 : decode cX12_weekFrom 1 = .ok (.bipush 6, 2) := by decide +kernel
theorem dX12_weekFrom_3 : decode cX12_weekFrom 3 = .ok (.if_icmp .ne 35, 3) := by decide +kernel
theorem dX12_weekFrom_6 : decode cX12_weekFrom 6 = .ok (.aload_n 0, 1) := by decide +kernel
theorem dX12_weekFrom_7 : decode cX12_weekFrom 7 = .ok (.invokevirtual 321, 3) := by decide +kernel
theorem dX12_weekFrom_10 : decode cX12_weekFrom 10 = .ok (.istore_n 3, 1) := by decide +kernel
theorem dX12_weekFrom_11 : decode cX12_weekFrom 11 = .ok (.aload_n 0, 1) := by decide +kernel
theorem dX12_weekFrom_12 : decode cX12_weekFrom 12 = .ok (.getfield 330, 3) := by decide +kernel
theorem dX12_weekFrom_15 : decode cX12_weekFrom 15 = .ok (.iconst (-1), 1) := by decide +kernel
theorem dX12_weekFrom_16 : decode cX12_weekFrom 16 = .ok (.if_icmp .eq 11, 3) := by decide +kernel
theorem dX12_weekFrom_19 : decode cX12_weekFrom 19 = .ok (.iload_n 3, 1) := by decide +kernel
theorem dX12_weekFrom_20 : decode cX12_weekFrom 20 = .ok (.aload_n 0, 1) := by decide +kernel
theorem dX12_weekFrom_21 : decode cX12_weekFrom 21 = .ok (.getfield 333, 3) := by decide +kernel
theorem dX12_weekFrom_24 : decode cX12_weekFrom 24 = .ok (.if_icmp .ge 13, 3) := by decide +kernel
theorem dX12_weekFrom_27 : decode cX12_weekFrom 27 = .ok (.aload_n 0, 1) := by decide +kernel
theorem dX12_weekFrom_28 : decode cX12_weekFrom 28 = .ok (.iload_n 2, 1) := by decide +kernel
theorem dX12_weekFrom_29 : decode cX12_weekFrom 29 = .ok (.putfield 330, 3) := by decide +kernel
theorem dX12_weekFrom_32 : decode cX12_weekFrom 32 = .ok (.aload_n 0, 1) := by decide +kernel
theorem dX12_weekFrom_33 : decode cX12_weekFrom 33 = .ok (.iload_n 3, 1) := by decide +kernel
theorem dX12_weekFrom_34 : decode cX12_weekFrom 34 = .ok (.putfield 333, 3) := by decide +kernel
theorem dX12_weekFrom_37 : decode cX12_weekFrom 37 = .ok (.return_, 1) := by decide +kernel
theorem dX12_weekFrom_38 : decode cX12_weekFrom 38 = .ok (.aload_n 0, 1) := by decide +kernel
theorem dX12_weekFrom_39 : decode cX12_weekFrom 39 = .ok (.iload_n 1, 1) := by decide +kernel
theorem dX12_weekFrom_40 : decode cX12_weekFrom 40 = .ok (.invokevirtual 336, 3) := by decide +kernel
theorem dX12_weekFrom_43 : decode cX12_weekFrom 43 = .ok (.iconst 0, 1) := by decide +kernel
theorem dX12_weekFrom_44 : decode cX12_weekFrom 44 = .ok (.istore_n 3, 1) := by decide +kernel
theorem dX12_weekFrom_45 : decode cX12_weekFrom 45 = .ok (.iload_n 3, 1) := by decide +kernel
theorem dX12_weekFrom_46 : decode cX12_weekFrom 46 = .ok (.aload_n 0, 1) := by decide +kernel
theorem dX12_weekFrom_47 : decode cX12_weekFrom 47 = .ok (.getfield 253, 3) := by decide +kernel
theorem dX12_weekFrom_50 : decode cX12_weekFrom 50 = .ok (.if_icmp .ge 38, 3) := by decide +kernel
theorem dX12_weekFrom_53 : decode cX12_weekFrom 53 = .ok (.aload_n 0, 1) := by decide +kernel
theorem dX12_weekFrom_54 : decode cX12_weekFrom 54 = .ok (.iload_n 3, 1) := by decide +kernel
theorem dX12_weekFrom_55 : decode cX12_weekFrom 55 = .ok (.aload_n 0, 1) := by decide +kernel
theorem dX12_weekFrom_56 : decode cX12_weekFrom 56 = .ok (.getfield 77, 3) := by decide +kernel
theorem dX12_weekFrom_59 : decode cX12_weekFrom 59 = .ok (.iload_n 1, 1) := by decide +kernel
theorem dX12_weekFrom_60 : decode cX12_weekFrom 60 = .ok (.iaload, 1) := by decide +kernel
theorem dX12_weekFrom_61 : decode cX12_weekFrom 61 = .ok (.invokevirtual 300, 3) := by decide +kernel
theorem dX12_weekFrom_64 : decode cX12_weekFrom 64 = .ok (.aload_n 0, 1) := by decide +kernel
theorem dX12_weekFrom_65 : decode cX12_weekFrom 65 = .ok (.iload_n 1, 1) := by decide +kernel
theorem dX12_weekFrom_66 : decode cX12_weekFrom 66 = .ok (.iconst 1, 1) := by decide +kernel
theorem dX12_weekFrom_67 : decode cX12_weekFrom 67 = .ok (.iadd, 1) := by decide +kernel
theorem dX12_weekFrom_68 : decode cX12_weekFrom 68 = .ok (.bipush 10, 2) := by decide +kernel
theorem dX12_weekFrom_70 : decode cX12_weekFrom 70 = .ok (.iload_n 2, 1) := by decide +kernel
theorem dX12_weekFrom_71 : decode cX12_weekFrom 71 = .ok (.imul, 1) := by decide +kernel
theorem dX12_weekFrom_72 : decode cX12_weekFrom 72 = .ok (.iload_n 3, 1) := by decide +kernel
theorem dX12_weekFrom_73 : decode cX12_weekFrom 73 = .ok (.iadd, 1) := by decide +kernel
theorem dX12_weekFrom_74 : decode cX12_weekFrom 74 = .ok (.invokevirtual 339, 3) := by decide +kernel
theorem dX12_weekFrom_77 : decode cX12_weekFrom 77 = .ok (.aload_n 0, 1) := by decide +kernel
theorem dX12_weekFrom_78 : decode cX12_weekFrom 78 = .ok (.iload_n 1, 1) := by decide +kernel
theorem dX12_weekFrom_79 : decode cX12_weekFrom 79 = .ok (.invokevirtual 342, 3) := by decide +kernel
theorem dX12_weekFrom_82 : decode cX12_weekFrom 82 = .ok (.iinc 3 1, 3) := by decide +kernel
theorem dX12_weekFrom_85 : decode cX12_weekFrom 85 = .ok (.goto (-40), 3) := by decide +kernel
theorem dX12_weekFrom_88 : decode cX12_weekFrom 88 = .ok (.return_, 1) := by decide +kernel
theorem dX12_week_0 : decode cX12_week 0 = .ok (.aload_n 0, 1) := by decide +kernel
theorem dX12_week_1 : decode cX12_week 1 = .ok (.getfield 253, 3) := by decide +kernel
theorem dX12_week_4 : decode cX12_week 4 = .ok (.ifCond .eq 25, 3) := by decide +kernel
theorem dX12_week_7 : decode cX12_week 7 = .ok (.iload_n 1, 1) := by decide +kernel
theorem dX12_week_8 : decode cX12_week 8 = .ok (.iconst 0, 1) := by decide +kernel
theorem dX12_week_9 : decode cX12_week 9 = .ok (.iconst 1, 1) := by decide +kernel
theorem dX12_week_10 : decode cX12_week 10 = .ok (.invokestatic 216, 3) := by decide +kernel
theorem dX12_week_13 : decode cX12_week 13 = .ok (.ifCond .eq 16, 3) := by decide +kernel
theorem dX12_week_16 : decode cX12_week 16 = .ok (.aload_n 0, 1) := by decide +kernel
theorem dX12_week_17 : decode cX12_week 17 = .ok (.getfield 259, 3) := by decide +kernel
theorem dX12_week_20 : decode cX12_week 20 = .ok (.bipush 6, 2) := by decide +kernel
theorem dX12_week_22 : decode cX12_week 22 = .ok (.iadd, 1) := by decide +kernel
theorem dX12_week_23 : decode cX12_week 23 = .ok (.sipush 1000, 3) := by decide +kernel
theorem dX12_week_26 : decode cX12_week 26 = .ok (.if_icmp .le 5, 3) := by decide +kernel
theorem dX12_week_29 : decode cX12_week 29 = .ok (.iconst (-1), 1) := by decide +kernel
theorem dX12_week_30 : decode cX12_week 30 = .ok (.ireturn, 1) := by decide +kernel
theorem dX12_week_31 : decode cX12_week 31 = .ok (.iconst 0, 1) := by decide +kernel
theorem dX12_week_32 : decode cX12_week 32 = .ok (.istore_n 2, 1) := by decide +kernel
theorem dX12_week_33 : decode cX12_week 33 = .ok (.iload_n 2, 1) := by decide +kernel
theorem dX12_week_34 : decode cX12_week 34 = .ok (.bipush 6, 2) := by decide +kernel
theorem dX12_week_36 : decode cX12_week 36 = .ok (.if_icmp .ge 25, 3) := by decide +kernel
theorem dX12_week_39 : decode cX12_week 39 = .ok (.aload_n 0, 1) := by decide +kernel
theorem dX12_week_40 : decode cX12_week 40 = .ok (.getfield 77, 3) := by decide +kernel
theorem dX12_week_43 : decode cX12_week 43 = .ok (.iload_n 2, 1) := by decide +kernel
theorem dX12_week_44 : decode cX12_week 44 = .ok (.aload_n 0, 1) := by decide +kernel
theorem dX12_week_45 : decode cX12_week 45 = .ok (.aload_n 0, 1) := by decide +kernel
theorem dX12_week_46 : decode cX12_week 46 = .ok (.getfield 259, 3) := by decide +kernel
theorem dX12_week_49 : decode cX12_week 49 = .ok (.iload_n 2, 1) := by decide +kernel
theorem dX12_week_50 : decode cX12_week 50 = .ok (.iadd, 1) := by decide +kernel
theorem dX12_week_51 : decode cX12_week 51 = .ok (.invokevirtual 297, 3) := by decide +kernel
theorem dX12_week_54 : decode cX12_week 54 = .ok (.iastore, 1) := by decide +kernel
theorem dX12_week_55 : decode cX12_week 55 = .ok (.iinc 2 1, 3) := by decide +kernel
theorem dX12_week_58 : decode cX12_week 58 = .ok (.goto (-25), 3) := by decide +kernel
theorem dX12_week_61 : decode cX12_week 61 = .ok (.aload_n 0, 1) := by decide +kernel
theorem dX12_week_62 : decode cX12_week 62 = .ok (.iconst (-1), 1) := by decide +kernel
theorem dX12_week_63 : decode cX12_week 63 = .ok (.putfield 330, 3) := by decide +kernel
theorem dX12_week_66 : decode cX12_week 66 = .ok (.aload_n 0, 1) := by decide +kernel
theorem dX12_week_67 : decode cX12_week 67 = .ok (.iconst 0, 1) := by decide +kernel
theorem dX12_week_68 : decode cX12_week 68 = .ok (.iconst 0, 1) := by decide +kernel
theorem dX12_week_69 : decode cX12_week 69 = .ok (.invokevirtual 339, 3) := by decide +kernel
theorem dX12_week_72 : decode cX12_week 72 = .ok (.iload_n 1, 1) := by decide +kernel
theorem dX12_week_73 : decode cX12_week 73 = .ok (.ifCond .ne 10, 3) := by decide +kernel
theorem dX12_week_76 : decode cX12_week 76 = .ok (.aload_n 0, 1) := by decide +kernel
theorem dX12_week_77 : decode cX12_week 77 = .ok (.getfield 330, 3) := by decide +kernel
theorem dX12_week_80 : decode cX12_week 80 = .ok (.goto 7, 3) := by decide +kernel
theorem dX12_week_83 : decode cX12_week 83 = .ok (.aload_n 0, 1) := by decide +kernel
theorem dX12_week_84 : decode cX12_week 84 = .ok (.getfield 333, 3) := by decide +kernel
theorem dX12_week_87 : decode cX12_week 87 = .ok (.ireturn, 1) := by decide +kernel
theorem dX12_leader_0 : decode cX12_leader 0 = .ok (.aload_n 0, 1) := by decide +kernel
theorem dX12_leader_1 : decode cX12_leader 1 = .ok (.iload_n 1, 1) := by decide +kernel
theorem dX12_leader_2 : decode cX12_leader 2 = .ok (.invokevirtual 281, 3) := by decide +kernel
theorem dX12_leader_5 : decode cX12_leader 5 = .ok (.ifCond .eq 12, 3) := by decide +kernel
theorem dX12_leader_8 : decode cX12_leader 8 = .ok (.iload_n 2, 1) := by decide +kernel
theorem dX12_leader_9 : decode cX12_leader 9 = .ok (.iconst 0, 1) := by decide +kernel
theorem dX12_leader_10 : decode cX12_leader 10 = .ok (.iconst 1, 1) := by decide +kernel
theorem dX12_leader_11 : decode cX12_leader 11 = .ok (.invokestatic 216, 3) := by decide +kernel
theorem dX12_leader_14 : decode cX12_leader 14 = .ok (.ifCond .ne 7, 3) := by decide +kernel
theorem dX12_leader_17 : decode cX12_leader 17 = .ok (.ldc_w 345, 3) := by decide +kernel
theorem dX12_leader_20 : decode cX12_leader 20 = .ok (.ireturn, 1) := by decide +kernel
theorem dX12_leader_21 : decode cX12_leader 21 = .ok (.aload_n 0, 1) := by decide +kernel
theorem dX12_leader_22 : decode cX12_leader 22 = .ok (.iload_n 1, 1) := by decide +kernel
theorem dX12_leader_23 : decode cX12_leader 23 = .ok (.iconst 3, 1) := by decide +kernel
theorem dX12_leader_24 : decode cX12_leader 24 = .ok (.invokevirtual 284, 3) := by decide +kernel
theorem dX12_leader_27 : decode cX12_leader 27 = .ok (.istore_n 3, 1) := by decide +kernel
theorem dX12_leader_28 : decode cX12_leader 28 = .ok (.aload_n 0, 1) := by decide +kernel
theorem dX12_leader_29 : decode cX12_leader 29 = .ok (.getfield 43, 3) := by decide +kernel
theorem dX12_leader_32 : decode cX12_leader 32 = .ok (.iconst 5, 1) := by decide +kernel
theorem dX12_leader_33 : decode cX12_leader 33 = .ok (.iload_n 1, 1) := by decide +kernel
theorem dX12_leader_34 : decode cX12_leader 34 = .ok (.imul, 1) := by decide +kernel
theorem dX12_leader_35 : decode cX12_leader 35 = .ok (.iconst 3, 1) := by decide +kernel
theorem dX12_leader_36 : decode cX12_leader 36 = .ok (.iadd, 1) := by decide +kernel
theorem dX12_leader_37 : decode cX12_leader 37 = .ok (.iconst (-1), 1) := by decide +kernel
theorem dX12_leader_38 : decode cX12_leader 38 = .ok (.iastore, 1) := by decide +kernel
theorem dX12_leader_39 : decode cX12_leader 39 = .ok (.iconst (-1), 1) := by decide +kernel
theorem dX12_leader_40 : decode cX12_leader 40 = .ok (.istore 4, 2) := by decide +kernel
theorem dX12_leader_42 : decode cX12_leader 42 = .ok (.aload_n 0, 1) := by decide +kernel
theorem dX12_leader_43 : decode cX12_leader 43 = .ok (.invokevirtual 321, 3) := by decide +kernel
theorem dX12_leader_46 : decode cX12_leader 46 = .ok (.istore 5, 2) := by decide +kernel
theorem dX12_leader_48 : decode cX12_leader 48 = .ok (.iconst 0, 1) := by decide +kernel
theorem dX12_leader_49 : decode cX12_leader 49 = .ok (.istore 6, 2) := by decide +kernel
theorem dX12_leader_51 : decode cX12_leader 51 = .ok (.iload 6, 2) := by decide +kernel
theorem dX12_leader_53 : decode cX12_leader 53 = .ok (.aload_n 0, 1) := by decide +kernel
theorem dX12_leader_54 : decode cX12_leader 54 = .ok (.getfield 253, 3) := by decide +kernel
theorem dX12_leader_57 : decode cX12_leader 57 = .ok (.if_icmp .ge 58, 3) := by decide +kernel
theorem dX12_leader_60 : decode cX12_leader 60 = .ok (.iload 6, 2) := by decide +kernel
theorem dX12_leader_62 : decode cX12_leader 62 = .ok (.iload_n 1, 1) := by decide +kernel
theorem dX12_leader_63 : decode cX12_leader 63 = .ok (.if_icmp .eq 46, 3) := by decide +kernel
theorem dX12_leader_66 : decode cX12_leader 66 = .ok (.aload_n 0, 1) := by decide +kernel
theorem dX12_leader_67 : decode cX12_leader 67 = .ok (.getfield 43, 3) := by decide +kernel
theorem dX12_leader_70 : decode cX12_leader 70 = .ok (.iconst 5, 1) := by decide +kernel
theorem dX12_leader_71 : decode cX12_leader 71 = .ok (.iload_n 1, 1) := by decide +kernel
theorem dX12_leader_72 : decode cX12_leader 72 = .ok (.imul, 1) := by decide +kernel
theorem dX12_leader_73 : decode cX12_leader 73 = .ok (.iconst 3, 1) := by decide +kernel
theorem dX12_leader_74 : decode cX12_leader 74 = .ok (.iadd, 1) := by decide +kernel
theorem dX12_leader_75 : decode cX12_leader 75 = .ok (.iload 6, 2) := by decide +kernel
theorem dX12_leader_77 : decode cX12_leader 77 = .ok (.iastore, 1) := by decide +kernel
theorem dX12_leader_78 : decode cX12_leader 78 = .ok (.aload_n 0, 1) := by decide +kernel
theorem dX12_leader_79 : decode cX12_leader 79 = .ok (.invokevirtual 321, 3) := by decide +kernel
theorem dX12_leader_82 : decode cX12_leader 82 = .ok (.istore 7, 2) := by decide +kernel
theorem dX12_leader_84 : decode cX12_leader 84 = .ok (.iload 7, 2) := by decide +kernel
theorem dX12_leader_86 : decode cX12_leader 86 = .ok (.iload 5, 2) := by decide +kernel
theorem dX12_leader_88 : decode cX12_leader 88 = .ok (.if_icmp .ge 8, 3) := by decide +kernel
theorem dX12_leader_91 : decode cX12_leader 91 = .ok (.iload 6, 2) := by decide +kernel
theorem dX12_leader_93 : decode cX12_leader 93 = .ok (.goto 5, 3) := by decide +kernel
theorem dX12_leader_96 : decode cX12_leader 96 = .ok (.iload 4, 2) := by decide +kernel
theorem dX12_leader_98 : decode cX12_leader 98 = .ok (.istore 4, 2) := by decide +kernel
theorem dX12_leader_100 : decode cX12_leader 100 = .ok (.iload 5, 2) := by decide +kernel
theorem dX12_leader_102 : decode cX12_leader 102 = .ok (.iload 7, 2) := by decide +kernel
theorem dX12_leader_104 : decode cX12_leader 104 = .ok (.invokestatic 293, 3) := by decide +kernel
theorem dX12_leader_107 : decode cX12_leader 107 = .ok (.istore 5, 2) := by decide +kernel
theorem dX12_leader_109 : decode cX12_leader 109 = .ok (.iinc 6 1, 3) := by decide +kernel
theorem dX12_leader_112 : decode cX12_leader 112 = .ok (.goto (-61), 3) := by decide +kernel
theorem dX12_leader_115 : decode cX12_leader 115 = .ok (.aload_n 0, 1) := by decide +kernel
theorem dX12_leader_116 : decode cX12_leader 116 = .ok (.getfield 43, 3) := by decide +kernel
theorem dX12_leader_119 : decode cX12_leader 119 = .ok (.iconst 5, 1) := by decide +kernel
theorem dX12_leader_120 : decode cX12_leader 120 = .ok (.iload_n 1, 1) := by decide +kernel
theorem dX12_leader_121 : decode cX12_leader 121 = .ok (.imul, 1) := by decide +kernel
theorem dX12_leader_122 : decode cX12_leader 122 = .ok (.iconst 3, 1) := by decide +kernel
theorem dX12_leader_123 : decode cX12_leader 123 = .ok (.iadd, 1) := by decide +kernel
theorem dX12_leader_124 : decode cX12_leader 124 = .ok (.iload_n 3, 1) := by decide +kernel
theorem dX12_leader_125 : decode cX12_leader 125 = .ok (.iastore, 1) := by decide +kernel
theorem dX12_leader_126 : decode cX12_leader 126 = .ok (.iload_n 2, 1) := by decide +kernel
theorem dX12_leader_127 : decode cX12_leader 127 = .ok (.ifCond .ne 8, 3) := by decide +kernel
theorem dX12_leader_130 : decode cX12_leader 130 = .ok (.iload 4, 2) := by decide +kernel
theorem dX12_leader_132 : decode cX12_leader 132 = .ok (.goto 5, 3) := by decide +kernel
theorem dX12_leader_135 : decode cX12_leader 135 = .ok (.iload 5, 2) := by decide +kernel
theorem dX12_leader_137 : decode cX12_leader 137 = .ok (.ireturn, 1) := by decide +kernel
theorem dX12_marksFrom_0 : decode cX12_marksFrom 0 = .ok (.aload_n 0, 1) := by decide +kernel
theorem dX12_marksFrom_1 : decode cX12_marksFrom 1 = .ok (.getfield 80, 3) := by decide +kernel
theorem dX12_marksFrom_4 : decode cX12_marksFrom 4 = .ok (.iload_n 1, 1) := by decide +kernel
theorem dX12_marksFrom_5 : decode cX12_marksFrom 5 = .ok (.iconst (-1), 1) := by decide +kernel
theorem dX12_marksFrom_6 : decode cX12_marksFrom 6 = .ok (.iastore, 1) := by decide +kernel
theorem dX12_marksFrom_7 : decode cX12_marksFrom 7 = .ok (.iconst 0, 1) := by decide +kernel
theorem dX12_marksFrom_8 : decode cX12_marksFrom 8 = .ok (.istore_n 2, 1) := by decide +kernel
theorem dX12_marksFrom_9 : decode cX12_marksFrom 9 = .ok (.iload_n 2, 1) := by decide +kernel
theorem dX12_marksFrom_10 : decode cX12_marksFrom 10 = .ok (.aload_n 0, 1) := by decide +kernel
theorem dX12_marksFrom_11 : decode cX12_marksFrom 11 = .ok (.getfield 253, 3) := by decide +kernel
theorem dX12_marksFrom_14 : decode cX12_marksFrom 14 = .ok (.if_icmp .ge 16, 3) := by decide +kernel
theorem dX12_marksFrom_17 : decode cX12_marksFrom 17 = .ok (.aload_n 0, 1) := by decide +kernel
theorem dX12_marksFrom_18 : decode cX12_marksFrom 18 = .ok (.getfield 86, 3) := by decide +kernel
theorem dX12_marksFrom_21 : decode cX12_marksFrom 21 = .ok (.iload_n 2, 1) := by decide +kernel
theorem dX12_marksFrom_22 : decode cX12_marksFrom 22 = .ok (.iconst 0, 1) := by decide +kernel
theorem dX12_marksFrom_23 : decode cX12_marksFrom 23 = .ok (.iastore, 1) := by decide +kernel
theorem dX12_marksFrom_24 : decode cX12_marksFrom 24 = .ok (.iinc 2 1, 3) := by decide +kernel
theorem dX12_marksFrom_27 : decode cX12_marksFrom 27 = .ok (.goto (-18), 3) := by decide +kernel
theorem dX12_marksFrom_30 : decode cX12_marksFrom 30 = .ok (.iload_n 1, 1) := by decide +kernel
theorem dX12_marksFrom_31 : decode cX12_marksFrom 31 = .ok (.istore_n 2, 1) := by decide +kernel
theorem dX12_marksFrom_32 : decode cX12_marksFrom 32 = .ok (.iload_n 2, 1) := by decide +kernel
theorem dX12_marksFrom_33 : decode cX12_marksFrom 33 = .ok (.aload_n 0, 1) := by decide +kernel
theorem dX12_marksFrom_34 : decode cX12_marksFrom 34 = .ok (.getfield 56, 3) := by decide +kernel
theorem dX12_marksFrom_37 : decode cX12_marksFrom 37 = .ok (.if_icmp .ge 250, 3) := by decide +kernel
theorem dX12_marksFrom_40 : decode cX12_marksFrom 40 = .ok (.iconst 0, 1) := by decide +kernel
theorem dX12_marksFrom_41 : decode cX12_marksFrom 41 = .ok (.istore_n 3, 1) := by decide +kernel
theorem dX12_marksFrom_42 : decode cX12_marksFrom 42 = .ok (.iconst 0, 1) := by decide +kernel
theorem dX12_marksFrom_43 : decode cX12_marksFrom 43 = .ok (.istore 4, 2) := by decide +kernel
theorem dX12_marksFrom_45 : decode cX12_marksFrom 45 = .ok (.iconst 0, 1) := by decide +kernel
theorem dX12_marksFrom_46 : decode cX12_marksFrom 46 = .ok (.istore 5, 2) := by decide +kernel
theorem dX12_marksFrom_48 : decode cX12_marksFrom 48 = .ok (.iload 5, 2) := by decide +kernel
theorem dX12_marksFrom_50 : decode cX12_marksFrom 50 = .ok (.aload_n 0, 1) := by decide +kernel
theorem dX12_marksFrom_51 : decode cX12_marksFrom 51 = .ok (.getfield 253, 3) := by decide +kernel
theorem dX12_marksFrom_54 : decode cX12_marksFrom 54 = .ok (.if_icmp .ge 80, 3) := by decide +kernel
theorem dX12_marksFrom_57 : decode cX12_marksFrom 57 = .ok (.aload_n 0, 1) := by decide +kernel
theorem dX12_marksFrom_58 : decode cX12_marksFrom 58 = .ok (.getfield 86, 3) := by decide +kernel
theorem dX12_marksFrom_61 : decode cX12_marksFrom 61 = .ok (.iload 5, 2) := by decide +kernel
theorem dX12_marksFrom_63 : decode cX12_marksFrom 63 = .ok (.dup2, 1) := by decide +kernel
theorem dX12_marksFrom_64 : decode cX12_marksFrom 64 = .ok (.iaload, 1) := by decide +kernel
theorem dX12_marksFrom_65 : decode cX12_marksFrom 65 = .ok (.aload_n 0, 1) := by decide +kernel
theorem dX12_marksFrom_66 : decode cX12_marksFrom 66 = .ok (.getfield 65, 3) := by decide +kernel
theorem dX12_marksFrom_69 : decode cX12_marksFrom 69 = .ok (.bipush 6, 2) := by decide +kernel
theorem dX12_marksFrom_71 : decode cX12_marksFrom 71 = .ok (.iload_n 2, 1) := by decide +kernel
theorem dX12_marksFrom_72 : decode cX12_marksFrom 72 = .ok (.imul, 1) := by decide +kernel
theorem dX12_marksFrom_73 : decode cX12_marksFrom 73 = .ok (.iload 5, 2) := by decide +kernel
theorem dX12_marksFrom_75 : decode cX12_marksFrom 75 = .ok (.iadd, 1) := by decide +kernel
theorem dX12_marksFrom_76 : decode cX12_marksFrom 76 = .ok (.iaload, 1) := by decide +kernel
theorem dX12_marksFrom_77 : decode cX12_marksFrom 77 = .ok (.aload_n 0, 1) := by decide +kernel
theorem dX12_marksFrom_78 : decode cX12_marksFrom 78 = .ok (.getfield 49, 3) := by decide +kernel
theorem dX12_marksFrom_81 : decode cX12_marksFrom 81 = .ok (.iload 5, 2) := by decide +kernel
theorem dX12_marksFrom_83 : decode cX12_marksFrom 83 = .ok (.iaload, 1) := by decide +kernel
theorem dX12_marksFrom_84 : decode cX12_marksFrom 84 = .ok (.iadd, 1) := by decide +kernel
theorem dX12_marksFrom_85 : decode cX12_marksFrom 85 = .ok (.iadd, 1) := by decide +kernel
theorem dX12_marksFrom_86 : decode cX12_marksFrom 86 = .ok (.iastore, 1) := by decide +kernel
theorem dX12_marksFrom_87 : decode cX12_marksFrom 87 = .ok (.iload 5, 2) := by decide +kernel
theorem dX12_marksFrom_89 : decode cX12_marksFrom 89 = .ok (.ifCond .ne 13, 3) := by decide +kernel
theorem dX12_marksFrom_92 : decode cX12_marksFrom 92 = .ok (.aload_n 0, 1) := by decide +kernel
theorem dX12_marksFrom_93 : decode cX12_marksFrom 93 = .ok (.getfield 86, 3) := by decide +kernel
theorem dX12_marksFrom_96 : decode cX12_marksFrom 96 = .ok (.iload 5, 2) := by decide +kernel
theorem dX12_marksFrom_98 : decode cX12_marksFrom 98 = .ok (.iaload, 1) := by decide +kernel
theorem dX12_marksFrom_99 : decode cX12_marksFrom 99 = .ok (.goto 14, 3) := by decide +kernel
theorem dX12_marksFrom_102 : decode cX12_marksFrom 102 = .ok (.iload_n 3, 1) := by decide +kernel
theorem dX12_marksFrom_103 : decode cX12_marksFrom 103 = .ok (.aload_n 0, 1) := by decide +kernel
theorem dX12_marksFrom_104 : decode cX12_marksFrom 104 = .ok (.getfield 86, 3) := by decide +kernel
theorem dX12_marksFrom_107 : decode cX12_marksFrom 107 = .ok (.iload 5, 2) := by decide +kernel
theorem dX12_marksFrom_109 : decode cX12_marksFrom 109 = .ok (.iaload, 1) := by decide +kernel
theorem dX12_marksFrom_110 : decode cX12_marksFrom 110 = .ok (.invokestatic 293, 3) := by decide +kernel
theorem dX12_marksFrom_113 : decode cX12_marksFrom 113 = .ok (.istore_n 3, 1) := by decide +kernel
theorem dX12_marksFrom_114 : decode cX12_marksFrom 114 = .ok (.iload 4, 2) := by decide +kernel
theorem dX12_marksFrom_116 : decode cX12_marksFrom 116 = .ok (.aload_n 0, 1) := by decide +kernel
theorem dX12_marksFrom_117 : decode cX12_marksFrom 117 = .ok (.getfield 86, 3) := by decide +kernel
theorem dX12_marksFrom_120 : decode cX12_marksFrom 120 = .ok (.iload 5, 2) := by decide +kernel
theorem dX12_marksFrom_122 : decode cX12_marksFrom 122 = .ok (.iaload, 1) := by decide +kernel
theorem dX12_marksFrom_123 : decode cX12_marksFrom 123 = .ok (.invokestatic 295, 3) := by decide +kernel
theorem dX12_marksFrom_126 : decode cX12_marksFrom 126 = .ok (.istore 4, 2) := by decide +kernel
theorem dX12_marksFrom_128 : decode cX12_marksFrom 128 = .ok (.iinc 5 1, 3) := by decide +kernel
theorem dX12_marksFrom_131 : decode cX12_marksFrom 131 = .ok (.goto (-83), 3) := by decide +kernel
theorem dX12_marksFrom_134 : decode cX12_marksFrom 134 = .ok (.iload 4, 2) := by decide +kernel
theorem dX12_marksFrom_136 : decode cX12_marksFrom 136 = .ok (.iload_n 3, 1) := by decide +kernel
theorem dX12_marksFrom_137 : decode cX12_marksFrom 137 = .ok (.isub, 1) := by decide +kernel
theorem dX12_marksFrom_138 : decode cX12_marksFrom 138 = .ok (.aload_n 0, 1) := by decide +kernel
theorem dX12_marksFrom_139 : decode cX12_marksFrom 139 = .ok (.getfield 59, 3) := by decide +kernel
theorem dX12_marksFrom_142 : decode cX12_marksFrom 142 = .ok (.if_icmp .le 4, 3) := by decide +kernel
theorem dX12_marksFrom_145 : decode cX12_marksFrom 145 = .ok (.return_, 1) := by decide +kernel
theorem dX12_marksFrom_146 : decode cX12_marksFrom 146 = .ok (.iload_n 2, 1) := by decide +kernel
theorem dX12_marksFrom_147 : decode cX12_marksFrom 147 = .ok (.aload_n 0, 1) := by decide +kernel
theorem dX12_marksFrom_148 : decode cX12_marksFrom 148 = .ok (.getfield 56, 3) := by decide +kernel
theorem dX12_marksFrom_151 : decode cX12_marksFrom 151 = .ok (.iconst 1, 1) := by decide +kernel
theorem dX12_marksFrom_152 : decode cX12_marksFrom 152 = .ok (.isub, 1) := by decide +kernel
theorem dX12_marksFrom_153 : decode cX12_marksFrom 153 = .ok (.if_icmp .ne 7, 3) := by decide +kernel
theorem dX12_marksFrom_156 : decode cX12_marksFrom 156 = .ok (.iconst 0, 1) := by decide +kernel
theorem dX12_marksFrom_157 : decode cX12_marksFrom 157 = .ok (.goto 29, 3) := by decide +kernel
theorem dX12_marksFrom_160 : decode cX12_marksFrom 160 = .ok (.aload_n 0, 1) := by decide +kernel
theorem dX12_marksFrom_161 : decode cX12_marksFrom 161 = .ok (.getfield 80, 3) := by decide +kernel
theorem dX12_marksFrom_164 : decode cX12_marksFrom 164 = .ok (.iload_n 2, 1) := by decide +kernel
theorem dX12_marksFrom_165 : decode cX12_marksFrom 165 = .ok (.iconst 1, 1) := by decide +kernel
theorem dX12_marksFrom_166 : decode cX12_marksFrom 166 = .ok (.iadd, 1) := by decide +kernel
theorem dX12_marksFrom_167 : decode cX12_marksFrom 167 = .ok (.iaload, 1) := by decide +kernel
theorem dX12_marksFrom_168 : decode cX12_marksFrom 168 = .ok (.iconst (-1), 1) := by decide +kernel
theorem dX12_marksFrom_169 : decode cX12_marksFrom 169 = .ok (.if_icmp .ne 7, 3) := by decide +kernel
theorem dX12_marksFrom_172 : decode cX12_marksFrom 172 = .ok (.iconst (-1), 1) := by decide +kernel
theorem dX12_marksFrom_173 : decode cX12_marksFrom 173 = .ok (.goto 13, 3) := by decide +kernel
theorem dX12_marksFrom_176 : decode cX12_marksFrom 176 = .ok (.aload_n 0, 1) := by decide +kernel
theorem dX12_marksFrom_177 : decode cX12_marksFrom 177 = .ok (.getfield 80, 3) := by decide +kernel
theorem dX12_marksFrom_180 : decode cX12_marksFrom 180 = .ok (.iload_n 2, 1) := by decide +kernel
theorem dX12_marksFrom_181 : decode cX12_marksFrom 181 = .ok (.iconst 1, 1) := by decide +kernel
theorem dX12_marksFrom_182 : decode cX12_marksFrom 182 = .ok (.iadd, 1) := by decide +kernel
theorem dX12_marksFrom_183 : decode cX12_marksFrom 183 = .ok (.iaload, 1) := by decide +kernel
theorem dX12_marksFrom_184 : decode cX12_marksFrom 184 = .ok (.iconst 1, 1) := by decide +kernel
theorem dX12_marksFrom_185 : decode cX12_marksFrom 185 = .ok (.iadd, 1) := by decide +kernel
theorem dX12_marksFrom_186 : decode cX12_marksFrom 186 = .ok (.istore 5, 2) := by decide +kernel
theorem dX12_marksFrom_188 : decode cX12_marksFrom 188 = .ok (.iload_n 2, 1) := by decide +kernel
theorem dX12_marksFrom_189 : decode cX12_marksFrom 189 = .ok (.aload_n 0, 1) := by decide +kernel
theorem dX12_marksFrom_190 : decode cX12_marksFrom 190 = .ok (.getfield 56, 3) := by decide +kernel
theorem dX12_marksFrom_193 : decode cX12_marksFrom 193 = .ok (.iconst 1, 1) := by decide +kernel
theorem dX12_marksFrom_194 : decode cX12_marksFrom 194 = .ok (.isub, 1) := by decide +kernel
theorem dX12_marksFrom_195 : decode cX12_marksFrom 195 = .ok (.if_icmp .ne 7, 3) := by decide +kernel
theorem dX12_marksFrom_198 : decode cX12_marksFrom 198 = .ok (.iconst 0, 1) := by decide +kernel
theorem dX12_marksFrom_199 : decode cX12_marksFrom 199 = .ok (.goto 15, 3) := by decide +kernel
theorem dX12_marksFrom_202 : decode cX12_marksFrom 202 = .ok (.aload_n 0, 1) := by decide +kernel
theorem dX12_marksFrom_203 : decode cX12_marksFrom 203 = .ok (.getfield 83, 3) := by decide +kernel
theorem dX12_marksFrom_206 : decode cX12_marksFrom 206 = .ok (.iload_n 2, 1) := by decide +kernel
theorem dX12_marksFrom_207 : decode cX12_marksFrom 207 = .ok (.iconst 1, 1) := by decide +kernel
theorem dX12_marksFrom_208 : decode cX12_marksFrom 208 = .ok (.iadd, 1) := by decide +kernel
theorem dX12_marksFrom_209 : decode cX12_marksFrom 209 = .ok (.iaload, 1) := by decide +kernel
theorem dX12_marksFrom_210 : decode cX12_marksFrom 210 = .ok (.iconst 1, 1) := by decide +kernel
theorem dX12_marksFrom_211 : decode cX12_marksFrom 211 = .ok (.iload_n 2, 1) := by decide +kernel
theorem dX12_marksFrom_212 : decode cX12_marksFrom 212 = .ok (.ishl, 1) := by decide +kernel
theorem dX12_marksFrom_213 : decode cX12_marksFrom 213 = .ok (.ior, 1) := by decide +kernel
theorem dX12_marksFrom_214 : decode cX12_marksFrom 214 = .ok (.istore 6, 2) := by decide +kernel
theorem dX12_marksFrom_216 : decode cX12_marksFrom 216 = .ok (.iload 5, 2) := by decide +kernel
theorem dX12_marksFrom_218 : decode cX12_marksFrom 218 = .ok (.iconst (-1), 1) := by decide +kernel
theorem dX12_marksFrom_219 : decode cX12_marksFrom 219 = .ok (.if_icmp .eq 62, 3) := by decide +kernel
theorem dX12_marksFrom_222 : decode cX12_marksFrom 222 = .ok (.aload_n 0, 1) := by decide +kernel
theorem dX12_marksFrom_223 : decode cX12_marksFrom 223 = .ok (.getfield 80, 3) := by decide +kernel
theorem dX12_marksFrom_226 : decode cX12_marksFrom 226 = .ok (.iload_n 1, 1) := by decide +kernel
theorem dX12_marksFrom_227 : decode cX12_marksFrom 227 = .ok (.iaload, 1) := by decide +kernel
theorem dX12_marksFrom_228 : decode cX12_marksFrom 228 = .ok (.iconst (-1), 1) := by decide +kernel
theorem dX12_marksFrom_229 : decode cX12_marksFrom 229 = .ok (.if_icmp .eq 36, 3) := by decide +kernel
theorem dX12_marksFrom_232 : decode cX12_marksFrom 232 = .ok (.iload 5, 2) := by decide +kernel
theorem dX12_marksFrom_234 : decode cX12_marksFrom 234 = .ok (.aload_n 0, 1) := by decide +kernel
theorem dX12_marksFrom_235 : decode cX12_marksFrom 235 = .ok (.getfield 80, 3) := by decide +kernel
theorem dX12_marksFrom_238 : decode cX12_marksFrom 238 = .ok (.iload_n 1, 1) := by decide +kernel
theorem dX12_marksFrom_239 : decode cX12_marksFrom 239 = .ok (.iaload, 1) := by decide +kernel
theorem dX12_marksFrom_240 : decode cX12_marksFrom 240 = .ok (.if_icmp .lt 25, 3) := by decide +kernel
theorem dX12_marksFrom_243 : decode cX12_marksFrom 243 = .ok (.iload 5, 2) := by decide +kernel
theorem dX12_marksFrom_245 : decode cX12_marksFrom 245 = .ok (.aload_n 0, 1) := by decide +kernel
theorem dX12_marksFrom_246 : decode cX12_marksFrom 246 = .ok (.getfield 80, 3) := by decide +kernel
theorem dX12_marksFrom_249 : decode cX12_marksFrom 249 = .ok (.iload_n 1, 1) := by decide +kernel
theorem dX12_marksFrom_250 : decode cX12_marksFrom 250 = .ok (.iaload, 1) := by decide +kernel
theorem dX12_marksFrom_251 : decode cX12_marksFrom 251 = .ok (.if_icmp .ne 30, 3) := by decide +kernel
theorem dX12_marksFrom_254 : decode cX12_marksFrom 254 = .ok (.iload 6, 2) := by decide +kernel
theorem dX12_marksFrom_256 : decode cX12_marksFrom 256 = .ok (.aload_n 0, 1) := by decide +kernel
theorem dX12_marksFrom_257 : decode cX12_marksFrom 257 = .ok (.getfield 83, 3) := by decide +kernel
theorem dX12_marksFrom_260 : decode cX12_marksFrom 260 = .ok (.iload_n 1, 1) := by decide +kernel
theorem dX12_marksFrom_261 : decode cX12_marksFrom 261 = .ok (.iaload, 1) := by decide +kernel
theorem dX12_marksFrom_262 : decode cX12_marksFrom 262 = .ok (.if_icmp .ge 19, 3) := by decide +kernel
theorem dX12_marksFrom_265 : decode cX12_marksFrom 265 = .ok (.aload_n 0, 1) := by decide +kernel
theorem dX12_marksFrom_266 : decode cX12_marksFrom 266 = .ok (.getfield 80, 3) := by decide +kernel
theorem dX12_marksFrom_269 : decode cX12_marksFrom 269 = .ok (.iload_n 1, 1) := by decide +kernel
theorem dX12_marksFrom_270 : decode cX12_marksFrom 270 = .ok (.iload 5, 2) := by decide +kernel
theorem dX12_marksFrom_272 : decode cX12_marksFrom 272 = .ok (.iastore, 1) := by decide +kernel
theorem dX12_marksFrom_273 : decode cX12_marksFrom 273 = .ok (.aload_n 0, 1) := by decide +kernel
theorem dX12_marksFrom_274 : decode cX12_marksFrom 274 = .ok (.getfield 83, 3) := by decide +kernel
theorem dX12_marksFrom_277 : decode cX12_marksFrom 277 = .ok (.iload_n 1, 1) := by decide +kernel
theorem dX12_marksFrom_278 : decode cX12_marksFrom 278 = .ok (.iload 6, 2) := by decide +kernel
theorem dX12_marksFrom_280 : decode cX12_marksFrom 280 = .ok (.iastore, 1) := by decide +kernel
theorem dX12_marksFrom_281 : decode cX12_marksFrom 281 = .ok (.iinc 2 1, 3) := by decide +kernel
theorem dX12_marksFrom_284 : decode cX12_marksFrom 284 = .ok (.goto (-252), 3) := by decide +kernel
theorem dX12_marksFrom_287 : decode cX12_marksFrom 287 = .ok (.return_, 1) := by decide +kernel
theorem dX12_marks_0 : decode cX12_marks 0 = .ok (.aload_n 0, 1) := by decide +kernel
theorem dX12_marks_1 : decode cX12_marks 1 = .ok (.getfield 253, 3) := by decide +kernel
theorem dX12_marks_4 : decode cX12_marks 4 = .ok (.ifCond .eq 12, 3) := by decide +kernel
theorem dX12_marks_7 : decode cX12_marks 7 = .ok (.iload_n 1, 1) := by decide +kernel
theorem dX12_marks_8 : decode cX12_marks 8 = .ok (.iconst 0, 1) := by decide +kernel
theorem dX12_marks_9 : decode cX12_marks 9 = .ok (.iconst 1, 1) := by decide +kernel
theorem dX12_marks_10 : decode cX12_marks 10 = .ok (.invokestatic 216, 3) := by decide +kernel
theorem dX12_marks_13 : decode cX12_marks 13 = .ok (.ifCond .ne 5, 3) := by decide +kernel
theorem dX12_marks_16 : decode cX12_marks 16 = .ok (.iconst (-1), 1) := by decide +kernel
theorem dX12_marks_17 : decode cX12_marks 17 = .ok (.ireturn, 1) := by decide +kernel
theorem dX12_marks_18 : decode cX12_marks 18 = .ok (.aload_n 0, 1) := by decide +kernel
theorem dX12_marks_19 : decode cX12_marks 19 = .ok (.aload_n 0, 1) := by decide +kernel
theorem dX12_marks_20 : decode cX12_marks 20 = .ok (.getfield 56, 3) := by decide +kernel
theorem dX12_marks_23 : decode cX12_marks 23 = .ok (.invokevirtual 306, 3) := by decide +kernel
theorem dX12_marks_26 : decode cX12_marks 26 = .ok (.aload_n 0, 1) := by decide +kernel
theorem dX12_marks_27 : decode cX12_marks 27 = .ok (.getfield 56, 3) := by decide +kernel
theorem dX12_marks_30 : decode cX12_marks 30 = .ok (.iconst 1, 1) := by decide +kernel
theorem dX12_marks_31 : decode cX12_marks 31 = .ok (.isub, 1) := by decide +kernel
theorem dX12_marks_32 : decode cX12_marks 32 = .ok (.istore_n 2, 1) := by decide +kernel
theorem dX12_marks_33 : decode cX12_marks 33 = .ok (.iload_n 2, 1) := by decide +kernel
theorem dX12_marks_34 : decode cX12_marks 34 = .ok (.ifCond .lt 14, 3) := by decide +kernel
theorem dX12_marks_37 : decode cX12_marks 37 = .ok (.aload_n 0, 1) := by decide +kernel
theorem dX12_marks_38 : decode cX12_marks 38 = .ok (.iload_n 2, 1) := by decide +kernel
theorem dX12_marks_39 : decode cX12_marks 39 = .ok (.invokevirtual 346, 3) := by decide +kernel
theorem dX12_marks_42 : decode cX12_marks 42 = .ok (.iinc 2 (-1), 3) := by decide +kernel
theorem dX12_marks_45 : decode cX12_marks 45 = .ok (.goto (-12), 3) := by decide +kernel
theorem dX12_marks_48 : decode cX12_marks 48 = .ok (.aload_n 0, 1) := by decide +kernel
theorem dX12_marks_49 : decode cX12_marks 49 = .ok (.getfield 80, 3) := by decide +kernel
theorem dX12_marks_52 : decode cX12_marks 52 = .ok (.iconst 0, 1) := by decide +kernel
theorem dX12_marks_53 : decode cX12_marks 53 = .ok (.iaload, 1) := by decide +kernel
theorem dX12_marks_54 : decode cX12_marks 54 = .ok (.iconst (-1), 1) := by decide +kernel
theorem dX12_marks_55 : decode cX12_marks 55 = .ok (.if_icmp .ne 7, 3) := by decide +kernel
theorem dX12_marks_58 : decode cX12_marks 58 = .ok (.iconst (-1), 1) := by decide +kernel
theorem dX12_marks_59 : decode cX12_marks 59 = .ok (.goto 22, 3) := by decide +kernel
theorem dX12_marks_62 : decode cX12_marks 62 = .ok (.iload_n 1, 1) := by decide +kernel
theorem dX12_marks_63 : decode cX12_marks 63 = .ok (.ifCond .ne 12, 3) := by decide +kernel
theorem dX12_marks_66 : decode cX12_marks 66 = .ok (.aload_n 0, 1) := by decide +kernel
theorem dX12_marks_67 : decode cX12_marks 67 = .ok (.getfield 80, 3) := by decide +kernel
theorem dX12_marks_70 : decode cX12_marks 70 = .ok (.iconst 0, 1) := by decide +kernel
theorem dX12_marks_71 : decode cX12_marks 71 = .ok (.iaload, 1) := by decide +kernel
theorem dX12_marks_72 : decode cX12_marks 72 = .ok (.goto 9, 3) := by decide +kernel
theorem dX12_marks_75 : decode cX12_marks 75 = .ok (.aload_n 0, 1) := by decide +kernel
theorem dX12_marks_76 : decode cX12_marks 76 = .ok (.getfield 83, 3) := by decide +kernel
theorem dX12_marks_79 : decode cX12_marks 79 = .ok (.iconst 0, 1) := by decide +kernel
theorem dX12_marks_80 : decode cX12_marks 80 = .ok (.iaload, 1) := by decide +kernel
theorem dX12_marks_81 : decode cX12_marks 81 = .ok (.ireturn, 1) := by decide +kernel
theorem dX12_oddsFrom_0 : decode cX12_oddsFrom 0 = .ok (.iload_n 1, 1) := by decide +kernel
theorem dX12_oddsFrom_1 : decode cX12_oddsFrom 1 = .ok (.iload_n 2, 1) := by decide +kernel
theorem dX12_oddsFrom_2 : decode cX12_oddsFrom 2 = .ok (.if_icmp .ne 27, 3) := by decide +kernel
theorem dX12_oddsFrom_5 : decode cX12_oddsFrom 5 = .ok (.aload_n 0, 1) := by decide +kernel
theorem dX12_oddsFrom_6 : decode cX12_oddsFrom 6 = .ok (.invokevirtual 312, 3) := by decide +kernel
theorem dX12_oddsFrom_9 : decode cX12_oddsFrom 9 = .ok (.aload_n 0, 1) := by decide +kernel
theorem dX12_oddsFrom_10 : decode cX12_oddsFrom 10 = .ok (.aload_n 0, 1) := by decide +kernel
theorem dX12_oddsFrom_11 : decode cX12_oddsFrom 11 = .ok (.getfield 56, 3) := by decide +kernel
theorem dX12_oddsFrom_14 : decode cX12_oddsFrom 14 = .ok (.iconst 1, 1) := by decide +kernel
theorem dX12_oddsFrom_15 : decode cX12_oddsFrom 15 = .ok (.isub, 1) := by decide +kernel
theorem dX12_oddsFrom_16 : decode cX12_oddsFrom 16 = .ok (.invokevirtual 324, 3) := by decide +kernel
theorem dX12_oddsFrom_19 : decode cX12_oddsFrom 19 = .ok (.iload_n 3, 1) := by decide +kernel
theorem dX12_oddsFrom_20 : decode cX12_oddsFrom 20 = .ok (.if_icmp .ne 7, 3) := by decide +kernel
theorem dX12_oddsFrom_23 : decode cX12_oddsFrom 23 = .ok (.iconst 1, 1) := by decide +kernel
theorem dX12_oddsFrom_24 : decode cX12_oddsFrom 24 = .ok (.goto 4, 3) := by decide +kernel
theorem dX12_oddsFrom_27 : decode cX12_oddsFrom 27 = .ok (.iconst 0, 1) := by decide +kernel
theorem dX12_oddsFrom_28 : decode cX12_oddsFrom 28 = .ok (.ireturn, 1) := by decide +kernel
theorem dX12_oddsFrom_29 : decode cX12_oddsFrom 29 = .ok (.aload_n 0, 1) := by decide +kernel
theorem dX12_oddsFrom_30 : decode cX12_oddsFrom 30 = .ok (.iload_n 1, 1) := by decide +kernel
theorem dX12_oddsFrom_31 : decode cX12_oddsFrom 31 = .ok (.invokevirtual 336, 3) := by decide +kernel
theorem dX12_oddsFrom_34 : decode cX12_oddsFrom 34 = .ok (.iconst 0, 1) := by decide +kernel
theorem dX12_oddsFrom_35 : decode cX12_oddsFrom 35 = .ok (.istore 4, 2) := by decide +kernel
theorem dX12_oddsFrom_37 : decode cX12_oddsFrom 37 = .ok (.iconst 0, 1) := by decide +kernel
theorem dX12_oddsFrom_38 : decode cX12_oddsFrom 38 = .ok (.istore 5, 2) := by decide +kernel
theorem dX12_oddsFrom_40 : decode cX12_oddsFrom 40 = .ok (.iload 5, 2) := by decide +kernel
theorem dX12_oddsFrom_42 : decode cX12_oddsFrom 42 = .ok (.iconst 3, 1) := by decide +kernel
theorem dX12_oddsFrom_43 : decode cX12_oddsFrom 43 = .ok (.if_icmp .ge 35, 3) := by decide +kernel
theorem dX12_oddsFrom_46 : decode cX12_oddsFrom 46 = .ok (.aload_n 0, 1) := by decide +kernel
theorem dX12_oddsFrom_47 : decode cX12_oddsFrom 47 = .ok (.iconst (-1), 1) := by decide +kernel
theorem dX12_oddsFrom_48 : decode cX12_oddsFrom 48 = .ok (.iload 5, 2) := by decide +kernel
theorem dX12_oddsFrom_50 : decode cX12_oddsFrom 50 = .ok (.invokevirtual 300, 3) := by decide +kernel
theorem dX12_oddsFrom_53 : decode cX12_oddsFrom 53 = .ok (.iload 4, 2) := by decide +kernel
theorem dX12_oddsFrom_55 : decode cX12_oddsFrom 55 = .ok (.aload_n 0, 1) := by decide +kernel
theorem dX12_oddsFrom_56 : decode cX12_oddsFrom 56 = .ok (.iload_n 1, 1) := by decide +kernel
theorem dX12_oddsFrom_57 : decode cX12_oddsFrom 57 = .ok (.iconst 1, 1) := by decide +kernel
theorem dX12_oddsFrom_58 : decode cX12_oddsFrom 58 = .ok (.iadd, 1) := by decide +kernel
theorem dX12_oddsFrom_59 : decode cX12_oddsFrom 59 = .ok (.iload_n 2, 1) := by decide +kernel
