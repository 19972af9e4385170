theorem dX12_compare_25 : decode cX12_compare 25 = .ok (.invokevirtual 127, 3) := by decide +kernel
theorem dX12_compare_28 : decode cX12_compare 28 = .ok (.return_, 1) := by decide +kernel
theorem dX12_compare_29 : decode cX12_compare 29 = .ok (.aload_n 0, 1) := by decide +kernel
theorem dX12_compare_30 : decode cX12_compare 30 = .ok (.dup, 1) := by decide +kernel
theorem dX12_compare_31 : decode cX12_compare 31 = .ok (.getfield 111, 3) := by decide +kernel
theorem dX12_compare_34 : decode cX12_compare 34 = .ok (.iconst 1, 1) := by decide +kernel
theorem dX12_compare_35 : decode cX12_compare 35 = .ok (.iadd, 1) := by decide +kernel
theorem dX12_compare_36 : decode cX12_compare 36 = .ok (.putfield 111, 3) := by decide +kernel
theorem dX12_compare_39 : decode cX12_compare 39 = .ok (.aload_n 0, 1) := by decide +kernel
theorem dX12_compare_40 : decode cX12_compare 40 = .ok (.invokevirtual 151, 3) := by decide +kernel
theorem dX12_compare_43 : decode cX12_compare 43 = .ok (.aload_n 0, 1) := by decide +kernel
theorem dX12_compare_44 : decode cX12_compare 44 = .ok (.iload_n 1, 1) := by decide +kernel
theorem dX12_compare_45 : decode cX12_compare 45 = .ok (.bipush 61, 2) := by decide +kernel
theorem dX12_compare_47 : decode cX12_compare 47 = .ok (.if_icmp .ne 8, 3) := by decide +kernel
theorem dX12_compare_50 : decode cX12_compare 50 = .ok (.bipush 6, 2) := by decide +kernel
theorem dX12_compare_52 : decode cX12_compare 52 = .ok (.goto 16, 3) := by decide +kernel
theorem dX12_compare_55 : decode cX12_compare 55 = .ok (.iload_n 1, 1) := by decide +kernel
theorem dX12_compare_56 : decode cX12_compare 56 = .ok (.bipush 60, 2) := by decide +kernel
theorem dX12_compare_58 : decode cX12_compare 58 = .ok (.if_icmp .ne 8, 3) := by decide +kernel
theorem dX12_compare_61 : decode cX12_compare 61 = .ok (.bipush 7, 2) := by decide +kernel
theorem dX12_compare_63 : decode cX12_compare 63 = .ok (.goto 5, 3) := by decide +kernel
theorem dX12_compare_66 : decode cX12_compare 66 = .ok (.bipush 8, 2) := by decide +kernel
theorem dX12_compare_68 : decode cX12_compare 68 = .ok (.iconst 0, 1) := by decide +kernel
theorem dX12_compare_69 : decode cX12_compare 69 = .ok (.invokevirtual 140, 3) := by decide +kernel
theorem dX12_compare_72 : decode cX12_compare 72 = .ok (.return_, 1) := by decide +kernel
theorem dX12_unit_0 : decode cX12_unit 0 = .ok (.aload_n 0, 1) := by decide +kernel
theorem dX12_unit_1 : decode cX12_unit 1 = .ok (.invokevirtual 130, 3) := by decide +kernel
theorem dX12_unit_4 : decode cX12_unit 4 = .ok (.istore_n 1, 1) := by decide +kernel
theorem dX12_unit_5 : decode cX12_unit 5 = .ok (.iload_n 1, 1) := by decide +kernel
theorem dX12_unit_6 : decode cX12_unit 6 = .ok (.bipush 33, 2) := by decide +kernel
theorem dX12_unit_8 : decode cX12_unit 8 = .ok (.if_icmp .ne 39, 3) := by decide +kernel
theorem dX12_unit_11 : decode cX12_unit 11 = .ok (.aload_n 0, 1) := by decide +kernel
theorem dX12_unit_12 : decode cX12_unit 12 = .ok (.invokevirtual 148, 3) := by decide +kernel
theorem dX12_unit_15 : decode cX12_unit 15 = .ok (.aload_n 0, 1) := by decide +kernel
theorem dX12_unit_16 : decode cX12_unit 16 = .ok (.getfield 118, 3) := by decide +kernel
theorem dX12_unit_19 : decode cX12_unit 19 = .ok (.iconst (-1), 1) := by decide +kernel
theorem dX12_unit_20 : decode cX12_unit 20 = .ok (.if_icmp .ne 74, 3) := by decide +kernel
theorem dX12_unit_23 : decode cX12_unit 23 = .ok (.aload_n 0, 1) := by decide +kernel
theorem dX12_unit_24 : decode cX12_unit 24 = .ok (.invokevirtual 167, 3) := by decide +kernel
theorem dX12_unit_27 : decode cX12_unit 27 = .ok (.aload_n 0, 1) := by decide +kernel
theorem dX12_unit_28 : decode cX12_unit 28 = .ok (.bipush 9, 2) := by decide +kernel
theorem dX12_unit_30 : decode cX12_unit 30 = .ok (.iconst 0, 1) := by decide +kernel
theorem dX12_unit_31 : decode cX12_unit 31 = .ok (.invokevirtual 140, 3) := by decide +kernel
theorem dX12_unit_34 : decode cX12_unit 34 = .ok (.aload_n 0, 1) := by decide +kernel
theorem dX12_unit_35 : decode cX12_unit 35 = .ok (.dup, 1) := by decide +kernel
theorem dX12_unit_36 : decode cX12_unit 36 = .ok (.getfield 124, 3) := by decide +kernel
theorem dX12_unit_39 : decode cX12_unit 39 = .ok (.iconst 1, 1) := by decide +kernel
theorem dX12_unit_40 : decode cX12_unit 40 = .ok (.isub, 1) := by decide +kernel
theorem dX12_unit_41 : decode cX12_unit 41 = .ok (.putfield 124, 3) := by decide +kernel
theorem dX12_unit_44 : decode cX12_unit 44 = .ok (.goto 50, 3) := by decide +kernel
theorem dX12_unit_47 : decode cX12_unit 47 = .ok (.iload_n 1, 1) := by decide +kernel
theorem dX12_unit_48 : decode cX12_unit 48 = .ok (.bipush 40, 2) := by decide +kernel
theorem dX12_unit_50 : decode cX12_unit 50 = .ok (.if_icmp .ne 28, 3) := by decide +kernel
theorem dX12_unit_53 : decode cX12_unit 53 = .ok (.aload_n 0, 1) := by decide +kernel
theorem dX12_unit_54 : decode cX12_unit 54 = .ok (.invokevirtual 148, 3) := by decide +kernel
theorem dX12_unit_57 : decode cX12_unit 57 = .ok (.aload_n 0, 1) := by decide +kernel
theorem dX12_unit_58 : decode cX12_unit 58 = .ok (.getfield 118, 3) := by decide +kernel
theorem dX12_unit_61 : decode cX12_unit 61 = .ok (.iconst (-1), 1) := by decide +kernel
theorem dX12_unit_62 : decode cX12_unit 62 = .ok (.if_icmp .ne 32, 3) := by decide +kernel
theorem dX12_unit_65 : decode cX12_unit 65 = .ok (.aload_n 0, 1) := by decide +kernel
theorem dX12_unit_66 : decode cX12_unit 66 = .ok (.invokevirtual 170, 3) := by decide +kernel
theorem dX12_unit_69 : decode cX12_unit 69 = .ok (.aload_n 0, 1) := by decide +kernel
theorem dX12_unit_70 : decode cX12_unit 70 = .ok (.bipush 41, 2) := by decide +kernel
theorem dX12_unit_72 : decode cX12_unit 72 = .ok (.invokevirtual 154, 3) := by decide +kernel
theorem dX12_unit_75 : decode cX12_unit 75 = .ok (.goto 19, 3) := by decide +kernel
theorem dX12_unit_78 : decode cX12_unit 78 = .ok (.aload_n 0, 1) := by decide +kernel
theorem dX12_unit_79 : decode cX12_unit 79 = .ok (.invokevirtual 151, 3) := by decide +kernel
theorem dX12_unit_82 : decode cX12_unit 82 = .ok (.aload_n 0, 1) := by decide +kernel
theorem dX12_unit_83 : decode cX12_unit 83 = .ok (.getfield 118, 3) := by decide +kernel
theorem dX12_unit_86 : decode cX12_unit 86 = .ok (.iconst (-1), 1) := by decide +kernel
theorem dX12_unit_87 : decode cX12_unit 87 = .ok (.if_icmp .ne 7, 3) := by decide +kernel
theorem dX12_unit_90 : decode cX12_unit 90 = .ok (.aload_n 0, 1) := by decide +kernel
theorem dX12_unit_91 : decode cX12_unit 91 = .ok (.invokevirtual 173, 3) := by decide +kernel
theorem dX12_unit_94 : decode cX12_unit 94 = .ok (.return_, 1) := by decide +kernel
theorem dX12_goOnAnd_0 : decode cX12_goOnAnd 0 = .ok (.aload_n 0, 1) := by decide +kernel
theorem dX12_goOnAnd_1 : decode cX12_goOnAnd 1 = .ok (.getfield 118, 3) := by decide +kernel
theorem dX12_goOnAnd_4 : decode cX12_goOnAnd 4 = .ok (.iconst (-1), 1) := by decide +kernel
theorem dX12_goOnAnd_5 : decode cX12_goOnAnd 5 = .ok (.if_icmp .ne 36, 3) := by decide +kernel
theorem dX12_goOnAnd_8 : decode cX12_goOnAnd 8 = .ok (.aload_n 0, 1) := by decide +kernel
theorem dX12_goOnAnd_9 : decode cX12_goOnAnd 9 = .ok (.invokevirtual 130, 3) := by decide +kernel
theorem dX12_goOnAnd_12 : decode cX12_goOnAnd 12 = .ok (.bipush 38, 2) := by decide +kernel
theorem dX12_goOnAnd_14 : decode cX12_goOnAnd 14 = .ok (.if_icmp .ne 27, 3) := by decide +kernel
theorem dX12_goOnAnd_17 : decode cX12_goOnAnd 17 = .ok (.aload_n 0, 1) := by decide +kernel
theorem dX12_goOnAnd_18 : decode cX12_goOnAnd 18 = .ok (.dup, 1) := by decide +kernel
theorem dX12_goOnAnd_19 : decode cX12_goOnAnd 19 = .ok (.getfield 111, 3) := by decide +kernel
theorem dX12_goOnAnd_22 : decode cX12_goOnAnd 22 = .ok (.iconst 1, 1) := by decide +kernel
theorem dX12_goOnAnd_23 : decode cX12_goOnAnd 23 = .ok (.iadd, 1) := by decide +kernel
theorem dX12_goOnAnd_24 : decode cX12_goOnAnd 24 = .ok (.putfield 111, 3) := by decide +kernel
theorem dX12_goOnAnd_27 : decode cX12_goOnAnd 27 = .ok (.aload_n 0, 1) := by decide +kernel
theorem dX12_goOnAnd_28 : decode cX12_goOnAnd 28 = .ok (.invokevirtual 167, 3) := by decide +kernel
theorem dX12_goOnAnd_31 : decode cX12_goOnAnd 31 = .ok (.aload_n 0, 1) := by decide +kernel
theorem dX12_goOnAnd_32 : decode cX12_goOnAnd 32 = .ok (.bipush 10, 2) := by decide +kernel
theorem dX12_goOnAnd_34 : decode cX12_goOnAnd 34 = .ok (.iconst 0, 1) := by decide +kernel
theorem dX12_goOnAnd_35 : decode cX12_goOnAnd 35 = .ok (.invokevirtual 140, 3) := by decide +kernel
theorem dX12_goOnAnd_38 : decode cX12_goOnAnd 38 = .ok (.goto (-38), 3) := by decide +kernel
theorem dX12_goOnAnd_41 : decode cX12_goOnAnd 41 = .ok (.return_, 1) := by decide +kernel
theorem dX12_goOnOr_0 : decode cX12_goOnOr 0 = .ok (.aload_n 0, 1) := by decide +kernel
theorem dX12_goOnOr_1 : decode cX12_goOnOr 1 = .ok (.getfield 118, 3) := by decide +kernel
theorem dX12_goOnOr_4 : decode cX12_goOnOr 4 = .ok (.iconst (-1), 1) := by decide +kernel
theorem dX12_goOnOr_5 : decode cX12_goOnOr 5 = .ok (.if_icmp .ne 40, 3) := by decide +kernel
theorem dX12_goOnOr_8 : decode cX12_goOnOr 8 = .ok (.aload_n 0, 1) := by decide +kernel
theorem dX12_goOnOr_9 : decode cX12_goOnOr 9 = .ok (.invokevirtual 130, 3) := by decide +kernel
theorem dX12_goOnOr_12 : decode cX12_goOnOr 12 = .ok (.bipush 124, 2) := by decide +kernel
theorem dX12_goOnOr_14 : decode cX12_goOnOr 14 = .ok (.if_icmp .ne 31, 3) := by decide +kernel
theorem dX12_goOnOr_17 : decode cX12_goOnOr 17 = .ok (.aload_n 0, 1) := by decide +kernel
theorem dX12_goOnOr_18 : decode cX12_goOnOr 18 = .ok (.dup, 1) := by decide +kernel
theorem dX12_goOnOr_19 : decode cX12_goOnOr 19 = .ok (.getfield 111, 3) := by decide +kernel
theorem dX12_goOnOr_22 : decode cX12_goOnOr 22 = .ok (.iconst 1, 1) := by decide +kernel
theorem dX12_goOnOr_23 : decode cX12_goOnOr 23 = .ok (.iadd, 1) := by decide +kernel
theorem dX12_goOnOr_24 : decode cX12_goOnOr 24 = .ok (.putfield 111, 3) := by decide +kernel
theorem dX12_goOnOr_27 : decode cX12_goOnOr 27 = .ok (.aload_n 0, 1) := by decide +kernel
theorem dX12_goOnOr_28 : decode cX12_goOnOr 28 = .ok (.invokevirtual 167, 3) := by decide +kernel
theorem dX12_goOnOr_31 : decode cX12_goOnOr 31 = .ok (.aload_n 0, 1) := by decide +kernel
theorem dX12_goOnOr_32 : decode cX12_goOnOr 32 = .ok (.invokevirtual 176, 3) := by decide +kernel
theorem dX12_goOnOr_35 : decode cX12_goOnOr 35 = .ok (.aload_n 0, 1) := by decide +kernel
theorem dX12_goOnOr_36 : decode cX12_goOnOr 36 = .ok (.bipush 11, 2) := by decide +kernel
theorem dX12_goOnOr_38 : decode cX12_goOnOr 38 = .ok (.iconst 0, 1) := by decide +kernel
theorem dX12_goOnOr_39 : decode cX12_goOnOr 39 = .ok (.invokevirtual 140, 3) := by decide +kernel
theorem dX12_goOnOr_42 : decode cX12_goOnOr 42 = .ok (.goto (-42), 3) := by decide +kernel
theorem dX12_goOnOr_45 : decode cX12_goOnOr 45 = .ok (.return_, 1) := by decide +kernel
theorem dX12_condition_0 : decode cX12_condition 0 = .ok (.aload_n 0, 1) := by decide +kernel
theorem dX12_condition_1 : decode cX12_condition 1 = .ok (.invokevirtual 167, 3) := by decide +kernel
theorem dX12_condition_4 : decode cX12_condition 4 = .ok (.aload_n 0, 1) := by decide +kernel
theorem dX12_condition_5 : decode cX12_condition 5 = .ok (.invokevirtual 176, 3) := by decide +kernel
theorem dX12_condition_8 : decode cX12_condition 8 = .ok (.aload_n 0, 1) := by decide +kernel
theorem dX12_condition_9 : decode cX12_condition 9 = .ok (.invokevirtual 179, 3) := by decide +kernel
theorem dX12_condition_12 : decode cX12_condition 12 = .ok (.return_, 1) := by decide +kernel
theorem dX12_clause_0 : decode cX12_clause 0 = .ok (.bipush 90, 2) := by decide +kernel
theorem dX12_clause_2 : decode cX12_clause 2 = .ok (.aload_n 0, 1) := by decide +kernel
theorem dX12_clause_3 : decode cX12_clause 3 = .ok (.getfield 121, 3) := by decide +kernel
theorem dX12_clause_6 : decode cX12_clause 6 = .ok (.imul, 1) := by decide +kernel
theorem dX12_clause_7 : decode cX12_clause 7 = .ok (.aload_n 0, 1) := by decide +kernel
theorem dX12_clause_8 : decode cX12_clause 8 = .ok (.getfield 22, 3) := by decide +kernel
theorem dX12_clause_11 : decode cX12_clause 11 = .ok (.aload_n 0, 1) := by decide +kernel
theorem dX12_clause_12 : decode cX12_clause 12 = .ok (.getfield 121, 3) := by decide +kernel
theorem dX12_clause_15 : decode cX12_clause 15 = .ok (.iaload, 1) := by decide +kernel
theorem dX12_clause_16 : decode cX12_clause 16 = .ok (.iadd, 1) := by decide +kernel
theorem dX12_clause_17 : decode cX12_clause 17 = .ok (.istore_n 1, 1) := by decide +kernel
theorem dX12_clause_18 : decode cX12_clause 18 = .ok (.aload_n 0, 1) := by decide +kernel
theorem dX12_clause_19 : decode cX12_clause 19 = .ok (.getfield 118, 3) := by decide +kernel
theorem dX12_clause_22 : decode cX12_clause 22 = .ok (.iconst (-1), 1) := by decide +kernel
theorem dX12_clause_23 : decode cX12_clause 23 = .ok (.if_icmp .ne 16, 3) := by decide +kernel
theorem dX12_clause_26 : decode cX12_clause 26 = .ok (.aload_n 0, 1) := by decide +kernel
theorem dX12_clause_27 : decode cX12_clause 27 = .ok (.invokevirtual 130, 3) := by decide +kernel
theorem dX12_clause_30 : decode cX12_clause 30 = .ok (.bipush 121, 2) := by decide +kernel
theorem dX12_clause_32 : decode cX12_clause 32 = .ok (.if_icmp .eq 7, 3) := by decide +kernel
theorem dX12_clause_35 : decode cX12_clause 35 = .ok (.aload_n 0, 1) := by decide +kernel
theorem dX12_clause_36 : decode cX12_clause 36 = .ok (.invokevirtual 127, 3) := by decide +kernel
theorem dX12_clause_39 : decode cX12_clause 39 = .ok (.aload_n 0, 1) := by decide +kernel
theorem dX12_clause_40 : decode cX12_clause 40 = .ok (.dup, 1) := by decide +kernel
theorem dX12_clause_41 : decode cX12_clause 41 = .ok (.getfield 111, 3) := by decide +kernel
theorem dX12_clause_44 : decode cX12_clause 44 = .ok (.iconst 1, 1) := by decide +kernel
theorem dX12_clause_45 : decode cX12_clause 45 = .ok (.iadd, 1) := by decide +kernel
theorem dX12_clause_46 : decode cX12_clause 46 = .ok (.putfield 111, 3) := by decide +kernel
theorem dX12_clause_49 : decode cX12_clause 49 = .ok (.aload_n 0, 1) := by decide +kernel
theorem dX12_clause_50 : decode cX12_clause 50 = .ok (.getfield 118, 3) := by decide +kernel
theorem dX12_clause_53 : decode cX12_clause 53 = .ok (.iconst (-1), 1) := by decide +kernel
theorem dX12_clause_54 : decode cX12_clause 54 = .ok (.if_icmp .ne 16, 3) := by decide +kernel
theorem dX12_clause_57 : decode cX12_clause 57 = .ok (.aload_n 0, 1) := by decide +kernel
theorem dX12_clause_58 : decode cX12_clause 58 = .ok (.invokevirtual 130, 3) := by decide +kernel
theorem dX12_clause_61 : decode cX12_clause 61 = .ok (.bipush 58, 2) := by decide +kernel
theorem dX12_clause_63 : decode cX12_clause 63 = .ok (.if_icmp .eq 7, 3) := by decide +kernel
theorem dX12_clause_66 : decode cX12_clause 66 = .ok (.aload_n 0, 1) := by decide +kernel
theorem dX12_clause_67 : decode cX12_clause 67 = .ok (.invokevirtual 127, 3) := by decide +kernel
theorem dX12_clause_70 : decode cX12_clause 70 = .ok (.aload_n 0, 1) := by decide +kernel
theorem dX12_clause_71 : decode cX12_clause 71 = .ok (.dup, 1) := by decide +kernel
theorem dX12_clause_72 : decode cX12_clause 72 = .ok (.getfield 111, 3) := by decide +kernel
theorem dX12_clause_75 : decode cX12_clause 75 = .ok (.iconst 1, 1) := by decide +kernel
theorem dX12_clause_76 : decode cX12_clause 76 = .ok (.iadd, 1) := by decide +kernel
theorem dX12_clause_77 : decode cX12_clause 77 = .ok (.putfield 111, 3) := by decide +kernel
theorem dX12_clause_80 : decode cX12_clause 80 = .ok (.aload_n 0, 1) := by decide +kernel
theorem dX12_clause_81 : decode cX12_clause 81 = .ok (.getfield 118, 3) := by decide +kernel
theorem dX12_clause_84 : decode cX12_clause 84 = .ok (.iconst (-1), 1) := by decide +kernel
theorem dX12_clause_85 : decode cX12_clause 85 = .ok (.if_icmp .eq 4, 3) := by decide +kernel
theorem dX12_clause_88 : decode cX12_clause 88 = .ok (.return_, 1) := by decide +kernel
theorem dX12_clause_89 : decode cX12_clause 89 = .ok (.aload_n 0, 1) := by decide +kernel
theorem dX12_clause_90 : decode cX12_clause 90 = .ok (.getfield 25, 3) := by decide +kernel
theorem dX12_clause_93 : decode cX12_clause 93 = .ok (.iload_n 1, 1) := by decide +kernel
theorem dX12_clause_94 : decode cX12_clause 94 = .ok (.aload_n 0, 1) := by decide +kernel
theorem dX12_clause_95 : decode cX12_clause 95 = .ok (.getfield 19, 3) := by decide +kernel
theorem dX12_clause_98 : decode cX12_clause 98 = .ok (.aload_n 0, 1) := by decide +kernel
theorem dX12_clause_99 : decode cX12_clause 99 = .ok (.getfield 121, 3) := by decide +kernel
theorem dX12_clause_102 : decode cX12_clause 102 = .ok (.iaload, 1) := by decide +kernel
theorem dX12_clause_103 : decode cX12_clause 103 = .ok (.iastore, 1) := by decide +kernel
theorem dX12_clause_104 : decode cX12_clause 104 = .ok (.aload_n 0, 1) := by decide +kernel
theorem dX12_clause_105 : decode cX12_clause 105 = .ok (.invokevirtual 130, 3) := by decide +kernel
theorem dX12_clause_108 : decode cX12_clause 108 = .ok (.bipush 33, 2) := by decide +kernel
theorem dX12_clause_110 : decode cX12_clause 110 = .ok (.if_icmp .eq 12, 3) := by decide +kernel
theorem dX12_clause_113 : decode cX12_clause 113 = .ok (.aload_n 0, 1) := by decide +kernel
theorem dX12_clause_114 : decode cX12_clause 114 = .ok (.invokevirtual 130, 3) := by decide +kernel
theorem dX12_clause_117 : decode cX12_clause 117 = .ok (.bipush 40, 2) := by decide +kernel
theorem dX12_clause_119 : decode cX12_clause 119 = .ok (.if_icmp .ne 7, 3) := by decide +kernel
theorem dX12_clause_122 : decode cX12_clause 122 = .ok (.iconst 1, 1) := by decide +kernel
theorem dX12_clause_123 : decode cX12_clause 123 = .ok (.goto 4, 3) := by decide +kernel
theorem dX12_clause_126 : decode cX12_clause 126 = .ok (.iconst 0, 1) := by decide +kernel
theorem dX12_clause_127 : decode cX12_clause 127 = .ok (.istore_n 2, 1) := by decide +kernel
theorem dX12_clause_128 : decode cX12_clause 128 = .ok (.iload_n 2, 1) := by decide +kernel
theorem dX12_clause_129 : decode cX12_clause 129 = .ok (.ifCond .eq 10, 3) := by decide +kernel
theorem dX12_clause_132 : decode cX12_clause 132 = .ok (.aload_n 0, 1) := by decide +kernel
theorem dX12_clause_133 : decode cX12_clause 133 = .ok (.invokevirtual 170, 3) := by decide +kernel
theorem dX12_clause_136 : decode cX12_clause 136 = .ok (.goto 47, 3) := by decide +kernel
theorem dX12_clause_139 : decode cX12_clause 139 = .ok (.aload_n 0, 1) := by decide +kernel
theorem dX12_clause_140 : decode cX12_clause 140 = .ok (.invokevirtual 151, 3) := by decide +kernel
theorem dX12_clause_143 : decode cX12_clause 143 = .ok (.aload_n 0, 1) := by decide +kernel
theorem dX12_clause_144 : decode cX12_clause 144 = .ok (.getfield 118, 3) := by decide +kernel
theorem dX12_clause_147 : decode cX12_clause 147 = .ok (.iconst (-1), 1) := by decide +kernel
theorem dX12_clause_148 : decode cX12_clause 148 = .ok (.if_icmp .ne 17, 3) := by decide +kernel
theorem dX12_clause_151 : decode cX12_clause 151 = .ok (.aload_n 0, 1) := by decide +kernel
theorem dX12_clause_152 : decode cX12_clause 152 = .ok (.invokevirtual 130, 3) := by decide +kernel
theorem dX12_clause_155 : decode cX12_clause 155 = .ok (.invokestatic 164, 3) := by decide +kernel
theorem dX12_clause_158 : decode cX12_clause 158 = .ok (.ifCond .eq 7, 3) := by decide +kernel
theorem dX12_clause_161 : decode cX12_clause 161 = .ok (.iconst 1, 1) := by decide +kernel
theorem dX12_clause_162 : decode cX12_clause 162 = .ok (.goto 4, 3) := by decide +kernel
theorem dX12_clause_165 : decode cX12_clause 165 = .ok (.iconst 0, 1) := by decide +kernel
theorem dX12_clause_166 : decode cX12_clause 166 = .ok (.istore_n 2, 1) := by decide +kernel
theorem dX12_clause_167 : decode cX12_clause 167 = .ok (.iload_n 2, 1) := by decide +kernel
theorem dX12_clause_168 : decode cX12_clause 168 = .ok (.ifCond .eq 15, 3) := by decide +kernel
theorem dX12_clause_171 : decode cX12_clause 171 = .ok (.aload_n 0, 1) := by decide +kernel
theorem dX12_clause_172 : decode cX12_clause 172 = .ok (.invokevirtual 173, 3) := by decide +kernel
theorem dX12_clause_175 : decode cX12_clause 175 = .ok (.aload_n 0, 1) := by decide +kernel
theorem dX12_clause_176 : decode cX12_clause 176 = .ok (.invokevirtual 176, 3) := by decide +kernel
theorem dX12_clause_179 : decode cX12_clause 179 = .ok (.aload_n 0, 1) := by decide +kernel
theorem dX12_clause_180 : decode cX12_clause 180 = .ok (.invokevirtual 179, 3) := by decide +kernel
theorem dX12_clause_183 : decode cX12_clause 183 = .ok (.aload_n 0, 1) := by decide +kernel
theorem dX12_clause_184 : decode cX12_clause 184 = .ok (.getfield 28, 3) := by decide +kernel
theorem dX12_clause_187 : decode cX12_clause 187 = .ok (.iload_n 1, 1) := by decide +kernel
theorem dX12_clause_188 : decode cX12_clause 188 = .ok (.aload_n 0, 1) := by decide +kernel
theorem dX12_clause_189 : decode cX12_clause 189 = .ok (.getfield 25, 3) := by decide +kernel
theorem dX12_clause_192 : decode cX12_clause 192 = .ok (.iload_n 1, 1) := by decide +kernel
theorem dX12_clause_193 : decode cX12_clause 193 = .ok (.iaload, 1) := by decide +kernel
theorem dX12_clause_194 : decode cX12_clause 194 = .ok (.iastore, 1) := by decide +kernel
theorem dX12_clause_195 : decode cX12_clause 195 = .ok (.iload_n 2, 1) := by decide +kernel
theorem dX12_clause_196 : decode cX12_clause 196 = .ok (.ifCond .eq 54, 3) := by decide +kernel
theorem dX12_clause_199 : decode cX12_clause 199 = .ok (.aload_n 0, 1) := by decide +kernel
theorem dX12_clause_200 : decode cX12_clause 200 = .ok (.getfield 118, 3) := by decide +kernel
theorem dX12_clause_203 : decode cX12_clause 203 = .ok (.iconst (-1), 1) := by decide +kernel
theorem dX12_clause_204 : decode cX12_clause 204 = .ok (.if_icmp .ne 46, 3) := by decide +kernel
theorem dX12_clause_207 : decode cX12_clause 207 = .ok (.aload_n 0, 1) := by decide +kernel
theorem dX12_clause_208 : decode cX12_clause 208 = .ok (.invokevirtual 130, 3) := by decide +kernel
theorem dX12_clause_211 : decode cX12_clause 211 = .ok (.bipush 63, 2) := by decide +kernel
theorem dX12_clause_213 : decode cX12_clause 213 = .ok (.if_icmp .eq 8, 3) := by decide +kernel
theorem dX12_clause_216 : decode cX12_clause 216 = .ok (.aload_n 0, 1) := by decide +kernel
theorem dX12_clause_217 : decode cX12_clause 217 = .ok (.invokevirtual 127, 3) := by decide +kernel
theorem dX12_clause_220 : decode cX12_clause 220 = .ok (.return_, 1) := by decide +kernel
theorem dX12_clause_221 : decode cX12_clause 221 = .ok (.aload_n 0, 1) := by decide +kernel
theorem dX12_clause_222 : decode cX12_clause 222 = .ok (.dup, 1) := by decide +kernel
theorem dX12_clause_223 : decode cX12_clause 223 = .ok (.getfield 111, 3) := by decide +kernel
theorem dX12_clause_226 : decode cX12_clause 226 = .ok (.iconst 1, 1) := by decide +kernel
theorem dX12_clause_227 : decode cX12_clause 227 = .ok (.iadd, 1) := by decide +kernel
theorem dX12_clause_228 : decode cX12_clause 228 = .ok (.putfield 111, 3) := by decide +kernel
theorem dX12_clause_231 : decode cX12_clause 231 = .ok (.aload_n 0, 1) := by decide +kernel
theorem dX12_clause_232 : decode cX12_clause 232 = .ok (.getfield 28, 3) := by decide +kernel
theorem dX12_clause_235 : decode cX12_clause 235 = .ok (.iload_n 1, 1) := by decide +kernel
theorem dX12_clause_236 : decode cX12_clause 236 = .ok (.aload_n 0, 1) := by decide +kernel
theorem dX12_clause_237 : decode cX12_clause 237 = .ok (.getfield 19, 3) := by decide +kernel
theorem dX12_clause_240 : decode cX12_clause 240 = .ok (.aload_n 0, 1) := by decide +kernel
theorem dX12_clause_241 : decode cX12_clause 241 = .ok (.getfield 121, 3) := by decide +kernel
theorem dX12_clause_244 : decode cX12_clause 244 = .ok (.iaload, 1) := by decide +kernel
theorem dX12_clause_245 : decode cX12_clause 245 = .ok (.iastore, 1) := by decide +kernel
theorem dX12_clause_246 : decode cX12_clause 246 = .ok (.aload_n 0, 1) := by decide +kernel
theorem dX12_clause_247 : decode cX12_clause 247 = .ok (.invokevirtual 151, 3) := by decide +kernel
theorem dX12_clause_250 : decode cX12_clause 250 = .ok (.aload_n 0, 1) := by decide +kernel
theorem dX12_clause_251 : decode cX12_clause 251 = .ok (.getfield 31, 3) := by decide +kernel
theorem dX12_clause_254 : decode cX12_clause 254 = .ok (.iload_n 1, 1) := by decide +kernel
theorem dX12_clause_255 : decode cX12_clause 255 = .ok (.aload_n 0, 1) := by decide +kernel
theorem dX12_clause_256 : decode cX12_clause 256 = .ok (.getfield 19, 3) := by decide +kernel
theorem dX12_clause_259 : decode cX12_clause 259 = .ok (.aload_n 0, 1) := by decide +kernel
theorem dX12_clause_260 : decode cX12_clause 260 = .ok (.getfield 121, 3) := by decide +kernel
theorem dX12_clause_263 : decode cX12_clause 263 = .ok (.iaload, 1) := by decide +kernel
theorem dX12_clause_264 : decode cX12_clause 264 = .ok (.iastore, 1) := by decide +kernel
theorem dX12_clause_265 : decode cX12_clause 265 = .ok (.aload_n 0, 1) := by decide +kernel
theorem dX12_clause_266 : decode cX12_clause 266 = .ok (.getfield 22, 3) := by decide +kernel
theorem dX12_clause_269 : decode cX12_clause 269 = .ok (.aload_n 0, 1) := by decide +kernel
theorem dX12_clause_270 : decode cX12_clause 270 = .ok (.getfield 121, 3) := by decide +kernel
theorem dX12_clause_273 : decode cX12_clause 273 = .ok (.dup2, 1) := by decide +kernel
theorem dX12_clause_274 : decode cX12_clause 274 = .ok (.iaload, 1) := by decide +kernel
theorem dX12_clause_275 : decode cX12_clause 275 = .ok (.iconst 1, 1) := by decide +kernel
theorem dX12_clause_276 : decode cX12_clause 276 = .ok (.iadd, 1) := by decide +kernel
theorem dX12_clause_277 : decode cX12_clause 277 = .ok (.iastore, 1) := by decide +kernel
theorem dX12_clause_278 : decode cX12_clause 278 = .ok (.return_, 1) := by decide +kernel
theorem dX12_open_0 : decode cX12_open 0 = .ok (.aload_n 0, 1) := by decide +kernel
theorem dX12_open_1 : decode cX12_open 1 = .ok (.iload_n 1, 1) := by decide +kernel
theorem dX12_open_2 : decode cX12_open 2 = .ok (.putfield 121, 3) := by decide +kernel
theorem dX12_open_5 : decode cX12_open 5 = .ok (.aload_n 0, 1) := by decide +kernel
theorem dX12_open_6 : decode cX12_open 6 = .ok (.iconst 0, 1) := by decide +kernel
theorem dX12_open_7 : decode cX12_open 7 = .ok (.putfield 111, 3) := by decide +kernel
theorem dX12_open_10 : decode cX12_open 10 = .ok (.aload_n 0, 1) := by decide +kernel
theorem dX12_open_11 : decode cX12_open 11 = .ok (.iconst (-1), 1) := by decide +kernel
theorem dX12_open_12 : decode cX12_open 12 = .ok (.putfield 118, 3) := by decide +kernel
theorem dX12_open_15 : decode cX12_open 15 = .ok (.aload_n 0, 1) := by decide +kernel
theorem dX12_open_16 : decode cX12_open 16 = .ok (.iconst 0, 1) := by decide +kernel
theorem dX12_open_17 : decode cX12_open 17 = .ok (.putfield 124, 3) := by decide +kernel
theorem dX12_open_20 : decode cX12_open 20 = .ok (.aload_n 0, 1) := by decide +kernel
theorem dX12_open_21 : decode cX12_open 21 = .ok (.getfield 19, 3) := by decide +kernel
theorem dX12_open_24 : decode cX12_open 24 = .ok (.iload_n 1, 1) := by decide +kernel
theorem dX12_open_25 : decode cX12_open 25 = .ok (.iconst 0, 1) := by decide +kernel
theorem dX12_open_26 : decode cX12_open 26 = .ok (.iastore, 1) := by decide +kernel
theorem dX12_open_27 : decode cX12_open 27 = .ok (.aload_n 0, 1) := by decide +kernel
theorem dX12_open_28 : decode cX12_open 28 = .ok (.getfield 22, 3) := by decide +kernel
theorem dX12_open_31 : decode cX12_open 31 = .ok (.iload_n 1, 1) := by decide +kernel
theorem dX12_open_32 : decode cX12_open 32 = .ok (.iconst 0, 1) := by decide +kernel
theorem dX12_open_33 : decode cX12_open 33 = .ok (.iastore, 1) := by decide +kernel
theorem dX12_open_34 : decode cX12_open 34 = .ok (.return_, 1) := by decide +kernel
theorem dX12_atEnd_0 : decode cX12_atEnd 0 = .ok (.aload_n 0, 1) := by decide +kernel
theorem dX12_atEnd_1 : decode cX12_atEnd 1 = .ok (.getfield 118, 3) := by decide +kernel
theorem dX12_atEnd_4 : decode cX12_atEnd 4 = .ok (.iconst (-1), 1) := by decide +kernel
theorem dX12_atEnd_5 : decode cX12_atEnd 5 = .ok (.if_icmp .ne 15, 3) := by decide +kernel
theorem dX12_atEnd_8 : decode cX12_atEnd 8 = .ok (.aload_n 0, 1) := by decide +kernel
theorem dX12_atEnd_9 : decode cX12_atEnd 9 = .ok (.invokevirtual 130, 3) := by decide +kernel
theorem dX12_atEnd_12 : decode cX12_atEnd 12 = .ok (.iconst (-1), 1) := by decide +kernel
theorem dX12_atEnd_13 : decode cX12_atEnd 13 = .ok (.if_icmp .eq 7, 3) := by decide +kernel
theorem dX12_atEnd_16 : decode cX12_atEnd 16 = .ok (.aload_n 0, 1) := by decide +kernel
theorem dX12_atEnd_17 : decode cX12_atEnd 17 = .ok (.invokevirtual 127, 3) := by decide +kernel
theorem dX12_atEnd_20 : decode cX12_atEnd 20 = .ok (.aload_n 0, 1) := by decide +kernel
theorem dX12_atEnd_21 : decode cX12_atEnd 21 = .ok (.getfield 118, 3) := by decide +kernel
theorem dX12_atEnd_24 : decode cX12_atEnd 24 = .ok (.ireturn, 1) := by decide +kernel
theorem dX12_readLaw_0 : decode cX12_readLaw 0 = .ok (.aload_n 0, 1) := by decide +kernel
theorem dX12_readLaw_1 : decode cX12_readLaw 1 = .ok (.iload_n 1, 1) := by decide +kernel
theorem dX12_readLaw_2 : decode cX12_readLaw 2 = .ok (.invokevirtual 182, 3) := by decide +kernel
theorem dX12_readLaw_5 : decode cX12_readLaw 5 = .ok (.aload_n 0, 1) := by decide +kernel
theorem dX12_readLaw_6 : decode cX12_readLaw 6 = .ok (.invokevirtual 185, 3) := by decide +kernel
theorem dX12_readLaw_9 : decode cX12_readLaw 9 = .ok (.aload_n 0, 1) := by decide +kernel
theorem dX12_readLaw_10 : decode cX12_readLaw 10 = .ok (.getfield 118, 3) := by decide +kernel
theorem dX12_readLaw_13 : decode cX12_readLaw 13 = .ok (.iconst (-1), 1) := by decide +kernel
theorem dX12_readLaw_14 : decode cX12_readLaw 14 = .ok (.if_icmp .ne 29, 3) := by decide +kernel
theorem dX12_readLaw_17 : decode cX12_readLaw 17 = .ok (.aload_n 0, 1) := by decide +kernel
theorem dX12_readLaw_18 : decode cX12_readLaw 18 = .ok (.invokevirtual 130, 3) := by decide +kernel
theorem dX12_readLaw_21 : decode cX12_readLaw 21 = .ok (.bipush 59, 2) := by decide +kernel
theorem dX12_readLaw_23 : decode cX12_readLaw 23 = .ok (.if_icmp .ne 20, 3) := by decide +kernel
theorem dX12_readLaw_26 : decode cX12_readLaw 26 = .ok (.aload_n 0, 1) := by decide +kernel
theorem dX12_readLaw_27 : decode cX12_readLaw 27 = .ok (.dup, 1) := by decide +kernel
theorem dX12_readLaw_28 : decode cX12_readLaw 28 = .ok (.getfield 111, 3) := by decide +kernel
theorem dX12_readLaw_31 : decode cX12_readLaw 31 = .ok (.iconst 1, 1) := by decide +kernel
theorem dX12_readLaw_32 : decode cX12_readLaw 32 = .ok (.iadd, 1) := by decide +kernel
theorem dX12_readLaw_33 : decode cX12_readLaw 33 = .ok (.putfield 111, 3) := by decide +kernel
theorem dX12_readLaw_36 : decode cX12_readLaw 36 = .ok (.aload_n 0, 1) := by decide +kernel
theorem dX12_readLaw_37 : decode cX12_readLaw 37 = .ok (.invokevirtual 185, 3) := by decide +kernel
theorem dX12_readLaw_40 : decode cX12_readLaw 40 = .ok (.goto (-31), 3) := by decide +kernel
theorem dX12_readLaw_43 : decode cX12_readLaw 43 = .ok (.aload_n 0, 1) := by decide +kernel
theorem dX12_readLaw_44 : decode cX12_readLaw 44 = .ok (.invokevirtual 188, 3) := by decide +kernel
theorem dX12_readLaw_47 : decode cX12_readLaw 47 = .ok (.ireturn, 1) := by decide +kernel
theorem dX12_bounded_0 : decode cX12_bounded 0 = .ok (.ldc2_w 191, 3) := by decide +kernel
theorem dX12_bounded_3 : decode cX12_bounded 3 = .ok (.ldc2_w 193, 3) := by decide +kernel
theorem dX12_bounded_6 : decode cX12_bounded 6 = .ok (.lload_n 0, 1) := by decide +kernel
theorem dX12_bounded_7 : decode cX12_bounded 7 = .ok (.invokestatic 195, 3) := by decide +kernel
theorem dX12_bounded_10 : decode cX12_bounded 10 = .ok (.invokestatic 201, 3) := by decide +kernel
theorem dX12_bounded_13 : decode cX12_bounded 13 = .ok (.l2i, 1) := by decide +kernel
theorem dX12_bounded_14 : decode cX12_bounded 14 = .ok (.ireturn, 1) := by decide +kernel
theorem dX12_worked_0 : decode cX12_worked 0 = .ok (.iload_n 0, 1) := by decide +kernel
theorem dX12_worked_1 : decode cX12_worked 1 = .ok (.tableswitch 143 2 10 #[51, 58, 65, 72, 89, 101, 113, 143, 125], 51) := by decide +kernel
theorem dX12_worked_52 : decode cX12_worked 52 = .ok (.lload_n 1, 1) := by decide +kernel
theorem dX12_worked_53 : decode cX12_worked 53 = .ok (.lload_n 3, 1) := by decide +kernel
theorem dX12_worked_54 : decode cX12_worked 54 = .ok (.ladd, 1) := by decide +kernel
theorem dX12_worked_55 : decode cX12_worked 55 = .ok (.invokestatic 204, 3) := by decide +kernel
theorem dX12_worked_58 : decode cX12_worked 58 = .ok (.ireturn, 1) := by decide +kernel
theorem dX12_worked_59 : decode cX12_worked 59 = .ok (.lload_n 1, 1) := by decide +kernel
theorem dX12_worked_60 : decode cX12_worked 60 = .ok (.lload_n 3, 1) := by decide +kernel
theorem dX12_worked_61 : decode cX12_worked 61 = .ok (.lsub, 1) := by decide +kernel
theorem dX12_worked_62 : decode cX12_worked 62 = .ok (.invokestatic 204, 3) := by decide +kernel
theorem dX12_worked_65 : decode cX12_worked 65 = .ok (.ireturn, 1) := by decide +kernel
theorem dX12_worked_66 : decode cX12_worked 66 = .ok (.lload_n 1, 1) := by decide +kernel
theorem dX12_worked_67 : decode cX12_worked 67 = .ok (.lload_n 3, 1) := by decide +kernel
theorem dX12_worked_68 : decode cX12_worked 68 = .ok (.lmul, 1) := by decide +kernel
theorem dX12_worked_69 : decode cX12_worked 69 = .ok (.invokestatic 204, 3) := by decide +kernel
theorem dX12_worked_72 : decode cX12_worked 72 = .ok (.ireturn, 1) := by decide +kernel
theorem dX12_worked_73 : decode cX12_worked 73 = .ok (.lload_n 3, 1) := by decide +kernel
theorem dX12_worked_74 : decode cX12_worked 74 = .ok (.lconst 0, 1) := by decide +kernel
theorem dX12_worked_75 : decode cX12_worked 75 = .ok (.lcmp, 1) := by decide +kernel
theorem dX12_worked_76 : decode cX12_worked 76 = .ok (.ifCond .ne 7, 3) := by decide +kernel
theorem dX12_worked_79 : decode cX12_worked 79 = .ok (.iconst 0, 1) := by decide +kernel
theorem dX12_worked_80 : decode cX12_worked 80 = .ok (.goto 9, 3) := by decide +kernel
theorem dX12_worked_83 : decode cX12_worked 83 = .ok (.lload_n 1, 1) := by decide +kernel
theorem dX12_worked_84 : decode cX12_worked 84 = .ok (.lload_n 3, 1) := by decide +kernel
theorem dX12_worked_85 : decode cX12_worked 85 = .ok (.ldiv, 1) := by decide +kernel
theorem dX12_worked_86 : decode cX12_worked 86 = .ok (.invokestatic 204, 3) := by decide +kernel
theorem dX12_worked_89 : decode cX12_worked 89 = .ok (.ireturn, 1) := by decide +kernel
theorem dX12_worked_90 : decode cX12_worked 90 = .ok (.lload_n 1, 1) := by decide +kernel
theorem dX12_worked_91 : decode cX12_worked 91 = .ok (.lload_n 3, 1) := by decide +kernel
theorem dX12_worked_92 : decode cX12_worked 92 = .ok (.lcmp, 1) := by decide +kernel
theorem dX12_worked_93 : decode cX12_worked 93 = .ok (.ifCond .ne 7, 3) := by decide +kernel
theorem dX12_worked_96 : decode cX12_worked 96 = .ok (.iconst 1, 1) := by decide +kernel
theorem dX12_worked_97 : decode cX12_worked 97 = .ok (.goto 4, 3) := by decide +kernel
theorem dX12_worked_100 : decode cX12_worked 100 = .ok (.iconst 0, 1) := by decide +kernel
theorem dX12_worked_101 : decode cX12_worked 101 = .ok (.ireturn, 1) := by decide +kernel
theorem dX12_worked_102 : decode cX12_worked 102 = .ok (.lload_n 1, 1) := by decide +kernel
theorem dX12_worked_103 : decode cX12_worked 103 = .ok (.lload_n 3, 1) := by decide +kernel
theorem dX12_worked_104 : decode cX12_worked 104 = .ok (.lcmp, 1) := by decide +kernel
theorem dX12_worked_105 : decode cX12_worked 105 = .ok (.ifCond .ge 7, 3) := by decide +kernel
theorem dX12_worked_108 : decode cX12_worked 108 = .ok (.iconst 1, 1) := by decide +kernel
theorem dX12_worked_109 : decode cX12_worked 109 = .ok (.goto 4, 3) := by decide +kernel
theorem dX12_worked_112 : decode cX12_worked 112 = .ok (.iconst 0, 1) := by decide +kernel
theorem dX12_worked_113 : decode cX12_worked 113 = .ok (.ireturn, 1) := by decide +kernel
theorem dX12_worked_114 : decode cX12_worked 114 = .ok (.lload_n 1, 1) := by decide +kernel
theorem dX12_worked_115 : decode cX12_worked 115 = .ok (.lload_n 3, 1) := by decide +kernel
theorem dX12_worked_116 : decode cX12_worked 116 = .ok (.lcmp, 1) := by decide +kernel
theorem dX12_worked_117 : decode cX12_worked 117 = .ok (.ifCond .le 7, 3) := by decide +kernel
theorem dX12_worked_120 : decode cX12_worked 120 = .ok (.iconst 1, 1) := by decide +kernel
theorem dX12_worked_121 : decode cX12_worked 121 = .ok (.goto 4, 3) := by decide +kernel
theorem dX12_worked_124 : decode cX12_worked 124 = .ok (.iconst 0, 1) := by decide +kernel
theorem dX12_worked_125 : decode cX12_worked 125 = .ok (.ireturn, 1) := by decide +kernel
theorem dX12_worked_126 : decode cX12_worked 126 = .ok (.lload_n 1, 1) := by decide +kernel
theorem dX12_worked_127 : decode cX12_worked 127 = .ok (.lconst 0, 1) := by decide +kernel
theorem dX12_worked_128 : decode cX12_worked 128 = .ok (.lcmp, 1) := by decide +kernel
theorem dX12_worked_129 : decode cX12_worked 129 = .ok (.ifCond .eq 13, 3) := by decide +kernel
theorem dX12_worked_132 : decode cX12_worked 132 = .ok (.lload_n 3, 1) := by decide +kernel
theorem dX12_worked_133 : decode cX12_worked 133 = .ok (.lconst 0, 1) := by decide +kernel
theorem dX12_worked_134 : decode cX12_worked 134 = .ok (.lcmp, 1) := by decide +kernel
theorem dX12_worked_135 : decode cX12_worked 135 = .ok (.ifCond .eq 7, 3) := by decide +kernel
theorem dX12_worked_138 : decode cX12_worked 138 = .ok (.iconst 1, 1) := by decide +kernel
theorem dX12_worked_139 : decode cX12_worked 139 = .ok (.goto 4, 3) := by decide +kernel
theorem dX12_worked_142 : decode cX12_worked 142 = .ok (.iconst 0, 1) := by decide +kernel
theorem dX12_worked_143 : decode cX12_worked 143 = .ok (.ireturn, 1) := by decide +kernel
theorem dX12_worked_144 : decode cX12_worked 144 = .ok (.lload_n 1, 1) := by decide +kernel
theorem dX12_worked_145 : decode cX12_worked 145 = .ok (.lconst 0, 1) := by decide +kernel
theorem dX12_worked_146 : decode cX12_worked 146 = .ok (.lcmp, 1) := by decide +kernel
theorem dX12_worked_147 : decode cX12_worked 147 = .ok (.ifCond .ne 9, 3) := by decide +kernel
theorem dX12_worked_150 : decode cX12_worked 150 = .ok (.lload_n 3, 1) := by decide +kernel
theorem dX12_worked_151 : decode cX12_worked 151 = .ok (.lconst 0, 1) := by decide +kernel
theorem dX12_worked_152 : decode cX12_worked 152 = .ok (.lcmp, 1) := by decide +kernel
theorem dX12_worked_153 : decode cX12_worked 153 = .ok (.ifCond .eq 7, 3) := by decide +kernel
theorem dX12_worked_156 : decode cX12_worked 156 = .ok (.iconst 1, 1) := by decide +kernel
theorem dX12_worked_157 : decode cX12_worked 157 = .ok (.goto 4, 3) := by decide +kernel
theorem dX12_worked_160 : decode cX12_worked 160 = .ok (.iconst 0, 1) := by decide +kernel
theorem dX12_worked_161 : decode cX12_worked 161 = .ok (.ireturn, 1) := by decide +kernel
theorem dX12_workOut_0 : decode cX12_workOut 0 = .ok (.iconst 0, 1) := by decide +kernel
theorem dX12_workOut_1 : decode cX12_workOut 1 = .ok (.istore 4, 2) := by decide +kernel
theorem dX12_workOut_3 : decode cX12_workOut 3 = .ok (.sipush 340, 3) := by decide +kernel
theorem dX12_workOut_6 : decode cX12_workOut 6 = .ok (.iload_n 1, 1) := by decide +kernel
theorem dX12_workOut_7 : decode cX12_workOut 7 = .ok (.imul, 1) := by decide +kernel
theorem dX12_workOut_8 : decode cX12_workOut 8 = .ok (.iload_n 2, 1) := by decide +kernel
theorem dX12_workOut_9 : decode cX12_workOut 9 = .ok (.iadd, 1) := by decide +kernel
theorem dX12_workOut_10 : decode cX12_workOut 10 = .ok (.istore 5, 2) := by decide +kernel
theorem dX12_workOut_12 : decode cX12_workOut 12 = .ok (.iload 5, 2) := by decide +kernel
theorem dX12_workOut_14 : decode cX12_workOut 14 = .ok (.sipush 340, 3) := by decide +kernel
theorem dX12_workOut_17 : decode cX12_workOut 17 = .ok (.iload_n 1, 1) := by decide +kernel
theorem dX12_workOut_18 : decode cX12_workOut 18 = .ok (.imul, 1) := by decide +kernel
theorem dX12_workOut_19 : decode cX12_workOut 19 = .ok (.iload_n 3, 1) := by decide +kernel
theorem dX12_workOut_20 : decode cX12_workOut 20 = .ok (.iadd, 1) := by decide +kernel
theorem dX12_workOut_21 : decode cX12_workOut 21 = .ok (.if_icmp .ge 150, 3) := by decide +kernel
theorem dX12_workOut_24 : decode cX12_workOut 24 = .ok (.aload_n 0, 1) := by decide +kernel
theorem dX12_workOut_25 : decode cX12_workOut 25 = .ok (.getfield 13, 3) := by decide +kernel
theorem dX12_workOut_28 : decode cX12_workOut 28 = .ok (.iload 5, 2) := by decide +kernel
theorem dX12_workOut_30 : decode cX12_workOut 30 = .ok (.iaload, 1) := by decide +kernel
theorem dX12_workOut_31 : decode cX12_workOut 31 = .ok (.ifCond .eq 14, 3) := by decide +kernel
theorem dX12_workOut_34 : decode cX12_workOut 34 = .ok (.aload_n 0, 1) := by decide +kernel
theorem dX12_workOut_35 : decode cX12_workOut 35 = .ok (.getfield 13, 3) := by decide +kernel
theorem dX12_workOut_38 : decode cX12_workOut 38 = .ok (.iload 5, 2) := by decide +kernel
theorem dX12_workOut_40 : decode cX12_workOut 40 = .ok (.iaload, 1) := by decide +kernel
theorem dX12_workOut_41 : decode cX12_workOut 41 = .ok (.iconst 1, 1) := by decide +kernel
theorem dX12_workOut_42 : decode cX12_workOut 42 = .ok (.if_icmp .ne 48, 3) := by decide +kernel
theorem dX12_workOut_45 : decode cX12_workOut 45 = .ok (.aload_n 0, 1) := by decide +kernel
theorem dX12_workOut_46 : decode cX12_workOut 46 = .ok (.getfield 37, 3) := by decide +kernel
theorem dX12_workOut_49 : decode cX12_workOut 49 = .ok (.iload 4, 2) := by decide +kernel
theorem dX12_workOut_51 : decode cX12_workOut 51 = .ok (.aload_n 0, 1) := by decide +kernel
theorem dX12_workOut_52 : decode cX12_workOut 52 = .ok (.getfield 13, 3) := by decide +kernel
theorem dX12_workOut_55 : decode cX12_workOut 55 = .ok (.iload 5, 2) := by decide +kernel
theorem dX12_workOut_57 : decode cX12_workOut 57 = .ok (.iaload, 1) := by decide +kernel
theorem dX12_workOut_58 : decode cX12_workOut 58 = .ok (.ifCond .ne 13, 3) := by decide +kernel
theorem dX12_workOut_61 : decode cX12_workOut 61 = .ok (.aload_n 0, 1) := by decide +kernel
theorem dX12_workOut_62 : decode cX12_workOut 62 = .ok (.getfield 16, 3) := by decide +kernel
theorem dX12_workOut_65 : decode cX12_workOut 65 = .ok (.iload 5, 2) := by decide +kernel
theorem dX12_workOut_67 : decode cX12_workOut 67 = .ok (.iaload, 1) := by decide +kernel
theorem dX12_workOut_68 : decode cX12_workOut 68 = .ok (.goto 15, 3) := by decide +kernel
theorem dX12_workOut_71 : decode cX12_workOut 71 = .ok (.aload_n 0, 1) := by decide +kernel
theorem dX12_workOut_72 : decode cX12_workOut 72 = .ok (.getfield 34, 3) := by decide +kernel
theorem dX12_workOut_75 : decode cX12_workOut 75 = .ok (.aload_n 0, 1) := by decide +kernel
theorem dX12_workOut_76 : decode cX12_workOut 76 = .ok (.getfield 16, 3) := by decide +kernel
theorem dX12_workOut_79 : decode cX12_workOut 79 = .ok (.iload 5, 2) := by decide +kernel
theorem dX12_workOut_81 : decode cX12_workOut 81 = .ok (.iaload, 1) := by decide +kernel
theorem dX12_workOut_82 : decode cX12_workOut 82 = .ok (.iaload, 1) := by decide +kernel
theorem dX12_workOut_83 : decode cX12_workOut 83 = .ok (.iastore, 1) := by decide +kernel
theorem dX12_workOut_84 : decode cX12_workOut 84 = .ok (.iinc 4 1, 3) := by decide +kernel
theorem dX12_workOut_87 : decode cX12_workOut 87 = .ok (.goto 78, 3) := by decide +kernel
theorem dX12_workOut_90 : decode cX12_workOut 90 = .ok (.aload_n 0, 1) := by decide +kernel
theorem dX12_workOut_91 : decode cX12_workOut 91 = .ok (.getfield 13, 3) := by decide +kernel
theorem dX12_workOut_94 : decode cX12_workOut 94 = .ok (.iload 5, 2) := by decide +kernel
theorem dX12_workOut_96 : decode cX12_workOut 96 = .ok (.iaload, 1) := by decide +kernel
theorem dX12_workOut_97 : decode cX12_workOut 97 = .ok (.bipush 9, 2) := by decide +kernel
theorem dX12_workOut_99 : decode cX12_workOut 99 = .ok (.if_icmp .ne 26, 3) := by decide +kernel
theorem dX12_workOut_102 : decode cX12_workOut 102 = .ok (.aload_n 0, 1) := by decide +kernel
theorem dX12_workOut_103 : decode cX12_workOut 103 = .ok (.getfield 37, 3) := by decide +kernel
theorem dX12_workOut_106 : decode cX12_workOut 106 = .ok (.iload 4, 2) := by decide +kernel
theorem dX12_workOut_108 : decode cX12_workOut 108 = .ok (.iconst 1, 1) := by decide +kernel
theorem dX12_workOut_109 : decode cX12_workOut 109 = .ok (.isub, 1) := by decide +kernel
theorem dX12_workOut_110 : decode cX12_workOut 110 = .ok (.iconst 1, 1) := by decide +kernel
theorem dX12_workOut_111 : decode cX12_workOut 111 = .ok (.aload_n 0, 1) := by decide +kernel
theorem dX12_workOut_112 : decode cX12_workOut 112 = .ok (.getfield 37, 3) := by decide +kernel
theorem dX12_workOut_115 : decode cX12_workOut 115 = .ok (.iload 4, 2) := by decide +kernel
theorem dX12_workOut_117 : decode cX12_workOut 117 = .ok (.iconst 1, 1) := by decide +kernel
theorem dX12_workOut_118 : decode cX12_workOut 118 = .ok (.isub, 1) := by decide +kernel
theorem dX12_workOut_119 : decode cX12_workOut 119 = .ok (.iaload, 1) := by decide +kernel
theorem dX12_workOut_120 : decode cX12_workOut 120 = .ok (.isub, 1) := by decide +kernel
theorem dX12_workOut_121 : decode cX12_workOut 121 = .ok (.iastore, 1) := by decide +kernel
theorem dX12_workOut_122 : decode cX12_workOut 122 = .ok (.goto 43, 3) := by decide +kernel
theorem dX12_workOut_125 : decode cX12_workOut 125 = .ok (.iinc 4 (-1), 3) := by decide +kernel
theorem dX12_workOut_128 : decode cX12_workOut 128 = .ok (.aload_n 0, 1) := by decide +kernel
theorem dX12_workOut_129 : decode cX12_workOut 129 = .ok (.getfield 37, 3) := by decide +kernel
theorem dX12_workOut_132 : decode cX12_workOut 132 = .ok (.iload 4, 2) := by decide +kernel
theorem dX12_workOut_134 : decode cX12_workOut 134 = .ok (.iconst 1, 1) := by decide +kernel
theorem dX12_workOut_135 : decode cX12_workOut 135 = .ok (.isub, 1) := by decide +kernel
theorem dX12_workOut_136 : decode cX12_workOut 136 = .ok (.aload_n 0, 1) := by decide +kernel
theorem dX12_workOut_137 : decode cX12_workOut 137 = .ok (.getfield 13, 3) := by decide +kernel
theorem dX12_workOut_140 : decode cX12_workOut 140 = .ok (.iload 5, 2) := by decide +kernel
theorem dX12_workOut_142 : decode cX12_workOut 142 = .ok (.iaload, 1) := by decide +kernel
theorem dX12_workOut_143 : decode cX12_workOut 143 = .ok (.aload_n 0, 1) := by decide +kernel
theorem dX12_workOut_144 : decode cX12_workOut 144 = .ok (.getfield 37, 3) := by decide +kernel
theorem dX12_workOut_147 : decode cX12_workOut 147 = .ok (.iload 4, 2) := by decide +kernel
theorem dX12_workOut_149 : decode cX12_workOut 149 = .ok (.iconst 1, 1) := by decide +kernel
theorem dX12_workOut_150 : decode cX12_workOut 150 = .ok (.isub, 1) := by decide +kernel
theorem dX12_workOut_151 : decode cX12_workOut 151 = .ok (.iaload, 1) := by decide +kernel
theorem dX12_workOut_152 : decode cX12_workOut 152 = .ok (.i2l, 1) := by decide +kernel
theorem dX12_workOut_153 : decode cX12_workOut 153 = .ok (.aload_n 0, 1) := by decide +kernel
theorem dX12_workOut_154 : decode cX12_workOut 154 = .ok (.getfield 37, 3) := by decide +kernel
theorem dX12_workOut_157 : decode cX12_workOut 157 = .ok (.iload 4, 2) := by decide +kernel
theorem dX12_workOut_159 : decode cX12_workOut 159 = .ok (.iaload, 1) := by decide +kernel
theorem dX12_workOut_160 : decode cX12_workOut 160 = .ok (.i2l, 1) := by decide +kernel
theorem dX12_workOut_161 : decode cX12_workOut 161 = .ok (.invokestatic 208, 3) := by decide +kernel
theorem dX12_workOut_164 : decode cX12_workOut 164 = .ok (.iastore, 1) := by decide +kernel
theorem dX12_workOut_165 : decode cX12_workOut 165 = .ok (.iinc 5 1, 3) := by decide +kernel
theorem dX12_workOut_168 : decode cX12_workOut 168 = .ok (.goto (-156), 3) := by decide +kernel
theorem dX12_workOut_171 : decode cX12_workOut 171 = .ok (.aload_n 0, 1) := by decide +kernel
theorem dX12_workOut_172 : decode cX12_workOut 172 = .ok (.getfield 37, 3) := by decide +kernel
theorem dX12_workOut_175 : decode cX12_workOut 175 = .ok (.iconst 0, 1) := by decide +kernel
theorem dX12_workOut_176 : decode cX12_workOut 176 = .ok (.iaload, 1) := by decide +kernel
theorem dX12_workOut_177 : decode cX12_workOut 177 = .ok (.ireturn, 1) := by decide +kernel
theorem dX12_worthOf_0 : decode cX12_worthOf 0 = .ok (.bipush 90, 2) := by decide +kernel
theorem dX12_worthOf_2 : decode cX12_worthOf 2 = .ok (.iload_n 1, 1) := by decide +kernel
theorem dX12_worthOf_3 : decode cX12_worthOf 3 = .ok (.imul, 1) := by decide +kernel
theorem dX12_worthOf_4 : decode cX12_worthOf 4 = .ok (.istore_n 2, 1) := by decide +kernel
theorem dX12_worthOf_5 : decode cX12_worthOf 5 = .ok (.iload_n 2, 1) := by decide +kernel
theorem dX12_worthOf_6 : decode cX12_worthOf 6 = .ok (.bipush 90, 2) := by decide +kernel
theorem dX12_worthOf_8 : decode cX12_worthOf 8 = .ok (.iload_n 1, 1) := by decide +kernel
theorem dX12_worthOf_9 : decode cX12_worthOf 9 = .ok (.imul, 1) := by decide +kernel
theorem dX12_worthOf_10 : decode cX12_worthOf 10 = .ok (.aload_n 0, 1) := by decide +kernel
theorem dX12_worthOf_11 : decode cX12_worthOf 11 = .ok (.getfield 22, 3) := by decide +kernel
theorem dX12_worthOf_14 : decode cX12_worthOf 14 = .ok (.iload_n 1, 1) := by decide +kernel
theorem dX12_worthOf_15 : decode cX12_worthOf 15 = .ok (.iaload, 1) := by decide +kernel
theorem dX12_worthOf_16 : decode cX12_worthOf 16 = .ok (.iadd, 1) := by decide +kernel
theorem dX12_worthOf_17 : decode cX12_worthOf 17 = .ok (.if_icmp .ge 62, 3) := by decide +kernel
theorem dX12_worthOf_20 : decode cX12_worthOf 20 = .ok (.aload_n 0, 1) := by decide +kernel
theorem dX12_worthOf_21 : decode cX12_worthOf 21 = .ok (.getfield 25, 3) := by decide +kernel
theorem dX12_worthOf_24 : decode cX12_worthOf 24 = .ok (.iload_n 2, 1) := by decide +kernel
theorem dX12_worthOf_25 : decode cX12_worthOf 25 = .ok (.iaload, 1) := by decide +kernel
theorem dX12_worthOf_26 : decode cX12_worthOf 26 = .ok (.aload_n 0, 1) := by decide +kernel
theorem dX12_worthOf_27 : decode cX12_worthOf 27 = .ok (.getfield 28, 3) := by decide +kernel
theorem dX12_worthOf_30 : decode cX12_worthOf 30 = .ok (.iload_n 2, 1) := by decide +kernel
theorem dX12_worthOf_31 : decode cX12_worthOf 31 = .ok (.iaload, 1) := by decide +kernel
theorem dX12_worthOf_32 : decode cX12_worthOf 32 = .ok (.if_icmp .eq 23, 3) := by decide +kernel
theorem dX12_worthOf_35 : decode cX12_worthOf 35 = .ok (.aload_n 0, 1) := by decide +kernel
theorem dX12_worthOf_36 : decode cX12_worthOf 36 = .ok (.iload_n 1, 1) := by decide +kernel
theorem dX12_worthOf_37 : decode cX12_worthOf 37 = .ok (.aload_n 0, 1) := by decide +kernel
theorem dX12_worthOf_38 : decode cX12_worthOf 38 = .ok (.getfield 25, 3) := by decide +kernel
theorem dX12_worthOf_41 : decode cX12_worthOf 41 = .ok (.iload_n 2, 1) := by decide +kernel
theorem dX12_worthOf_42 : decode cX12_worthOf 42 = .ok (.iaload, 1) := by decide +kernel
theorem dX12_worthOf_43 : decode cX12_worthOf 43 = .ok (.aload_n 0, 1) := by decide +kernel
theorem dX12_worthOf_44 : decode cX12_worthOf 44 = .ok (.getfield 28, 3) := by decide +kernel
theorem dX12_worthOf_47 : decode cX12_worthOf 47 = .ok (.iload_n 2, 1) := by decide +kernel
theorem dX12_worthOf_48 : decode cX12_worthOf 48 = .ok (.iaload, 1) := by decide +kernel
theorem dX12_worthOf_49 : decode cX12_worthOf 49 = .ok (.invokevirtual 212, 3) := by decide +kernel
theorem dX12_worthOf_52 : decode cX12_worthOf 52 = .ok (.ifCond .eq 21, 3) := by decide +kernel
theorem dX12_worthOf_55 : decode cX12_worthOf 55 = .ok (.aload_n 0, 1) := by decide +kernel
theorem dX12_worthOf_56 : decode cX12_worthOf 56 = .ok (.iload_n 1, 1) := by decide +kernel
theorem dX12_worthOf_57 : decode cX12_worthOf 57 = .ok (.aload_n 0, 1) := by decide +kernel
theorem dX12_worthOf_58 : decode cX12_worthOf 58 = .ok (.getfield 28, 3) := by decide +kernel
theorem dX12_worthOf_61 : decode cX12_worthOf 61 = .ok (.iload_n 2, 1) := by decide +kernel
theorem dX12_worthOf_62 : decode cX12_worthOf 62 = .ok (.iaload, 1) := by decide +kernel
theorem dX12_worthOf_63 : decode cX12_worthOf 63 = .ok (.aload_n 0, 1) := by decide +kernel
theorem dX12_worthOf_64 : decode cX12_worthOf 64 = .ok (.getfield 31, 3) := by decide +kernel
theorem dX12_worthOf_67 : decode cX12_worthOf 67 = .ok (.iload_n 2, 1) := by decide +kernel
theorem dX12_worthOf_68 : decode cX12_worthOf 68 = .ok (.iaload, 1) := by decide +kernel
theorem dX12_worthOf_69 : decode cX12_worthOf 69 = .ok (.invokevirtual 212, 3) := by decide +kernel
theorem dX12_worthOf_72 : decode cX12_worthOf 72 = .ok (.ireturn, 1) := by decide +kernel
theorem dX12_worthOf_73 : decode cX12_worthOf 73 = .ok (.iinc 2 1, 3) := by decide +kernel
theorem dX12_worthOf_76 : decode cX12_worthOf 76 = .ok (.goto (-71), 3) := by decide +kernel
theorem dX12_worthOf_79 : decode cX12_worthOf 79 = .ok (.iconst 0, 1) := by decide +kernel
theorem dX12_worthOf_80 : decode cX12_worthOf 80 = .ok (.ireturn, 1) := by decide +kernel
theorem dX12_number_0 : decode cX12_number 0 = .ok (.aload_n 0, 1) := by decide +kernel
theorem dX12_number_1 : decode cX12_number 1 = .ok (.invokevirtual 130, 3) := by decide +kernel
theorem dX12_number_4 : decode cX12_number 4 = .ok (.invokestatic 133, 3) := by decide +kernel
theorem dX12_number_7 : decode cX12_number 7 = .ok (.ifCond .ne 9, 3) := by decide +kernel
theorem dX12_number_10 : decode cX12_number 10 = .ok (.aload_n 0, 1) := by decide +kernel
theorem dX12_number_11 : decode cX12_number 11 = .ok (.invokevirtual 127, 3) := by decide +kernel
theorem dX12_number_14 : decode cX12_number 14 = .ok (.iload_n 1, 1) := by decide +kernel
theorem dX12_number_15 : decode cX12_number 15 = .ok (.ireturn, 1) := by decide +kernel
theorem dX12_number_16 : decode cX12_number 16 = .ok (.aload_n 0, 1) := by decide +kernel
theorem dX12_number_17 : decode cX12_number 17 = .ok (.invokevirtual 114, 3) := by decide +kernel
theorem dX12_number_20 : decode cX12_number 20 = .ok (.bipush 48, 2) := by decide +kernel
theorem dX12_number_22 : decode cX12_number 22 = .ok (.isub, 1) := by decide +kernel
theorem dX12_number_23 : decode cX12_number 23 = .ok (.istore_n 3, 1) := by decide +kernel
theorem dX12_number_24 : decode cX12_number 24 = .ok (.aload_n 0, 1) := by decide +kernel
theorem dX12_number_25 : decode cX12_number 25 = .ok (.dup, 1) := by decide +kernel
theorem dX12_number_26 : decode cX12_number 26 = .ok (.getfield 111, 3) := by decide +kernel
theorem dX12_number_29 : decode cX12_number 29 = .ok (.iconst 1, 1) := by decide +kernel
theorem dX12_number_30 : decode cX12_number 30 = .ok (.iadd, 1) := by decide +kernel
theorem dX12_number_31 : decode cX12_number 31 = .ok (.putfield 111, 3) := by decide +kernel
theorem dX12_number_34 : decode cX12_number 34 = .ok (.aload_n 0, 1) := by decide +kernel
theorem dX12_number_35 : decode cX12_number 35 = .ok (.invokevirtual 114, 3) := by decide +kernel
theorem dX12_number_38 : decode cX12_number 38 = .ok (.invokestatic 133, 3) := by decide +kernel
theorem dX12_number_41 : decode cX12_number 41 = .ok (.ifCond .eq 26, 3) := by decide +kernel
theorem dX12_number_44 : decode cX12_number 44 = .ok (.bipush 10, 2) := by decide +kernel
theorem dX12_number_46 : decode cX12_number 46 = .ok (.iload_n 3, 1) := by decide +kernel
theorem dX12_number_47 : decode cX12_number 47 = .ok (.imul, 1) := by decide +kernel
theorem dX12_number_48 : decode cX12_number 48 = .ok (.aload_n 0, 1) := by decide +kernel
theorem dX12_number_49 : decode cX12_number 49 = .ok (.invokevirtual 114, 3) := by decide +kernel
theorem dX12_number_52 : decode cX12_number 52 = .ok (.iadd, 1) := by decide +kernel
theorem dX12_number_53 : decode cX12_number 53 = .ok (.bipush 48, 2) := by decide +kernel
theorem dX12_number_55 : decode cX12_number 55 = .ok (.isub, 1) := by decide +kernel
theorem dX12_number_56 : decode cX12_number 56 = .ok (.istore_n 3, 1) := by decide +kernel
theorem dX12_number_57 : decode cX12_number 57 = .ok (.aload_n 0, 1) := by decide +kernel
theorem dX12_number_58 : decode cX12_number 58 = .ok (.dup, 1) := by decide +kernel
theorem dX12_number_59 : decode cX12_number 59 = .ok (.getfield 111, 3) := by decide +kernel
theorem dX12_number_62 : decode cX12_number 62 = .ok (.iconst 1, 1) := by decide +kernel
theorem dX12_number_63 : decode cX12_number 63 = .ok (.iadd, 1) := by decide +kernel
theorem dX12_number_64 : decode cX12_number 64 = .ok (.putfield 111, 3) := by decide +kernel
theorem dX12_number_67 : decode cX12_number 67 = .ok (.aload_n 0, 1) := by decide +kernel
theorem dX12_number_68 : decode cX12_number 68 = .ok (.invokevirtual 114, 3) := by decide +kernel
theorem dX12_number_71 : decode cX12_number 71 = .ok (.invokestatic 133, 3) := by decide +kernel
theorem dX12_number_74 : decode cX12_number 74 = .ok (.ifCond .eq 10, 3) := by decide +kernel
theorem dX12_number_77 : decode cX12_number 77 = .ok (.aload_n 0, 1) := by decide +kernel
theorem dX12_number_78 : decode cX12_number 78 = .ok (.invokevirtual 127, 3) := by decide +kernel
theorem dX12_number_81 : decode cX12_number 81 = .ok (.goto 26, 3) := by decide +kernel
theorem dX12_number_84 : decode cX12_number 84 = .ok (.iload_n 3, 1) := by decide +kernel
theorem dX12_number_85 : decode cX12_number 85 = .ok (.iload_n 1, 1) := by decide +kernel
theorem dX12_number_86 : decode cX12_number 86 = .ok (.iload_n 2, 1) := by decide +kernel
theorem dX12_number_87 : decode cX12_number 87 = .ok (.invokestatic 216, 3) := by decide +kernel
theorem dX12_number_90 : decode cX12_number 90 = .ok (.ifCond .ne 17, 3) := by decide +kernel
theorem dX12_number_93 : decode cX12_number 93 = .ok (.aload_n 0, 1) := by decide +kernel
theorem dX12_number_94 : decode cX12_number 94 = .ok (.dup, 1) := by decide +kernel
theorem dX12_number_95 : decode cX12_number 95 = .ok (.getfield 111, 3) := by decide +kernel
theorem dX12_number_98 : decode cX12_number 98 = .ok (.iconst 1, 1) := by decide +kernel
theorem dX12_number_99 : decode cX12_number 99 = .ok (.isub, 1) := by decide +kernel
theorem dX12_number_100 : decode cX12_number 100 = .ok (.putfield 111, 3) := by decide +kernel
theorem dX12_number_103 : decode cX12_number 103 = .ok (.aload_n 0, 1) := by decide +kernel
theorem dX12_number_104 : decode cX12_number 104 = .ok (.invokevirtual 127, 3) := by decide +kernel
theorem dX12_number_107 : decode cX12_number 107 = .ok (.iload_n 3, 1) := by decide +kernel
theorem dX12_number_108 : decode cX12_number 108 = .ok (.ireturn, 1) := by decide +kernel
theorem dX12_itemOf_0 : decode cX12_itemOf 0 = .ok (.iload_n 0, 1) := by decide +kernel
theorem dX12_itemOf_1 : decode cX12_itemOf 1 = .ok (.bipush 98, 2) := by decide +kernel
theorem dX12_itemOf_3 : decode cX12_itemOf 3 = .ok (.if_icmp .ne 7, 3) := by decide +kernel
theorem dX12_itemOf_6 : decode cX12_itemOf 6 = .ok (.iconst 0, 1) := by decide +kernel
theorem dX12_itemOf_7 : decode cX12_itemOf 7 = .ok (.goto 44, 3) := by decide +kernel
theorem dX12_itemOf_10 : decode cX12_itemOf 10 = .ok (.iload_n 0, 1) := by decide +kernel
theorem dX12_itemOf_11 : decode cX12_itemOf 11 = .ok (.bipush 100, 2) := by decide +kernel
theorem dX12_itemOf_13 : decode cX12_itemOf 13 = .ok (.if_icmp .ne 7, 3) := by decide +kernel
theorem dX12_itemOf_16 : decode cX12_itemOf 16 = .ok (.iconst 1, 1) := by decide +kernel
theorem dX12_itemOf_17 : decode cX12_itemOf 17 = .ok (.goto 34, 3) := by decide +kernel
theorem dX12_itemOf_20 : decode cX12_itemOf 20 = .ok (.iload_n 0, 1) := by decide +kernel
theorem dX12_itemOf_21 : decode cX12_itemOf 21 = .ok (.bipush 107, 2) := by decide +kernel
theorem dX12_itemOf_23 : decode cX12_itemOf 23 = .ok (.if_icmp .ne 7, 3) := by decide +kernel
theorem dX12_itemOf_26 : decode cX12_itemOf 26 = .ok (.iconst 2, 1) := by decide +kernel
theorem dX12_itemOf_27 : decode cX12_itemOf 27 = .ok (.goto 24, 3) := by decide +kernel
theorem dX12_itemOf_30 : decode cX12_itemOf 30 = .ok (.iload_n 0, 1) := by decide +kernel
theorem dX12_itemOf_31 : decode cX12_itemOf 31 = .ok (.bipush 102, 2) := by decide +kernel
theorem dX12_itemOf_33 : decode cX12_itemOf 33 = .ok (.if_icmp .ne 7, 3) := by decide +kernel
theorem dX12_itemOf_36 : decode cX12_itemOf 36 = .ok (.iconst 3, 1) := by decide +kernel
theorem dX12_itemOf_37 : decode cX12_itemOf 37 = .ok (.goto 14, 3) := by decide +kernel
theorem dX12_itemOf_40 : decode cX12_itemOf 40 = .ok (.iload_n 0, 1) := by decide +kernel
theorem dX12_itemOf_41 : decode cX12_itemOf 41 = .ok (.bipush 104, 2) := by decide +kernel
theorem dX12_itemOf_43 : decode cX12_itemOf 43 = .ok (.if_icmp .ne 7, 3) := by decide +kernel
theorem dX12_itemOf_46 : decode cX12_itemOf 46 = .ok (.iconst 4, 1) := by decide +kernel
theorem dX12_itemOf_47 : decode cX12_itemOf 47 = .ok (.goto 4, 3) := by decide +kernel
theorem dX12_itemOf_50 : decode cX12_itemOf 50 = .ok (.iconst (-1), 1) := by decide +kernel
theorem dX12_itemOf_51 : decode cX12_itemOf 51 = .ok (.ireturn, 1) := by decide +kernel
theorem dX12_highest_0 : decode cX12_highest 0 = .ok (.iload_n 0, 1) := by decide +kernel
theorem dX12_highest_1 : decode cX12_highest 1 = .ok (.ifCond .ne 8, 3) := by decide +kernel
theorem dX12_highest_4 : decode cX12_highest 4 = .ok (.bipush 99, 2) := by decide +kernel
theorem dX12_highest_6 : decode cX12_highest 6 = .ok (.goto 33, 3) := by decide +kernel
theorem dX12_highest_9 : decode cX12_highest 9 = .ok (.iload_n 0, 1) := by decide +kernel
theorem dX12_highest_10 : decode cX12_highest 10 = .ok (.iconst 1, 1) := by decide +kernel
theorem dX12_highest_11 : decode cX12_highest 11 = .ok (.if_icmp .ne 8, 3) := by decide +kernel
theorem dX12_highest_14 : decode cX12_highest 14 = .ok (.bipush 9, 2) := by decide +kernel
theorem dX12_highest_16 : decode cX12_highest 16 = .ok (.goto 23, 3) := by decide +kernel
theorem dX12_highest_19 : decode cX12_highest 19 = .ok (.iload_n 0, 1) := by decide +kernel
theorem dX12_highest_20 : decode cX12_highest 20 = .ok (.iconst 2, 1) := by decide +kernel
theorem dX12_highest_21 : decode cX12_highest 21 = .ok (.if_icmp .ne 7, 3) := by decide +kernel
theorem dX12_highest_24 : decode cX12_highest 24 = .ok (.iconst 3, 1) := by decide +kernel
theorem dX12_highest_25 : decode cX12_highest 25 = .ok (.goto 14, 3) := by decide +kernel
theorem dX12_highest_28 : decode cX12_highest 28 = .ok (.iload_n 0, 1) := by decide +kernel
theorem dX12_highest_29 : decode cX12_highest 29 = .ok (.iconst 3, 1) := by decide +kernel
theorem dX12_highest_30 : decode cX12_highest 30 = .ok (.if_icmp .ne 7, 3) := by decide +kernel
theorem dX12_highest_33 : decode cX12_highest 33 = .ok (.iconst 5, 1) := by decide +kernel
theorem dX12_highest_34 : decode cX12_highest 34 = .ok (.goto 5, 3) := by decide +kernel
theorem dX12_highest_37 : decode cX12_highest 37 = .ok (.bipush 10, 2) := by decide +kernel
theorem dX12_highest_39 : decode cX12_highest 39 = .ok (.ireturn, 1) := by decide +kernel
theorem dX12_playerText_0 : decode cX12_playerText 0 = .ok (.aload_n 0, 1) := by decide +kernel
theorem dX12_playerText_1 : decode cX12_playerText 1 = .ok (.getfield 220, 3) := by decide +kernel
theorem dX12_playerText_4 : decode cX12_playerText 4 = .ok (.bipush 6, 2) := by decide +kernel
theorem dX12_playerText_6 : decode cX12_playerText 6 = .ok (.if_icmp .ne 8, 3) := by decide +kernel
theorem dX12_playerText_9 : decode cX12_playerText 9 = .ok (.aload_n 0, 1) := by decide +kernel
theorem dX12_playerText_10 : decode cX12_playerText 10 = .ok (.invokevirtual 127, 3) := by decide +kernel
theorem dX12_playerText_13 : decode cX12_playerText 13 = .ok (.return_, 1) := by decide +kernel
theorem dX12_playerText_14 : decode cX12_playerText 14 = .ok (.aload_n 0, 1) := by decide +kernel
theorem dX12_playerText_15 : decode cX12_playerText 15 = .ok (.dup, 1) := by decide +kernel
theorem dX12_playerText_16 : decode cX12_playerText 16 = .ok (.getfield 111, 3) := by decide +kernel
theorem dX12_playerText_19 : decode cX12_playerText 19 = .ok (.iconst 1, 1) := by decide +kernel
theorem dX12_playerText_20 : decode cX12_playerText 20 = .ok (.iadd, 1) := by decide +kernel
theorem dX12_playerText_21 : decode cX12_playerText 21 = .ok (.putfield 111, 3) := by decide +kernel
theorem dX12_playerText_24 : decode cX12_playerText 24 = .ok (.iconst 5, 1) := by decide +kernel
theorem dX12_playerText_25 : decode cX12_playerText 25 = .ok (.aload_n 0, 1) := by decide +kernel
theorem dX12_playerText_26 : decode cX12_playerText 26 = .ok (.getfield 220, 3) := by decide +kernel
theorem dX12_playerText_29 : decode cX12_playerText 29 = .ok (.imul, 1) := by decide +kernel
theorem dX12_playerText_30 : decode cX12_playerText 30 = .ok (.istore_n 1, 1) := by decide +kernel
theorem dX12_playerText_31 : decode cX12_playerText 31 = .ok (.iconst 0, 1) := by decide +kernel
theorem dX12_playerText_32 : decode cX12_playerText 32 = .ok (.istore_n 2, 1) := by decide +kernel
theorem dX12_playerText_33 : decode cX12_playerText 33 = .ok (.iload_n 2, 1) := by decide +kernel
theorem dX12_playerText_34 : decode cX12_playerText 34 = .ok (.iconst 5, 1) := by decide +kernel
theorem dX12_playerText_35 : decode cX12_playerText 35 = .ok (.if_icmp .ge 45, 3) := by decide +kernel
theorem dX12_playerText_38 : decode cX12_playerText 38 = .ok (.aload_n 0, 1) := by decide +kernel
theorem dX12_playerText_39 : decode cX12_playerText 39 = .ok (.getfield 40, 3) := by decide +kernel
theorem dX12_playerText_42 : decode cX12_playerText 42 = .ok (.iload_n 1, 1) := by decide +kernel
theorem dX12_playerText_43 : decode cX12_playerText 43 = .ok (.iload_n 2, 1) := by decide +kernel
theorem dX12_playerText_44 : decode cX12_playerText 44 = .ok (.iadd, 1) := by decide +kernel
theorem dX12_playerText_45 : decode cX12_playerText 45 = .ok (.iload_n 2, 1) := by decide +kernel
theorem dX12_playerText_46 : decode cX12_playerText 46 = .ok (.ifCond .ne 8, 3) := by decide +kernel
theorem dX12_playerText_49 : decode cX12_playerText 49 = .ok (.bipush 60, 2) := by decide +kernel
theorem dX12_playerText_51 : decode cX12_playerText 51 = .ok (.goto 22, 3) := by decide +kernel
theorem dX12_playerText_54 : decode cX12_playerText 54 = .ok (.iload_n 2, 1) := by decide +kernel
theorem dX12_playerText_55 : decode cX12_playerText 55 = .ok (.iconst 3, 1) := by decide +kernel
theorem dX12_playerText_56 : decode cX12_playerText 56 = .ok (.if_icmp .ne 7, 3) := by decide +kernel
theorem dX12_playerText_59 : decode cX12_playerText 59 = .ok (.iconst (-1), 1) := by decide +kernel
theorem dX12_playerText_60 : decode cX12_playerText 60 = .ok (.goto 13, 3) := by decide +kernel
theorem dX12_playerText_63 : decode cX12_playerText 63 = .ok (.iload_n 2, 1) := by decide +kernel
theorem dX12_playerText_64 : decode cX12_playerText 64 = .ok (.iconst 4, 1) := by decide +kernel
theorem dX12_playerText_65 : decode cX12_playerText 65 = .ok (.if_icmp .ne 7, 3) := by decide +kernel
theorem dX12_playerText_68 : decode cX12_playerText 68 = .ok (.iconst 5, 1) := by decide +kernel
theorem dX12_playerText_69 : decode cX12_playerText 69 = .ok (.goto 4, 3) := by decide +kernel
theorem dX12_playerText_72 : decode cX12_playerText 72 = .ok (.iconst 0, 1) := by decide +kernel
theorem dX12_playerText_73 : decode cX12_playerText 73 = .ok (.iastore, 1) := by decide +kernel
theorem dX12_playerText_74 : decode cX12_playerText 74 = .ok (.iinc 2 1, 3) := by decide +kernel
theorem dX12_playerText_77 : decode cX12_playerText 77 = .ok (.goto (-44), 3) := by decide +kernel
theorem dX12_playerText_80 : decode cX12_playerText 80 = .ok (.iconst 0, 1) := by decide +kernel
theorem dX12_playerText_81 : decode cX12_playerText 81 = .ok (.istore_n 2, 1) := by decide +kernel
theorem dX12_playerText_82 : decode cX12_playerText 82 = .ok (.aload_n 0, 1) := by decide +kernel
theorem dX12_playerText_83 : decode cX12_playerText 83 = .ok (.invokevirtual 130, 3) := by decide +kernel
theorem dX12_playerText_86 : decode cX12_playerText 86 = .ok (.invokestatic 223, 3) := by decide +kernel
theorem dX12_playerText_89 : decode cX12_playerText 89 = .ok (.istore_n 3, 1) := by decide +kernel
theorem dX12_playerText_90 : decode cX12_playerText 90 = .ok (.aload_n 0, 1) := by decide +kernel
theorem dX12_playerText_91 : decode cX12_playerText 91 = .ok (.getfield 118, 3) := by decide +kernel
theorem dX12_playerText_94 : decode cX12_playerText 94 = .ok (.iconst (-1), 1) := by decide +kernel
theorem dX12_playerText_95 : decode cX12_playerText 95 = .ok (.if_icmp .ne 80, 3) := by decide +kernel
theorem dX12_playerText_98 : decode cX12_playerText 98 = .ok (.iload_n 3, 1) := by decide +kernel
theorem dX12_playerText_99 : decode cX12_playerText 99 = .ok (.iconst (-1), 1) := by decide +kernel
theorem dX12_playerText_100 : decode cX12_playerText 100 = .ok (.if_icmp .eq 75, 3) := by decide +kernel
theorem dX12_playerText_103 : decode cX12_playerText 103 = .ok (.iload_n 2, 1) := by decide +kernel
theorem dX12_playerText_104 : decode cX12_playerText 104 = .ok (.iload_n 3, 1) := by decide +kernel
theorem dX12_playerText_105 : decode cX12_playerText 105 = .ok (.invokestatic 226, 3) := by decide +kernel
theorem dX12_playerText_108 : decode cX12_playerText 108 = .ok (.ifCond .ne 67, 3) := by decide +kernel
theorem dX12_playerText_111 : decode cX12_playerText 111 = .ok (.iload_n 2, 1) := by decide +kernel
theorem dX12_playerText_112 : decode cX12_playerText 112 = .ok (.iconst 1, 1) := by decide +kernel
theorem dX12_playerText_113 : decode cX12_playerText 113 = .ok (.iload_n 3, 1) := by decide +kernel
theorem dX12_playerText_114 : decode cX12_playerText 114 = .ok (.ishl, 1) := by decide +kernel
theorem dX12_playerText_115 : decode cX12_playerText 115 = .ok (.ior, 1) := by decide +kernel
theorem dX12_playerText_116 : decode cX12_playerText 116 = .ok (.istore_n 2, 1) := by decide +kernel
theorem dX12_playerText_117 : decode cX12_playerText 117 = .ok (.aload_n 0, 1) := by decide +kernel
theorem dX12_playerText_118 : decode cX12_playerText 118 = .ok (.dup, 1) := by decide +kernel
theorem dX12_playerText_119 : decode cX12_playerText 119 = .ok (.getfield 111, 3) := by decide +kernel
theorem dX12_playerText_122 : decode cX12_playerText 122 = .ok (.iconst 1, 1) := by decide +kernel
theorem dX12_playerText_123 : decode cX12_playerText 123 = .ok (.iadd, 1) := by decide +kernel
theorem dX12_playerText_124 : decode cX12_playerText 124 = .ok (.putfield 111, 3) := by decide +kernel
theorem dX12_playerText_127 : decode cX12_playerText 127 = .ok (.aload_n 0, 1) := by decide +kernel
theorem dX12_playerText_128 : decode cX12_playerText 128 = .ok (.getfield 40, 3) := by decide +kernel
theorem dX12_playerText_131 : decode cX12_playerText 131 = .ok (.iload_n 1, 1) := by decide +kernel
theorem dX12_playerText_132 : decode cX12_playerText 132 = .ok (.iload_n 3, 1) := by decide +kernel
theorem dX12_playerText_133 : decode cX12_playerText 133 = .ok (.iadd, 1) := by decide +kernel
theorem dX12_playerText_134 : decode cX12_playerText 134 = .ok (.aload_n 0, 1) := by decide +kernel
theorem dX12_playerText_135 : decode cX12_playerText 135 = .ok (.iload_n 3, 1) := by decide +kernel
theorem dX12_playerText_136 : decode cX12_playerText 136 = .ok (.ifCond .ne 7, 3) := by decide +kernel
theorem dX12_playerText_139 : decode cX12_playerText 139 = .ok (.iconst 1, 1) := by decide +kernel
theorem dX12_playerText_140 : decode cX12_playerText 140 = .ok (.goto 4, 3) := by decide +kernel
theorem dX12_playerText_143 : decode cX12_playerText 143 = .ok (.iconst 0, 1) := by decide +kernel
theorem dX12_playerText_144 : decode cX12_playerText 144 = .ok (.iload_n 3, 1) := by decide +kernel
theorem dX12_playerText_145 : decode cX12_playerText 145 = .ok (.invokestatic 230, 3) := by decide +kernel
theorem dX12_playerText_148 : decode cX12_playerText 148 = .ok (.invokevirtual 233, 3) := by decide +kernel
theorem dX12_playerText_151 : decode cX12_playerText 151 = .ok (.iastore, 1) := by decide +kernel
theorem dX12_playerText_152 : decode cX12_playerText 152 = .ok (.aload_n 0, 1) := by decide +kernel
theorem dX12_playerText_153 : decode cX12_playerText 153 = .ok (.getfield 118, 3) := by decide +kernel
theorem dX12_playerText_156 : decode cX12_playerText 156 = .ok (.iconst (-1), 1) := by decide +kernel
theorem dX12_playerText_157 : decode cX12_playerText 157 = .ok (.if_icmp .ne 13, 3) := by decide +kernel
theorem dX12_playerText_160 : decode cX12_playerText 160 = .ok (.aload_n 0, 1) := by decide +kernel
theorem dX12_playerText_161 : decode cX12_playerText 161 = .ok (.invokevirtual 130, 3) := by decide +kernel
theorem dX12_playerText_164 : decode cX12_playerText 164 = .ok (.invokestatic 223, 3) := by decide +kernel
theorem dX12_playerText_167 : decode cX12_playerText 167 = .ok (.goto 4, 3) := by decide +kernel
theorem dX12_playerText_170 : decode cX12_playerText 170 = .ok (.iconst (-1), 1) := by decide +kernel
theorem dX12_playerText_171 : decode cX12_playerText 171 = .ok (.istore_n 3, 1) := by decide +kernel
theorem dX12_playerText_172 : decode cX12_playerText 172 = .ok (.goto (-82), 3) := by decide +kernel
theorem dX12_playerText_175 : decode cX12_playerText 175 = .ok (.aload_n 0, 1) := by decide +kernel
theorem dX12_playerText_176 : decode cX12_playerText 176 = .ok (.dup, 1) := by decide +kernel
theorem dX12_playerText_177 : decode cX12_playerText 177 = .ok (.getfield 220, 3) := by decide +kernel
theorem dX12_playerText_180 : decode cX12_playerText 180 = .ok (.iconst 1, 1) := by decide +kernel
theorem dX12_playerText_181 : decode cX12_playerText 181 = .ok (.iadd, 1) := by decide +kernel
theorem dX12_playerText_182 : decode cX12_playerText 182 = .ok (.putfield 220, 3) := by decide +kernel
theorem dX12_playerText_185 : decode cX12_playerText 185 = .ok (.return_, 1) := by decide +kernel
theorem dX12_areTold_0 : decode cX12_areTold 0 = .ok (.iconst 0, 1) := by decide +kernel
theorem dX12_areTold_1 : decode cX12_areTold 1 = .ok (.istore_n 1, 1) := by decide +kernel
theorem dX12_areTold_2 : decode cX12_areTold 2 = .ok (.iload_n 1, 1) := by decide +kernel
theorem dX12_areTold_3 : decode cX12_areTold 3 = .ok (.aload_n 0, 1) := by decide +kernel
theorem dX12_areTold_4 : decode cX12_areTold 4 = .ok (.getfield 220, 3) := by decide +kernel
theorem dX12_areTold_7 : decode cX12_areTold 7 = .ok (.if_icmp .ge 35, 3) := by decide +kernel
theorem dX12_areTold_10 : decode cX12_areTold 10 = .ok (.aload_n 0, 1) := by decide +kernel
theorem dX12_areTold_11 : decode cX12_areTold 11 = .ok (.getfield 40, 3) := by decide +kernel
theorem dX12_areTold_14 : decode cX12_areTold 14 = .ok (.iconst 5, 1) := by decide +kernel
theorem dX12_areTold_15 : decode cX12_areTold 15 = .ok (.iload_n 1, 1) := by decide +kernel
theorem dX12_areTold_16 : decode cX12_areTold 16 = .ok (.imul, 1) := by decide +kernel
theorem dX12_areTold_17 : decode cX12_areTold 17 = .ok (.iconst 3, 1) := by decide +kernel
theorem dX12_areTold_18 : decode cX12_areTold 18 = .ok (.iadd, 1) := by decide +kernel
theorem dX12_areTold_19 : decode cX12_areTold 19 = .ok (.iaload, 1) := by decide +kernel
theorem dX12_areTold_20 : decode cX12_areTold 20 = .ok (.istore_n 2, 1) := by decide +kernel
theorem dX12_areTold_21 : decode cX12_areTold 21 = .ok (.iload_n 2, 1) := by decide +kernel
theorem dX12_areTold_22 : decode cX12_areTold 22 = .ok (.iload_n 1, 1) := by decide +kernel
theorem dX12_areTold_23 : decode cX12_areTold 23 = .ok (.if_icmp .eq 11, 3) := by decide +kernel
theorem dX12_areTold_26 : decode cX12_areTold 26 = .ok (.iload_n 2, 1) := by decide +kernel
theorem dX12_areTold_27 : decode cX12_areTold 27 = .ok (.aload_n 0, 1) := by decide +kernel
theorem dX12_areTold_28 : decode cX12_areTold 28 = .ok (.getfield 220, 3) := by decide +kernel
theorem dX12_areTold_31 : decode cX12_areTold 31 = .ok (.if_icmp .lt 5, 3) := by decide +kernel
theorem dX12_areTold_34 : decode cX12_areTold 34 = .ok (.iconst 0, 1) := by decide +kernel
theorem dX12_areTold_35 : decode cX12_areTold 35 = .ok (.ireturn, 1) := by decide +kernel
theorem dX12_areTold_36 : decode cX12_areTold 36 = .ok (.iinc 1 1, 3) := by decide +kernel
theorem dX12_areTold_39 : decode cX12_areTold 39 = .ok (.goto (-37), 3) := by decide +kernel
theorem dX12_areTold_42 : decode cX12_areTold 42 = .ok (.aload_n 0, 1) := by decide +kernel
theorem dX12_areTold_43 : decode cX12_areTold 43 = .ok (.getfield 220, 3) := by decide +kernel
theorem dX12_areTold_46 : decode cX12_areTold 46 = .ok (.ifCond .le 7, 3) := by decide +kernel
theorem dX12_areTold_49 : decode cX12_areTold 49 = .ok (.iconst 1, 1) := by decide +kernel
theorem dX12_areTold_50 : decode cX12_areTold 50 = .ok (.goto 4, 3) := by decide +kernel
theorem dX12_areTold_53 : decode cX12_areTold 53 = .ok (.iconst 0, 1) := by decide +kernel
theorem dX12_areTold_54 : decode cX12_areTold 54 = .ok (.ireturn, 1) := by decide +kernel
theorem dX12_readTown_0 : decode cX12_readTown 0 = .ok (.aload_n 0, 1) := by decide +kernel
theorem dX12_readTown_1 : decode cX12_readTown 1 = .ok (.iconst 0, 1) := by decide +kernel
theorem dX12_readTown_2 : decode cX12_readTown 2 = .ok (.putfield 111, 3) := by decide +kernel
theorem dX12_readTown_5 : decode cX12_readTown 5 = .ok (.aload_n 0, 1) := by decide +kernel
theorem dX12_readTown_6 : decode cX12_readTown 6 = .ok (.iconst (-1), 1) := by decide +kernel
theorem dX12_readTown_7 : decode cX12_readTown 7 = .ok (.putfield 118, 3) := by decide +kernel
theorem dX12_readTown_10 : decode cX12_readTown 10 = .ok (.aload_n 0, 1) := by decide +kernel
theorem dX12_readTown_11 : decode cX12_readTown 11 = .ok (.iconst 0, 1) := by decide +kernel
theorem dX12_readTown_12 : decode cX12_readTown 12 = .ok (.putfield 220, 3) := by decide +kernel
theorem dX12_readTown_15 : decode cX12_readTown 15 = .ok (.aload_n 0, 1) := by decide +kernel
theorem dX12_readTown_16 : decode cX12_readTown 16 = .ok (.bipush 60, 2) := by decide +kernel
theorem dX12_readTown_18 : decode cX12_readTown 18 = .ok (.putfield 237, 3) := by decide +kernel
theorem dX12_readTown_21 : decode cX12_readTown 21 = .ok (.iconst 0, 1) := by decide +kernel
theorem dX12_readTown_22 : decode cX12_readTown 22 = .ok (.istore_n 1, 1) := by decide +kernel
theorem dX12_readTown_23 : decode cX12_readTown 23 = .ok (.iconst 1, 1) := by decide +kernel
theorem dX12_readTown_24 : decode cX12_readTown 24 = .ok (.istore_n 2, 1) := by decide +kernel
theorem dX12_readTown_25 : decode cX12_readTown 25 = .ok (.iload_n 2, 1) := by decide +kernel
theorem dX12_readTown_26 : decode cX12_readTown 26 = .ok (.ifCond .eq 132, 3) := by decide +kernel
theorem dX12_readTown_29 : decode cX12_readTown 29 = .ok (.aload_n 0, 1) := by decide +kernel
theorem dX12_readTown_30 : decode cX12_readTown 30 = .ok (.getfield 118, 3) := by decide +kernel
theorem dX12_readTown_33 : decode cX12_readTown 33 = .ok (.iconst (-1), 1) := by decide +kernel
theorem dX12_readTown_34 : decode cX12_readTown 34 = .ok (.if_icmp .ne 124, 3) := by decide +kernel
theorem dX12_readTown_37 : decode cX12_readTown 37 = .ok (.aload_n 0, 1) := by decide +kernel
theorem dX12_readTown_38 : decode cX12_readTown 38 = .ok (.invokevirtual 130, 3) := by decide +kernel
theorem dX12_readTown_41 : decode cX12_readTown 41 = .ok (.istore_n 3, 1) := by decide +kernel
theorem dX12_readTown_42 : decode cX12_readTown 42 = .ok (.iload_n 3, 1) := by decide +kernel
theorem dX12_readTown_43 : decode cX12_readTown 43 = .ok (.bipush 112, 2) := by decide +kernel
theorem dX12_readTown_45 : decode cX12_readTown 45 = .ok (.if_icmp .ne 10, 3) := by decide +kernel
theorem dX12_readTown_48 : decode cX12_readTown 48 = .ok (.aload_n 0, 1) := by decide +kernel
theorem dX12_readTown_49 : decode cX12_readTown 49 = .ok (.invokevirtual 240, 3) := by decide +kernel
theorem dX12_readTown_52 : decode cX12_readTown 52 = .ok (.goto 62, 3) := by decide +kernel
theorem dX12_readTown_55 : decode cX12_readTown 55 = .ok (.iload_n 3, 1) := by decide +kernel
theorem dX12_readTown_56 : decode cX12_readTown 56 = .ok (.bipush 109, 2) := by decide +kernel
theorem dX12_readTown_58 : decode cX12_readTown 58 = .ok (.if_icmp .ne 52, 3) := by decide +kernel
theorem dX12_readTown_61 : decode cX12_readTown 61 = .ok (.iload_n 1, 1) := by decide +kernel
theorem dX12_readTown_62 : decode cX12_readTown 62 = .ok (.ifCond .ne 48, 3) := by decide +kernel
theorem dX12_readTown_65 : decode cX12_readTown 65 = .ok (.iconst 1, 1) := by decide +kernel
theorem dX12_readTown_66 : decode cX12_readTown 66 = .ok (.istore_n 1, 1) := by decide +kernel
theorem dX12_readTown_67 : decode cX12_readTown 67 = .ok (.aload_n 0, 1) := by decide +kernel
theorem dX12_readTown_68 : decode cX12_readTown 68 = .ok (.dup, 1) := by decide +kernel
theorem dX12_readTown_69 : decode cX12_readTown 69 = .ok (.getfield 111, 3) := by decide +kernel
theorem dX12_readTown_72 : decode cX12_readTown 72 = .ok (.iconst 1, 1) := by decide +kernel
theorem dX12_readTown_73 : decode cX12_readTown 73 = .ok (.iadd, 1) := by decide +kernel
theorem dX12_readTown_74 : decode cX12_readTown 74 = .ok (.putfield 111, 3) := by decide +kernel
theorem dX12_readTown_77 : decode cX12_readTown 77 = .ok (.aload_n 0, 1) := by decide +kernel
theorem dX12_readTown_78 : decode cX12_readTown 78 = .ok (.invokevirtual 130, 3) := by decide +kernel
theorem dX12_readTown_81 : decode cX12_readTown 81 = .ok (.bipush 98, 2) := by decide +kernel
theorem dX12_readTown_83 : decode cX12_readTown 83 = .ok (.if_icmp .ne 31, 3) := by decide +kernel
theorem dX12_readTown_86 : decode cX12_readTown 86 = .ok (.aload_n 0, 1) := by decide +kernel
theorem dX12_readTown_87 : decode cX12_readTown 87 = .ok (.dup, 1) := by decide +kernel
theorem dX12_readTown_88 : decode cX12_readTown 88 = .ok (.getfield 111, 3) := by decide +kernel
theorem dX12_readTown_91 : decode cX12_readTown 91 = .ok (.iconst 1, 1) := by decide +kernel
theorem dX12_readTown_92 : decode cX12_readTown 92 = .ok (.iadd, 1) := by decide +kernel
theorem dX12_readTown_93 : decode cX12_readTown 93 = .ok (.putfield 111, 3) := by decide +kernel
theorem dX12_readTown_96 : decode cX12_readTown 96 = .ok (.aload_n 0, 1) := by decide +kernel
theorem dX12_readTown_97 : decode cX12_readTown 97 = .ok (.aload_n 0, 1) := by decide +kernel
theorem dX12_readTown_98 : decode cX12_readTown 98 = .ok (.iconst 1, 1) := by decide +kernel
theorem dX12_readTown_99 : decode cX12_readTown 99 = .ok (.bipush 99, 2) := by decide +kernel
theorem dX12_readTown_101 : decode cX12_readTown 101 = .ok (.invokevirtual 233, 3) := by decide +kernel
theorem dX12_readTown_104 : decode cX12_readTown 104 = .ok (.putfield 237, 3) := by decide +kernel
theorem dX12_readTown_107 : decode cX12_readTown 107 = .ok (.goto 7, 3) := by decide +kernel
theorem dX12_readTown_110 : decode cX12_readTown 110 = .ok (.aload_n 0, 1) := by decide +kernel
theorem dX12_readTown_111 : decode cX12_readTown 111 = .ok (.invokevirtual 127, 3) := by decide +kernel
theorem dX12_readTown_114 : decode cX12_readTown 114 = .ok (.aload_n 0, 1) := by decide +kernel
theorem dX12_readTown_115 : decode cX12_readTown 115 = .ok (.getfield 118, 3) := by decide +kernel
theorem dX12_readTown_118 : decode cX12_readTown 118 = .ok (.iconst (-1), 1) := by decide +kernel
theorem dX12_readTown_119 : decode cX12_readTown 119 = .ok (.if_icmp .ne 16, 3) := by decide +kernel
theorem dX12_readTown_122 : decode cX12_readTown 122 = .ok (.aload_n 0, 1) := by decide +kernel
theorem dX12_readTown_123 : decode cX12_readTown 123 = .ok (.invokevirtual 130, 3) := by decide +kernel
theorem dX12_readTown_126 : decode cX12_readTown 126 = .ok (.bipush 59, 2) := by decide +kernel
theorem dX12_readTown_128 : decode cX12_readTown 128 = .ok (.if_icmp .ne 7, 3) := by decide +kernel
theorem dX12_readTown_131 : decode cX12_readTown 131 = .ok (.iconst 1, 1) := by decide +kernel
theorem dX12_readTown_132 : decode cX12_readTown 132 = .ok (.goto 4, 3) := by decide +kernel
theorem dX12_readTown_135 : decode cX12_readTown 135 = .ok (.iconst 0, 1) := by decide +kernel
theorem dX12_readTown_136 : decode cX12_readTown 136 = .ok (.istore_n 2, 1) := by decide +kernel
theorem dX12_readTown_137 : decode cX12_readTown 137 = .ok (.aload_n 0, 1) := by decide +kernel
theorem dX12_readTown_138 : decode cX12_readTown 138 = .ok (.dup, 1) := by decide +kernel
theorem dX12_readTown_139 : decode cX12_readTown 139 = .ok (.getfield 111, 3) := by decide +kernel
theorem dX12_readTown_142 : decode cX12_readTown 142 = .ok (.iload_n 2, 1) := by decide +kernel
theorem dX12_readTown_143 : decode cX12_readTown 143 = .ok (.ifCond .eq 7, 3) := by decide +kernel
theorem dX12_readTown_146 : decode cX12_readTown 146 = .ok (.iconst 1, 1) := by decide +kernel
theorem dX12_readTown_147 : decode cX12_readTown 147 = .ok (.goto 4, 3) := by decide +kernel
theorem dX12_readTown_150 : decode cX12_readTown 150 = .ok (.iconst 0, 1) := by decide +kernel
theorem dX12_readTown_151 : decode cX12_readTown 151 = .ok (.iadd, 1) := by decide +kernel
theorem dX12_readTown_152 : decode cX12_readTown 152 = .ok (.putfield 111, 3) := by decide +kernel
theorem dX12_readTown_155 : decode cX12_readTown 155 = .ok (.goto (-130), 3) := by decide +kernel
theorem dX12_readTown_158 : decode cX12_readTown 158 = .ok (.aload_n 0, 1) := by decide +kernel
theorem dX12_readTown_159 : decode cX12_readTown 159 = .ok (.getfield 118, 3) := by decide +kernel
theorem dX12_readTown_162 : decode cX12_readTown 162 = .ok (.iconst (-1), 1) := by decide +kernel
theorem dX12_readTown_163 : decode cX12_readTown 163 = .ok (.if_icmp .ne 22, 3) := by decide +kernel
theorem dX12_readTown_166 : decode cX12_readTown 166 = .ok (.aload_n 0, 1) := by decide +kernel
theorem dX12_readTown_167 : decode cX12_readTown 167 = .ok (.invokevirtual 130, 3) := by decide +kernel
theorem dX12_readTown_170 : decode cX12_readTown 170 = .ok (.iconst (-1), 1) := by decide +kernel
theorem dX12_readTown_171 : decode cX12_readTown 171 = .ok (.if_icmp .ne 10, 3) := by decide +kernel
theorem dX12_readTown_174 : decode cX12_readTown 174 = .ok (.aload_n 0, 1) := by decide +kernel
theorem dX12_readTown_175 : decode cX12_readTown 175 = .ok (.invokevirtual 243, 3) := by decide +kernel
theorem dX12_readTown_178 : decode cX12_readTown 178 = .ok (.ifCond .ne 7, 3) := by decide +kernel
theorem dX12_readTown_181 : decode cX12_readTown 181 = .ok (.aload_n 0, 1) := by decide +kernel
theorem dX12_readTown_182 : decode cX12_readTown 182 = .ok (.invokevirtual 127, 3) := by decide +kernel
theorem dX12_readTown_185 : decode cX12_readTown 185 = .ok (.aload_n 0, 1) := by decide +kernel
theorem dX12_readTown_186 : decode cX12_readTown 186 = .ok (.getfield 118, 3) := by decide +kernel
theorem dX12_readTown_189 : decode cX12_readTown 189 = .ok (.ireturn, 1) := by decide +kernel
theorem dX12_fault_0 : decode cX12_fault 0 = .ok (.iload_n 1, 1) := by decide +kernel
theorem dX12_fault_1 : decode cX12_fault 1 = .ok (.ifCond .ne 10, 3) := by decide +kernel
theorem dX12_fault_4 : decode cX12_fault 4 = .ok (.aload_n 0, 1) := by decide +kernel
theorem dX12_fault_5 : decode cX12_fault 5 = .ok (.invokevirtual 247, 3) := by decide +kernel
theorem dX12_fault_8 : decode cX12_fault 8 = .ok (.goto 18, 3) := by decide +kernel
theorem dX12_fault_11 : decode cX12_fault 11 = .ok (.iload_n 1, 1) := by decide +kernel
theorem dX12_fault_12 : decode cX12_fault 12 = .ok (.iconst 1, 1) := by decide +kernel
theorem dX12_fault_13 : decode cX12_fault 13 = .ok (.if_icmp .ne 11, 3) := by decide +kernel
theorem dX12_fault_16 : decode cX12_fault 16 = .ok (.aload_n 0, 1) := by decide +kernel
theorem dX12_fault_17 : decode cX12_fault 17 = .ok (.iconst 4, 1) := by decide +kernel
theorem dX12_fault_18 : decode cX12_fault 18 = .ok (.invokevirtual 250, 3) := by decide +kernel
theorem dX12_fault_21 : decode cX12_fault 21 = .ok (.goto 5, 3) := by decide +kernel
theorem dX12_fault_24 : decode cX12_fault 24 = .ok (.bipush (-2), 2) := by decide +kernel
theorem dX12_fault_26 : decode cX12_fault 26 = .ok (.ireturn, 1) := by decide +kernel
theorem dX12_takeTown_0 : decode cX12_takeTown 0 = .ok (.aload_n 0, 1) := by decide +kernel
theorem dX12_takeTown_1 : decode cX12_takeTown 1 = .ok (.aload_n 0, 1) := by decide +kernel
theorem dX12_takeTown_2 : decode cX12_takeTown 2 = .ok (.getfield 220, 3) := by decide +kernel
theorem dX12_takeTown_5 : decode cX12_takeTown 5 = .ok (.putfield 253, 3) := by decide +kernel
theorem dX12_takeTown_8 : decode cX12_takeTown 8 = .ok (.aload_n 0, 1) := by decide +kernel
theorem dX12_takeTown_9 : decode cX12_takeTown 9 = .ok (.aload_n 0, 1) := by decide +kernel
theorem dX12_takeTown_10 : decode cX12_takeTown 10 = .ok (.getfield 237, 3) := by decide +kernel
theorem dX12_takeTown_13 : decode cX12_takeTown 13 = .ok (.putfield 256, 3) := by decide +kernel
theorem dX12_takeTown_16 : decode cX12_takeTown 16 = .ok (.iconst 0, 1) := by decide +kernel
theorem dX12_takeTown_17 : decode cX12_takeTown 17 = .ok (.istore_n 1, 1) := by decide +kernel
theorem dX12_takeTown_18 : decode cX12_takeTown 18 = .ok (.iload_n 1, 1) := by decide +kernel
theorem dX12_takeTown_19 : decode cX12_takeTown 19 = .ok (.bipush 30, 2) := by decide +kernel
theorem dX12_takeTown_21 : decode cX12_takeTown 21 = .ok (.if_icmp .ge 21, 3) := by decide +kernel
theorem dX12_takeTown_24 : decode cX12_takeTown 24 = .ok (.aload_n 0, 1) := by decide +kernel
theorem dX12_takeTown_25 : decode cX12_takeTown 25 = .ok (.getfield 43, 3) := by decide +kernel
theorem dX12_takeTown_28 : decode cX12_takeTown 28 = .ok (.iload_n 1, 1) := by decide +kernel
theorem dX12_takeTown_29 : decode cX12_takeTown 29 = .ok (.aload_n 0, 1) := by decide +kernel
theorem dX12_takeTown_30 : decode cX12_takeTown 30 = .ok (.getfield 40, 3) := by decide +kernel
theorem dX12_takeTown_33 : decode cX12_takeTown 33 = .ok (.iload_n 1, 1) := by decide +kernel
theorem dX12_takeTown_34 : decode cX12_takeTown 34 = .ok (.iaload, 1) := by decide +kernel
theorem dX12_takeTown_35 : decode cX12_takeTown 35 = .ok (.iastore, 1) := by decide +kernel
theorem dX12_takeTown_36 : decode cX12_takeTown 36 = .ok (.iinc 1 1, 3) := by decide +kernel
theorem dX12_takeTown_39 : decode cX12_takeTown 39 = .ok (.goto (-21), 3) := by decide +kernel
theorem dX12_takeTown_42 : decode cX12_takeTown 42 = .ok (.iconst 0, 1) := by decide +kernel
theorem dX12_takeTown_43 : decode cX12_takeTown 43 = .ok (.istore_n 1, 1) := by decide +kernel
theorem dX12_takeTown_44 : decode cX12_takeTown 44 = .ok (.iload_n 1, 1) := by decide +kernel
theorem dX12_takeTown_45 : decode cX12_takeTown 45 = .ok (.bipush 6, 2) := by decide +kernel
theorem dX12_takeTown_47 : decode cX12_takeTown 47 = .ok (.if_icmp .ge 32, 3) := by decide +kernel
theorem dX12_takeTown_50 : decode cX12_takeTown 50 = .ok (.aload_n 0, 1) := by decide +kernel
theorem dX12_takeTown_51 : decode cX12_takeTown 51 = .ok (.getfield 46, 3) := by decide +kernel
theorem dX12_takeTown_54 : decode cX12_takeTown 54 = .ok (.iload_n 1, 1) := by decide +kernel
theorem dX12_takeTown_55 : decode cX12_takeTown 55 = .ok (.aload_n 0, 1) := by decide +kernel
theorem dX12_takeTown_56 : decode cX12_takeTown 56 = .ok (.getfield 43, 3) := by decide +kernel
theorem dX12_takeTown_59 : decode cX12_takeTown 59 = .ok (.iconst 5, 1) := by decide +kernel
theorem dX12_takeTown_60 : decode cX12_takeTown 60 = .ok (.iload_n 1, 1) := by decide +kernel
theorem dX12_takeTown_61 : decode cX12_takeTown 61 = .ok (.imul, 1) := by decide +kernel
theorem dX12_takeTown_62 : decode cX12_takeTown 62 = .ok (.iconst 0, 1) := by decide +kernel
theorem dX12_takeTown_63 : decode cX12_takeTown 63 = .ok (.iadd, 1) := by decide +kernel
theorem dX12_takeTown_64 : decode cX12_takeTown 64 = .ok (.iaload, 1) := by decide +kernel
theorem dX12_takeTown_65 : decode cX12_takeTown 65 = .ok (.iastore, 1) := by decide +kernel
theorem dX12_takeTown_66 : decode cX12_takeTown 66 = .ok (.aload_n 0, 1) := by decide +kernel
theorem dX12_takeTown_67 : decode cX12_takeTown 67 = .ok (.getfield 49, 3) := by decide +kernel
theorem dX12_takeTown_70 : decode cX12_takeTown 70 = .ok (.iload_n 1, 1) := by decide +kernel
theorem dX12_takeTown_71 : decode cX12_takeTown 71 = .ok (.iconst 0, 1) := by decide +kernel
theorem dX12_takeTown_72 : decode cX12_takeTown 72 = .ok (.iastore, 1) := by decide +kernel
theorem dX12_takeTown_73 : decode cX12_takeTown 73 = .ok (.iinc 1 1, 3) := by decide +kernel
theorem dX12_takeTown_76 : decode cX12_takeTown 76 = .ok (.goto (-32), 3) := by decide +kernel
theorem dX12_takeTown_79 : decode cX12_takeTown 79 = .ok (.aload_n 0, 1) := by decide +kernel
theorem dX12_takeTown_80 : decode cX12_takeTown 80 = .ok (.iconst 0, 1) := by decide +kernel
theorem dX12_takeTown_81 : decode cX12_takeTown 81 = .ok (.putfield 259, 3) := by decide +kernel
theorem dX12_takeTown_84 : decode cX12_takeTown 84 = .ok (.aload_n 0, 1) := by decide +kernel
theorem dX12_takeTown_85 : decode cX12_takeTown 85 = .ok (.iconst 0, 1) := by decide +kernel
theorem dX12_takeTown_86 : decode cX12_takeTown 86 = .ok (.putfield 262, 3) := by decide +kernel
theorem dX12_takeTown_89 : decode cX12_takeTown 89 = .ok (.aload_n 0, 1) := by decide +kernel
theorem dX12_takeTown_90 : decode cX12_takeTown 90 = .ok (.iconst 0, 1) := by decide +kernel
theorem dX12_takeTown_91 : decode cX12_takeTown 91 = .ok (.putfield 265, 3) := by decide +kernel
theorem dX12_takeTown_94 : decode cX12_takeTown 94 = .ok (.aload_n 0, 1) := by decide +kernel
theorem dX12_takeTown_95 : decode cX12_takeTown 95 = .ok (.iconst 0, 1) := by decide +kernel
theorem dX12_takeTown_96 : decode cX12_takeTown 96 = .ok (.putfield 268, 3) := by decide +kernel
theorem dX12_takeTown_99 : decode cX12_takeTown 99 = .ok (.aload_n 0, 1) := by decide +kernel
theorem dX12_takeTown_100 : decode cX12_takeTown 100 = .ok (.iconst 0, 1) := by decide +kernel
theorem dX12_takeTown_101 : decode cX12_takeTown 101 = .ok (.putfield 271, 3) := by decide +kernel
theorem dX12_takeTown_104 : decode cX12_takeTown 104 = .ok (.aload_n 0, 1) := by decide +kernel
theorem dX12_takeTown_105 : decode cX12_takeTown 105 = .ok (.getfield 253, 3) := by decide +kernel
theorem dX12_takeTown_108 : decode cX12_takeTown 108 = .ok (.ireturn, 1) := by decide +kernel
theorem dX12_text_0 : decode cX12_text 0 = .ok (.iload_n 1, 1) := by decide +kernel
theorem dX12_text_1 : decode cX12_text 1 = .ok (.ifCond .ne 21, 3) := by decide +kernel
theorem dX12_text_4 : decode cX12_text 4 = .ok (.aload_n 0, 1) := by decide +kernel
theorem dX12_text_5 : decode cX12_text 5 = .ok (.invokevirtual 247, 3) := by decide +kernel
theorem dX12_text_8 : decode cX12_text 8 = .ok (.iconst (-1), 1) := by decide +kernel
theorem dX12_text_9 : decode cX12_text 9 = .ok (.if_icmp .ne 13, 3) := by decide +kernel
theorem dX12_text_12 : decode cX12_text 12 = .ok (.aload_n 0, 1) := by decide +kernel
theorem dX12_text_13 : decode cX12_text 13 = .ok (.iconst 0, 1) := by decide +kernel
theorem dX12_text_14 : decode cX12_text 14 = .ok (.putfield 108, 3) := by decide +kernel
theorem dX12_text_17 : decode cX12_text 17 = .ok (.aload_n 0, 1) := by decide +kernel
theorem dX12_text_18 : decode cX12_text 18 = .ok (.invokevirtual 275, 3) := by decide +kernel
theorem dX12_text_21 : decode cX12_text 21 = .ok (.ireturn, 1) := by decide +kernel
theorem dX12_text_22 : decode cX12_text 22 = .ok (.iload_n 1, 1) := by decide +kernel
theorem dX12_text_23 : decode cX12_text 23 = .ok (.iconst 1, 1) := by decide +kernel
theorem dX12_text_24 : decode cX12_text 24 = .ok (.if_icmp .ne 45, 3) := by decide +kernel
theorem dX12_text_27 : decode cX12_text 27 = .ok (.aload_n 0, 1) := by decide +kernel
theorem dX12_text_28 : decode cX12_text 28 = .ok (.getfield 278, 3) := by decide +kernel
theorem dX12_text_31 : decode cX12_text 31 = .ok (.iconst 4, 1) := by decide +kernel
theorem dX12_text_32 : decode cX12_text 32 = .ok (.if_icmp .ge 37, 3) := by decide +kernel
theorem dX12_text_35 : decode cX12_text 35 = .ok (.aload_n 0, 1) := by decide +kernel
theorem dX12_text_36 : decode cX12_text 36 = .ok (.aload_n 0, 1) := by decide +kernel
theorem dX12_text_37 : decode cX12_text 37 = .ok (.getfield 278, 3) := by decide +kernel
theorem dX12_text_40 : decode cX12_text 40 = .ok (.invokevirtual 250, 3) := by decide +kernel
theorem dX12_text_43 : decode cX12_text 43 = .ok (.iconst (-1), 1) := by decide +kernel
theorem dX12_text_44 : decode cX12_text 44 = .ok (.if_icmp .ne 25, 3) := by decide +kernel
theorem dX12_text_47 : decode cX12_text 47 = .ok (.aload_n 0, 1) := by decide +kernel
theorem dX12_text_48 : decode cX12_text 48 = .ok (.iconst 0, 1) := by decide +kernel
theorem dX12_text_49 : decode cX12_text 49 = .ok (.putfield 108, 3) := by decide +kernel
theorem dX12_text_52 : decode cX12_text 52 = .ok (.aload_n 0, 1) := by decide +kernel
theorem dX12_text_53 : decode cX12_text 53 = .ok (.dup, 1) := by decide +kernel
theorem dX12_text_54 : decode cX12_text 54 = .ok (.getfield 278, 3) := by decide +kernel
theorem dX12_text_57 : decode cX12_text 57 = .ok (.iconst 1, 1) := by decide +kernel
theorem dX12_text_58 : decode cX12_text 58 = .ok (.iadd, 1) := by decide +kernel
theorem dX12_text_59 : decode cX12_text 59 = .ok (.putfield 278, 3) := by decide +kernel
theorem dX12_text_62 : decode cX12_text 62 = .ok (.aload_n 0, 1) := by decide +kernel
theorem dX12_text_63 : decode cX12_text 63 = .ok (.getfield 278, 3) := by decide +kernel
theorem dX12_text_66 : decode cX12_text 66 = .ok (.iconst 1, 1) := by decide +kernel
theorem dX12_text_67 : decode cX12_text 67 = .ok (.isub, 1) := by decide +kernel
theorem dX12_text_68 : decode cX12_text 68 = .ok (.ireturn, 1) := by decide +kernel
theorem dX12_text_69 : decode cX12_text 69 = .ok (.iconst (-1), 1) := by decide +kernel
theorem dX12_text_70 : decode cX12_text 70 = .ok (.ireturn, 1) := by decide +kernel
theorem dX12_isPlayer_0 : decode cX12_isPlayer 0 = .ok (.iload_n 1, 1) := by decide +kernel
theorem dX12_isPlayer_1 : decode cX12_isPlayer 1 = .ok (.iconst 0, 1) := by decide +kernel
theorem dX12_isPlayer_2 : decode cX12_isPlayer 2 = .ok (.aload_n 0, 1) := by decide +kernel
theorem dX12_isPlayer_3 : decode cX12_isPlayer 3 = .ok (.getfield 253, 3) := by decide +kernel
theorem dX12_isPlayer_6 : decode cX12_isPlayer 6 = .ok (.iconst 1, 1) := by decide +kernel
theorem dX12_isPlayer_7 : decode cX12_isPlayer 7 = .ok (.isub, 1) := by decide +kernel
theorem dX12_isPlayer_8 : decode cX12_isPlayer 8 = .ok (.invokestatic 216, 3) := by decide +kernel
theorem dX12_isPlayer_11 : decode cX12_isPlayer 11 = .ok (.ireturn, 1) := by decide +kernel
theorem dX12_of_0 : decode cX12_of 0 = .ok (.aload_n 0, 1) := by decide +kernel
theorem dX12_of_1 : decode cX12_of 1 = .ok (.getfield 43, 3) := by decide +kernel
theorem dX12_of_4 : decode cX12_of 4 = .ok (.iconst 5, 1) := by decide +kernel
theorem dX12_of_5 : decode cX12_of 5 = .ok (.iload_n 1, 1) := by decide +kernel
theorem dX12_of_6 : decode cX12_of 6 = .ok (.imul, 1) := by decide +kernel
theorem dX12_of_7 : decode cX12_of 7 = .ok (.iload_n 2, 1) := by decide +kernel
theorem dX12_of_8 : decode cX12_of 8 = .ok (.iadd, 1) := by decide +kernel
theorem dX12_of_9 : decode cX12_of 9 = .ok (.iaload, 1) := by decide +kernel
theorem dX12_of_10 : decode cX12_of 10 = .ok (.ireturn, 1) := by decide +kernel
theorem dX12_player_0 : decode cX12_player 0 = .ok (.aload_n 0, 1) := by decide +kernel
theorem dX12_player_1 : decode cX12_player 1 = .ok (.aload_n 0, 1) := by decide +kernel
theorem dX12_player_2 : decode cX12_player 2 = .ok (.iload_n 1, 1) := by decide +kernel
theorem dX12_player_3 : decode cX12_player 3 = .ok (.invokevirtual 281, 3) := by decide +kernel
theorem dX12_player_6 : decode cX12_player 6 = .ok (.ifCond .eq 17, 3) := by decide +kernel
theorem dX12_player_9 : decode cX12_player 9 = .ok (.iload_n 2, 1) := by decide +kernel
theorem dX12_player_10 : decode cX12_player 10 = .ok (.iconst 0, 1) := by decide +kernel
theorem dX12_player_11 : decode cX12_player 11 = .ok (.bipush 6, 2) := by decide +kernel
theorem dX12_player_13 : decode cX12_player 13 = .ok (.invokestatic 216, 3) := by decide +kernel
theorem dX12_player_16 : decode cX12_player 16 = .ok (.ifCond .eq 7, 3) := by decide +kernel
theorem dX12_player_19 : decode cX12_player 19 = .ok (.iconst 0, 1) := by decide +kernel
theorem dX12_player_20 : decode cX12_player 20 = .ok (.goto 4, 3) := by decide +kernel
theorem dX12_player_23 : decode cX12_player 23 = .ok (.iconst 1, 1) := by decide +kernel
theorem dX12_player_24 : decode cX12_player 24 = .ok (.putfield 101, 3) := by decide +kernel
theorem dX12_player_27 : decode cX12_player 27 = .ok (.aload_n 0, 1) := by decide +kernel
theorem dX12_player_28 : decode cX12_player 28 = .ok (.getfield 101, 3) := by decide +kernel
theorem dX12_player_31 : decode cX12_player 31 = .ok (.iconst 1, 1) := by decide +kernel
theorem dX12_player_32 : decode cX12_player 32 = .ok (.if_icmp .ne 5, 3) := by decide +kernel
theorem dX12_player_35 : decode cX12_player 35 = .ok (.iconst 0, 1) := by decide +kernel
theorem dX12_player_36 : decode cX12_player 36 = .ok (.ireturn, 1) := by decide +kernel
theorem dX12_player_37 : decode cX12_player 37 = .ok (.iload_n 2, 1) := by decide +kernel
theorem dX12_player_38 : decode cX12_player 38 = .ok (.tableswitch 80 0 5 #[38, 45, 52, 59, 66, 73], 38) := by decide +kernel
theorem dX12_player_76 : decode cX12_player 76 = .ok (.aload_n 0, 1) := by decide +kernel
theorem dX12_player_77 : decode cX12_player 77 = .ok (.getfield 46, 3) := by decide +kernel
theorem dX12_player_80 : decode cX12_player 80 = .ok (.iload_n 1, 1) := by decide +kernel
theorem dX12_player_81 : decode cX12_player 81 = .ok (.iaload, 1) := by decide +kernel
theorem dX12_player_82 : decode cX12_player 82 = .ok (.ireturn, 1) := by decide +kernel
theorem dX12_player_83 : decode cX12_player 83 = .ok (.aload_n 0, 1) := by decide +kernel
theorem dX12_player_84 : decode cX12_player 84 = .ok (.iload_n 1, 1) := by decide +kernel
theorem dX12_player_85 : decode cX12_player 85 = .ok (.iconst 0, 1) := by decide +kernel
theorem dX12_player_86 : decode cX12_player 86 = .ok (.invokevirtual 284, 3) := by decide +kernel
theorem dX12_player_89 : decode cX12_player 89 = .ok (.ireturn, 1) := by decide +kernel
theorem dX12_player_90 : decode cX12_player 90 = .ok (.aload_n 0, 1) := by decide +kernel
theorem dX12_player_91 : decode cX12_player 91 = .ok (.iload_n 1, 1) := by decide +kernel
theorem dX12_player_92 : decode cX12_player 92 = .ok (.iconst 1, 1) := by decide +kernel
theorem dX12_player_93 : decode cX12_player 93 = .ok (.invokevirtual 284, 3) := by decide +kernel
theorem dX12_player_96 : decode cX12_player 96 = .ok (.ireturn, 1) := by decide +kernel
theorem dX12_player_97 : decode cX12_player 97 = .ok (.aload_n 0, 1) := by decide +kernel
theorem dX12_player_98 : decode cX12_player 98 = .ok (.iload_n 1, 1) := by decide +kernel
theorem dX12_player_99 : decode cX12_player 99 = .ok (.iconst 2, 1) := by decide +kernel
theorem dX12_player_100 : decode cX12_player 100 = .ok (.invokevirtual 284, 3) := by decide +kernel
theorem dX12_player_103 : decode cX12_player 103 = .ok (.ireturn, 1) := by decide +kernel
theorem dX12_player_104 : decode cX12_player 104 = .ok (.aload_n 0, 1) := by decide +kernel
theorem dX12_player_105 : decode cX12_player 105 = .ok (.iload_n 1, 1) := by decide +kernel
theorem dX12_player_106 : decode cX12_player 106 = .ok (.iconst 3, 1) := by decide +kernel
theorem dX12_player_107 : decode cX12_player 107 = .ok (.invokevirtual 284, 3) := by decide +kernel
theorem dX12_player_110 : decode cX12_player 110 = .ok (.ireturn, 1) := by decide +kernel
theorem dX12_player_111 : decode cX12_player 111 = .ok (.aload_n 0, 1) := by decide +kernel
theorem dX12_player_112 : decode cX12_player 112 = .ok (.iload_n 1, 1) := by decide +kernel
theorem dX12_player_113 : decode cX12_player 113 = .ok (.iconst 4, 1) := by decide +kernel
theorem dX12_player_114 : decode cX12_player 114 = .ok (.invokevirtual 284, 3) := by decide +kernel
theorem dX12_player_117 : decode cX12_player 117 = .ok (.ireturn, 1) := by decide +kernel
theorem dX12_player_118 : decode cX12_player 118 = .ok (.aload_n 0, 1) := by decide +kernel
theorem dX12_player_119 : decode cX12_player 119 = .ok (.getfield 49, 3) := by decide +kernel
theorem dX12_player_122 : decode cX12_player 122 = .ok (.iload_n 1, 1) := by decide +kernel
theorem dX12_player_123 : decode cX12_player 123 = .ok (.iaload, 1) := by decide +kernel
theorem dX12_player_124 : decode cX12_player 124 = .ok (.ireturn, 1) := by decide +kernel
theorem dX12_set_0 : decode cX12_set 0 = .ok (.iload_n 1, 1) := by decide +kernel
theorem dX12_set_1 : decode cX12_set 1 = .ok (.iconst 0, 1) := by decide +kernel
theorem dX12_set_2 : decode cX12_set 2 = .ok (.iconst 3, 1) := by decide +kernel
theorem dX12_set_3 : decode cX12_set 3 = .ok (.invokestatic 216, 3) := by decide +kernel
theorem dX12_set_6 : decode cX12_set 6 = .ok (.ifCond .eq 63, 3) := by decide +kernel
theorem dX12_set_9 : decode cX12_set 9 = .ok (.iload_n 2, 1) := by decide +kernel
theorem dX12_set_10 : decode cX12_set 10 = .ok (.iload_n 1, 1) := by decide +kernel
theorem dX12_set_11 : decode cX12_set 11 = .ok (.ifCond .ne 7, 3) := by decide +kernel
theorem dX12_set_14 : decode cX12_set 14 = .ok (.iconst (-1), 1) := by decide +kernel
theorem dX12_set_15 : decode cX12_set 15 = .ok (.goto 13, 3) := by decide +kernel
theorem dX12_set_18 : decode cX12_set 18 = .ok (.iload_n 1, 1) := by decide +kernel
theorem dX12_set_19 : decode cX12_set 19 = .ok (.iconst 1, 1) := by decide +kernel
theorem dX12_set_20 : decode cX12_set 20 = .ok (.if_icmp .ne 7, 3) := by decide +kernel
theorem dX12_set_23 : decode cX12_set 23 = .ok (.iconst 1, 1) := by decide +kernel
theorem dX12_set_24 : decode cX12_set 24 = .ok (.goto 4, 3) := by decide +kernel
theorem dX12_set_27 : decode cX12_set 27 = .ok (.iconst 0, 1) := by decide +kernel
theorem dX12_set_28 : decode cX12_set 28 = .ok (.iload_n 1, 1) := by decide +kernel
theorem dX12_set_29 : decode cX12_set 29 = .ok (.ifCond .ne 12, 3) := by decide +kernel
theorem dX12_set_32 : decode cX12_set 32 = .ok (.aload_n 0, 1) := by decide +kernel
theorem dX12_set_33 : decode cX12_set 33 = .ok (.getfield 278, 3) := by decide +kernel
theorem dX12_set_36 : decode cX12_set 36 = .ok (.iconst 1, 1) := by decide +kernel
theorem dX12_set_37 : decode cX12_set 37 = .ok (.isub, 1) := by decide +kernel
theorem dX12_set_38 : decode cX12_set 38 = .ok (.goto 25, 3) := by decide +kernel
theorem dX12_set_41 : decode cX12_set 41 = .ok (.iload_n 1, 1) := by decide +kernel
theorem dX12_set_42 : decode cX12_set 42 = .ok (.iconst 1, 1) := by decide +kernel
theorem dX12_set_43 : decode cX12_set 43 = .ok (.if_icmp .ne 8, 3) := by decide +kernel
theorem dX12_set_46 : decode cX12_set 46 = .ok (.bipush 30, 2) := by decide +kernel
theorem dX12_set_48 : decode cX12_set 48 = .ok (.goto 15, 3) := by decide +kernel
theorem dX12_set_51 : decode cX12_set 51 = .ok (.iload_n 1, 1) := by decide +kernel
theorem dX12_set_52 : decode cX12_set 52 = .ok (.iconst 2, 1) := by decide +kernel
theorem dX12_set_53 : decode cX12_set 53 = .ok (.if_icmp .ne 7, 3) := by decide +kernel
theorem dX12_set_56 : decode cX12_set 56 = .ok (.iconst 3, 1) := by decide +kernel
theorem dX12_set_57 : decode cX12_set 57 = .ok (.goto 6, 3) := by decide +kernel
theorem dX12_set_60 : decode cX12_set 60 = .ok (.sipush 999, 3) := by decide +kernel
theorem dX12_set_63 : decode cX12_set 63 = .ok (.invokestatic 216, 3) := by decide +kernel
theorem dX12_set_66 : decode cX12_set 66 = .ok (.ifCond .ne 5, 3) := by decide +kernel
theorem dX12_set_69 : decode cX12_set 69 = .ok (.iconst 0, 1) := by decide +kernel
theorem dX12_set_70 : decode cX12_set 70 = .ok (.ireturn, 1) := by decide +kernel
theorem dX12_set_71 : decode cX12_set 71 = .ok (.aload_n 0, 1) := by decide +kernel
theorem dX12_set_72 : decode cX12_set 72 = .ok (.iload_n 1, 1) := by decide +kernel
theorem dX12_set_73 : decode cX12_set 73 = .ok (.ifCond .ne 7, 3) := by decide +kernel
theorem dX12_set_76 : decode cX12_set 76 = .ok (.iload_n 2, 1) := by decide +kernel
theorem dX12_set_77 : decode cX12_set 77 = .ok (.goto 7, 3) := by decide +kernel
theorem dX12_set_80 : decode cX12_set 80 = .ok (.aload_n 0, 1) := by decide +kernel
theorem dX12_set_81 : decode cX12_set 81 = .ok (.getfield 52, 3) := by decide +kernel
theorem dX12_set_84 : decode cX12_set 84 = .ok (.putfield 52, 3) := by decide +kernel
theorem dX12_set_87 : decode cX12_set 87 = .ok (.aload_n 0, 1) := by decide +kernel
theorem dX12_set_88 : decode cX12_set 88 = .ok (.iload_n 1, 1) := by decide +kernel
theorem dX12_set_89 : decode cX12_set 89 = .ok (.iconst 1, 1) := by decide +kernel
theorem dX12_set_90 : decode cX12_set 90 = .ok (.if_icmp .ne 7, 3) := by decide +kernel
theorem dX12_set_93 : decode cX12_set 93 = .ok (.iload_n 2, 1) := by decide +kernel
theorem dX12_set_94 : decode cX12_set 94 = .ok (.goto 7, 3) := by decide +kernel
theorem dX12_set_97 : decode cX12_set 97 = .ok (.aload_n 0, 1) := by decide +kernel
theorem dX12_set_98 : decode cX12_set 98 = .ok (.getfield 56, 3) := by decide +kernel
theorem dX12_set_101 : decode cX12_set 101 = .ok (.putfield 56, 3) := by decide +kernel
theorem dX12_set_104 : decode cX12_set 104 = .ok (.aload_n 0, 1) := by decide +kernel
theorem dX12_set_105 : decode cX12_set 105 = .ok (.iload_n 1, 1) := by decide +kernel
theorem dX12_set_106 : decode cX12_set 106 = .ok (.iconst 2, 1) := by decide +kernel
theorem dX12_set_107 : decode cX12_set 107 = .ok (.if_icmp .ne 7, 3) := by decide +kernel
theorem dX12_set_110 : decode cX12_set 110 = .ok (.iload_n 2, 1) := by decide +kernel
theorem dX12_set_111 : decode cX12_set 111 = .ok (.goto 7, 3) := by decide +kernel
theorem dX12_set_114 : decode cX12_set 114 = .ok (.aload_n 0, 1) := by decide +kernel
theorem dX12_set_115 : decode cX12_set 115 = .ok (.getfield 287, 3) := by decide +kernel
theorem dX12_set_118 : decode cX12_set 118 = .ok (.putfield 287, 3) := by decide +kernel
theorem dX12_set_121 : decode cX12_set 121 = .ok (.aload_n 0, 1) := by decide +kernel
theorem dX12_set_122 : decode cX12_set 122 = .ok (.iload_n 1, 1) := by decide +kernel
theorem dX12_set_123 : decode cX12_set 123 = .ok (.iconst 3, 1) := by decide +kernel
theorem dX12_set_124 : decode cX12_set 124 = .ok (.if_icmp .ne 7, 3) := by decide +kernel
theorem dX12_set_127 : decode cX12_set 127 = .ok (.iload_n 2, 1) := by decide +kernel
theorem dX12_set_128 : decode cX12_set 128 = .ok (.goto 7, 3) := by decide +kernel
theorem dX12_set_131 : decode cX12_set 131 = .ok (.aload_n 0, 1) := by decide +kernel
theorem dX12_set_132 : decode cX12_set 132 = .ok (.getfield 59, 3) := by decide +kernel
theorem dX12_set_135 : decode cX12_set 135 = .ok (.putfield 59, 3) := by decide +kernel
theorem dX12_set_138 : decode cX12_set 138 = .ok (.iconst 1, 1) := by decide +kernel
theorem dX12_set_139 : decode cX12_set 139 = .ok (.ireturn, 1) := by decide +kernel
theorem dX12_tell_0 : decode cX12_tell 0 = .ok (.aload_n 0, 1) := by decide +kernel
theorem dX12_tell_1 : decode cX12_tell 1 = .ok (.iload_n 1, 1) := by decide +kernel
theorem dX12_tell_2 : decode cX12_tell 2 = .ok (.invokevirtual 281, 3) := by decide +kernel
theorem dX12_tell_5 : decode cX12_tell 5 = .ok (.ifCond .eq 62, 3) := by decide +kernel
theorem dX12_tell_8 : decode cX12_tell 8 = .ok (.iload_n 2, 1) := by decide +kernel
theorem dX12_tell_9 : decode cX12_tell 9 = .ok (.iconst 0, 1) := by decide +kernel
theorem dX12_tell_10 : decode cX12_tell 10 = .ok (.iconst 2, 1) := by decide +kernel
theorem dX12_tell_11 : decode cX12_tell 11 = .ok (.invokestatic 216, 3) := by decide +kernel
theorem dX12_tell_14 : decode cX12_tell 14 = .ok (.ifCond .eq 53, 3) := by decide +kernel
theorem dX12_tell_17 : decode cX12_tell 17 = .ok (.iload_n 3, 1) := by decide +kernel
theorem dX12_tell_18 : decode cX12_tell 18 = .ok (.iload_n 2, 1) := by decide +kernel
theorem dX12_tell_19 : decode cX12_tell 19 = .ok (.ifCond .ne 7, 3) := by decide +kernel
theorem dX12_tell_22 : decode cX12_tell 22 = .ok (.iconst (-1), 1) := by decide +kernel
theorem dX12_tell_23 : decode cX12_tell 23 = .ok (.goto 4, 3) := by decide +kernel
theorem dX12_tell_26 : decode cX12_tell 26 = .ok (.iconst 0, 1) := by decide +kernel
theorem dX12_tell_27 : decode cX12_tell 27 = .ok (.iload_n 2, 1) := by decide +kernel
theorem dX12_tell_28 : decode cX12_tell 28 = .ok (.ifCond .ne 12, 3) := by decide +kernel
theorem dX12_tell_31 : decode cX12_tell 31 = .ok (.aload_n 0, 1) := by decide +kernel
theorem dX12_tell_32 : decode cX12_tell 32 = .ok (.getfield 253, 3) := by decide +kernel
theorem dX12_tell_35 : decode cX12_tell 35 = .ok (.iconst 1, 1) := by decide +kernel
theorem dX12_tell_36 : decode cX12_tell 36 = .ok (.isub, 1) := by decide +kernel
theorem dX12_tell_37 : decode cX12_tell 37 = .ok (.goto 15, 3) := by decide +kernel
theorem dX12_tell_40 : decode cX12_tell 40 = .ok (.iload_n 2, 1) := by decide +kernel
theorem dX12_tell_41 : decode cX12_tell 41 = .ok (.iconst 1, 1) := by decide +kernel
theorem dX12_tell_42 : decode cX12_tell 42 = .ok (.if_icmp .ne 8, 3) := by decide +kernel
theorem dX12_tell_45 : decode cX12_tell 45 = .ok (.bipush 10, 2) := by decide +kernel
theorem dX12_tell_47 : decode cX12_tell 47 = .ok (.goto 5, 3) := by decide +kernel
theorem dX12_tell_50 : decode cX12_tell 50 = .ok (.bipush 50, 2) := by decide +kernel
theorem dX12_tell_52 : decode cX12_tell 52 = .ok (.invokestatic 216, 3) := by decide +kernel
theorem dX12_tell_55 : decode cX12_tell 55 = .ok (.ifCond .eq 12, 3) := by decide +kernel
theorem dX12_tell_58 : decode cX12_tell 58 = .ok (.iload_n 2, 1) := by decide +kernel
theorem dX12_tell_59 : decode cX12_tell 59 = .ok (.ifCond .ne 10, 3) := by decide +kernel
theorem dX12_tell_62 : decode cX12_tell 62 = .ok (.iload_n 3, 1) := by decide +kernel
theorem dX12_tell_63 : decode cX12_tell 63 = .ok (.iload_n 1, 1) := by decide +kernel
theorem dX12_tell_64 : decode cX12_tell 64 = .ok (.if_icmp .ne 5, 3) := by decide +kernel
theorem dX12_tell_67 : decode cX12_tell 67 = .ok (.iconst 0, 1) := by decide +kernel
theorem dX12_tell_68 : decode cX12_tell 68 = .ok (.ireturn, 1) := by decide +kernel
theorem dX12_tell_69 : decode cX12_tell 69 = .ok (.iload_n 2, 1) := by decide +kernel
theorem dX12_tell_70 : decode cX12_tell 70 = .ok (.iconst 2, 1) := by decide +kernel
theorem dX12_tell_71 : decode cX12_tell 71 = .ok (.if_icmp .ne 13, 3) := by decide +kernel
theorem dX12_tell_74 : decode cX12_tell 74 = .ok (.aload_n 0, 1) := by decide +kernel
theorem dX12_tell_75 : decode cX12_tell 75 = .ok (.getfield 49, 3) := by decide +kernel
theorem dX12_tell_78 : decode cX12_tell 78 = .ok (.iload_n 1, 1) := by decide +kernel
theorem dX12_tell_79 : decode cX12_tell 79 = .ok (.iload_n 3, 1) := by decide +kernel
theorem dX12_tell_80 : decode cX12_tell 80 = .ok (.iastore, 1) := by decide +kernel
theorem dX12_tell_81 : decode cX12_tell 81 = .ok (.goto 22, 3) := by decide +kernel
theorem dX12_tell_84 : decode cX12_tell 84 = .ok (.aload_n 0, 1) := by decide +kernel
theorem dX12_tell_85 : decode cX12_tell 85 = .ok (.getfield 43, 3) := by decide +kernel
theorem dX12_tell_88 : decode cX12_tell 88 = .ok (.iconst 5, 1) := by decide +kernel
theorem dX12_tell_89 : decode cX12_tell 89 = .ok (.iload_n 1, 1) := by decide +kernel
theorem dX12_tell_90 : decode cX12_tell 90 = .ok (.imul, 1) := by decide +kernel
theorem dX12_tell_91 : decode cX12_tell 91 = .ok (.iload_n 2, 1) := by decide +kernel
theorem dX12_tell_92 : decode cX12_tell 92 = .ok (.ifCond .ne 7, 3) := by decide +kernel
theorem dX12_tell_95 : decode cX12_tell 95 = .ok (.iconst 3, 1) := by decide +kernel
theorem dX12_tell_96 : decode cX12_tell 96 = .ok (.goto 4, 3) := by decide +kernel
theorem dX12_tell_99 : decode cX12_tell 99 = .ok (.iconst 4, 1) := by decide +kernel
theorem dX12_tell_100 : decode cX12_tell 100 = .ok (.iadd, 1) := by decide +kernel
theorem dX12_tell_101 : decode cX12_tell 101 = .ok (.iload_n 3, 1) := by decide +kernel
theorem dX12_tell_102 : decode cX12_tell 102 = .ok (.iastore, 1) := by decide +kernel
theorem dX12_tell_103 : decode cX12_tell 103 = .ok (.iconst 1, 1) := by decide +kernel
theorem dX12_tell_104 : decode cX12_tell 104 = .ok (.ireturn, 1) := by decide +kernel
theorem dX12_mark_0 : decode cX12_mark 0 = .ok (.aload_n 0, 1) := by decide +kernel
theorem dX12_mark_1 : decode cX12_mark 1 = .ok (.getfield 253, 3) := by decide +kernel
theorem dX12_mark_4 : decode cX12_mark 4 = .ok (.ifCond .eq 25, 3) := by decide +kernel
theorem dX12_mark_7 : decode cX12_mark 7 = .ok (.iload_n 1, 1) := by decide +kernel
theorem dX12_mark_8 : decode cX12_mark 8 = .ok (.iconst 0, 1) := by decide +kernel
theorem dX12_mark_9 : decode cX12_mark 9 = .ok (.bipush 29, 2) := by decide +kernel
theorem dX12_mark_11 : decode cX12_mark 11 = .ok (.invokestatic 216, 3) := by decide +kernel
theorem dX12_mark_14 : decode cX12_mark 14 = .ok (.ifCond .eq 15, 3) := by decide +kernel
theorem dX12_mark_17 : decode cX12_mark 17 = .ok (.aload_n 0, 1) := by decide +kernel
theorem dX12_mark_18 : decode cX12_mark 18 = .ok (.getfield 265, 3) := by decide +kernel
theorem dX12_mark_21 : decode cX12_mark 21 = .ok (.iload_n 1, 1) := by decide +kernel
theorem dX12_mark_22 : decode cX12_mark 22 = .ok (.invokestatic 226, 3) := by decide +kernel
theorem dX12_mark_25 : decode cX12_mark 25 = .ok (.iload_n 2, 1) := by decide +kernel
theorem dX12_mark_26 : decode cX12_mark 26 = .ok (.if_icmp .ne 5, 3) := by decide +kernel
theorem dX12_mark_29 : decode cX12_mark 29 = .ok (.iconst 0, 1) := by decide +kernel
theorem dX12_mark_30 : decode cX12_mark 30 = .ok (.ireturn, 1) := by decide +kernel
theorem dX12_mark_31 : decode cX12_mark 31 = .ok (.aload_n 0, 1) := by decide +kernel
theorem dX12_mark_32 : decode cX12_mark 32 = .ok (.dup, 1) := by decide +kernel
theorem dX12_mark_33 : decode cX12_mark 33 = .ok (.getfield 265, 3) := by decide +kernel
theorem dX12_mark_36 : decode cX12_mark 36 = .ok (.iconst 1, 1) := by decide +kernel
theorem dX12_mark_37 : decode cX12_mark 37 = .ok (.iload_n 1, 1) := by decide +kernel
theorem dX12_mark_38 : decode cX12_mark 38 = .ok (.ishl, 1) := by decide +kernel
theorem dX12_mark_39 : decode cX12_mark 39 = .ok (.ixor, 1) := by decide +kernel
theorem dX12_mark_40 : decode cX12_mark 40 = .ok (.putfield 265, 3) := by decide +kernel
theorem dX12_mark_43 : decode cX12_mark 43 = .ok (.iconst 1, 1) := by decide +kernel
theorem dX12_mark_44 : decode cX12_mark 44 = .ok (.ireturn, 1) := by decide +kernel
theorem dX12_dampOf_0 : decode cX12_dampOf 0 = .ok (.iconst 0, 1) := by decide +kernel
theorem dX12_dampOf_1 : decode cX12_dampOf 1 = .ok (.istore_n 2, 1) := by decide +kernel
theorem dX12_dampOf_2 : decode cX12_dampOf 2 = .ok (.iconst 0, 1) := by decide +kernel
theorem dX12_dampOf_3 : decode cX12_dampOf 3 = .ok (.istore_n 3, 1) := by decide +kernel
theorem dX12_dampOf_4 : decode cX12_dampOf 4 = .ok (.iload_n 3, 1) := by decide +kernel
theorem dX12_dampOf_5 : decode cX12_dampOf 5 = .ok (.iload_n 1, 1) := by decide +kernel
theorem dX12_dampOf_6 : decode cX12_dampOf 6 = .ok (.if_icmp .gt 79, 3) := by decide +kernel
theorem dX12_dampOf_9 : decode cX12_dampOf 9 = .ok (.aload_n 0, 1) := by decide +kernel
theorem dX12_dampOf_10 : decode cX12_dampOf 10 = .ok (.getfield 52, 3) := by decide +kernel
theorem dX12_dampOf_13 : decode cX12_dampOf 13 = .ok (.iconst (-1), 1) := by decide +kernel
theorem dX12_dampOf_14 : decode cX12_dampOf 14 = .ok (.if_icmp .eq 71, 3) := by decide +kernel
theorem dX12_dampOf_17 : decode cX12_dampOf 17 = .ok (.aload_n 0, 1) := by decide +kernel
theorem dX12_dampOf_18 : decode cX12_dampOf 18 = .ok (.getfield 34, 3) := by decide +kernel
theorem dX12_dampOf_21 : decode cX12_dampOf 21 = .ok (.iconst 0, 1) := by decide +kernel
theorem dX12_dampOf_22 : decode cX12_dampOf 22 = .ok (.iload_n 3, 1) := by decide +kernel
theorem dX12_dampOf_23 : decode cX12_dampOf 23 = .ok (.iastore, 1) := by decide +kernel
theorem dX12_dampOf_24 : decode cX12_dampOf 24 = .ok (.aload_n 0, 1) := by decide +kernel
