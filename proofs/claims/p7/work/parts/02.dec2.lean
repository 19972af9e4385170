theorem dX10_init_12 : decode cX10_init 12 = .ok (.aload_n 0, 1) := by decide +kernel
theorem dX10_init_13 : decode cX10_init 13 = .ok (.bipush 42, 2) := by decide +kernel
theorem dX10_init_15 : decode cX10_init 15 = .ok (.newarray .int, 2) := by decide +kernel
theorem dX10_init_17 : decode cX10_init 17 = .ok (.putfield 15, 3) := by decide +kernel
theorem dX10_init_20 : decode cX10_init 20 = .ok (.aload_n 0, 1) := by decide +kernel
theorem dX10_init_21 : decode cX10_init 21 = .ok (.aload_n 1, 1) := by decide +kernel
theorem dX10_init_22 : decode cX10_init 22 = .ok (.putfield 18, 3) := by decide +kernel
theorem dX10_init_25 : decode cX10_init 25 = .ok (.aload_n 0, 1) := by decide +kernel
theorem dX10_init_26 : decode cX10_init 26 = .ok (.aload_n 2, 1) := by decide +kernel
theorem dX10_init_27 : decode cX10_init 27 = .ok (.putfield 22, 3) := by decide +kernel
theorem dX10_init_30 : decode cX10_init 30 = .ok (.return_, 1) := by decide +kernel
theorem dX10_find_0 : decode cX10_find 0 = .ok (.aload_n 0, 1) := by decide +kernel
theorem dX10_find_1 : decode cX10_find 1 = .ok (.getfield 22, 3) := by decide +kernel
theorem dX10_find_4 : decode cX10_find 4 = .ok (.aload_n 2, 1) := by decide +kernel
theorem dX10_find_5 : decode cX10_find 5 = .ok (.invokevirtual 26, 3) := by decide +kernel
theorem dX10_find_8 : decode cX10_find 8 = .ok (.aload_n 0, 1) := by decide +kernel
theorem dX10_find_9 : decode cX10_find 9 = .ok (.aload_n 1, 1) := by decide +kernel
theorem dX10_find_10 : decode cX10_find 10 = .ok (.aload_n 2, 1) := by decide +kernel
theorem dX10_find_11 : decode cX10_find 11 = .ok (.invokevirtual 32, 3) := by decide +kernel
theorem dX10_find_14 : decode cX10_find 14 = .ok (.iconst 0, 1) := by decide +kernel
theorem dX10_find_15 : decode cX10_find 15 = .ok (.istore_n 3, 1) := by decide +kernel
theorem dX10_find_16 : decode cX10_find 16 = .ok (.iload_n 3, 1) := by decide +kernel
theorem dX10_find_17 : decode cX10_find 17 = .ok (.aload_n 0, 1) := by decide +kernel
theorem dX10_find_18 : decode cX10_find 18 = .ok (.getfield 22, 3) := by decide +kernel
theorem dX10_find_21 : decode cX10_find 21 = .ok (.getfield 36, 3) := by decide +kernel
theorem dX10_find_24 : decode cX10_find 24 = .ok (.if_icmp .ge 28, 3) := by decide +kernel
theorem dX10_find_27 : decode cX10_find 27 = .ok (.aload_n 0, 1) := by decide +kernel
theorem dX10_find_28 : decode cX10_find 28 = .ok (.getfield 22, 3) := by decide +kernel
theorem dX10_find_31 : decode cX10_find 31 = .ok (.getfield 40, 3) := by decide +kernel
theorem dX10_find_34 : decode cX10_find 34 = .ok (.iload_n 3, 1) := by decide +kernel
theorem dX10_find_35 : decode cX10_find 35 = .ok (.aload_n 0, 1) := by decide +kernel
theorem dX10_find_36 : decode cX10_find 36 = .ok (.getfield 15, 3) := by decide +kernel
theorem dX10_find_39 : decode cX10_find 39 = .ok (.iload_n 3, 1) := by decide +kernel
theorem dX10_find_40 : decode cX10_find 40 = .ok (.iconst (-1), 1) := by decide +kernel
theorem dX10_find_41 : decode cX10_find 41 = .ok (.invokestatic 43, 3) := by decide +kernel
theorem dX10_find_44 : decode cX10_find 44 = .ok (.iaload, 1) := by decide +kernel
theorem dX10_find_45 : decode cX10_find 45 = .ok (.iastore, 1) := by decide +kernel
theorem dX10_find_46 : decode cX10_find 46 = .ok (.iinc 3 1, 3) := by decide +kernel
theorem dX10_find_49 : decode cX10_find 49 = .ok (.goto (-33), 3) := by decide +kernel
theorem dX10_find_52 : decode cX10_find 52 = .ok (.aload_n 0, 1) := by decide +kernel
theorem dX10_find_53 : decode cX10_find 53 = .ok (.ldc 47, 2) := by decide +kernel
theorem dX10_find_55 : decode cX10_find 55 = .ok (.putfield 48, 3) := by decide +kernel
theorem dX10_find_58 : decode cX10_find 58 = .ok (.aload_n 0, 1) := by decide +kernel
theorem dX10_find_59 : decode cX10_find 59 = .ok (.ldc 47, 2) := by decide +kernel
theorem dX10_find_61 : decode cX10_find 61 = .ok (.putfield 51, 3) := by decide +kernel
theorem dX10_find_64 : decode cX10_find 64 = .ok (.aload_n 0, 1) := by decide +kernel
theorem dX10_find_65 : decode cX10_find 65 = .ok (.iconst 5, 1) := by decide +kernel
theorem dX10_find_66 : decode cX10_find 66 = .ok (.iconst 0, 1) := by decide +kernel
theorem dX10_find_67 : decode cX10_find 67 = .ok (.iconst 0, 1) := by decide +kernel
theorem dX10_find_68 : decode cX10_find 68 = .ok (.iconst 1, 1) := by decide +kernel
theorem dX10_find_69 : decode cX10_find 69 = .ok (.invokestatic 54, 3) := by decide +kernel
theorem dX10_find_72 : decode cX10_find 72 = .ok (.aload_n 0, 1) := by decide +kernel
theorem dX10_find_73 : decode cX10_find 73 = .ok (.iconst 1, 1) := by decide +kernel
theorem dX10_find_74 : decode cX10_find 74 = .ok (.putfield 58, 3) := by decide +kernel
theorem dX10_find_77 : decode cX10_find 77 = .ok (.return_, 1) := by decide +kernel
theorem dX10_foresee_0 : decode cX10_foresee 0 = .ok (.iconst 0, 1) := by decide +kernel
theorem dX10_foresee_1 : decode cX10_foresee 1 = .ok (.istore_n 3, 1) := by decide +kernel
theorem dX10_foresee_2 : decode cX10_foresee 2 = .ok (.iconst 5, 1) := by decide +kernel
theorem dX10_foresee_3 : decode cX10_foresee 3 = .ok (.istore 4, 2) := by decide +kernel
theorem dX10_foresee_5 : decode cX10_foresee 5 = .ok (.iload 4, 2) := by decide +kernel
theorem dX10_foresee_7 : decode cX10_foresee 7 = .ok (.iconst (-1), 1) := by decide +kernel
theorem dX10_foresee_8 : decode cX10_foresee 8 = .ok (.if_icmp .lt 94, 3) := by decide +kernel
theorem dX10_foresee_11 : decode cX10_foresee 11 = .ok (.iconst 0, 1) := by decide +kernel
theorem dX10_foresee_12 : decode cX10_foresee 12 = .ok (.istore 5, 2) := by decide +kernel
theorem dX10_foresee_14 : decode cX10_foresee 14 = .ok (.iload 5, 2) := by decide +kernel
theorem dX10_foresee_16 : decode cX10_foresee 16 = .ok (.aload_n 1, 1) := by decide +kernel
theorem dX10_foresee_17 : decode cX10_foresee 17 = .ok (.getfield 62, 3) := by decide +kernel
theorem dX10_foresee_20 : decode cX10_foresee 20 = .ok (.if_icmp .ge 56, 3) := by decide +kernel
theorem dX10_foresee_23 : decode cX10_foresee 23 = .ok (.iload 4, 2) := by decide +kernel
theorem dX10_foresee_25 : decode cX10_foresee 25 = .ok (.iconst (-1), 1) := by decide +kernel
theorem dX10_foresee_26 : decode cX10_foresee 26 = .ok (.if_icmp .ne 13, 3) := by decide +kernel
theorem dX10_foresee_29 : decode cX10_foresee 29 = .ok (.aload_n 2, 1) := by decide +kernel
theorem dX10_foresee_30 : decode cX10_foresee 30 = .ok (.getfield 40, 3) := by decide +kernel
theorem dX10_foresee_33 : decode cX10_foresee 33 = .ok (.iload 5, 2) := by decide +kernel
theorem dX10_foresee_35 : decode cX10_foresee 35 = .ok (.iaload, 1) := by decide +kernel
theorem dX10_foresee_36 : decode cX10_foresee 36 = .ok (.goto 7, 3) := by decide +kernel
theorem dX10_foresee_39 : decode cX10_foresee 39 = .ok (.aload_n 1, 1) := by decide +kernel
theorem dX10_foresee_40 : decode cX10_foresee 40 = .ok (.getfield 65, 3) := by decide +kernel
theorem dX10_foresee_43 : decode cX10_foresee 43 = .ok (.istore 6, 2) := by decide +kernel
theorem dX10_foresee_45 : decode cX10_foresee 45 = .ok (.aload_n 0, 1) := by decide +kernel
theorem dX10_foresee_46 : decode cX10_foresee 46 = .ok (.getfield 15, 3) := by decide +kernel
theorem dX10_foresee_49 : decode cX10_foresee 49 = .ok (.iload 5, 2) := by decide +kernel
theorem dX10_foresee_51 : decode cX10_foresee 51 = .ok (.iload 4, 2) := by decide +kernel
theorem dX10_foresee_53 : decode cX10_foresee 53 = .ok (.invokestatic 43, 3) := by decide +kernel
theorem dX10_foresee_56 : decode cX10_foresee 56 = .ok (.aload_n 1, 1) := by decide +kernel
theorem dX10_foresee_57 : decode cX10_foresee 57 = .ok (.iload 5, 2) := by decide +kernel
theorem dX10_foresee_59 : decode cX10_foresee 59 = .ok (.iload 6, 2) := by decide +kernel
theorem dX10_foresee_61 : decode cX10_foresee 61 = .ok (.iconst 5, 1) := by decide +kernel
theorem dX10_foresee_62 : decode cX10_foresee 62 = .ok (.iload 4, 2) := by decide +kernel
theorem dX10_foresee_64 : decode cX10_foresee 64 = .ok (.isub, 1) := by decide +kernel
theorem dX10_foresee_65 : decode cX10_foresee 65 = .ok (.iload_n 3, 1) := by decide +kernel
theorem dX10_foresee_66 : decode cX10_foresee 66 = .ok (.invokevirtual 68, 3) := by decide +kernel
theorem dX10_foresee_69 : decode cX10_foresee 69 = .ok (.iastore, 1) := by decide +kernel
theorem dX10_foresee_70 : decode cX10_foresee 70 = .ok (.iinc 5 1, 3) := by decide +kernel
theorem dX10_foresee_73 : decode cX10_foresee 73 = .ok (.goto (-59), 3) := by decide +kernel
theorem dX10_foresee_76 : decode cX10_foresee 76 = .ok (.iload_n 3, 1) := by decide +kernel
theorem dX10_foresee_77 : decode cX10_foresee 77 = .ok (.iload 4, 2) := by decide +kernel
theorem dX10_foresee_79 : decode cX10_foresee 79 = .ok (.iconst (-1), 1) := by decide +kernel
theorem dX10_foresee_80 : decode cX10_foresee 80 = .ok (.if_icmp .ne 7, 3) := by decide +kernel
theorem dX10_foresee_83 : decode cX10_foresee 83 = .ok (.iconst 0, 1) := by decide +kernel
theorem dX10_foresee_84 : decode cX10_foresee 84 = .ok (.goto 10, 3) := by decide +kernel
theorem dX10_foresee_87 : decode cX10_foresee 87 = .ok (.aload_n 0, 1) := by decide +kernel
theorem dX10_foresee_88 : decode cX10_foresee 88 = .ok (.getfield 9, 3) := by decide +kernel
theorem dX10_foresee_91 : decode cX10_foresee 91 = .ok (.iload 4, 2) := by decide +kernel
theorem dX10_foresee_93 : decode cX10_foresee 93 = .ok (.iaload, 1) := by decide +kernel
theorem dX10_foresee_94 : decode cX10_foresee 94 = .ok (.iadd, 1) := by decide +kernel
theorem dX10_foresee_95 : decode cX10_foresee 95 = .ok (.istore_n 3, 1) := by decide +kernel
theorem dX10_foresee_96 : decode cX10_foresee 96 = .ok (.iinc 4 (-1), 3) := by decide +kernel
theorem dX10_foresee_99 : decode cX10_foresee 99 = .ok (.goto (-94), 3) := by decide +kernel
theorem dX10_foresee_102 : decode cX10_foresee 102 = .ok (.return_, 1) := by decide +kernel
theorem dX10_slot_0 : decode cX10_slot 0 = .ok (.iload_n 0, 1) := by decide +kernel
theorem dX10_slot_1 : decode cX10_slot 1 = .ok (.bipush 7, 2) := by decide +kernel
theorem dX10_slot_3 : decode cX10_slot 3 = .ok (.imul, 1) := by decide +kernel
theorem dX10_slot_4 : decode cX10_slot 4 = .ok (.iload_n 1, 1) := by decide +kernel
theorem dX10_slot_5 : decode cX10_slot 5 = .ok (.iadd, 1) := by decide +kernel
theorem dX10_slot_6 : decode cX10_slot 6 = .ok (.iconst 1, 1) := by decide +kernel
theorem dX10_slot_7 : decode cX10_slot 7 = .ok (.iadd, 1) := by decide +kernel
theorem dX10_slot_8 : decode cX10_slot 8 = .ok (.ireturn, 1) := by decide +kernel
theorem dX10_choose_0 : decode cX10_choose 0 = .ok (.iload_n 1, 1) := by decide +kernel
theorem dX10_choose_1 : decode cX10_choose 1 = .ok (.ifCond .ge 9, 3) := by decide +kernel
theorem dX10_choose_4 : decode cX10_choose 4 = .ok (.aload_n 0, 1) := by decide +kernel
theorem dX10_choose_5 : decode cX10_choose 5 = .ok (.iload_n 3, 1) := by decide +kernel
theorem dX10_choose_6 : decode cX10_choose 6 = .ok (.invokevirtual 72, 3) := by decide +kernel
theorem dX10_choose_9 : decode cX10_choose 9 = .ok (.return_, 1) := by decide +kernel
theorem dX10_choose_10 : decode cX10_choose 10 = .ok (.aload_n 0, 1) := by decide +kernel
theorem dX10_choose_11 : decode cX10_choose 11 = .ok (.getfield 22, 3) := by decide +kernel
theorem dX10_choose_14 : decode cX10_choose 14 = .ok (.getfield 40, 3) := by decide +kernel
theorem dX10_choose_17 : decode cX10_choose 17 = .ok (.astore 5, 2) := by decide +kernel
theorem dX10_choose_19 : decode cX10_choose 19 = .ok (.iload_n 2, 1) := by decide +kernel
theorem dX10_choose_20 : decode cX10_choose 20 = .ok (.iload_n 2, 1) := by decide +kernel
theorem dX10_choose_21 : decode cX10_choose 21 = .ok (.ineg, 1) := by decide +kernel
theorem dX10_choose_22 : decode cX10_choose 22 = .ok (.iand, 1) := by decide +kernel
theorem dX10_choose_23 : decode cX10_choose 23 = .ok (.istore 6, 2) := by decide +kernel
theorem dX10_choose_25 : decode cX10_choose 25 = .ok (.iconst 0, 1) := by decide +kernel
theorem dX10_choose_26 : decode cX10_choose 26 = .ok (.istore 7, 2) := by decide +kernel
theorem dX10_choose_28 : decode cX10_choose 28 = .ok (.iload 7, 2) := by decide +kernel
theorem dX10_choose_30 : decode cX10_choose 30 = .ok (.aload_n 0, 1) := by decide +kernel
theorem dX10_choose_31 : decode cX10_choose 31 = .ok (.getfield 22, 3) := by decide +kernel
theorem dX10_choose_34 : decode cX10_choose 34 = .ok (.getfield 36, 3) := by decide +kernel
theorem dX10_choose_37 : decode cX10_choose 37 = .ok (.if_icmp .ge 107, 3) := by decide +kernel
theorem dX10_choose_40 : decode cX10_choose 40 = .ok (.iconst 1, 1) := by decide +kernel
theorem dX10_choose_41 : decode cX10_choose 41 = .ok (.iload 7, 2) := by decide +kernel
theorem dX10_choose_43 : decode cX10_choose 43 = .ok (.ishl, 1) := by decide +kernel
theorem dX10_choose_44 : decode cX10_choose 44 = .ok (.istore 8, 2) := by decide +kernel
theorem dX10_choose_46 : decode cX10_choose 46 = .ok (.iload 8, 2) := by decide +kernel
theorem dX10_choose_48 : decode cX10_choose 48 = .ok (.iload 6, 2) := by decide +kernel
theorem dX10_choose_50 : decode cX10_choose 50 = .ok (.if_icmp .ne 26, 3) := by decide +kernel
theorem dX10_choose_53 : decode cX10_choose 53 = .ok (.aload_n 0, 1) := by decide +kernel
theorem dX10_choose_54 : decode cX10_choose 54 = .ok (.iload_n 1, 1) := by decide +kernel
theorem dX10_choose_55 : decode cX10_choose 55 = .ok (.iconst 1, 1) := by decide +kernel
theorem dX10_choose_56 : decode cX10_choose 56 = .ok (.isub, 1) := by decide +kernel
theorem dX10_choose_57 : decode cX10_choose 57 = .ok (.iload_n 2, 1) := by decide +kernel
theorem dX10_choose_58 : decode cX10_choose 58 = .ok (.iload_n 3, 1) := by decide +kernel
theorem dX10_choose_59 : decode cX10_choose 59 = .ok (.iload 7, 2) := by decide +kernel
theorem dX10_choose_61 : decode cX10_choose 61 = .ok (.iload 4, 2) := by decide +kernel
theorem dX10_choose_63 : decode cX10_choose 63 = .ok (.imul, 1) := by decide +kernel
theorem dX10_choose_64 : decode cX10_choose 64 = .ok (.iadd, 1) := by decide +kernel
theorem dX10_choose_65 : decode cX10_choose 65 = .ok (.iload 4, 2) := by decide +kernel
theorem dX10_choose_67 : decode cX10_choose 67 = .ok (.bipush 10, 2) := by decide +kernel
theorem dX10_choose_69 : decode cX10_choose 69 = .ok (.imul, 1) := by decide +kernel
theorem dX10_choose_70 : decode cX10_choose 70 = .ok (.invokestatic 54, 3) := by decide +kernel
theorem dX10_choose_73 : decode cX10_choose 73 = .ok (.goto 65, 3) := by decide +kernel
theorem dX10_choose_76 : decode cX10_choose 76 = .ok (.iload_n 2, 1) := by decide +kernel
theorem dX10_choose_77 : decode cX10_choose 77 = .ok (.iload 8, 2) := by decide +kernel
theorem dX10_choose_79 : decode cX10_choose 79 = .ok (.iand, 1) := by decide +kernel
theorem dX10_choose_80 : decode cX10_choose 80 = .ok (.ifCond .ne 58, 3) := by decide +kernel
theorem dX10_choose_83 : decode cX10_choose 83 = .ok (.aload 5, 2) := by decide +kernel
theorem dX10_choose_85 : decode cX10_choose 85 = .ok (.iload 7, 2) := by decide +kernel
theorem dX10_choose_87 : decode cX10_choose 87 = .ok (.aload_n 0, 1) := by decide +kernel
theorem dX10_choose_88 : decode cX10_choose 88 = .ok (.getfield 15, 3) := by decide +kernel
theorem dX10_choose_91 : decode cX10_choose 91 = .ok (.iload 7, 2) := by decide +kernel
theorem dX10_choose_93 : decode cX10_choose 93 = .ok (.iload_n 1, 1) := by decide +kernel
theorem dX10_choose_94 : decode cX10_choose 94 = .ok (.invokestatic 43, 3) := by decide +kernel
theorem dX10_choose_97 : decode cX10_choose 97 = .ok (.iaload, 1) := by decide +kernel
theorem dX10_choose_98 : decode cX10_choose 98 = .ok (.iastore, 1) := by decide +kernel
theorem dX10_choose_99 : decode cX10_choose 99 = .ok (.aload_n 0, 1) := by decide +kernel
theorem dX10_choose_100 : decode cX10_choose 100 = .ok (.iload_n 1, 1) := by decide +kernel
theorem dX10_choose_101 : decode cX10_choose 101 = .ok (.iconst 1, 1) := by decide +kernel
theorem dX10_choose_102 : decode cX10_choose 102 = .ok (.isub, 1) := by decide +kernel
theorem dX10_choose_103 : decode cX10_choose 103 = .ok (.iload_n 2, 1) := by decide +kernel
theorem dX10_choose_104 : decode cX10_choose 104 = .ok (.iload 8, 2) := by decide +kernel
theorem dX10_choose_106 : decode cX10_choose 106 = .ok (.ior, 1) := by decide +kernel
theorem dX10_choose_107 : decode cX10_choose 107 = .ok (.iload_n 3, 1) := by decide +kernel
theorem dX10_choose_108 : decode cX10_choose 108 = .ok (.iload 7, 2) := by decide +kernel
theorem dX10_choose_110 : decode cX10_choose 110 = .ok (.iload 4, 2) := by decide +kernel
theorem dX10_choose_112 : decode cX10_choose 112 = .ok (.imul, 1) := by decide +kernel
theorem dX10_choose_113 : decode cX10_choose 113 = .ok (.iadd, 1) := by decide +kernel
theorem dX10_choose_114 : decode cX10_choose 114 = .ok (.iload 4, 2) := by decide +kernel
theorem dX10_choose_116 : decode cX10_choose 116 = .ok (.bipush 10, 2) := by decide +kernel
theorem dX10_choose_118 : decode cX10_choose 118 = .ok (.imul, 1) := by decide +kernel
theorem dX10_choose_119 : decode cX10_choose 119 = .ok (.invokestatic 54, 3) := by decide +kernel
theorem dX10_choose_122 : decode cX10_choose 122 = .ok (.aload 5, 2) := by decide +kernel
theorem dX10_choose_124 : decode cX10_choose 124 = .ok (.iload 7, 2) := by decide +kernel
theorem dX10_choose_126 : decode cX10_choose 126 = .ok (.aload_n 0, 1) := by decide +kernel
theorem dX10_choose_127 : decode cX10_choose 127 = .ok (.getfield 15, 3) := by decide +kernel
theorem dX10_choose_130 : decode cX10_choose 130 = .ok (.iload 7, 2) := by decide +kernel
theorem dX10_choose_132 : decode cX10_choose 132 = .ok (.iconst (-1), 1) := by decide +kernel
theorem dX10_choose_133 : decode cX10_choose 133 = .ok (.invokestatic 43, 3) := by decide +kernel
theorem dX10_choose_136 : decode cX10_choose 136 = .ok (.iaload, 1) := by decide +kernel
theorem dX10_choose_137 : decode cX10_choose 137 = .ok (.iastore, 1) := by decide +kernel
theorem dX10_choose_138 : decode cX10_choose 138 = .ok (.iinc 7 1, 3) := by decide +kernel
theorem dX10_choose_141 : decode cX10_choose 141 = .ok (.goto (-113), 3) := by decide +kernel
theorem dX10_choose_144 : decode cX10_choose 144 = .ok (.return_, 1) := by decide +kernel
theorem dX10_weigh_0 : decode cX10_weigh 0 = .ok (.iload_n 1, 1) := by decide +kernel
theorem dX10_weigh_1 : decode cX10_weigh 1 = .ok (.aload_n 0, 1) := by decide +kernel
theorem dX10_weigh_2 : decode cX10_weigh 2 = .ok (.getfield 48, 3) := by decide +kernel
theorem dX10_weigh_5 : decode cX10_weigh 5 = .ok (.if_icmp .ge 12, 3) := by decide +kernel
theorem dX10_weigh_8 : decode cX10_weigh 8 = .ok (.aload_n 0, 1) := by decide +kernel
theorem dX10_weigh_9 : decode cX10_weigh 9 = .ok (.getfield 51, 3) := by decide +kernel
theorem dX10_weigh_12 : decode cX10_weigh 12 = .ok (.iconst 1, 1) := by decide +kernel
theorem dX10_weigh_13 : decode cX10_weigh 13 = .ok (.iadd, 1) := by decide +kernel
theorem dX10_weigh_14 : decode cX10_weigh 14 = .ok (.goto 7, 3) := by decide +kernel
theorem dX10_weigh_17 : decode cX10_weigh 17 = .ok (.aload_n 0, 1) := by decide +kernel
theorem dX10_weigh_18 : decode cX10_weigh 18 = .ok (.getfield 51, 3) := by decide +kernel
theorem dX10_weigh_21 : decode cX10_weigh 21 = .ok (.istore_n 2, 1) := by decide +kernel
theorem dX10_weigh_22 : decode cX10_weigh 22 = .ok (.iload_n 2, 1) := by decide +kernel
theorem dX10_weigh_23 : decode cX10_weigh 23 = .ok (.ifCond .le 18, 3) := by decide +kernel
theorem dX10_weigh_26 : decode cX10_weigh 26 = .ok (.aload_n 0, 1) := by decide +kernel
theorem dX10_weigh_27 : decode cX10_weigh 27 = .ok (.getfield 18, 3) := by decide +kernel
theorem dX10_weigh_30 : decode cX10_weigh 30 = .ok (.aload_n 0, 1) := by decide +kernel
theorem dX10_weigh_31 : decode cX10_weigh 31 = .ok (.getfield 22, 3) := by decide +kernel
theorem dX10_weigh_34 : decode cX10_weigh 34 = .ok (.iload_n 2, 1) := by decide +kernel
theorem dX10_weigh_35 : decode cX10_weigh 35 = .ok (.invokevirtual 76, 3) := by decide +kernel
theorem dX10_weigh_38 : decode cX10_weigh 38 = .ok (.goto 4, 3) := by decide +kernel
theorem dX10_weigh_41 : decode cX10_weigh 41 = .ok (.iload_n 2, 1) := by decide +kernel
theorem dX10_weigh_42 : decode cX10_weigh 42 = .ok (.istore_n 3, 1) := by decide +kernel
theorem dX10_weigh_43 : decode cX10_weigh 43 = .ok (.iload_n 3, 1) := by decide +kernel
theorem dX10_weigh_44 : decode cX10_weigh 44 = .ok (.iload_n 2, 1) := by decide +kernel
theorem dX10_weigh_45 : decode cX10_weigh 45 = .ok (.if_icmp .ge 13, 3) := by decide +kernel
theorem dX10_weigh_48 : decode cX10_weigh 48 = .ok (.aload_n 0, 1) := by decide +kernel
theorem dX10_weigh_49 : decode cX10_weigh 49 = .ok (.iload_n 3, 1) := by decide +kernel
theorem dX10_weigh_50 : decode cX10_weigh 50 = .ok (.putfield 51, 3) := by decide +kernel
theorem dX10_weigh_53 : decode cX10_weigh 53 = .ok (.aload_n 0, 1) := by decide +kernel
theorem dX10_weigh_54 : decode cX10_weigh 54 = .ok (.iload_n 1, 1) := by decide +kernel
theorem dX10_weigh_55 : decode cX10_weigh 55 = .ok (.putfield 48, 3) := by decide +kernel
theorem dX10_weigh_58 : decode cX10_weigh 58 = .ok (.return_, 1) := by decide +kernel
theorem dX11_init_0 : decode cX11_init 0 = .ok (.aload_n 0, 1) := by decide +kernel
theorem dX11_init_1 : decode cX11_init 1 = .ok (.invokespecial 1, 3) := by decide +kernel
theorem dX11_init_4 : decode cX11_init 4 = .ok (.aload_n 0, 1) := by decide +kernel
theorem dX11_init_5 : decode cX11_init 5 = .ok (.new 7, 3) := by decide +kernel
theorem dX11_init_8 : decode cX11_init 8 = .ok (.dup, 1) := by decide +kernel
theorem dX11_init_9 : decode cX11_init 9 = .ok (.invokespecial 9, 3) := by decide +kernel
theorem dX11_init_12 : decode cX11_init 12 = .ok (.putfield 10, 3) := by decide +kernel
theorem dX11_init_15 : decode cX11_init 15 = .ok (.aload_n 0, 1) := by decide +kernel
theorem dX11_init_16 : decode cX11_init 16 = .ok (.new 16, 3) := by decide +kernel
theorem dX11_init_19 : decode cX11_init 19 = .ok (.dup, 1) := by decide +kernel
theorem dX11_init_20 : decode cX11_init 20 = .ok (.aload_n 0, 1) := by decide +kernel
theorem dX11_init_21 : decode cX11_init 21 = .ok (.getfield 10, 3) := by decide +kernel
theorem dX11_init_24 : decode cX11_init 24 = .ok (.invokespecial 18, 3) := by decide +kernel
theorem dX11_init_27 : decode cX11_init 27 = .ok (.putfield 21, 3) := by decide +kernel
theorem dX11_init_30 : decode cX11_init 30 = .ok (.aload_n 0, 1) := by decide +kernel
theorem dX11_init_31 : decode cX11_init 31 = .ok (.new 25, 3) := by decide +kernel
theorem dX11_init_34 : decode cX11_init 34 = .ok (.dup, 1) := by decide +kernel
theorem dX11_init_35 : decode cX11_init 35 = .ok (.aload_n 0, 1) := by decide +kernel
theorem dX11_init_36 : decode cX11_init 36 = .ok (.getfield 10, 3) := by decide +kernel
theorem dX11_init_39 : decode cX11_init 39 = .ok (.invokespecial 27, 3) := by decide +kernel
theorem dX11_init_42 : decode cX11_init 42 = .ok (.putfield 28, 3) := by decide +kernel
theorem dX11_init_45 : decode cX11_init 45 = .ok (.aload_n 0, 1) := by decide +kernel
theorem dX11_init_46 : decode cX11_init 46 = .ok (.new 32, 3) := by decide +kernel
theorem dX11_init_49 : decode cX11_init 49 = .ok (.dup, 1) := by decide +kernel
theorem dX11_init_50 : decode cX11_init 50 = .ok (.invokespecial 34, 3) := by decide +kernel
theorem dX11_init_53 : decode cX11_init 53 = .ok (.putfield 35, 3) := by decide +kernel
theorem dX11_init_56 : decode cX11_init 56 = .ok (.aload_n 0, 1) := by decide +kernel
theorem dX11_init_57 : decode cX11_init 57 = .ok (.iconst 4, 1) := by decide +kernel
theorem dX11_init_58 : decode cX11_init 58 = .ok (.anewarray 39, 3) := by decide +kernel
theorem dX11_init_61 : decode cX11_init 61 = .ok (.putfield 41, 3) := by decide +kernel
theorem dX11_init_64 : decode cX11_init 64 = .ok (.aload_n 0, 1) := by decide +kernel
theorem dX11_init_65 : decode cX11_init 65 = .ok (.new 45, 3) := by decide +kernel
theorem dX11_init_68 : decode cX11_init 68 = .ok (.dup, 1) := by decide +kernel
theorem dX11_init_69 : decode cX11_init 69 = .ok (.invokespecial 47, 3) := by decide +kernel
theorem dX11_init_72 : decode cX11_init 72 = .ok (.putfield 48, 3) := by decide +kernel
theorem dX11_init_75 : decode cX11_init 75 = .ok (.aload_n 0, 1) := by decide +kernel
theorem dX11_init_76 : decode cX11_init 76 = .ok (.bipush 60, 2) := by decide +kernel
theorem dX11_init_78 : decode cX11_init 78 = .ok (.newarray .int, 2) := by decide +kernel
theorem dX11_init_80 : decode cX11_init 80 = .ok (.putfield 52, 3) := by decide +kernel
theorem dX11_init_83 : decode cX11_init 83 = .ok (.aload_n 0, 1) := by decide +kernel
theorem dX11_init_84 : decode cX11_init 84 = .ok (.new 56, 3) := by decide +kernel
theorem dX11_init_87 : decode cX11_init 87 = .ok (.dup, 1) := by decide +kernel
theorem dX11_init_88 : decode cX11_init 88 = .ok (.invokespecial 58, 3) := by decide +kernel
theorem dX11_init_91 : decode cX11_init 91 = .ok (.putfield 59, 3) := by decide +kernel
theorem dX11_init_94 : decode cX11_init 94 = .ok (.aload_n 0, 1) := by decide +kernel
theorem dX11_init_95 : decode cX11_init 95 = .ok (.new 56, 3) := by decide +kernel
theorem dX11_init_98 : decode cX11_init 98 = .ok (.dup, 1) := by decide +kernel
theorem dX11_init_99 : decode cX11_init 99 = .ok (.invokespecial 58, 3) := by decide +kernel
theorem dX11_init_102 : decode cX11_init 102 = .ok (.putfield 63, 3) := by decide +kernel
theorem dX11_init_105 : decode cX11_init 105 = .ok (.aload_n 0, 1) := by decide +kernel
theorem dX11_init_106 : decode cX11_init 106 = .ok (.new 66, 3) := by decide +kernel
theorem dX11_init_109 : decode cX11_init 109 = .ok (.dup, 1) := by decide +kernel
theorem dX11_init_110 : decode cX11_init 110 = .ok (.invokespecial 68, 3) := by decide +kernel
theorem dX11_init_113 : decode cX11_init 113 = .ok (.putfield 69, 3) := by decide +kernel
theorem dX11_init_116 : decode cX11_init 116 = .ok (.aload_n 0, 1) := by decide +kernel
theorem dX11_init_117 : decode cX11_init 117 = .ok (.new 73, 3) := by decide +kernel
theorem dX11_init_120 : decode cX11_init 120 = .ok (.dup, 1) := by decide +kernel
theorem dX11_init_121 : decode cX11_init 121 = .ok (.invokespecial 75, 3) := by decide +kernel
theorem dX11_init_124 : decode cX11_init 124 = .ok (.putfield 76, 3) := by decide +kernel
theorem dX11_init_127 : decode cX11_init 127 = .ok (.aload_n 0, 1) := by decide +kernel
theorem dX11_init_128 : decode cX11_init 128 = .ok (.new 80, 3) := by decide +kernel
theorem dX11_init_131 : decode cX11_init 131 = .ok (.dup, 1) := by decide +kernel
theorem dX11_init_132 : decode cX11_init 132 = .ok (.aload_n 0, 1) := by decide +kernel
theorem dX11_init_133 : decode cX11_init 133 = .ok (.getfield 69, 3) := by decide +kernel
theorem dX11_init_136 : decode cX11_init 136 = .ok (.aload_n 0, 1) := by decide +kernel
theorem dX11_init_137 : decode cX11_init 137 = .ok (.getfield 63, 3) := by decide +kernel
theorem dX11_init_140 : decode cX11_init 140 = .ok (.invokespecial 82, 3) := by decide +kernel
theorem dX11_init_143 : decode cX11_init 143 = .ok (.putfield 85, 3) := by decide +kernel
theorem dX11_init_146 : decode cX11_init 146 = .ok (.aload_n 0, 1) := by decide +kernel
theorem dX11_init_147 : decode cX11_init 147 = .ok (.bipush 20, 2) := by decide +kernel
theorem dX11_init_149 : decode cX11_init 149 = .ok (.putfield 89, 3) := by decide +kernel
theorem dX11_init_152 : decode cX11_init 152 = .ok (.aload_n 0, 1) := by decide +kernel
theorem dX11_init_153 : decode cX11_init 153 = .ok (.iconst (-1), 1) := by decide +kernel
theorem dX11_init_154 : decode cX11_init 154 = .ok (.putfield 93, 3) := by decide +kernel
theorem dX11_init_157 : decode cX11_init 157 = .ok (.return_, 1) := by decide +kernel
theorem dX11_feed_0 : decode cX11_feed 0 = .ok (.iload_n 1, 1) := by decide +kernel
theorem dX11_feed_1 : decode cX11_feed 1 = .ok (.invokestatic 96, 3) := by decide +kernel
theorem dX11_feed_4 : decode cX11_feed 4 = .ok (.iload_n 2, 1) := by decide +kernel
theorem dX11_feed_5 : decode cX11_feed 5 = .ok (.invokestatic 96, 3) := by decide +kernel
theorem dX11_feed_8 : decode cX11_feed 8 = .ok (.iadd, 1) := by decide +kernel
theorem dX11_feed_9 : decode cX11_feed 9 = .ok (.iload_n 3, 1) := by decide +kernel
theorem dX11_feed_10 : decode cX11_feed 10 = .ok (.invokestatic 96, 3) := by decide +kernel
theorem dX11_feed_13 : decode cX11_feed 13 = .ok (.iadd, 1) := by decide +kernel
theorem dX11_feed_14 : decode cX11_feed 14 = .ok (.iload 4, 2) := by decide +kernel
theorem dX11_feed_16 : decode cX11_feed 16 = .ok (.invokestatic 96, 3) := by decide +kernel
theorem dX11_feed_19 : decode cX11_feed 19 = .ok (.iadd, 1) := by decide +kernel
theorem dX11_feed_20 : decode cX11_feed 20 = .ok (.iload 5, 2) := by decide +kernel
theorem dX11_feed_22 : decode cX11_feed 22 = .ok (.invokestatic 96, 3) := by decide +kernel
theorem dX11_feed_25 : decode cX11_feed 25 = .ok (.iadd, 1) := by decide +kernel
theorem dX11_feed_26 : decode cX11_feed 26 = .ok (.istore 6, 2) := by decide +kernel
theorem dX11_feed_28 : decode cX11_feed 28 = .ok (.aload_n 0, 1) := by decide +kernel
theorem dX11_feed_29 : decode cX11_feed 29 = .ok (.getfield 10, 3) := by decide +kernel
theorem dX11_feed_32 : decode cX11_feed 32 = .ok (.getfield 100, 3) := by decide +kernel
theorem dX11_feed_35 : decode cX11_feed 35 = .ok (.iload 6, 2) := by decide +kernel
theorem dX11_feed_37 : decode cX11_feed 37 = .ok (.iadd, 1) := by decide +kernel
theorem dX11_feed_38 : decode cX11_feed 38 = .ok (.sipush 160, 3) := by decide +kernel
theorem dX11_feed_41 : decode cX11_feed 41 = .ok (.if_icmp .le 5, 3) := by decide +kernel
theorem dX11_feed_44 : decode cX11_feed 44 = .ok (.iconst (-1), 1) := by decide +kernel
theorem dX11_feed_45 : decode cX11_feed 45 = .ok (.ireturn, 1) := by decide +kernel
theorem dX11_feed_46 : decode cX11_feed 46 = .ok (.aload_n 0, 1) := by decide +kernel
theorem dX11_feed_47 : decode cX11_feed 47 = .ok (.getfield 10, 3) := by decide +kernel
theorem dX11_feed_50 : decode cX11_feed 50 = .ok (.iload_n 1, 1) := by decide +kernel
theorem dX11_feed_51 : decode cX11_feed 51 = .ok (.invokevirtual 103, 3) := by decide +kernel
theorem dX11_feed_54 : decode cX11_feed 54 = .ok (.aload_n 0, 1) := by decide +kernel
theorem dX11_feed_55 : decode cX11_feed 55 = .ok (.getfield 10, 3) := by decide +kernel
theorem dX11_feed_58 : decode cX11_feed 58 = .ok (.iload_n 2, 1) := by decide +kernel
theorem dX11_feed_59 : decode cX11_feed 59 = .ok (.invokevirtual 103, 3) := by decide +kernel
theorem dX11_feed_62 : decode cX11_feed 62 = .ok (.aload_n 0, 1) := by decide +kernel
theorem dX11_feed_63 : decode cX11_feed 63 = .ok (.getfield 10, 3) := by decide +kernel
theorem dX11_feed_66 : decode cX11_feed 66 = .ok (.iload_n 3, 1) := by decide +kernel
theorem dX11_feed_67 : decode cX11_feed 67 = .ok (.invokevirtual 103, 3) := by decide +kernel
theorem dX11_feed_70 : decode cX11_feed 70 = .ok (.aload_n 0, 1) := by decide +kernel
theorem dX11_feed_71 : decode cX11_feed 71 = .ok (.getfield 10, 3) := by decide +kernel
theorem dX11_feed_74 : decode cX11_feed 74 = .ok (.iload 4, 2) := by decide +kernel
theorem dX11_feed_76 : decode cX11_feed 76 = .ok (.invokevirtual 103, 3) := by decide +kernel
theorem dX11_feed_79 : decode cX11_feed 79 = .ok (.aload_n 0, 1) := by decide +kernel
theorem dX11_feed_80 : decode cX11_feed 80 = .ok (.getfield 10, 3) := by decide +kernel
theorem dX11_feed_83 : decode cX11_feed 83 = .ok (.iload 5, 2) := by decide +kernel
theorem dX11_feed_85 : decode cX11_feed 85 = .ok (.invokevirtual 103, 3) := by decide +kernel
theorem dX11_feed_88 : decode cX11_feed 88 = .ok (.aload_n 0, 1) := by decide +kernel
theorem dX11_feed_89 : decode cX11_feed 89 = .ok (.getfield 10, 3) := by decide +kernel
theorem dX11_feed_92 : decode cX11_feed 92 = .ok (.getfield 100, 3) := by decide +kernel
theorem dX11_feed_95 : decode cX11_feed 95 = .ok (.ireturn, 1) := by decide +kernel
theorem dX11_end_0 : decode cX11_end 0 = .ok (.iload_n 1, 1) := by decide +kernel
theorem dX11_end_1 : decode cX11_end 1 = .ok (.ifCond .lt 14, 3) := by decide +kernel
theorem dX11_end_4 : decode cX11_end 4 = .ok (.iload_n 1, 1) := by decide +kernel
theorem dX11_end_5 : decode cX11_end 5 = .ok (.aload_n 0, 1) := by decide +kernel
theorem dX11_end_6 : decode cX11_end 6 = .ok (.getfield 10, 3) := by decide +kernel
theorem dX11_end_9 : decode cX11_end 9 = .ok (.getfield 100, 3) := by decide +kernel
theorem dX11_end_12 : decode cX11_end 12 = .ok (.if_icmp .le 5, 3) := by decide +kernel
theorem dX11_end_15 : decode cX11_end 15 = .ok (.iconst 0, 1) := by decide +kernel
theorem dX11_end_16 : decode cX11_end 16 = .ok (.ireturn, 1) := by decide +kernel
theorem dX11_end_17 : decode cX11_end 17 = .ok (.aload_n 0, 1) := by decide +kernel
theorem dX11_end_18 : decode cX11_end 18 = .ok (.getfield 10, 3) := by decide +kernel
theorem dX11_end_21 : decode cX11_end 21 = .ok (.iload_n 1, 1) := by decide +kernel
theorem dX11_end_22 : decode cX11_end 22 = .ok (.putfield 100, 3) := by decide +kernel
theorem dX11_end_25 : decode cX11_end 25 = .ok (.iconst 1, 1) := by decide +kernel
theorem dX11_end_26 : decode cX11_end 26 = .ok (.ireturn, 1) := by decide +kernel
theorem dX11_fault_0 : decode cX11_fault 0 = .ok (.iload_n 1, 1) := by decide +kernel
theorem dX11_fault_1 : decode cX11_fault 1 = .ok (.ifCond .ne 11, 3) := by decide +kernel
theorem dX11_fault_4 : decode cX11_fault 4 = .ok (.aload_n 0, 1) := by decide +kernel
theorem dX11_fault_5 : decode cX11_fault 5 = .ok (.getfield 21, 3) := by decide +kernel
theorem dX11_fault_8 : decode cX11_fault 8 = .ok (.invokevirtual 107, 3) := by decide +kernel
theorem dX11_fault_11 : decode cX11_fault 11 = .ok (.ireturn, 1) := by decide +kernel
theorem dX11_fault_12 : decode cX11_fault 12 = .ok (.iload_n 1, 1) := by decide +kernel
theorem dX11_fault_13 : decode cX11_fault 13 = .ok (.iconst 1, 1) := by decide +kernel
theorem dX11_fault_14 : decode cX11_fault 14 = .ok (.if_icmp .ne 11, 3) := by decide +kernel
theorem dX11_fault_17 : decode cX11_fault 17 = .ok (.aload_n 0, 1) := by decide +kernel
theorem dX11_fault_18 : decode cX11_fault 18 = .ok (.getfield 28, 3) := by decide +kernel
theorem dX11_fault_21 : decode cX11_fault 21 = .ok (.invokevirtual 111, 3) := by decide +kernel
theorem dX11_fault_24 : decode cX11_fault 24 = .ok (.ireturn, 1) := by decide +kernel
theorem dX11_fault_25 : decode cX11_fault 25 = .ok (.bipush (-2), 2) := by decide +kernel
theorem dX11_fault_27 : decode cX11_fault 27 = .ok (.ireturn, 1) := by decide +kernel
theorem dX11_text_0 : decode cX11_text 0 = .ok (.iload_n 1, 1) := by decide +kernel
theorem dX11_text_1 : decode cX11_text 1 = .ok (.ifCond .ne 26, 3) := by decide +kernel
theorem dX11_text_4 : decode cX11_text 4 = .ok (.aload_n 0, 1) := by decide +kernel
theorem dX11_text_5 : decode cX11_text 5 = .ok (.getfield 21, 3) := by decide +kernel
theorem dX11_text_8 : decode cX11_text 8 = .ok (.invokevirtual 107, 3) := by decide +kernel
theorem dX11_text_11 : decode cX11_text 11 = .ok (.iconst (-1), 1) := by decide +kernel
theorem dX11_text_12 : decode cX11_text 12 = .ok (.if_icmp .ne 15, 3) := by decide +kernel
theorem dX11_text_15 : decode cX11_text 15 = .ok (.aload_n 0, 1) := by decide +kernel
theorem dX11_text_16 : decode cX11_text 16 = .ok (.invokevirtual 112, 3) := by decide +kernel
theorem dX11_text_19 : decode cX11_text 19 = .ok (.aload_n 0, 1) := by decide +kernel
theorem dX11_text_20 : decode cX11_text 20 = .ok (.getfield 35, 3) := by decide +kernel
theorem dX11_text_23 : decode cX11_text 23 = .ok (.getfield 115, 3) := by decide +kernel
theorem dX11_text_26 : decode cX11_text 26 = .ok (.ireturn, 1) := by decide +kernel
theorem dX11_text_27 : decode cX11_text 27 = .ok (.iload_n 1, 1) := by decide +kernel
theorem dX11_text_28 : decode cX11_text 28 = .ok (.iconst 1, 1) := by decide +kernel
theorem dX11_text_29 : decode cX11_text 29 = .ok (.if_icmp .ne 63, 3) := by decide +kernel
theorem dX11_text_32 : decode cX11_text 32 = .ok (.aload_n 0, 1) := by decide +kernel
theorem dX11_text_33 : decode cX11_text 33 = .ok (.getfield 118, 3) := by decide +kernel
theorem dX11_text_36 : decode cX11_text 36 = .ok (.iconst 4, 1) := by decide +kernel
theorem dX11_text_37 : decode cX11_text 37 = .ok (.if_icmp .ge 55, 3) := by decide +kernel
theorem dX11_text_40 : decode cX11_text 40 = .ok (.aload_n 0, 1) := by decide +kernel
theorem dX11_text_41 : decode cX11_text 41 = .ok (.getfield 28, 3) := by decide +kernel
theorem dX11_text_44 : decode cX11_text 44 = .ok (.invokevirtual 111, 3) := by decide +kernel
theorem dX11_text_47 : decode cX11_text 47 = .ok (.iconst (-1), 1) := by decide +kernel
theorem dX11_text_48 : decode cX11_text 48 = .ok (.if_icmp .ne 44, 3) := by decide +kernel
theorem dX11_text_51 : decode cX11_text 51 = .ok (.aload_n 0, 1) := by decide +kernel
theorem dX11_text_52 : decode cX11_text 52 = .ok (.getfield 41, 3) := by decide +kernel
theorem dX11_text_55 : decode cX11_text 55 = .ok (.aload_n 0, 1) := by decide +kernel
theorem dX11_text_56 : decode cX11_text 56 = .ok (.getfield 118, 3) := by decide +kernel
theorem dX11_text_59 : decode cX11_text 59 = .ok (.aload_n 0, 1) := by decide +kernel
theorem dX11_text_60 : decode cX11_text 60 = .ok (.getfield 28, 3) := by decide +kernel
theorem dX11_text_63 : decode cX11_text 63 = .ok (.invokevirtual 121, 3) := by decide +kernel
theorem dX11_text_66 : decode cX11_text 66 = .ok (.aastore, 1) := by decide +kernel
theorem dX11_text_67 : decode cX11_text 67 = .ok (.aload_n 0, 1) := by decide +kernel
theorem dX11_text_68 : decode cX11_text 68 = .ok (.dup, 1) := by decide +kernel
theorem dX11_text_69 : decode cX11_text 69 = .ok (.getfield 118, 3) := by decide +kernel
theorem dX11_text_72 : decode cX11_text 72 = .ok (.iconst 1, 1) := by decide +kernel
theorem dX11_text_73 : decode cX11_text 73 = .ok (.iadd, 1) := by decide +kernel
theorem dX11_text_74 : decode cX11_text 74 = .ok (.putfield 118, 3) := by decide +kernel
theorem dX11_text_77 : decode cX11_text 77 = .ok (.aload_n 0, 1) := by decide +kernel
theorem dX11_text_78 : decode cX11_text 78 = .ok (.getfield 10, 3) := by decide +kernel
theorem dX11_text_81 : decode cX11_text 81 = .ok (.iconst 0, 1) := by decide +kernel
theorem dX11_text_82 : decode cX11_text 82 = .ok (.putfield 100, 3) := by decide +kernel
theorem dX11_text_85 : decode cX11_text 85 = .ok (.aload_n 0, 1) := by decide +kernel
theorem dX11_text_86 : decode cX11_text 86 = .ok (.getfield 118, 3) := by decide +kernel
theorem dX11_text_89 : decode cX11_text 89 = .ok (.iconst 1, 1) := by decide +kernel
theorem dX11_text_90 : decode cX11_text 90 = .ok (.isub, 1) := by decide +kernel
theorem dX11_text_91 : decode cX11_text 91 = .ok (.ireturn, 1) := by decide +kernel
theorem dX11_text_92 : decode cX11_text 92 = .ok (.iconst (-1), 1) := by decide +kernel
theorem dX11_text_93 : decode cX11_text 93 = .ok (.ireturn, 1) := by decide +kernel
theorem dX11_openTown_0 : decode cX11_openTown 0 = .ok (.aload_n 0, 1) := by decide +kernel
theorem dX11_openTown_1 : decode cX11_openTown 1 = .ok (.getfield 35, 3) := by decide +kernel
theorem dX11_openTown_4 : decode cX11_openTown 4 = .ok (.aload_n 0, 1) := by decide +kernel
theorem dX11_openTown_5 : decode cX11_openTown 5 = .ok (.getfield 21, 3) := by decide +kernel
theorem dX11_openTown_8 : decode cX11_openTown 8 = .ok (.getfield 125, 3) := by decide +kernel
theorem dX11_openTown_11 : decode cX11_openTown 11 = .ok (.invokevirtual 128, 3) := by decide +kernel
theorem dX11_openTown_14 : decode cX11_openTown 14 = .ok (.aload_n 0, 1) := by decide +kernel
theorem dX11_openTown_15 : decode cX11_openTown 15 = .ok (.getfield 59, 3) := by decide +kernel
theorem dX11_openTown_18 : decode cX11_openTown 18 = .ok (.aload_n 0, 1) := by decide +kernel
theorem dX11_openTown_19 : decode cX11_openTown 19 = .ok (.getfield 35, 3) := by decide +kernel
theorem dX11_openTown_22 : decode cX11_openTown 22 = .ok (.invokevirtual 132, 3) := by decide +kernel
theorem dX11_openTown_25 : decode cX11_openTown 25 = .ok (.aload_n 0, 1) := by decide +kernel
theorem dX11_openTown_26 : decode cX11_openTown 26 = .ok (.getfield 48, 3) := by decide +kernel
theorem dX11_openTown_29 : decode cX11_openTown 29 = .ok (.invokevirtual 135, 3) := by decide +kernel
theorem dX11_openTown_32 : decode cX11_openTown 32 = .ok (.aload_n 0, 1) := by decide +kernel
theorem dX11_openTown_33 : decode cX11_openTown 33 = .ok (.iconst 0, 1) := by decide +kernel
theorem dX11_openTown_34 : decode cX11_openTown 34 = .ok (.putfield 137, 3) := by decide +kernel
theorem dX11_openTown_37 : decode cX11_openTown 37 = .ok (.iconst 0, 1) := by decide +kernel
theorem dX11_openTown_38 : decode cX11_openTown 38 = .ok (.istore_n 1, 1) := by decide +kernel
theorem dX11_openTown_39 : decode cX11_openTown 39 = .ok (.iload_n 1, 1) := by decide +kernel
theorem dX11_openTown_40 : decode cX11_openTown 40 = .ok (.iconst 4, 1) := by decide +kernel
theorem dX11_openTown_41 : decode cX11_openTown 41 = .ok (.if_icmp .ge 24, 3) := by decide +kernel
theorem dX11_openTown_44 : decode cX11_openTown 44 = .ok (.aload_n 0, 1) := by decide +kernel
theorem dX11_openTown_45 : decode cX11_openTown 45 = .ok (.getfield 41, 3) := by decide +kernel
theorem dX11_openTown_48 : decode cX11_openTown 48 = .ok (.iload_n 1, 1) := by decide +kernel
theorem dX11_openTown_49 : decode cX11_openTown 49 = .ok (.aaload, 1) := by decide +kernel
theorem dX11_openTown_50 : decode cX11_openTown 50 = .ok (.astore_n 2, 1) := by decide +kernel
theorem dX11_openTown_51 : decode cX11_openTown 51 = .ok (.aload_n 2, 1) := by decide +kernel
theorem dX11_openTown_52 : decode cX11_openTown 52 = .ok (.ifnull 7, 3) := by decide +kernel
theorem dX11_openTown_55 : decode cX11_openTown 55 = .ok (.aload_n 2, 1) := by decide +kernel
theorem dX11_openTown_56 : decode cX11_openTown 56 = .ok (.invokevirtual 140, 3) := by decide +kernel
theorem dX11_openTown_59 : decode cX11_openTown 59 = .ok (.iinc 1 1, 3) := by decide +kernel
theorem dX11_openTown_62 : decode cX11_openTown 62 = .ok (.goto (-23), 3) := by decide +kernel
theorem dX11_openTown_65 : decode cX11_openTown 65 = .ok (.aload_n 0, 1) := by decide +kernel
theorem dX11_openTown_66 : decode cX11_openTown 66 = .ok (.getfield 85, 3) := by decide +kernel
theorem dX11_openTown_69 : decode cX11_openTown 69 = .ok (.iconst 0, 1) := by decide +kernel
theorem dX11_openTown_70 : decode cX11_openTown 70 = .ok (.putfield 143, 3) := by decide +kernel
theorem dX11_openTown_73 : decode cX11_openTown 73 = .ok (.aload_n 0, 1) := by decide +kernel
theorem dX11_openTown_74 : decode cX11_openTown 74 = .ok (.getfield 10, 3) := by decide +kernel
theorem dX11_openTown_77 : decode cX11_openTown 77 = .ok (.iconst 0, 1) := by decide +kernel
theorem dX11_openTown_78 : decode cX11_openTown 78 = .ok (.putfield 100, 3) := by decide +kernel
theorem dX11_openTown_81 : decode cX11_openTown 81 = .ok (.return_, 1) := by decide +kernel
theorem dX11_player_0 : decode cX11_player 0 = .ok (.aload_n 0, 1) := by decide +kernel
theorem dX11_player_1 : decode cX11_player 1 = .ok (.iload_n 1, 1) := by decide +kernel
theorem dX11_player_2 : decode cX11_player 2 = .ok (.invokevirtual 147, 3) := by decide +kernel
theorem dX11_player_5 : decode cX11_player 5 = .ok (.ifCond .ne 13, 3) := by decide +kernel
theorem dX11_player_8 : decode cX11_player 8 = .ok (.new 151, 3) := by decide +kernel
theorem dX11_player_11 : decode cX11_player 11 = .ok (.dup, 1) := by decide +kernel
theorem dX11_player_12 : decode cX11_player 12 = .ok (.ldc 153, 2) := by decide +kernel
theorem dX11_player_14 : decode cX11_player 14 = .ok (.invokespecial 155, 3) := by decide +kernel
theorem dX11_player_17 : decode cX11_player 17 = .ok (.athrow, 1) := by decide +kernel
theorem dX11_player_18 : decode cX11_player 18 = .ok (.iload_n 2, 1) := by decide +kernel
theorem dX11_player_19 : decode cX11_player 19 = .ok (.tableswitch 111 0 6 #[41, 51, 61, 71, 81, 91, 101], 41) := by decide +kernel
theorem dX11_player_60 : decode cX11_player 60 = .ok (.aload_n 0, 1) := by decide +kernel
theorem dX11_player_61 : decode cX11_player 61 = .ok (.getfield 59, 3) := by decide +kernel
theorem dX11_player_64 : decode cX11_player 64 = .ok (.getfield 158, 3) := by decide +kernel
theorem dX11_player_67 : decode cX11_player 67 = .ok (.iload_n 1, 1) := by decide +kernel
theorem dX11_player_68 : decode cX11_player 68 = .ok (.iaload, 1) := by decide +kernel
theorem dX11_player_69 : decode cX11_player 69 = .ok (.ireturn, 1) := by decide +kernel
theorem dX11_player_70 : decode cX11_player 70 = .ok (.aload_n 0, 1) := by decide +kernel
theorem dX11_player_71 : decode cX11_player 71 = .ok (.getfield 35, 3) := by decide +kernel
theorem dX11_player_74 : decode cX11_player 74 = .ok (.getfield 161, 3) := by decide +kernel
theorem dX11_player_77 : decode cX11_player 77 = .ok (.iload_n 1, 1) := by decide +kernel
theorem dX11_player_78 : decode cX11_player 78 = .ok (.iaload, 1) := by decide +kernel
theorem dX11_player_79 : decode cX11_player 79 = .ok (.ireturn, 1) := by decide +kernel
theorem dX11_player_80 : decode cX11_player 80 = .ok (.aload_n 0, 1) := by decide +kernel
theorem dX11_player_81 : decode cX11_player 81 = .ok (.getfield 35, 3) := by decide +kernel
theorem dX11_player_84 : decode cX11_player 84 = .ok (.getfield 162, 3) := by decide +kernel
theorem dX11_player_87 : decode cX11_player 87 = .ok (.iload_n 1, 1) := by decide +kernel
theorem dX11_player_88 : decode cX11_player 88 = .ok (.iaload, 1) := by decide +kernel
theorem dX11_player_89 : decode cX11_player 89 = .ok (.ireturn, 1) := by decide +kernel
theorem dX11_player_90 : decode cX11_player 90 = .ok (.aload_n 0, 1) := by decide +kernel
theorem dX11_player_91 : decode cX11_player 91 = .ok (.getfield 35, 3) := by decide +kernel
theorem dX11_player_94 : decode cX11_player 94 = .ok (.getfield 165, 3) := by decide +kernel
theorem dX11_player_97 : decode cX11_player 97 = .ok (.iload_n 1, 1) := by decide +kernel
theorem dX11_player_98 : decode cX11_player 98 = .ok (.iaload, 1) := by decide +kernel
theorem dX11_player_99 : decode cX11_player 99 = .ok (.ireturn, 1) := by decide +kernel
theorem dX11_player_100 : decode cX11_player 100 = .ok (.aload_n 0, 1) := by decide +kernel
theorem dX11_player_101 : decode cX11_player 101 = .ok (.getfield 59, 3) := by decide +kernel
theorem dX11_player_104 : decode cX11_player 104 = .ok (.getfield 168, 3) := by decide +kernel
theorem dX11_player_107 : decode cX11_player 107 = .ok (.iload_n 1, 1) := by decide +kernel
theorem dX11_player_108 : decode cX11_player 108 = .ok (.iaload, 1) := by decide +kernel
theorem dX11_player_109 : decode cX11_player 109 = .ok (.ireturn, 1) := by decide +kernel
theorem dX11_player_110 : decode cX11_player 110 = .ok (.aload_n 0, 1) := by decide +kernel
theorem dX11_player_111 : decode cX11_player 111 = .ok (.getfield 59, 3) := by decide +kernel
theorem dX11_player_114 : decode cX11_player 114 = .ok (.getfield 171, 3) := by decide +kernel
theorem dX11_player_117 : decode cX11_player 117 = .ok (.iload_n 1, 1) := by decide +kernel
theorem dX11_player_118 : decode cX11_player 118 = .ok (.iaload, 1) := by decide +kernel
theorem dX11_player_119 : decode cX11_player 119 = .ok (.ireturn, 1) := by decide +kernel
theorem dX11_player_120 : decode cX11_player 120 = .ok (.aload_n 0, 1) := by decide +kernel
theorem dX11_player_121 : decode cX11_player 121 = .ok (.getfield 59, 3) := by decide +kernel
theorem dX11_player_124 : decode cX11_player 124 = .ok (.getfield 174, 3) := by decide +kernel
theorem dX11_player_127 : decode cX11_player 127 = .ok (.iload_n 1, 1) := by decide +kernel
theorem dX11_player_128 : decode cX11_player 128 = .ok (.iaload, 1) := by decide +kernel
theorem dX11_player_129 : decode cX11_player 129 = .ok (.ireturn, 1) := by decide +kernel
theorem dX11_player_130 : decode cX11_player 130 = .ok (.new 151, 3) := by decide +kernel
theorem dX11_player_133 : decode cX11_player 133 = .ok (.dup, 1) := by decide +kernel
theorem dX11_player_134 : decode cX11_player 134 = .ok (.ldc 177, 2) := by decide +kernel
theorem dX11_player_136 : decode cX11_player 136 = .ok (.invokespecial 155, 3) := by decide +kernel
theorem dX11_player_139 : decode cX11_player 139 = .ok (.athrow, 1) := by decide +kernel
theorem dX11_set_0 : decode cX11_set 0 = .ok (.iload_n 1, 1) := by decide +kernel
theorem dX11_set_1 : decode cX11_set 1 = .ok (.ifCond .ne 7, 3) := by decide +kernel
theorem dX11_set_4 : decode cX11_set 4 = .ok (.iconst (-1), 1) := by decide +kernel
theorem dX11_set_5 : decode cX11_set 5 = .ok (.goto 13, 3) := by decide +kernel
theorem dX11_set_8 : decode cX11_set 8 = .ok (.iload_n 1, 1) := by decide +kernel
theorem dX11_set_9 : decode cX11_set 9 = .ok (.iconst 1, 1) := by decide +kernel
theorem dX11_set_10 : decode cX11_set 10 = .ok (.if_icmp .ne 7, 3) := by decide +kernel
theorem dX11_set_13 : decode cX11_set 13 = .ok (.iconst 1, 1) := by decide +kernel
theorem dX11_set_14 : decode cX11_set 14 = .ok (.goto 4, 3) := by decide +kernel
theorem dX11_set_17 : decode cX11_set 17 = .ok (.iconst 0, 1) := by decide +kernel
theorem dX11_set_18 : decode cX11_set 18 = .ok (.istore_n 3, 1) := by decide +kernel
theorem dX11_set_19 : decode cX11_set 19 = .ok (.iload_n 2, 1) := by decide +kernel
theorem dX11_set_20 : decode cX11_set 20 = .ok (.iload_n 3, 1) := by decide +kernel
theorem dX11_set_21 : decode cX11_set 21 = .ok (.if_icmp .lt 12, 3) := by decide +kernel
theorem dX11_set_24 : decode cX11_set 24 = .ok (.iload_n 2, 1) := by decide +kernel
theorem dX11_set_25 : decode cX11_set 25 = .ok (.aload_n 0, 1) := by decide +kernel
theorem dX11_set_26 : decode cX11_set 26 = .ok (.iload_n 1, 1) := by decide +kernel
theorem dX11_set_27 : decode cX11_set 27 = .ok (.invokevirtual 179, 3) := by decide +kernel
theorem dX11_set_30 : decode cX11_set 30 = .ok (.if_icmp .le 5, 3) := by decide +kernel
theorem dX11_set_33 : decode cX11_set 33 = .ok (.iconst 0, 1) := by decide +kernel
theorem dX11_set_34 : decode cX11_set 34 = .ok (.ireturn, 1) := by decide +kernel
theorem dX11_set_35 : decode cX11_set 35 = .ok (.aload_n 0, 1) := by decide +kernel
theorem dX11_set_36 : decode cX11_set 36 = .ok (.getfield 85, 3) := by decide +kernel
theorem dX11_set_39 : decode cX11_set 39 = .ok (.iconst 0, 1) := by decide +kernel
theorem dX11_set_40 : decode cX11_set 40 = .ok (.putfield 143, 3) := by decide +kernel
theorem dX11_set_43 : decode cX11_set 43 = .ok (.iload_n 1, 1) := by decide +kernel
theorem dX11_set_44 : decode cX11_set 44 = .ok (.tableswitch 55 0 2 #[28, 35, 45], 28) := by decide +kernel
theorem dX11_set_72 : decode cX11_set 72 = .ok (.aload_n 0, 1) := by decide +kernel
theorem dX11_set_73 : decode cX11_set 73 = .ok (.iload_n 2, 1) := by decide +kernel
theorem dX11_set_74 : decode cX11_set 74 = .ok (.putfield 93, 3) := by decide +kernel
theorem dX11_set_77 : decode cX11_set 77 = .ok (.iconst 1, 1) := by decide +kernel
theorem dX11_set_78 : decode cX11_set 78 = .ok (.ireturn, 1) := by decide +kernel
theorem dX11_set_79 : decode cX11_set 79 = .ok (.aload_n 0, 1) := by decide +kernel
theorem dX11_set_80 : decode cX11_set 80 = .ok (.getfield 59, 3) := by decide +kernel
theorem dX11_set_83 : decode cX11_set 83 = .ok (.iload_n 2, 1) := by decide +kernel
theorem dX11_set_84 : decode cX11_set 84 = .ok (.putfield 182, 3) := by decide +kernel
theorem dX11_set_87 : decode cX11_set 87 = .ok (.iconst 1, 1) := by decide +kernel
theorem dX11_set_88 : decode cX11_set 88 = .ok (.ireturn, 1) := by decide +kernel
theorem dX11_set_89 : decode cX11_set 89 = .ok (.aload_n 0, 1) := by decide +kernel
theorem dX11_set_90 : decode cX11_set 90 = .ok (.getfield 59, 3) := by decide +kernel
theorem dX11_set_93 : decode cX11_set 93 = .ok (.iload_n 2, 1) := by decide +kernel
theorem dX11_set_94 : decode cX11_set 94 = .ok (.putfield 185, 3) := by decide +kernel
theorem dX11_set_97 : decode cX11_set 97 = .ok (.iconst 1, 1) := by decide +kernel
theorem dX11_set_98 : decode cX11_set 98 = .ok (.ireturn, 1) := by decide +kernel
theorem dX11_set_99 : decode cX11_set 99 = .ok (.aload_n 0, 1) := by decide +kernel
theorem dX11_set_100 : decode cX11_set 100 = .ok (.iload_n 2, 1) := by decide +kernel
theorem dX11_set_101 : decode cX11_set 101 = .ok (.putfield 89, 3) := by decide +kernel
theorem dX11_set_104 : decode cX11_set 104 = .ok (.iconst 1, 1) := by decide +kernel
theorem dX11_set_105 : decode cX11_set 105 = .ok (.ireturn, 1) := by decide +kernel
theorem dX11_mostOf_0 : decode cX11_mostOf 0 = .ok (.iload_n 1, 1) := by decide +kernel
theorem dX11_mostOf_1 : decode cX11_mostOf 1 = .ok (.tableswitch 47 0 3 #[31, 38, 41, 43], 31) := by decide +kernel
theorem dX11_mostOf_32 : decode cX11_mostOf 32 = .ok (.aload_n 0, 1) := by decide +kernel
theorem dX11_mostOf_33 : decode cX11_mostOf 33 = .ok (.getfield 118, 3) := by decide +kernel
theorem dX11_mostOf_36 : decode cX11_mostOf 36 = .ok (.iconst 1, 1) := by decide +kernel
theorem dX11_mostOf_37 : decode cX11_mostOf 37 = .ok (.isub, 1) := by decide +kernel
theorem dX11_mostOf_38 : decode cX11_mostOf 38 = .ok (.ireturn, 1) := by decide +kernel
theorem dX11_mostOf_39 : decode cX11_mostOf 39 = .ok (.bipush 30, 2) := by decide +kernel
theorem dX11_mostOf_41 : decode cX11_mostOf 41 = .ok (.ireturn, 1) := by decide +kernel
theorem dX11_mostOf_42 : decode cX11_mostOf 42 = .ok (.iconst 3, 1) := by decide +kernel
theorem dX11_mostOf_43 : decode cX11_mostOf 43 = .ok (.ireturn, 1) := by decide +kernel
theorem dX11_mostOf_44 : decode cX11_mostOf 44 = .ok (.sipush 999, 3) := by decide +kernel
theorem dX11_mostOf_47 : decode cX11_mostOf 47 = .ok (.ireturn, 1) := by decide +kernel
theorem dX11_mostOf_48 : decode cX11_mostOf 48 = .ok (.ldc 188, 2) := by decide +kernel
theorem dX11_mostOf_50 : decode cX11_mostOf 50 = .ok (.ireturn, 1) := by decide +kernel
theorem dX11_tell_0 : decode cX11_tell 0 = .ok (.aload_n 0, 1) := by decide +kernel
theorem dX11_tell_1 : decode cX11_tell 1 = .ok (.iload_n 1, 1) := by decide +kernel
theorem dX11_tell_2 : decode cX11_tell 2 = .ok (.invokevirtual 147, 3) := by decide +kernel
theorem dX11_tell_5 : decode cX11_tell 5 = .ok (.ifCond .eq 13, 3) := by decide +kernel
theorem dX11_tell_8 : decode cX11_tell 8 = .ok (.aload_n 0, 1) := by decide +kernel
theorem dX11_tell_9 : decode cX11_tell 9 = .ok (.iload_n 1, 1) := by decide +kernel
theorem dX11_tell_10 : decode cX11_tell 10 = .ok (.iload_n 2, 1) := by decide +kernel
theorem dX11_tell_11 : decode cX11_tell 11 = .ok (.iload_n 3, 1) := by decide +kernel
theorem dX11_tell_12 : decode cX11_tell 12 = .ok (.invokevirtual 189, 3) := by decide +kernel
theorem dX11_tell_15 : decode cX11_tell 15 = .ok (.ifCond .ne 5, 3) := by decide +kernel
theorem dX11_tell_18 : decode cX11_tell 18 = .ok (.iconst 0, 1) := by decide +kernel
theorem dX11_tell_19 : decode cX11_tell 19 = .ok (.ireturn, 1) := by decide +kernel
theorem dX11_tell_20 : decode cX11_tell 20 = .ok (.aload_n 0, 1) := by decide +kernel
theorem dX11_tell_21 : decode cX11_tell 21 = .ok (.getfield 85, 3) := by decide +kernel
theorem dX11_tell_24 : decode cX11_tell 24 = .ok (.iconst 0, 1) := by decide +kernel
theorem dX11_tell_25 : decode cX11_tell 25 = .ok (.putfield 143, 3) := by decide +kernel
theorem dX11_tell_28 : decode cX11_tell 28 = .ok (.iload_n 2, 1) := by decide +kernel
theorem dX11_tell_29 : decode cX11_tell 29 = .ok (.lookupswitch 51 #[(0, 27), (1, 39)], 27) := by decide +kernel
theorem dX11_tell_56 : decode cX11_tell 56 = .ok (.aload_n 0, 1) := by decide +kernel
theorem dX11_tell_57 : decode cX11_tell 57 = .ok (.getfield 59, 3) := by decide +kernel
theorem dX11_tell_60 : decode cX11_tell 60 = .ok (.getfield 168, 3) := by decide +kernel
theorem dX11_tell_63 : decode cX11_tell 63 = .ok (.iload_n 1, 1) := by decide +kernel
theorem dX11_tell_64 : decode cX11_tell 64 = .ok (.iload_n 3, 1) := by decide +kernel
theorem dX11_tell_65 : decode cX11_tell 65 = .ok (.iastore, 1) := by decide +kernel
theorem dX11_tell_66 : decode cX11_tell 66 = .ok (.iconst 1, 1) := by decide +kernel
theorem dX11_tell_67 : decode cX11_tell 67 = .ok (.ireturn, 1) := by decide +kernel
theorem dX11_tell_68 : decode cX11_tell 68 = .ok (.aload_n 0, 1) := by decide +kernel
theorem dX11_tell_69 : decode cX11_tell 69 = .ok (.getfield 59, 3) := by decide +kernel
theorem dX11_tell_72 : decode cX11_tell 72 = .ok (.getfield 171, 3) := by decide +kernel
theorem dX11_tell_75 : decode cX11_tell 75 = .ok (.iload_n 1, 1) := by decide +kernel
theorem dX11_tell_76 : decode cX11_tell 76 = .ok (.iload_n 3, 1) := by decide +kernel
theorem dX11_tell_77 : decode cX11_tell 77 = .ok (.iastore, 1) := by decide +kernel
theorem dX11_tell_78 : decode cX11_tell 78 = .ok (.iconst 1, 1) := by decide +kernel
theorem dX11_tell_79 : decode cX11_tell 79 = .ok (.ireturn, 1) := by decide +kernel
theorem dX11_tell_80 : decode cX11_tell 80 = .ok (.aload_n 0, 1) := by decide +kernel
theorem dX11_tell_81 : decode cX11_tell 81 = .ok (.getfield 59, 3) := by decide +kernel
theorem dX11_tell_84 : decode cX11_tell 84 = .ok (.getfield 174, 3) := by decide +kernel
theorem dX11_tell_87 : decode cX11_tell 87 = .ok (.iload_n 1, 1) := by decide +kernel
theorem dX11_tell_88 : decode cX11_tell 88 = .ok (.iload_n 3, 1) := by decide +kernel
theorem dX11_tell_89 : decode cX11_tell 89 = .ok (.iastore, 1) := by decide +kernel
theorem dX11_tell_90 : decode cX11_tell 90 = .ok (.iconst 1, 1) := by decide +kernel
theorem dX11_tell_91 : decode cX11_tell 91 = .ok (.ireturn, 1) := by decide +kernel
theorem dX11_mayTell_0 : decode cX11_mayTell 0 = .ok (.iload_n 2, 1) := by decide +kernel
theorem dX11_mayTell_1 : decode cX11_mayTell 1 = .ok (.tableswitch 83 0 2 #[27, 51, 67], 27) := by decide +kernel
theorem dX11_mayTell_28 : decode cX11_mayTell 28 = .ok (.iload_n 3, 1) := by decide +kernel
theorem dX11_mayTell_29 : decode cX11_mayTell 29 = .ok (.iconst (-1), 1) := by decide +kernel
theorem dX11_mayTell_30 : decode cX11_mayTell 30 = .ok (.if_icmp .eq 16, 3) := by decide +kernel
theorem dX11_mayTell_33 : decode cX11_mayTell 33 = .ok (.iload_n 3, 1) := by decide +kernel
theorem dX11_mayTell_34 : decode cX11_mayTell 34 = .ok (.iload_n 1, 1) := by decide +kernel
theorem dX11_mayTell_35 : decode cX11_mayTell 35 = .ok (.if_icmp .eq 15, 3) := by decide +kernel
theorem dX11_mayTell_38 : decode cX11_mayTell 38 = .ok (.aload_n 0, 1) := by decide +kernel
theorem dX11_mayTell_39 : decode cX11_mayTell 39 = .ok (.iload_n 3, 1) := by decide +kernel
theorem dX11_mayTell_40 : decode cX11_mayTell 40 = .ok (.invokevirtual 147, 3) := by decide +kernel
theorem dX11_mayTell_43 : decode cX11_mayTell 43 = .ok (.ifCond .eq 7, 3) := by decide +kernel
theorem dX11_mayTell_46 : decode cX11_mayTell 46 = .ok (.iconst 1, 1) := by decide +kernel
theorem dX11_mayTell_47 : decode cX11_mayTell 47 = .ok (.goto 4, 3) := by decide +kernel
theorem dX11_mayTell_50 : decode cX11_mayTell 50 = .ok (.iconst 0, 1) := by decide +kernel
theorem dX11_mayTell_51 : decode cX11_mayTell 51 = .ok (.ireturn, 1) := by decide +kernel
theorem dX11_mayTell_52 : decode cX11_mayTell 52 = .ok (.iload_n 3, 1) := by decide +kernel
theorem dX11_mayTell_53 : decode cX11_mayTell 53 = .ok (.ifCond .lt 13, 3) := by decide +kernel
theorem dX11_mayTell_56 : decode cX11_mayTell 56 = .ok (.iload_n 3, 1) := by decide +kernel
theorem dX11_mayTell_57 : decode cX11_mayTell 57 = .ok (.bipush 10, 2) := by decide +kernel
theorem dX11_mayTell_59 : decode cX11_mayTell 59 = .ok (.if_icmp .gt 7, 3) := by decide +kernel
theorem dX11_mayTell_62 : decode cX11_mayTell 62 = .ok (.iconst 1, 1) := by decide +kernel
theorem dX11_mayTell_63 : decode cX11_mayTell 63 = .ok (.goto 4, 3) := by decide +kernel
theorem dX11_mayTell_66 : decode cX11_mayTell 66 = .ok (.iconst 0, 1) := by decide +kernel
theorem dX11_mayTell_67 : decode cX11_mayTell 67 = .ok (.ireturn, 1) := by decide +kernel
theorem dX11_mayTell_68 : decode cX11_mayTell 68 = .ok (.iload_n 3, 1) := by decide +kernel
theorem dX11_mayTell_69 : decode cX11_mayTell 69 = .ok (.ifCond .lt 13, 3) := by decide +kernel
theorem dX11_mayTell_72 : decode cX11_mayTell 72 = .ok (.iload_n 3, 1) := by decide +kernel
theorem dX11_mayTell_73 : decode cX11_mayTell 73 = .ok (.bipush 50, 2) := by decide +kernel
theorem dX11_mayTell_75 : decode cX11_mayTell 75 = .ok (.if_icmp .gt 7, 3) := by decide +kernel
theorem dX11_mayTell_78 : decode cX11_mayTell 78 = .ok (.iconst 1, 1) := by decide +kernel
theorem dX11_mayTell_79 : decode cX11_mayTell 79 = .ok (.goto 4, 3) := by decide +kernel
theorem dX11_mayTell_82 : decode cX11_mayTell 82 = .ok (.iconst 0, 1) := by decide +kernel
theorem dX11_mayTell_83 : decode cX11_mayTell 83 = .ok (.ireturn, 1) := by decide +kernel
theorem dX11_mayTell_84 : decode cX11_mayTell 84 = .ok (.iconst 0, 1) := by decide +kernel
theorem dX11_mayTell_85 : decode cX11_mayTell 85 = .ok (.ireturn, 1) := by decide +kernel
theorem dX11_mark_0 : decode cX11_mark 0 = .ok (.aload_n 0, 1) := by decide +kernel
theorem dX11_mark_1 : decode cX11_mark 1 = .ok (.getfield 35, 3) := by decide +kernel
theorem dX11_mark_4 : decode cX11_mark 4 = .ok (.getfield 115, 3) := by decide +kernel
theorem dX11_mark_7 : decode cX11_mark 7 = .ok (.ifCond .eq 25, 3) := by decide +kernel
theorem dX11_mark_10 : decode cX11_mark 10 = .ok (.iload_n 1, 1) := by decide +kernel
theorem dX11_mark_11 : decode cX11_mark 11 = .ok (.ifCond .lt 21, 3) := by decide +kernel
theorem dX11_mark_14 : decode cX11_mark 14 = .ok (.iload_n 1, 1) := by decide +kernel
theorem dX11_mark_15 : decode cX11_mark 15 = .ok (.bipush 30, 2) := by decide +kernel
theorem dX11_mark_17 : decode cX11_mark 17 = .ok (.if_icmp .ge 15, 3) := by decide +kernel
theorem dX11_mark_20 : decode cX11_mark 20 = .ok (.aload_n 0, 1) := by decide +kernel
theorem dX11_mark_21 : decode cX11_mark 21 = .ok (.getfield 59, 3) := by decide +kernel
theorem dX11_mark_24 : decode cX11_mark 24 = .ok (.iload_n 1, 1) := by decide +kernel
theorem dX11_mark_25 : decode cX11_mark 25 = .ok (.invokevirtual 193, 3) := by decide +kernel
theorem dX11_mark_28 : decode cX11_mark 28 = .ok (.iload_n 2, 1) := by decide +kernel
theorem dX11_mark_29 : decode cX11_mark 29 = .ok (.if_icmp .ne 5, 3) := by decide +kernel
theorem dX11_mark_32 : decode cX11_mark 32 = .ok (.iconst 0, 1) := by decide +kernel
theorem dX11_mark_33 : decode cX11_mark 33 = .ok (.ireturn, 1) := by decide +kernel
theorem dX11_mark_34 : decode cX11_mark 34 = .ok (.aload_n 0, 1) := by decide +kernel
theorem dX11_mark_35 : decode cX11_mark 35 = .ok (.getfield 59, 3) := by decide +kernel
theorem dX11_mark_38 : decode cX11_mark 38 = .ok (.dup, 1) := by decide +kernel
theorem dX11_mark_39 : decode cX11_mark 39 = .ok (.getfield 196, 3) := by decide +kernel
theorem dX11_mark_42 : decode cX11_mark 42 = .ok (.iconst 1, 1) := by decide +kernel
theorem dX11_mark_43 : decode cX11_mark 43 = .ok (.iload_n 1, 1) := by decide +kernel
theorem dX11_mark_44 : decode cX11_mark 44 = .ok (.ishl, 1) := by decide +kernel
theorem dX11_mark_45 : decode cX11_mark 45 = .ok (.ixor, 1) := by decide +kernel
theorem dX11_mark_46 : decode cX11_mark 46 = .ok (.putfield 196, 3) := by decide +kernel
theorem dX11_mark_49 : decode cX11_mark 49 = .ok (.aload_n 0, 1) := by decide +kernel
theorem dX11_mark_50 : decode cX11_mark 50 = .ok (.getfield 85, 3) := by decide +kernel
theorem dX11_mark_53 : decode cX11_mark 53 = .ok (.iconst 0, 1) := by decide +kernel
theorem dX11_mark_54 : decode cX11_mark 54 = .ok (.putfield 143, 3) := by decide +kernel
theorem dX11_mark_57 : decode cX11_mark 57 = .ok (.iconst 1, 1) := by decide +kernel
theorem dX11_mark_58 : decode cX11_mark 58 = .ok (.ireturn, 1) := by decide +kernel
theorem dX11_isPlayer_0 : decode cX11_isPlayer 0 = .ok (.iload_n 1, 1) := by decide +kernel
theorem dX11_isPlayer_1 : decode cX11_isPlayer 1 = .ok (.ifCond .lt 18, 3) := by decide +kernel
theorem dX11_isPlayer_4 : decode cX11_isPlayer 4 = .ok (.iload_n 1, 1) := by decide +kernel
theorem dX11_isPlayer_5 : decode cX11_isPlayer 5 = .ok (.aload_n 0, 1) := by decide +kernel
theorem dX11_isPlayer_6 : decode cX11_isPlayer 6 = .ok (.getfield 35, 3) := by decide +kernel
theorem dX11_isPlayer_9 : decode cX11_isPlayer 9 = .ok (.getfield 115, 3) := by decide +kernel
theorem dX11_isPlayer_12 : decode cX11_isPlayer 12 = .ok (.if_icmp .ge 7, 3) := by decide +kernel
theorem dX11_isPlayer_15 : decode cX11_isPlayer 15 = .ok (.iconst 1, 1) := by decide +kernel
theorem dX11_isPlayer_16 : decode cX11_isPlayer 16 = .ok (.goto 4, 3) := by decide +kernel
theorem dX11_isPlayer_19 : decode cX11_isPlayer 19 = .ok (.iconst 0, 1) := by decide +kernel
theorem dX11_isPlayer_20 : decode cX11_isPlayer 20 = .ok (.ireturn, 1) := by decide +kernel
theorem dX11_isBar_0 : decode cX11_isBar 0 = .ok (.aload_n 0, 1) := by decide +kernel
theorem dX11_isBar_1 : decode cX11_isBar 1 = .ok (.getfield 35, 3) := by decide +kernel
theorem dX11_isBar_4 : decode cX11_isBar 4 = .ok (.getfield 115, 3) := by decide +kernel
theorem dX11_isBar_7 : decode cX11_isBar 7 = .ok (.ifCond .le 22, 3) := by decide +kernel
theorem dX11_isBar_10 : decode cX11_isBar 10 = .ok (.iload_n 1, 1) := by decide +kernel
theorem dX11_isBar_11 : decode cX11_isBar 11 = .ok (.ifCond .lt 18, 3) := by decide +kernel
theorem dX11_isBar_14 : decode cX11_isBar 14 = .ok (.iload_n 1, 1) := by decide +kernel
theorem dX11_isBar_15 : decode cX11_isBar 15 = .ok (.aload_n 0, 1) := by decide +kernel
theorem dX11_isBar_16 : decode cX11_isBar 16 = .ok (.getfield 59, 3) := by decide +kernel
theorem dX11_isBar_19 : decode cX11_isBar 19 = .ok (.getfield 182, 3) := by decide +kernel
theorem dX11_isBar_22 : decode cX11_isBar 22 = .ok (.if_icmp .ge 7, 3) := by decide +kernel
theorem dX11_isBar_25 : decode cX11_isBar 25 = .ok (.iconst 1, 1) := by decide +kernel
theorem dX11_isBar_26 : decode cX11_isBar 26 = .ok (.goto 4, 3) := by decide +kernel
theorem dX11_isBar_29 : decode cX11_isBar 29 = .ok (.iconst 0, 1) := by decide +kernel
theorem dX11_isBar_30 : decode cX11_isBar 30 = .ok (.ireturn, 1) := by decide +kernel
theorem dX11_isOneOfTwo_0 : decode cX11_isOneOfTwo 0 = .ok (.aload_n 0, 1) := by decide +kernel
theorem dX11_isOneOfTwo_1 : decode cX11_isOneOfTwo 1 = .ok (.getfield 35, 3) := by decide +kernel
theorem dX11_isOneOfTwo_4 : decode cX11_isOneOfTwo 4 = .ok (.getfield 115, 3) := by decide +kernel
theorem dX11_isOneOfTwo_7 : decode cX11_isOneOfTwo 7 = .ok (.ifCond .le 16, 3) := by decide +kernel
theorem dX11_isOneOfTwo_10 : decode cX11_isOneOfTwo 10 = .ok (.iload_n 1, 1) := by decide +kernel
theorem dX11_isOneOfTwo_11 : decode cX11_isOneOfTwo 11 = .ok (.ifCond .eq 8, 3) := by decide +kernel
theorem dX11_isOneOfTwo_14 : decode cX11_isOneOfTwo 14 = .ok (.iload_n 1, 1) := by decide +kernel
theorem dX11_isOneOfTwo_15 : decode cX11_isOneOfTwo 15 = .ok (.iconst 1, 1) := by decide +kernel
theorem dX11_isOneOfTwo_16 : decode cX11_isOneOfTwo 16 = .ok (.if_icmp .ne 7, 3) := by decide +kernel
theorem dX11_isOneOfTwo_19 : decode cX11_isOneOfTwo 19 = .ok (.iconst 1, 1) := by decide +kernel
theorem dX11_isOneOfTwo_20 : decode cX11_isOneOfTwo 20 = .ok (.goto 4, 3) := by decide +kernel
theorem dX11_isOneOfTwo_23 : decode cX11_isOneOfTwo 23 = .ok (.iconst 0, 1) := by decide +kernel
theorem dX11_isOneOfTwo_24 : decode cX11_isOneOfTwo 24 = .ok (.ireturn, 1) := by decide +kernel
theorem dX11_damp_0 : decode cX11_damp 0 = .ok (.aload_n 0, 1) := by decide +kernel
theorem dX11_damp_1 : decode cX11_damp 1 = .ok (.getfield 35, 3) := by decide +kernel
theorem dX11_damp_4 : decode cX11_damp 4 = .ok (.getfield 115, 3) := by decide +kernel
theorem dX11_damp_7 : decode cX11_damp 7 = .ok (.ifCond .eq 14, 3) := by decide +kernel
theorem dX11_damp_10 : decode cX11_damp 10 = .ok (.iload_n 1, 1) := by decide +kernel
theorem dX11_damp_11 : decode cX11_damp 11 = .ok (.ifCond .lt 10, 3) := by decide +kernel
theorem dX11_damp_14 : decode cX11_damp 14 = .ok (.iload_n 1, 1) := by decide +kernel
theorem dX11_damp_15 : decode cX11_damp 15 = .ok (.sipush 999, 3) := by decide +kernel
theorem dX11_damp_18 : decode cX11_damp 18 = .ok (.if_icmp .le 5, 3) := by decide +kernel
theorem dX11_damp_21 : decode cX11_damp 21 = .ok (.iconst (-1), 1) := by decide +kernel
theorem dX11_damp_22 : decode cX11_damp 22 = .ok (.ireturn, 1) := by decide +kernel
theorem dX11_damp_23 : decode cX11_damp 23 = .ok (.aload_n 0, 1) := by decide +kernel
theorem dX11_damp_24 : decode cX11_damp 24 = .ok (.iload_n 1, 1) := by decide +kernel
theorem dX11_damp_25 : decode cX11_damp 25 = .ok (.invokevirtual 199, 3) := by decide +kernel
theorem dX11_damp_28 : decode cX11_damp 28 = .ok (.ireturn, 1) := by decide +kernel
theorem dX11_wetness_0 : decode cX11_wetness 0 = .ok (.aload_n 0, 1) := by decide +kernel
theorem dX11_wetness_1 : decode cX11_wetness 1 = .ok (.getfield 93, 3) := by decide +kernel
theorem dX11_wetness_4 : decode cX11_wetness 4 = .ok (.ifCond .lt 23, 3) := by decide +kernel
theorem dX11_wetness_7 : decode cX11_wetness 7 = .ok (.aload_n 0, 1) := by decide +kernel
theorem dX11_wetness_8 : decode cX11_wetness 8 = .ok (.getfield 93, 3) := by decide +kernel
theorem dX11_wetness_11 : decode cX11_wetness 11 = .ok (.iconst 4, 1) := by decide +kernel
theorem dX11_wetness_12 : decode cX11_wetness 12 = .ok (.if_icmp .ge 15, 3) := by decide +kernel
theorem dX11_wetness_15 : decode cX11_wetness 15 = .ok (.aload_n 0, 1) := by decide +kernel
theorem dX11_wetness_16 : decode cX11_wetness 16 = .ok (.getfield 41, 3) := by decide +kernel
theorem dX11_wetness_19 : decode cX11_wetness 19 = .ok (.aload_n 0, 1) := by decide +kernel
theorem dX11_wetness_20 : decode cX11_wetness 20 = .ok (.getfield 93, 3) := by decide +kernel
theorem dX11_wetness_23 : decode cX11_wetness 23 = .ok (.aaload, 1) := by decide +kernel
theorem dX11_wetness_24 : decode cX11_wetness 24 = .ok (.goto 4, 3) := by decide +kernel
theorem dX11_wetness_27 : decode cX11_wetness 27 = .ok (.aconst_null, 1) := by decide +kernel
theorem dX11_wetness_28 : decode cX11_wetness 28 = .ok (.astore_n 2, 1) := by decide +kernel
theorem dX11_wetness_29 : decode cX11_wetness 29 = .ok (.aload_n 2, 1) := by decide +kernel
theorem dX11_wetness_30 : decode cX11_wetness 30 = .ok (.ifnonnull 7, 3) := by decide +kernel
theorem dX11_wetness_33 : decode cX11_wetness 33 = .ok (.iconst 0, 1) := by decide +kernel
theorem dX11_wetness_34 : decode cX11_wetness 34 = .ok (.goto 12, 3) := by decide +kernel
theorem dX11_wetness_37 : decode cX11_wetness 37 = .ok (.aload_n 2, 1) := by decide +kernel
theorem dX11_wetness_38 : decode cX11_wetness 38 = .ok (.iload_n 1, 1) := by decide +kernel
theorem dX11_wetness_39 : decode cX11_wetness 39 = .ok (.aload_n 0, 1) := by decide +kernel
theorem dX11_wetness_40 : decode cX11_wetness 40 = .ok (.getfield 35, 3) := by decide +kernel
theorem dX11_wetness_43 : decode cX11_wetness 43 = .ok (.invokevirtual 202, 3) := by decide +kernel
theorem dX11_wetness_46 : decode cX11_wetness 46 = .ok (.ireturn, 1) := by decide +kernel
theorem dX11_day_0 : decode cX11_day 0 = .ok (.aload_n 0, 1) := by decide +kernel
theorem dX11_day_1 : decode cX11_day 1 = .ok (.getfield 35, 3) := by decide +kernel
theorem dX11_day_4 : decode cX11_day 4 = .ok (.getfield 115, 3) := by decide +kernel
theorem dX11_day_7 : decode cX11_day 7 = .ok (.ifCond .eq 29, 3) := by decide +kernel
theorem dX11_day_10 : decode cX11_day 10 = .ok (.iload_n 1, 1) := by decide +kernel
theorem dX11_day_11 : decode cX11_day 11 = .ok (.iconst (-1), 1) := by decide +kernel
theorem dX11_day_12 : decode cX11_day 12 = .ok (.if_icmp .eq 11, 3) := by decide +kernel
theorem dX11_day_15 : decode cX11_day 15 = .ok (.aload_n 0, 1) := by decide +kernel
theorem dX11_day_16 : decode cX11_day 16 = .ok (.iload_n 1, 1) := by decide +kernel
theorem dX11_day_17 : decode cX11_day 17 = .ok (.invokevirtual 147, 3) := by decide +kernel
theorem dX11_day_20 : decode cX11_day 20 = .ok (.ifCond .eq 16, 3) := by decide +kernel
theorem dX11_day_23 : decode cX11_day 23 = .ok (.aload_n 0, 1) := by decide +kernel
theorem dX11_day_24 : decode cX11_day 24 = .ok (.getfield 48, 3) := by decide +kernel
theorem dX11_day_27 : decode cX11_day 27 = .ok (.getfield 205, 3) := by decide +kernel
theorem dX11_day_30 : decode cX11_day 30 = .ok (.sipush 999, 3) := by decide +kernel
theorem dX11_day_33 : decode cX11_day 33 = .ok (.if_icmp .le 5, 3) := by decide +kernel
theorem dX11_day_36 : decode cX11_day 36 = .ok (.iconst (-1), 1) := by decide +kernel
theorem dX11_day_37 : decode cX11_day 37 = .ok (.ireturn, 1) := by decide +kernel
theorem dX11_day_38 : decode cX11_day 38 = .ok (.aload_n 0, 1) := by decide +kernel
theorem dX11_day_39 : decode cX11_day 39 = .ok (.aload_n 0, 1) := by decide +kernel
theorem dX11_day_40 : decode cX11_day 40 = .ok (.getfield 48, 3) := by decide +kernel
theorem dX11_day_43 : decode cX11_day 43 = .ok (.getfield 205, 3) := by decide +kernel
theorem dX11_day_46 : decode cX11_day 46 = .ok (.invokevirtual 199, 3) := by decide +kernel
theorem dX11_day_49 : decode cX11_day 49 = .ok (.istore_n 2, 1) := by decide +kernel
theorem dX11_day_50 : decode cX11_day 50 = .ok (.aload_n 0, 1) := by decide +kernel
theorem dX11_day_51 : decode cX11_day 51 = .ok (.getfield 48, 3) := by decide +kernel
theorem dX11_day_54 : decode cX11_day 54 = .ok (.aload_n 0, 1) := by decide +kernel
theorem dX11_day_55 : decode cX11_day 55 = .ok (.getfield 59, 3) := by decide +kernel
theorem dX11_day_58 : decode cX11_day 58 = .ok (.getfield 158, 3) := by decide +kernel
theorem dX11_day_61 : decode cX11_day 61 = .ok (.invokevirtual 208, 3) := by decide +kernel
theorem dX11_day_64 : decode cX11_day 64 = .ok (.aload_n 0, 1) := by decide +kernel
theorem dX11_day_65 : decode cX11_day 65 = .ok (.getfield 35, 3) := by decide +kernel
theorem dX11_day_68 : decode cX11_day 68 = .ok (.aload_n 0, 1) := by decide +kernel
theorem dX11_day_69 : decode cX11_day 69 = .ok (.getfield 59, 3) := by decide +kernel
theorem dX11_day_72 : decode cX11_day 72 = .ok (.getfield 158, 3) := by decide +kernel
theorem dX11_day_75 : decode cX11_day 75 = .ok (.iload_n 1, 1) := by decide +kernel
theorem dX11_day_76 : decode cX11_day 76 = .ok (.iload_n 2, 1) := by decide +kernel
theorem dX11_day_77 : decode cX11_day 77 = .ok (.invokevirtual 212, 3) := by decide +kernel
theorem dX11_day_80 : decode cX11_day 80 = .ok (.aload_n 0, 1) := by decide +kernel
theorem dX11_day_81 : decode cX11_day 81 = .ok (.getfield 48, 3) := by decide +kernel
theorem dX11_day_84 : decode cX11_day 84 = .ok (.dup, 1) := by decide +kernel
theorem dX11_day_85 : decode cX11_day 85 = .ok (.getfield 205, 3) := by decide +kernel
theorem dX11_day_88 : decode cX11_day 88 = .ok (.iconst 1, 1) := by decide +kernel
theorem dX11_day_89 : decode cX11_day 89 = .ok (.iadd, 1) := by decide +kernel
theorem dX11_day_90 : decode cX11_day 90 = .ok (.putfield 205, 3) := by decide +kernel
theorem dX11_day_93 : decode cX11_day 93 = .ok (.aload_n 0, 1) := by decide +kernel
theorem dX11_day_94 : decode cX11_day 94 = .ok (.getfield 85, 3) := by decide +kernel
theorem dX11_day_97 : decode cX11_day 97 = .ok (.iconst 0, 1) := by decide +kernel
theorem dX11_day_98 : decode cX11_day 98 = .ok (.putfield 143, 3) := by decide +kernel
theorem dX11_day_101 : decode cX11_day 101 = .ok (.aload_n 0, 1) := by decide +kernel
theorem dX11_day_102 : decode cX11_day 102 = .ok (.getfield 48, 3) := by decide +kernel
theorem dX11_day_105 : decode cX11_day 105 = .ok (.getfield 205, 3) := by decide +kernel
theorem dX11_day_108 : decode cX11_day 108 = .ok (.ireturn, 1) := by decide +kernel
theorem dX11_undo_0 : decode cX11_undo 0 = .ok (.aload_n 0, 1) := by decide +kernel
theorem dX11_undo_1 : decode cX11_undo 1 = .ok (.getfield 48, 3) := by decide +kernel
theorem dX11_undo_4 : decode cX11_undo 4 = .ok (.getfield 216, 3) := by decide +kernel
theorem dX11_undo_7 : decode cX11_undo 7 = .ok (.ifCond .ne 5, 3) := by decide +kernel
theorem dX11_undo_10 : decode cX11_undo 10 = .ok (.iconst (-1), 1) := by decide +kernel
theorem dX11_undo_11 : decode cX11_undo 11 = .ok (.ireturn, 1) := by decide +kernel
theorem dX11_undo_12 : decode cX11_undo 12 = .ok (.aload_n 0, 1) := by decide +kernel
theorem dX11_undo_13 : decode cX11_undo 13 = .ok (.getfield 48, 3) := by decide +kernel
theorem dX11_undo_16 : decode cX11_undo 16 = .ok (.aload_n 0, 1) := by decide +kernel
theorem dX11_undo_17 : decode cX11_undo 17 = .ok (.getfield 59, 3) := by decide +kernel
theorem dX11_undo_20 : decode cX11_undo 20 = .ok (.getfield 158, 3) := by decide +kernel
theorem dX11_undo_23 : decode cX11_undo 23 = .ok (.invokevirtual 219, 3) := by decide +kernel
theorem dX11_undo_26 : decode cX11_undo 26 = .ok (.aload_n 0, 1) := by decide +kernel
theorem dX11_undo_27 : decode cX11_undo 27 = .ok (.getfield 85, 3) := by decide +kernel
theorem dX11_undo_30 : decode cX11_undo 30 = .ok (.iconst 0, 1) := by decide +kernel
theorem dX11_undo_31 : decode cX11_undo 31 = .ok (.putfield 143, 3) := by decide +kernel
theorem dX11_undo_34 : decode cX11_undo 34 = .ok (.aload_n 0, 1) := by decide +kernel
theorem dX11_undo_35 : decode cX11_undo 35 = .ok (.getfield 48, 3) := by decide +kernel
theorem dX11_undo_38 : decode cX11_undo 38 = .ok (.getfield 205, 3) := by decide +kernel
theorem dX11_undo_41 : decode cX11_undo 41 = .ok (.ireturn, 1) := by decide +kernel
theorem dX11_image_0 : decode cX11_image 0 = .ok (.aload_n 0, 1) := by decide +kernel
theorem dX11_image_1 : decode cX11_image 1 = .ok (.getfield 35, 3) := by decide +kernel
theorem dX11_image_4 : decode cX11_image 4 = .ok (.getfield 115, 3) := by decide +kernel
theorem dX11_image_7 : decode cX11_image 7 = .ok (.ifCond .ne 5, 3) := by decide +kernel
theorem dX11_image_10 : decode cX11_image 10 = .ok (.iconst (-1), 1) := by decide +kernel
theorem dX11_image_11 : decode cX11_image 11 = .ok (.ireturn, 1) := by decide +kernel
theorem dX11_image_12 : decode cX11_image 12 = .ok (.aload_n 0, 1) := by decide +kernel
theorem dX11_image_13 : decode cX11_image 13 = .ok (.getfield 48, 3) := by decide +kernel
theorem dX11_image_16 : decode cX11_image 16 = .ok (.aload_n 0, 1) := by decide +kernel
theorem dX11_image_17 : decode cX11_image 17 = .ok (.getfield 59, 3) := by decide +kernel
theorem dX11_image_20 : decode cX11_image 20 = .ok (.getfield 158, 3) := by decide +kernel
theorem dX11_image_23 : decode cX11_image 23 = .ok (.invokevirtual 222, 3) := by decide +kernel
theorem dX11_image_26 : decode cX11_image 26 = .ok (.aload_n 0, 1) := by decide +kernel
theorem dX11_image_27 : decode cX11_image 27 = .ok (.getfield 48, 3) := by decide +kernel
theorem dX11_image_30 : decode cX11_image 30 = .ok (.getfield 205, 3) := by decide +kernel
theorem dX11_image_33 : decode cX11_image 33 = .ok (.ireturn, 1) := by decide +kernel
theorem dX11_back_0 : decode cX11_back 0 = .ok (.aload_n 0, 1) := by decide +kernel
theorem dX11_back_1 : decode cX11_back 1 = .ok (.getfield 48, 3) := by decide +kernel
theorem dX11_back_4 : decode cX11_back 4 = .ok (.getfield 225, 3) := by decide +kernel
theorem dX11_back_7 : decode cX11_back 7 = .ok (.ifCond .ne 5, 3) := by decide +kernel
theorem dX11_back_10 : decode cX11_back 10 = .ok (.iconst (-1), 1) := by decide +kernel
theorem dX11_back_11 : decode cX11_back 11 = .ok (.ireturn, 1) := by decide +kernel
theorem dX11_back_12 : decode cX11_back 12 = .ok (.aload_n 0, 1) := by decide +kernel
theorem dX11_back_13 : decode cX11_back 13 = .ok (.getfield 48, 3) := by decide +kernel
theorem dX11_back_16 : decode cX11_back 16 = .ok (.aload_n 0, 1) := by decide +kernel
theorem dX11_back_17 : decode cX11_back 17 = .ok (.getfield 59, 3) := by decide +kernel
theorem dX11_back_20 : decode cX11_back 20 = .ok (.getfield 158, 3) := by decide +kernel
theorem dX11_back_23 : decode cX11_back 23 = .ok (.invokevirtual 228, 3) := by decide +kernel
theorem dX11_back_26 : decode cX11_back 26 = .ok (.aload_n 0, 1) := by decide +kernel
theorem dX11_back_27 : decode cX11_back 27 = .ok (.getfield 85, 3) := by decide +kernel
theorem dX11_back_30 : decode cX11_back 30 = .ok (.iconst 0, 1) := by decide +kernel
theorem dX11_back_31 : decode cX11_back 31 = .ok (.putfield 143, 3) := by decide +kernel
theorem dX11_back_34 : decode cX11_back 34 = .ok (.aload_n 0, 1) := by decide +kernel
theorem dX11_back_35 : decode cX11_back 35 = .ok (.getfield 48, 3) := by decide +kernel
theorem dX11_back_38 : decode cX11_back 38 = .ok (.getfield 205, 3) := by decide +kernel
theorem dX11_back_41 : decode cX11_back 41 = .ok (.ireturn, 1) := by decide +kernel
theorem dX11_time_0 : decode cX11_time 0 = .ok (.aload_n 0, 1) := by decide +kernel
theorem dX11_time_1 : decode cX11_time 1 = .ok (.iload_n 1, 1) := by decide +kernel
theorem dX11_time_2 : decode cX11_time 2 = .ok (.invokevirtual 147, 3) := by decide +kernel
theorem dX11_time_5 : decode cX11_time 5 = .ok (.ifCond .eq 11, 3) := by decide +kernel
theorem dX11_time_8 : decode cX11_time 8 = .ok (.aload_n 0, 1) := by decide +kernel
theorem dX11_time_9 : decode cX11_time 9 = .ok (.iload_n 2, 1) := by decide +kernel
theorem dX11_time_10 : decode cX11_time 10 = .ok (.invokevirtual 231, 3) := by decide +kernel
theorem dX11_time_13 : decode cX11_time 13 = .ok (.ifCond .ne 5, 3) := by decide +kernel
theorem dX11_time_16 : decode cX11_time 16 = .ok (.iconst (-1), 1) := by decide +kernel
theorem dX11_time_17 : decode cX11_time 17 = .ok (.ireturn, 1) := by decide +kernel
theorem dX11_time_18 : decode cX11_time 18 = .ok (.aload_n 0, 1) := by decide +kernel
theorem dX11_time_19 : decode cX11_time 19 = .ok (.getfield 69, 3) := by decide +kernel
theorem dX11_time_22 : decode cX11_time 22 = .ok (.aload_n 0, 1) := by decide +kernel
theorem dX11_time_23 : decode cX11_time 23 = .ok (.getfield 59, 3) := by decide +kernel
theorem dX11_time_26 : decode cX11_time 26 = .ok (.ldc 234, 2) := by decide +kernel
theorem dX11_time_28 : decode cX11_time 28 = .ok (.invokevirtual 235, 3) := by decide +kernel
theorem dX11_time_31 : decode cX11_time 31 = .ok (.pop, 1) := by decide +kernel
theorem dX11_time_32 : decode cX11_time 32 = .ok (.iload_n 3, 1) := by decide +kernel
theorem dX11_time_33 : decode cX11_time 33 = .ok (.tableswitch 57 0 2 #[27, 37, 47], 27) := by decide +kernel
theorem dX11_time_60 : decode cX11_time 60 = .ok (.aload_n 0, 1) := by decide +kernel
theorem dX11_time_61 : decode cX11_time 61 = .ok (.getfield 69, 3) := by decide +kernel
theorem dX11_time_64 : decode cX11_time 64 = .ok (.iload_n 1, 1) := by decide +kernel
theorem dX11_time_65 : decode cX11_time 65 = .ok (.iload_n 2, 1) := by decide +kernel
theorem dX11_time_66 : decode cX11_time 66 = .ok (.invokevirtual 239, 3) := by decide +kernel
theorem dX11_time_69 : decode cX11_time 69 = .ok (.ireturn, 1) := by decide +kernel
theorem dX11_time_70 : decode cX11_time 70 = .ok (.aload_n 0, 1) := by decide +kernel
theorem dX11_time_71 : decode cX11_time 71 = .ok (.getfield 69, 3) := by decide +kernel
theorem dX11_time_74 : decode cX11_time 74 = .ok (.iload_n 1, 1) := by decide +kernel
theorem dX11_time_75 : decode cX11_time 75 = .ok (.iload_n 2, 1) := by decide +kernel
theorem dX11_time_76 : decode cX11_time 76 = .ok (.invokevirtual 243, 3) := by decide +kernel
theorem dX11_time_79 : decode cX11_time 79 = .ok (.ireturn, 1) := by decide +kernel
theorem dX11_time_80 : decode cX11_time 80 = .ok (.aload_n 0, 1) := by decide +kernel
theorem dX11_time_81 : decode cX11_time 81 = .ok (.getfield 69, 3) := by decide +kernel
theorem dX11_time_84 : decode cX11_time 84 = .ok (.iload_n 1, 1) := by decide +kernel
theorem dX11_time_85 : decode cX11_time 85 = .ok (.iload_n 2, 1) := by decide +kernel
theorem dX11_time_86 : decode cX11_time 86 = .ok (.invokevirtual 246, 3) := by decide +kernel
theorem dX11_time_89 : decode cX11_time 89 = .ok (.ireturn, 1) := by decide +kernel
theorem dX11_time_90 : decode cX11_time 90 = .ok (.iconst (-1), 1) := by decide +kernel
theorem dX11_time_91 : decode cX11_time 91 = .ok (.ireturn, 1) := by decide +kernel
theorem dX11_spread_0 : decode cX11_spread 0 = .ok (.aload_n 0, 1) := by decide +kernel
theorem dX11_spread_1 : decode cX11_spread 1 = .ok (.iload_n 1, 1) := by decide +kernel
theorem dX11_spread_2 : decode cX11_spread 2 = .ok (.invokevirtual 231, 3) := by decide +kernel
theorem dX11_spread_5 : decode cX11_spread 5 = .ok (.ifCond .ne 5, 3) := by decide +kernel
theorem dX11_spread_8 : decode cX11_spread 8 = .ok (.iconst (-1), 1) := by decide +kernel
theorem dX11_spread_9 : decode cX11_spread 9 = .ok (.ireturn, 1) := by decide +kernel
theorem dX11_spread_10 : decode cX11_spread 10 = .ok (.aload_n 0, 1) := by decide +kernel
theorem dX11_spread_11 : decode cX11_spread 11 = .ok (.getfield 69, 3) := by decide +kernel
theorem dX11_spread_14 : decode cX11_spread 14 = .ok (.aload_n 0, 1) := by decide +kernel
theorem dX11_spread_15 : decode cX11_spread 15 = .ok (.getfield 59, 3) := by decide +kernel
theorem dX11_spread_18 : decode cX11_spread 18 = .ok (.ldc 234, 2) := by decide +kernel
theorem dX11_spread_20 : decode cX11_spread 20 = .ok (.invokevirtual 235, 3) := by decide +kernel
theorem dX11_spread_23 : decode cX11_spread 23 = .ok (.pop, 1) := by decide +kernel
theorem dX11_spread_24 : decode cX11_spread 24 = .ok (.aload_n 0, 1) := by decide +kernel
theorem dX11_spread_25 : decode cX11_spread 25 = .ok (.getfield 69, 3) := by decide +kernel
theorem dX11_spread_28 : decode cX11_spread 28 = .ok (.getfield 249, 3) := by decide +kernel
theorem dX11_spread_31 : decode cX11_spread 31 = .ok (.iload_n 1, 1) := by decide +kernel
theorem dX11_spread_32 : decode cX11_spread 32 = .ok (.iaload, 1) := by decide +kernel
theorem dX11_spread_33 : decode cX11_spread 33 = .ok (.ireturn, 1) := by decide +kernel
theorem dX11_worst_0 : decode cX11_worst 0 = .ok (.aload_n 0, 1) := by decide +kernel
theorem dX11_worst_1 : decode cX11_worst 1 = .ok (.iload_n 1, 1) := by decide +kernel
theorem dX11_worst_2 : decode cX11_worst 2 = .ok (.invokevirtual 252, 3) := by decide +kernel
theorem dX11_worst_5 : decode cX11_worst 5 = .ok (.ifCond .ne 5, 3) := by decide +kernel
theorem dX11_worst_8 : decode cX11_worst 8 = .ok (.iconst (-1), 1) := by decide +kernel
theorem dX11_worst_9 : decode cX11_worst 9 = .ok (.ireturn, 1) := by decide +kernel
theorem dX11_worst_10 : decode cX11_worst 10 = .ok (.aload_n 0, 1) := by decide +kernel
theorem dX11_worst_11 : decode cX11_worst 11 = .ok (.getfield 69, 3) := by decide +kernel
theorem dX11_worst_14 : decode cX11_worst 14 = .ok (.aload_n 0, 1) := by decide +kernel
theorem dX11_worst_15 : decode cX11_worst 15 = .ok (.getfield 59, 3) := by decide +kernel
theorem dX11_worst_18 : decode cX11_worst 18 = .ok (.ldc 234, 2) := by decide +kernel
theorem dX11_worst_20 : decode cX11_worst 20 = .ok (.invokevirtual 235, 3) := by decide +kernel
theorem dX11_worst_23 : decode cX11_worst 23 = .ok (.istore_n 2, 1) := by decide +kernel
theorem dX11_worst_24 : decode cX11_worst 24 = .ok (.iload_n 1, 1) := by decide +kernel
theorem dX11_worst_25 : decode cX11_worst 25 = .ok (.ifCond .ne 7, 3) := by decide +kernel
theorem dX11_worst_28 : decode cX11_worst 28 = .ok (.iload_n 2, 1) := by decide +kernel
theorem dX11_worst_29 : decode cX11_worst 29 = .ok (.goto 13, 3) := by decide +kernel
theorem dX11_worst_32 : decode cX11_worst 32 = .ok (.aload_n 0, 1) := by decide +kernel
theorem dX11_worst_33 : decode cX11_worst 33 = .ok (.getfield 69, 3) := by decide +kernel
theorem dX11_worst_36 : decode cX11_worst 36 = .ok (.iload_n 2, 1) := by decide +kernel
theorem dX11_worst_37 : decode cX11_worst 37 = .ok (.iconst 1, 1) := by decide +kernel
theorem dX11_worst_38 : decode cX11_worst 38 = .ok (.isub, 1) := by decide +kernel
theorem dX11_worst_39 : decode cX11_worst 39 = .ok (.invokevirtual 255, 3) := by decide +kernel
theorem dX11_worst_42 : decode cX11_worst 42 = .ok (.ireturn, 1) := by decide +kernel
theorem dX11_parts_0 : decode cX11_parts 0 = .ok (.aload_n 0, 1) := by decide +kernel
theorem dX11_parts_1 : decode cX11_parts 1 = .ok (.getfield 35, 3) := by decide +kernel
theorem dX11_parts_4 : decode cX11_parts 4 = .ok (.getfield 115, 3) := by decide +kernel
theorem dX11_parts_7 : decode cX11_parts 7 = .ok (.ifCond .ne 5, 3) := by decide +kernel
theorem dX11_parts_10 : decode cX11_parts 10 = .ok (.iconst (-1), 1) := by decide +kernel
theorem dX11_parts_11 : decode cX11_parts 11 = .ok (.ireturn, 1) := by decide +kernel
theorem dX11_parts_12 : decode cX11_parts 12 = .ok (.aload_n 0, 1) := by decide +kernel
theorem dX11_parts_13 : decode cX11_parts 13 = .ok (.getfield 69, 3) := by decide +kernel
theorem dX11_parts_16 : decode cX11_parts 16 = .ok (.aload_n 0, 1) := by decide +kernel
theorem dX11_parts_17 : decode cX11_parts 17 = .ok (.getfield 59, 3) := by decide +kernel
theorem dX11_parts_20 : decode cX11_parts 20 = .ok (.ldc 234, 2) := by decide +kernel
theorem dX11_parts_22 : decode cX11_parts 22 = .ok (.invokevirtual 235, 3) := by decide +kernel
theorem dX11_parts_25 : decode cX11_parts 25 = .ok (.pop, 1) := by decide +kernel
theorem dX11_parts_26 : decode cX11_parts 26 = .ok (.aload_n 0, 1) := by decide +kernel
theorem dX11_parts_27 : decode cX11_parts 27 = .ok (.getfield 69, 3) := by decide +kernel
theorem dX11_parts_30 : decode cX11_parts 30 = .ok (.aload_n 0, 1) := by decide +kernel
theorem dX11_parts_31 : decode cX11_parts 31 = .ok (.getfield 89, 3) := by decide +kernel
theorem dX11_parts_34 : decode cX11_parts 34 = .ok (.invokevirtual 255, 3) := by decide +kernel
theorem dX11_parts_37 : decode cX11_parts 37 = .ok (.ireturn, 1) := by decide +kernel
theorem dX11_last_0 : decode cX11_last 0 = .ok (.aload_n 0, 1) := by decide +kernel
theorem dX11_last_1 : decode cX11_last 1 = .ok (.iload_n 1, 1) := by decide +kernel
theorem dX11_last_2 : decode cX11_last 2 = .ok (.invokevirtual 231, 3) := by decide +kernel
theorem dX11_last_5 : decode cX11_last 5 = .ok (.ifCond .ne 5, 3) := by decide +kernel
theorem dX11_last_8 : decode cX11_last 8 = .ok (.iconst (-1), 1) := by decide +kernel
theorem dX11_last_9 : decode cX11_last 9 = .ok (.ireturn, 1) := by decide +kernel
theorem dX11_last_10 : decode cX11_last 10 = .ok (.aload_n 0, 1) := by decide +kernel
theorem dX11_last_11 : decode cX11_last 11 = .ok (.getfield 69, 3) := by decide +kernel
theorem dX11_last_14 : decode cX11_last 14 = .ok (.aload_n 0, 1) := by decide +kernel
theorem dX11_last_15 : decode cX11_last 15 = .ok (.getfield 59, 3) := by decide +kernel
theorem dX11_last_18 : decode cX11_last 18 = .ok (.ldc 234, 2) := by decide +kernel
theorem dX11_last_20 : decode cX11_last 20 = .ok (.invokevirtual 235, 3) := by decide +kernel
theorem dX11_last_23 : decode cX11_last 23 = .ok (.pop, 1) := by decide +kernel
theorem dX11_last_24 : decode cX11_last 24 = .ok (.aload_n 0, 1) := by decide +kernel
theorem dX11_last_25 : decode cX11_last 25 = .ok (.getfield 69, 3) := by decide +kernel
theorem dX11_last_28 : decode cX11_last 28 = .ok (.iload_n 1, 1) := by decide +kernel
theorem dX11_last_29 : decode cX11_last 29 = .ok (.invokevirtual 258, 3) := by decide +kernel
theorem dX11_last_32 : decode cX11_last 32 = .ok (.ireturn, 1) := by decide +kernel
theorem dX11_settle_0 : decode cX11_settle 0 = .ok (.aload_n 0, 1) := by decide +kernel
theorem dX11_settle_1 : decode cX11_settle 1 = .ok (.iload_n 1, 1) := by decide +kernel
theorem dX11_settle_2 : decode cX11_settle 2 = .ok (.invokevirtual 252, 3) := by decide +kernel
theorem dX11_settle_5 : decode cX11_settle 5 = .ok (.ifCond .eq 17, 3) := by decide +kernel
theorem dX11_settle_8 : decode cX11_settle 8 = .ok (.aload_n 0, 1) := by decide +kernel
theorem dX11_settle_9 : decode cX11_settle 9 = .ok (.getfield 69, 3) := by decide +kernel
theorem dX11_settle_12 : decode cX11_settle 12 = .ok (.aload_n 0, 1) := by decide +kernel
theorem dX11_settle_13 : decode cX11_settle 13 = .ok (.getfield 59, 3) := by decide +kernel
theorem dX11_settle_16 : decode cX11_settle 16 = .ok (.invokevirtual 261, 3) := by decide +kernel
theorem dX11_settle_19 : decode cX11_settle 19 = .ok (.ifCond .ne 5, 3) := by decide +kernel
theorem dX11_settle_22 : decode cX11_settle 22 = .ok (.iconst (-1), 1) := by decide +kernel
theorem dX11_settle_23 : decode cX11_settle 23 = .ok (.ireturn, 1) := by decide +kernel
theorem dX11_settle_24 : decode cX11_settle 24 = .ok (.iload_n 1, 1) := by decide +kernel
theorem dX11_settle_25 : decode cX11_settle 25 = .ok (.ifCond .ne 13, 3) := by decide +kernel
theorem dX11_settle_28 : decode cX11_settle 28 = .ok (.aload_n 0, 1) := by decide +kernel
theorem dX11_settle_29 : decode cX11_settle 29 = .ok (.getfield 69, 3) := by decide +kernel
theorem dX11_settle_32 : decode cX11_settle 32 = .ok (.getfield 265, 3) := by decide +kernel
theorem dX11_settle_35 : decode cX11_settle 35 = .ok (.goto 10, 3) := by decide +kernel
theorem dX11_settle_38 : decode cX11_settle 38 = .ok (.aload_n 0, 1) := by decide +kernel
theorem dX11_settle_39 : decode cX11_settle 39 = .ok (.getfield 69, 3) := by decide +kernel
theorem dX11_settle_42 : decode cX11_settle 42 = .ok (.getfield 268, 3) := by decide +kernel
theorem dX11_settle_45 : decode cX11_settle 45 = .ok (.ireturn, 1) := by decide +kernel
theorem dX11_place_0 : decode cX11_place 0 = .ok (.aload_n 0, 1) := by decide +kernel
theorem dX11_place_1 : decode cX11_place 1 = .ok (.iload_n 1, 1) := by decide +kernel
theorem dX11_place_2 : decode cX11_place 2 = .ok (.invokevirtual 231, 3) := by decide +kernel
theorem dX11_place_5 : decode cX11_place 5 = .ok (.ifCond .eq 11, 3) := by decide +kernel
theorem dX11_place_8 : decode cX11_place 8 = .ok (.aload_n 0, 1) := by decide +kernel
theorem dX11_place_9 : decode cX11_place 9 = .ok (.iload_n 2, 1) := by decide +kernel
theorem dX11_place_10 : decode cX11_place 10 = .ok (.invokevirtual 147, 3) := by decide +kernel
theorem dX11_place_13 : decode cX11_place 13 = .ok (.ifCond .ne 5, 3) := by decide +kernel
theorem dX11_place_16 : decode cX11_place 16 = .ok (.iconst (-1), 1) := by decide +kernel
theorem dX11_place_17 : decode cX11_place 17 = .ok (.ireturn, 1) := by decide +kernel
theorem dX11_place_18 : decode cX11_place 18 = .ok (.aload_n 0, 1) := by decide +kernel
theorem dX11_place_19 : decode cX11_place 19 = .ok (.getfield 69, 3) := by decide +kernel
theorem dX11_place_22 : decode cX11_place 22 = .ok (.aload_n 0, 1) := by decide +kernel
theorem dX11_place_23 : decode cX11_place 23 = .ok (.getfield 59, 3) := by decide +kernel
theorem dX11_place_26 : decode cX11_place 26 = .ok (.ldc 234, 2) := by decide +kernel
theorem dX11_place_28 : decode cX11_place 28 = .ok (.invokevirtual 235, 3) := by decide +kernel
theorem dX11_place_31 : decode cX11_place 31 = .ok (.pop, 1) := by decide +kernel
theorem dX11_place_32 : decode cX11_place 32 = .ok (.aload_n 0, 1) := by decide +kernel
theorem dX11_place_33 : decode cX11_place 33 = .ok (.getfield 69, 3) := by decide +kernel
theorem dX11_place_36 : decode cX11_place 36 = .ok (.iload_n 1, 1) := by decide +kernel
theorem dX11_place_37 : decode cX11_place 37 = .ok (.iload_n 2, 1) := by decide +kernel
theorem dX11_place_38 : decode cX11_place 38 = .ok (.invokevirtual 271, 3) := by decide +kernel
theorem dX11_place_41 : decode cX11_place 41 = .ok (.ireturn, 1) := by decide +kernel
theorem dX11_overtakes_0 : decode cX11_overtakes 0 = .ok (.aload_n 0, 1) := by decide +kernel
theorem dX11_overtakes_1 : decode cX11_overtakes 1 = .ok (.iload_n 1, 1) := by decide +kernel
theorem dX11_overtakes_2 : decode cX11_overtakes 2 = .ok (.invokevirtual 147, 3) := by decide +kernel
theorem dX11_overtakes_5 : decode cX11_overtakes 5 = .ok (.ifCond .eq 16, 3) := by decide +kernel
theorem dX11_overtakes_8 : decode cX11_overtakes 8 = .ok (.aload_n 0, 1) := by decide +kernel
theorem dX11_overtakes_9 : decode cX11_overtakes 9 = .ok (.iload_n 2, 1) := by decide +kernel
theorem dX11_overtakes_10 : decode cX11_overtakes 10 = .ok (.invokevirtual 147, 3) := by decide +kernel
theorem dX11_overtakes_13 : decode cX11_overtakes 13 = .ok (.ifCond .eq 8, 3) := by decide +kernel
theorem dX11_overtakes_16 : decode cX11_overtakes 16 = .ok (.iload_n 1, 1) := by decide +kernel
theorem dX11_overtakes_17 : decode cX11_overtakes 17 = .ok (.iload_n 2, 1) := by decide +kernel
theorem dX11_overtakes_18 : decode cX11_overtakes 18 = .ok (.if_icmp .ne 5, 3) := by decide +kernel
theorem dX11_overtakes_21 : decode cX11_overtakes 21 = .ok (.iconst (-1), 1) := by decide +kernel
theorem dX11_overtakes_22 : decode cX11_overtakes 22 = .ok (.ireturn, 1) := by decide +kernel
theorem dX11_overtakes_23 : decode cX11_overtakes 23 = .ok (.aload_n 0, 1) := by decide +kernel
theorem dX11_overtakes_24 : decode cX11_overtakes 24 = .ok (.getfield 69, 3) := by decide +kernel
theorem dX11_overtakes_27 : decode cX11_overtakes 27 = .ok (.aload_n 0, 1) := by decide +kernel
theorem dX11_overtakes_28 : decode cX11_overtakes 28 = .ok (.getfield 59, 3) := by decide +kernel
theorem dX11_overtakes_31 : decode cX11_overtakes 31 = .ok (.ldc 234, 2) := by decide +kernel
theorem dX11_overtakes_33 : decode cX11_overtakes 33 = .ok (.invokevirtual 235, 3) := by decide +kernel
theorem dX11_overtakes_36 : decode cX11_overtakes 36 = .ok (.pop, 1) := by decide +kernel
theorem dX11_overtakes_37 : decode cX11_overtakes 37 = .ok (.aload_n 0, 1) := by decide +kernel
theorem dX11_overtakes_38 : decode cX11_overtakes 38 = .ok (.getfield 69, 3) := by decide +kernel
theorem dX11_overtakes_41 : decode cX11_overtakes 41 = .ok (.iload_n 1, 1) := by decide +kernel
theorem dX11_overtakes_42 : decode cX11_overtakes 42 = .ok (.iload_n 2, 1) := by decide +kernel
theorem dX11_overtakes_43 : decode cX11_overtakes 43 = .ok (.invokevirtual 274, 3) := by decide +kernel
theorem dX11_overtakes_46 : decode cX11_overtakes 46 = .ok (.ireturn, 1) := by decide +kernel
theorem dX11_middle_0 : decode cX11_middle 0 = .ok (.aload_n 0, 1) := by decide +kernel
theorem dX11_middle_1 : decode cX11_middle 1 = .ok (.getfield 35, 3) := by decide +kernel
theorem dX11_middle_4 : decode cX11_middle 4 = .ok (.getfield 115, 3) := by decide +kernel
theorem dX11_middle_7 : decode cX11_middle 7 = .ok (.ifCond .ne 5, 3) := by decide +kernel
theorem dX11_middle_10 : decode cX11_middle 10 = .ok (.iconst (-1), 1) := by decide +kernel
theorem dX11_middle_11 : decode cX11_middle 11 = .ok (.ireturn, 1) := by decide +kernel
theorem dX11_middle_12 : decode cX11_middle 12 = .ok (.aload_n 0, 1) := by decide +kernel
theorem dX11_middle_13 : decode cX11_middle 13 = .ok (.getfield 69, 3) := by decide +kernel
theorem dX11_middle_16 : decode cX11_middle 16 = .ok (.aload_n 0, 1) := by decide +kernel
theorem dX11_middle_17 : decode cX11_middle 17 = .ok (.getfield 59, 3) := by decide +kernel
theorem dX11_middle_20 : decode cX11_middle 20 = .ok (.ldc 234, 2) := by decide +kernel
theorem dX11_middle_22 : decode cX11_middle 22 = .ok (.invokevirtual 235, 3) := by decide +kernel
theorem dX11_middle_25 : decode cX11_middle 25 = .ok (.pop, 1) := by decide +kernel
theorem dX11_middle_26 : decode cX11_middle 26 = .ok (.aload_n 0, 1) := by decide +kernel
theorem dX11_middle_27 : decode cX11_middle 27 = .ok (.getfield 69, 3) := by decide +kernel
theorem dX11_middle_30 : decode cX11_middle 30 = .ok (.invokevirtual 277, 3) := by decide +kernel
theorem dX11_middle_33 : decode cX11_middle 33 = .ok (.ireturn, 1) := by decide +kernel
theorem dX11_ends_0 : decode cX11_ends 0 = .ok (.aload_n 0, 1) := by decide +kernel
theorem dX11_ends_1 : decode cX11_ends 1 = .ok (.iload_n 1, 1) := by decide +kernel
theorem dX11_ends_2 : decode cX11_ends 2 = .ok (.invokevirtual 252, 3) := by decide +kernel
theorem dX11_ends_5 : decode cX11_ends 5 = .ok (.ifCond .ne 5, 3) := by decide +kernel
theorem dX11_ends_8 : decode cX11_ends 8 = .ok (.iconst (-1), 1) := by decide +kernel
theorem dX11_ends_9 : decode cX11_ends 9 = .ok (.ireturn, 1) := by decide +kernel
theorem dX11_ends_10 : decode cX11_ends 10 = .ok (.aload_n 0, 1) := by decide +kernel
theorem dX11_ends_11 : decode cX11_ends 11 = .ok (.getfield 69, 3) := by decide +kernel
theorem dX11_ends_14 : decode cX11_ends 14 = .ok (.aload_n 0, 1) := by decide +kernel
theorem dX11_ends_15 : decode cX11_ends 15 = .ok (.getfield 59, 3) := by decide +kernel
theorem dX11_ends_18 : decode cX11_ends 18 = .ok (.ldc 234, 2) := by decide +kernel
theorem dX11_ends_20 : decode cX11_ends 20 = .ok (.invokevirtual 235, 3) := by decide +kernel
theorem dX11_ends_23 : decode cX11_ends 23 = .ok (.pop, 1) := by decide +kernel
theorem dX11_ends_24 : decode cX11_ends 24 = .ok (.aload_n 0, 1) := by decide +kernel
theorem dX11_ends_25 : decode cX11_ends 25 = .ok (.getfield 59, 3) := by decide +kernel
theorem dX11_ends_28 : decode cX11_ends 28 = .ok (.getfield 182, 3) := by decide +kernel
theorem dX11_ends_31 : decode cX11_ends 31 = .ok (.iconst 1, 1) := by decide +kernel
theorem dX11_ends_32 : decode cX11_ends 32 = .ok (.isub, 1) := by decide +kernel
theorem dX11_ends_33 : decode cX11_ends 33 = .ok (.istore_n 2, 1) := by decide +kernel
theorem dX11_ends_34 : decode cX11_ends 34 = .ok (.aload_n 0, 1) := by decide +kernel
theorem dX11_ends_35 : decode cX11_ends 35 = .ok (.getfield 69, 3) := by decide +kernel
theorem dX11_ends_38 : decode cX11_ends 38 = .ok (.iload_n 2, 1) := by decide +kernel
theorem dX11_ends_39 : decode cX11_ends 39 = .ok (.invokevirtual 280, 3) := by decide +kernel
theorem dX11_ends_42 : decode cX11_ends 42 = .ok (.istore_n 3, 1) := by decide +kernel
theorem dX11_ends_43 : decode cX11_ends 43 = .ok (.iload_n 1, 1) := by decide +kernel
theorem dX11_ends_44 : decode cX11_ends 44 = .ok (.ifCond .ne 7, 3) := by decide +kernel
theorem dX11_ends_47 : decode cX11_ends 47 = .ok (.iload_n 3, 1) := by decide +kernel
theorem dX11_ends_48 : decode cX11_ends 48 = .ok (.goto 14, 3) := by decide +kernel
theorem dX11_ends_51 : decode cX11_ends 51 = .ok (.iload_n 3, 1) := by decide +kernel
theorem dX11_ends_52 : decode cX11_ends 52 = .ok (.aload_n 0, 1) := by decide +kernel
theorem dX11_ends_53 : decode cX11_ends 53 = .ok (.getfield 69, 3) := by decide +kernel
theorem dX11_ends_56 : decode cX11_ends 56 = .ok (.getfield 249, 3) := by decide +kernel
theorem dX11_ends_59 : decode cX11_ends 59 = .ok (.iload_n 2, 1) := by decide +kernel
theorem dX11_ends_60 : decode cX11_ends 60 = .ok (.iaload, 1) := by decide +kernel
theorem dX11_ends_61 : decode cX11_ends 61 = .ok (.isub, 1) := by decide +kernel
theorem dX11_ends_62 : decode cX11_ends 62 = .ok (.ireturn, 1) := by decide +kernel
theorem dX11_stray_0 : decode cX11_stray 0 = .ok (.aload_n 0, 1) := by decide +kernel
theorem dX11_stray_1 : decode cX11_stray 1 = .ok (.iload_n 1, 1) := by decide +kernel
theorem dX11_stray_2 : decode cX11_stray 2 = .ok (.invokevirtual 147, 3) := by decide +kernel
theorem dX11_stray_5 : decode cX11_stray 5 = .ok (.ifCond .eq 14, 3) := by decide +kernel
theorem dX11_stray_8 : decode cX11_stray 8 = .ok (.iload_n 2, 1) := by decide +kernel
theorem dX11_stray_9 : decode cX11_stray 9 = .ok (.iconst 1, 1) := by decide +kernel
theorem dX11_stray_10 : decode cX11_stray 10 = .ok (.if_icmp .lt 9, 3) := by decide +kernel
theorem dX11_stray_13 : decode cX11_stray 13 = .ok (.iload_n 2, 1) := by decide +kernel
theorem dX11_stray_14 : decode cX11_stray 14 = .ok (.bipush 99, 2) := by decide +kernel
theorem dX11_stray_16 : decode cX11_stray 16 = .ok (.if_icmp .le 5, 3) := by decide +kernel
theorem dX11_stray_19 : decode cX11_stray 19 = .ok (.iconst (-1), 1) := by decide +kernel
theorem dX11_stray_20 : decode cX11_stray 20 = .ok (.ireturn, 1) := by decide +kernel
theorem dX11_stray_21 : decode cX11_stray 21 = .ok (.aload_n 0, 1) := by decide +kernel
theorem dX11_stray_22 : decode cX11_stray 22 = .ok (.getfield 69, 3) := by decide +kernel
theorem dX11_stray_25 : decode cX11_stray 25 = .ok (.aload_n 0, 1) := by decide +kernel
theorem dX11_stray_26 : decode cX11_stray 26 = .ok (.getfield 59, 3) := by decide +kernel
theorem dX11_stray_29 : decode cX11_stray 29 = .ok (.ldc 234, 2) := by decide +kernel
theorem dX11_stray_31 : decode cX11_stray 31 = .ok (.invokevirtual 235, 3) := by decide +kernel
theorem dX11_stray_34 : decode cX11_stray 34 = .ok (.pop, 1) := by decide +kernel
theorem dX11_stray_35 : decode cX11_stray 35 = .ok (.aload_n 0, 1) := by decide +kernel
theorem dX11_stray_36 : decode cX11_stray 36 = .ok (.getfield 69, 3) := by decide +kernel
theorem dX11_stray_39 : decode cX11_stray 39 = .ok (.iload_n 1, 1) := by decide +kernel
theorem dX11_stray_40 : decode cX11_stray 40 = .ok (.iload_n 2, 1) := by decide +kernel
theorem dX11_stray_41 : decode cX11_stray 41 = .ok (.invokevirtual 283, 3) := by decide +kernel
theorem dX11_stray_44 : decode cX11_stray 44 = .ok (.ireturn, 1) := by decide +kernel
theorem dX11_ring_0 : decode cX11_ring 0 = .ok (.aload_n 0, 1) := by decide +kernel
theorem dX11_ring_1 : decode cX11_ring 1 = .ok (.iload_n 1, 1) := by decide +kernel
theorem dX11_ring_2 : decode cX11_ring 2 = .ok (.invokevirtual 147, 3) := by decide +kernel
theorem dX11_ring_5 : decode cX11_ring 5 = .ok (.ifCond .ne 5, 3) := by decide +kernel
theorem dX11_ring_8 : decode cX11_ring 8 = .ok (.iconst (-1), 1) := by decide +kernel
theorem dX11_ring_9 : decode cX11_ring 9 = .ok (.ireturn, 1) := by decide +kernel
theorem dX11_ring_10 : decode cX11_ring 10 = .ok (.iconst 0, 1) := by decide +kernel
theorem dX11_ring_11 : decode cX11_ring 11 = .ok (.istore_n 2, 1) := by decide +kernel
theorem dX11_ring_12 : decode cX11_ring 12 = .ok (.aload_n 0, 1) := by decide +kernel
theorem dX11_ring_13 : decode cX11_ring 13 = .ok (.getfield 59, 3) := by decide +kernel
theorem dX11_ring_16 : decode cX11_ring 16 = .ok (.iload_n 1, 1) := by decide +kernel
theorem dX11_ring_17 : decode cX11_ring 17 = .ok (.bipush 6, 2) := by decide +kernel
theorem dX11_ring_19 : decode cX11_ring 19 = .ok (.invokevirtual 286, 3) := by decide +kernel
theorem dX11_ring_22 : decode cX11_ring 22 = .ok (.istore_n 3, 1) := by decide +kernel
theorem dX11_ring_23 : decode cX11_ring 23 = .ok (.iconst 0, 1) := by decide +kernel
theorem dX11_ring_24 : decode cX11_ring 24 = .ok (.istore 4, 2) := by decide +kernel
theorem dX11_ring_26 : decode cX11_ring 26 = .ok (.iload 4, 2) := by decide +kernel
theorem dX11_ring_28 : decode cX11_ring 28 = .ok (.bipush 6, 2) := by decide +kernel
theorem dX11_ring_30 : decode cX11_ring 30 = .ok (.if_icmp .ge 33, 3) := by decide +kernel
theorem dX11_ring_33 : decode cX11_ring 33 = .ok (.aload_n 0, 1) := by decide +kernel
theorem dX11_ring_34 : decode cX11_ring 34 = .ok (.iload_n 3, 1) := by decide +kernel
theorem dX11_ring_35 : decode cX11_ring 35 = .ok (.invokevirtual 147, 3) := by decide +kernel
theorem dX11_ring_38 : decode cX11_ring 38 = .ok (.ifCond .eq 25, 3) := by decide +kernel
theorem dX11_ring_41 : decode cX11_ring 41 = .ok (.iload_n 2, 1) := by decide +kernel
theorem dX11_ring_42 : decode cX11_ring 42 = .ok (.iconst 1, 1) := by decide +kernel
theorem dX11_ring_43 : decode cX11_ring 43 = .ok (.iload_n 3, 1) := by decide +kernel
theorem dX11_ring_44 : decode cX11_ring 44 = .ok (.ishl, 1) := by decide +kernel
theorem dX11_ring_45 : decode cX11_ring 45 = .ok (.ior, 1) := by decide +kernel
theorem dX11_ring_46 : decode cX11_ring 46 = .ok (.istore_n 2, 1) := by decide +kernel
theorem dX11_ring_47 : decode cX11_ring 47 = .ok (.aload_n 0, 1) := by decide +kernel
theorem dX11_ring_48 : decode cX11_ring 48 = .ok (.getfield 59, 3) := by decide +kernel
theorem dX11_ring_51 : decode cX11_ring 51 = .ok (.iload_n 3, 1) := by decide +kernel
theorem dX11_ring_52 : decode cX11_ring 52 = .ok (.iconst 1, 1) := by decide +kernel
theorem dX11_ring_53 : decode cX11_ring 53 = .ok (.invokevirtual 286, 3) := by decide +kernel
theorem dX11_ring_56 : decode cX11_ring 56 = .ok (.istore_n 3, 1) := by decide +kernel
theorem dX11_ring_57 : decode cX11_ring 57 = .ok (.iinc 4 1, 3) := by decide +kernel
theorem dX11_ring_60 : decode cX11_ring 60 = .ok (.goto (-34), 3) := by decide +kernel
theorem dX11_ring_63 : decode cX11_ring 63 = .ok (.iload_n 2, 1) := by decide +kernel
theorem dX11_ring_64 : decode cX11_ring 64 = .ok (.ireturn, 1) := by decide +kernel
theorem dX11_head_0 : decode cX11_head 0 = .ok (.aload_n 0, 1) := by decide +kernel
theorem dX11_head_1 : decode cX11_head 1 = .ok (.iload_n 1, 1) := by decide +kernel
theorem dX11_head_2 : decode cX11_head 2 = .ok (.invokevirtual 147, 3) := by decide +kernel
theorem dX11_head_5 : decode cX11_head 5 = .ok (.ifCond .eq 17, 3) := by decide +kernel
theorem dX11_head_8 : decode cX11_head 8 = .ok (.aload_n 0, 1) := by decide +kernel
theorem dX11_head_9 : decode cX11_head 9 = .ok (.getfield 59, 3) := by decide +kernel
theorem dX11_head_12 : decode cX11_head 12 = .ok (.iload_n 1, 1) := by decide +kernel
theorem dX11_head_13 : decode cX11_head 13 = .ok (.bipush 6, 2) := by decide +kernel
theorem dX11_head_15 : decode cX11_head 15 = .ok (.invokevirtual 286, 3) := by decide +kernel
theorem dX11_head_18 : decode cX11_head 18 = .ok (.iconst (-1), 1) := by decide +kernel
theorem dX11_head_19 : decode cX11_head 19 = .ok (.if_icmp .eq 5, 3) := by decide +kernel
theorem dX11_head_22 : decode cX11_head 22 = .ok (.iconst (-1), 1) := by decide +kernel
theorem dX11_head_23 : decode cX11_head 23 = .ok (.ireturn, 1) := by decide +kernel
theorem dX11_head_24 : decode cX11_head 24 = .ok (.iload_n 1, 1) := by decide +kernel
theorem dX11_head_25 : decode cX11_head 25 = .ok (.istore_n 2, 1) := by decide +kernel
theorem dX11_head_26 : decode cX11_head 26 = .ok (.iconst 0, 1) := by decide +kernel
theorem dX11_head_27 : decode cX11_head 27 = .ok (.istore_n 3, 1) := by decide +kernel
theorem dX11_head_28 : decode cX11_head 28 = .ok (.iload_n 3, 1) := by decide +kernel
theorem dX11_head_29 : decode cX11_head 29 = .ok (.bipush 6, 2) := by decide +kernel
theorem dX11_head_31 : decode cX11_head 31 = .ok (.if_icmp .ge 32, 3) := by decide +kernel
theorem dX11_head_34 : decode cX11_head 34 = .ok (.aload_n 0, 1) := by decide +kernel
theorem dX11_head_35 : decode cX11_head 35 = .ok (.getfield 59, 3) := by decide +kernel
theorem dX11_head_38 : decode cX11_head 38 = .ok (.iload_n 2, 1) := by decide +kernel
theorem dX11_head_39 : decode cX11_head 39 = .ok (.iconst 1, 1) := by decide +kernel
theorem dX11_head_40 : decode cX11_head 40 = .ok (.invokevirtual 286, 3) := by decide +kernel
theorem dX11_head_43 : decode cX11_head 43 = .ok (.iconst (-1), 1) := by decide +kernel
theorem dX11_head_44 : decode cX11_head 44 = .ok (.if_icmp .eq 19, 3) := by decide +kernel
theorem dX11_head_47 : decode cX11_head 47 = .ok (.aload_n 0, 1) := by decide +kernel
theorem dX11_head_48 : decode cX11_head 48 = .ok (.getfield 59, 3) := by decide +kernel
theorem dX11_head_51 : decode cX11_head 51 = .ok (.iload_n 2, 1) := by decide +kernel
theorem dX11_head_52 : decode cX11_head 52 = .ok (.iconst 1, 1) := by decide +kernel
theorem dX11_head_53 : decode cX11_head 53 = .ok (.invokevirtual 286, 3) := by decide +kernel
theorem dX11_head_56 : decode cX11_head 56 = .ok (.istore_n 2, 1) := by decide +kernel
theorem dX11_head_57 : decode cX11_head 57 = .ok (.iinc 3 1, 3) := by decide +kernel
theorem dX11_head_60 : decode cX11_head 60 = .ok (.goto (-32), 3) := by decide +kernel
theorem dX11_head_63 : decode cX11_head 63 = .ok (.iload_n 2, 1) := by decide +kernel
theorem dX11_head_64 : decode cX11_head 64 = .ok (.ireturn, 1) := by decide +kernel
theorem dX11_leader_0 : decode cX11_leader 0 = .ok (.aload_n 0, 1) := by decide +kernel
theorem dX11_leader_1 : decode cX11_leader 1 = .ok (.iload_n 1, 1) := by decide +kernel
theorem dX11_leader_2 : decode cX11_leader 2 = .ok (.invokevirtual 147, 3) := by decide +kernel
theorem dX11_leader_5 : decode cX11_leader 5 = .ok (.ifCond .eq 12, 3) := by decide +kernel
theorem dX11_leader_8 : decode cX11_leader 8 = .ok (.iload_n 2, 1) := by decide +kernel
theorem dX11_leader_9 : decode cX11_leader 9 = .ok (.ifCond .lt 8, 3) := by decide +kernel
theorem dX11_leader_12 : decode cX11_leader 12 = .ok (.iload_n 2, 1) := by decide +kernel
theorem dX11_leader_13 : decode cX11_leader 13 = .ok (.iconst 1, 1) := by decide +kernel
theorem dX11_leader_14 : decode cX11_leader 14 = .ok (.if_icmp .le 6, 3) := by decide +kernel
theorem dX11_leader_17 : decode cX11_leader 17 = .ok (.ldc 188, 2) := by decide +kernel
theorem dX11_leader_19 : decode cX11_leader 19 = .ok (.ireturn, 1) := by decide +kernel
theorem dX11_leader_20 : decode cX11_leader 20 = .ok (.aload_n 0, 1) := by decide +kernel
theorem dX11_leader_21 : decode cX11_leader 21 = .ok (.getfield 63, 3) := by decide +kernel
theorem dX11_leader_24 : decode cX11_leader 24 = .ok (.aload_n 0, 1) := by decide +kernel
theorem dX11_leader_25 : decode cX11_leader 25 = .ok (.getfield 59, 3) := by decide +kernel
theorem dX11_leader_28 : decode cX11_leader 28 = .ok (.invokevirtual 289, 3) := by decide +kernel
theorem dX11_leader_31 : decode cX11_leader 31 = .ok (.ldc 234, 2) := by decide +kernel
theorem dX11_leader_33 : decode cX11_leader 33 = .ok (.istore_n 3, 1) := by decide +kernel
theorem dX11_leader_34 : decode cX11_leader 34 = .ok (.iconst (-1), 1) := by decide +kernel
theorem dX11_leader_35 : decode cX11_leader 35 = .ok (.istore 4, 2) := by decide +kernel
theorem dX11_leader_37 : decode cX11_leader 37 = .ok (.iconst (-1), 1) := by decide +kernel
theorem dX11_leader_38 : decode cX11_leader 38 = .ok (.istore 5, 2) := by decide +kernel
theorem dX11_leader_40 : decode cX11_leader 40 = .ok (.iload 5, 2) := by decide +kernel
theorem dX11_leader_42 : decode cX11_leader 42 = .ok (.aload_n 0, 1) := by decide +kernel
theorem dX11_leader_43 : decode cX11_leader 43 = .ok (.getfield 35, 3) := by decide +kernel
theorem dX11_leader_46 : decode cX11_leader 46 = .ok (.getfield 115, 3) := by decide +kernel
theorem dX11_leader_49 : decode cX11_leader 49 = .ok (.if_icmp .ge 57, 3) := by decide +kernel
theorem dX11_leader_52 : decode cX11_leader 52 = .ok (.aload_n 0, 1) := by decide +kernel
theorem dX11_leader_53 : decode cX11_leader 53 = .ok (.getfield 63, 3) := by decide +kernel
theorem dX11_leader_56 : decode cX11_leader 56 = .ok (.getfield 168, 3) := by decide +kernel
theorem dX11_leader_59 : decode cX11_leader 59 = .ok (.iload_n 1, 1) := by decide +kernel
theorem dX11_leader_60 : decode cX11_leader 60 = .ok (.iload 5, 2) := by decide +kernel
theorem dX11_leader_62 : decode cX11_leader 62 = .ok (.iastore, 1) := by decide +kernel
theorem dX11_leader_63 : decode cX11_leader 63 = .ok (.iload 5, 2) := by decide +kernel
theorem dX11_leader_65 : decode cX11_leader 65 = .ok (.iload_n 1, 1) := by decide +kernel
theorem dX11_leader_66 : decode cX11_leader 66 = .ok (.if_icmp .ne 7, 3) := by decide +kernel
theorem dX11_leader_69 : decode cX11_leader 69 = .ok (.iload_n 3, 1) := by decide +kernel
theorem dX11_leader_70 : decode cX11_leader 70 = .ok (.goto 15, 3) := by decide +kernel
theorem dX11_leader_73 : decode cX11_leader 73 = .ok (.aload_n 0, 1) := by decide +kernel
theorem dX11_leader_74 : decode cX11_leader 74 = .ok (.getfield 69, 3) := by decide +kernel
theorem dX11_leader_77 : decode cX11_leader 77 = .ok (.aload_n 0, 1) := by decide +kernel
theorem dX11_leader_78 : decode cX11_leader 78 = .ok (.getfield 63, 3) := by decide +kernel
theorem dX11_leader_81 : decode cX11_leader 81 = .ok (.iload_n 3, 1) := by decide +kernel
theorem dX11_leader_82 : decode cX11_leader 82 = .ok (.invokevirtual 235, 3) := by decide +kernel
theorem dX11_leader_85 : decode cX11_leader 85 = .ok (.istore 6, 2) := by decide +kernel
theorem dX11_leader_87 : decode cX11_leader 87 = .ok (.iload 6, 2) := by decide +kernel
theorem dX11_leader_89 : decode cX11_leader 89 = .ok (.iload_n 3, 1) := by decide +kernel
theorem dX11_leader_90 : decode cX11_leader 90 = .ok (.if_icmp .ge 10, 3) := by decide +kernel
theorem dX11_leader_93 : decode cX11_leader 93 = .ok (.iload 6, 2) := by decide +kernel
theorem dX11_leader_95 : decode cX11_leader 95 = .ok (.istore_n 3, 1) := by decide +kernel
theorem dX11_leader_96 : decode cX11_leader 96 = .ok (.iload 5, 2) := by decide +kernel
theorem dX11_leader_98 : decode cX11_leader 98 = .ok (.istore 4, 2) := by decide +kernel
theorem dX11_leader_100 : decode cX11_leader 100 = .ok (.iinc 5 1, 3) := by decide +kernel
theorem dX11_leader_103 : decode cX11_leader 103 = .ok (.goto (-63), 3) := by decide +kernel
theorem dX11_leader_106 : decode cX11_leader 106 = .ok (.iload_n 2, 1) := by decide +kernel
