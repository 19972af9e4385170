theorem dX11_leader_107 : decode cX11_leader 107 = .ok (.ifCond .ne 8, 3) := by decide +kernel
theorem dX11_leader_110 : decode cX11_leader 110 = .ok (.iload 4, 2) := by decide +kernel
theorem dX11_leader_112 : decode cX11_leader 112 = .ok (.goto 4, 3) := by decide +kernel
theorem dX11_leader_115 : decode cX11_leader 115 = .ok (.iload_n 3, 1) := by decide +kernel
theorem dX11_leader_116 : decode cX11_leader 116 = .ok (.ireturn, 1) := by decide +kernel
theorem dX11_deaf_0 : decode cX11_deaf 0 = .ok (.aload_n 0, 1) := by decide +kernel
theorem dX11_deaf_1 : decode cX11_deaf 1 = .ok (.iload_n 1, 1) := by decide +kernel
theorem dX11_deaf_2 : decode cX11_deaf 2 = .ok (.invokevirtual 147, 3) := by decide +kernel
theorem dX11_deaf_5 : decode cX11_deaf 5 = .ok (.ifCond .ne 5, 3) := by decide +kernel
theorem dX11_deaf_8 : decode cX11_deaf 8 = .ok (.iconst (-1), 1) := by decide +kernel
theorem dX11_deaf_9 : decode cX11_deaf 9 = .ok (.ireturn, 1) := by decide +kernel
theorem dX11_deaf_10 : decode cX11_deaf 10 = .ok (.aload_n 0, 1) := by decide +kernel
theorem dX11_deaf_11 : decode cX11_deaf 11 = .ok (.getfield 63, 3) := by decide +kernel
theorem dX11_deaf_14 : decode cX11_deaf 14 = .ok (.aload_n 0, 1) := by decide +kernel
theorem dX11_deaf_15 : decode cX11_deaf 15 = .ok (.getfield 59, 3) := by decide +kernel
theorem dX11_deaf_18 : decode cX11_deaf 18 = .ok (.invokevirtual 289, 3) := by decide +kernel
theorem dX11_deaf_21 : decode cX11_deaf 21 = .ok (.aload_n 0, 1) := by decide +kernel
theorem dX11_deaf_22 : decode cX11_deaf 22 = .ok (.getfield 63, 3) := by decide +kernel
theorem dX11_deaf_25 : decode cX11_deaf 25 = .ok (.getfield 168, 3) := by decide +kernel
theorem dX11_deaf_28 : decode cX11_deaf 28 = .ok (.iload_n 1, 1) := by decide +kernel
theorem dX11_deaf_29 : decode cX11_deaf 29 = .ok (.iconst (-1), 1) := by decide +kernel
theorem dX11_deaf_30 : decode cX11_deaf 30 = .ok (.iastore, 1) := by decide +kernel
theorem dX11_deaf_31 : decode cX11_deaf 31 = .ok (.aload_n 0, 1) := by decide +kernel
theorem dX11_deaf_32 : decode cX11_deaf 32 = .ok (.getfield 69, 3) := by decide +kernel
theorem dX11_deaf_35 : decode cX11_deaf 35 = .ok (.aload_n 0, 1) := by decide +kernel
theorem dX11_deaf_36 : decode cX11_deaf 36 = .ok (.getfield 63, 3) := by decide +kernel
theorem dX11_deaf_39 : decode cX11_deaf 39 = .ok (.ldc 234, 2) := by decide +kernel
theorem dX11_deaf_41 : decode cX11_deaf 41 = .ok (.invokevirtual 235, 3) := by decide +kernel
theorem dX11_deaf_44 : decode cX11_deaf 44 = .ok (.ireturn, 1) := by decide +kernel
theorem dX11_roll_0 : decode cX11_roll 0 = .ok (.aload_n 0, 1) := by decide +kernel
theorem dX11_roll_1 : decode cX11_roll 1 = .ok (.iload_n 1, 1) := by decide +kernel
theorem dX11_roll_2 : decode cX11_roll 2 = .ok (.invokevirtual 147, 3) := by decide +kernel
theorem dX11_roll_5 : decode cX11_roll 5 = .ok (.ifCond .eq 28, 3) := by decide +kernel
theorem dX11_roll_8 : decode cX11_roll 8 = .ok (.iload_n 2, 1) := by decide +kernel
theorem dX11_roll_9 : decode cX11_roll 9 = .ok (.ifCond .lt 24, 3) := by decide +kernel
theorem dX11_roll_12 : decode cX11_roll 12 = .ok (.iload_n 2, 1) := by decide +kernel
theorem dX11_roll_13 : decode cX11_roll 13 = .ok (.bipush 30, 2) := by decide +kernel
theorem dX11_roll_15 : decode cX11_roll 15 = .ok (.if_icmp .ge 18, 3) := by decide +kernel
theorem dX11_roll_18 : decode cX11_roll 18 = .ok (.iload_n 3, 1) := by decide +kernel
theorem dX11_roll_19 : decode cX11_roll 19 = .ok (.ifCond .lt 14, 3) := by decide +kernel
theorem dX11_roll_22 : decode cX11_roll 22 = .ok (.iload_n 3, 1) := by decide +kernel
theorem dX11_roll_23 : decode cX11_roll 23 = .ok (.sipush 9999, 3) := by decide +kernel
theorem dX11_roll_26 : decode cX11_roll 26 = .ok (.if_icmp .gt 7, 3) := by decide +kernel
theorem dX11_roll_29 : decode cX11_roll 29 = .ok (.iconst 1, 1) := by decide +kernel
theorem dX11_roll_30 : decode cX11_roll 30 = .ok (.goto 4, 3) := by decide +kernel
theorem dX11_roll_33 : decode cX11_roll 33 = .ok (.iconst 0, 1) := by decide +kernel
theorem dX11_roll_34 : decode cX11_roll 34 = .ok (.istore 4, 2) := by decide +kernel
theorem dX11_roll_36 : decode cX11_roll 36 = .ok (.iload 4, 2) := by decide +kernel
theorem dX11_roll_38 : decode cX11_roll 38 = .ok (.ifCond .eq 12, 3) := by decide +kernel
theorem dX11_roll_41 : decode cX11_roll 41 = .ok (.aload_n 0, 1) := by decide +kernel
theorem dX11_roll_42 : decode cX11_roll 42 = .ok (.getfield 137, 3) := by decide +kernel
theorem dX11_roll_45 : decode cX11_roll 45 = .ok (.bipush 20, 2) := by decide +kernel
theorem dX11_roll_47 : decode cX11_roll 47 = .ok (.if_icmp .lt 5, 3) := by decide +kernel
theorem dX11_roll_50 : decode cX11_roll 50 = .ok (.iconst (-1), 1) := by decide +kernel
theorem dX11_roll_51 : decode cX11_roll 51 = .ok (.ireturn, 1) := by decide +kernel
theorem dX11_roll_52 : decode cX11_roll 52 = .ok (.aload_n 0, 1) := by decide +kernel
theorem dX11_roll_53 : decode cX11_roll 53 = .ok (.getfield 137, 3) := by decide +kernel
theorem dX11_roll_56 : decode cX11_roll 56 = .ok (.iconst 3, 1) := by decide +kernel
theorem dX11_roll_57 : decode cX11_roll 57 = .ok (.imul, 1) := by decide +kernel
theorem dX11_roll_58 : decode cX11_roll 58 = .ok (.istore 5, 2) := by decide +kernel
theorem dX11_roll_60 : decode cX11_roll 60 = .ok (.aload_n 0, 1) := by decide +kernel
theorem dX11_roll_61 : decode cX11_roll 61 = .ok (.getfield 52, 3) := by decide +kernel
theorem dX11_roll_64 : decode cX11_roll 64 = .ok (.iload 5, 2) := by decide +kernel
theorem dX11_roll_66 : decode cX11_roll 66 = .ok (.iload_n 1, 1) := by decide +kernel
theorem dX11_roll_67 : decode cX11_roll 67 = .ok (.iastore, 1) := by decide +kernel
theorem dX11_roll_68 : decode cX11_roll 68 = .ok (.aload_n 0, 1) := by decide +kernel
theorem dX11_roll_69 : decode cX11_roll 69 = .ok (.getfield 52, 3) := by decide +kernel
theorem dX11_roll_72 : decode cX11_roll 72 = .ok (.iload 5, 2) := by decide +kernel
theorem dX11_roll_74 : decode cX11_roll 74 = .ok (.iconst 1, 1) := by decide +kernel
theorem dX11_roll_75 : decode cX11_roll 75 = .ok (.iadd, 1) := by decide +kernel
theorem dX11_roll_76 : decode cX11_roll 76 = .ok (.iload_n 2, 1) := by decide +kernel
theorem dX11_roll_77 : decode cX11_roll 77 = .ok (.iastore, 1) := by decide +kernel
theorem dX11_roll_78 : decode cX11_roll 78 = .ok (.aload_n 0, 1) := by decide +kernel
theorem dX11_roll_79 : decode cX11_roll 79 = .ok (.getfield 52, 3) := by decide +kernel
theorem dX11_roll_82 : decode cX11_roll 82 = .ok (.iload 5, 2) := by decide +kernel
theorem dX11_roll_84 : decode cX11_roll 84 = .ok (.iconst 2, 1) := by decide +kernel
theorem dX11_roll_85 : decode cX11_roll 85 = .ok (.iadd, 1) := by decide +kernel
theorem dX11_roll_86 : decode cX11_roll 86 = .ok (.iload_n 3, 1) := by decide +kernel
theorem dX11_roll_87 : decode cX11_roll 87 = .ok (.iastore, 1) := by decide +kernel
theorem dX11_roll_88 : decode cX11_roll 88 = .ok (.aload_n 0, 1) := by decide +kernel
theorem dX11_roll_89 : decode cX11_roll 89 = .ok (.dup, 1) := by decide +kernel
theorem dX11_roll_90 : decode cX11_roll 90 = .ok (.getfield 137, 3) := by decide +kernel
theorem dX11_roll_93 : decode cX11_roll 93 = .ok (.iconst 1, 1) := by decide +kernel
theorem dX11_roll_94 : decode cX11_roll 94 = .ok (.iadd, 1) := by decide +kernel
theorem dX11_roll_95 : decode cX11_roll 95 = .ok (.putfield 137, 3) := by decide +kernel
theorem dX11_roll_98 : decode cX11_roll 98 = .ok (.aload_n 0, 1) := by decide +kernel
theorem dX11_roll_99 : decode cX11_roll 99 = .ok (.getfield 137, 3) := by decide +kernel
theorem dX11_roll_102 : decode cX11_roll 102 = .ok (.ireturn, 1) := by decide +kernel
theorem dX11_fits_0 : decode cX11_fits 0 = .ok (.aload_n 0, 1) := by decide +kernel
theorem dX11_fits_1 : decode cX11_fits 1 = .ok (.iload_n 1, 1) := by decide +kernel
theorem dX11_fits_2 : decode cX11_fits 2 = .ok (.invokevirtual 147, 3) := by decide +kernel
theorem dX11_fits_5 : decode cX11_fits 5 = .ok (.ifCond .ne 5, 3) := by decide +kernel
theorem dX11_fits_8 : decode cX11_fits 8 = .ok (.iconst (-1), 1) := by decide +kernel
theorem dX11_fits_9 : decode cX11_fits 9 = .ok (.ireturn, 1) := by decide +kernel
theorem dX11_fits_10 : decode cX11_fits 10 = .ok (.aload_n 0, 1) := by decide +kernel
theorem dX11_fits_11 : decode cX11_fits 11 = .ok (.getfield 63, 3) := by decide +kernel
theorem dX11_fits_14 : decode cX11_fits 14 = .ok (.aload_n 0, 1) := by decide +kernel
theorem dX11_fits_15 : decode cX11_fits 15 = .ok (.getfield 59, 3) := by decide +kernel
theorem dX11_fits_18 : decode cX11_fits 18 = .ok (.invokevirtual 289, 3) := by decide +kernel
theorem dX11_fits_21 : decode cX11_fits 21 = .ok (.iconst 0, 1) := by decide +kernel
theorem dX11_fits_22 : decode cX11_fits 22 = .ok (.istore_n 2, 1) := by decide +kernel
theorem dX11_fits_23 : decode cX11_fits 23 = .ok (.iconst (-1), 1) := by decide +kernel
theorem dX11_fits_24 : decode cX11_fits 24 = .ok (.istore_n 3, 1) := by decide +kernel
theorem dX11_fits_25 : decode cX11_fits 25 = .ok (.iload_n 3, 1) := by decide +kernel
theorem dX11_fits_26 : decode cX11_fits 26 = .ok (.aload_n 0, 1) := by decide +kernel
theorem dX11_fits_27 : decode cX11_fits 27 = .ok (.getfield 35, 3) := by decide +kernel
theorem dX11_fits_30 : decode cX11_fits 30 = .ok (.getfield 115, 3) := by decide +kernel
theorem dX11_fits_33 : decode cX11_fits 33 = .ok (.if_icmp .ge 47, 3) := by decide +kernel
theorem dX11_fits_36 : decode cX11_fits 36 = .ok (.aload_n 0, 1) := by decide +kernel
theorem dX11_fits_37 : decode cX11_fits 37 = .ok (.getfield 63, 3) := by decide +kernel
theorem dX11_fits_40 : decode cX11_fits 40 = .ok (.getfield 168, 3) := by decide +kernel
theorem dX11_fits_43 : decode cX11_fits 43 = .ok (.iload_n 1, 1) := by decide +kernel
theorem dX11_fits_44 : decode cX11_fits 44 = .ok (.iload_n 3, 1) := by decide +kernel
theorem dX11_fits_45 : decode cX11_fits 45 = .ok (.iastore, 1) := by decide +kernel
theorem dX11_fits_46 : decode cX11_fits 46 = .ok (.iload_n 3, 1) := by decide +kernel
theorem dX11_fits_47 : decode cX11_fits 47 = .ok (.iload_n 1, 1) := by decide +kernel
theorem dX11_fits_48 : decode cX11_fits 48 = .ok (.if_icmp .eq 26, 3) := by decide +kernel
theorem dX11_fits_51 : decode cX11_fits 51 = .ok (.aload_n 0, 1) := by decide +kernel
theorem dX11_fits_52 : decode cX11_fits 52 = .ok (.invokevirtual 292, 3) := by decide +kernel
theorem dX11_fits_55 : decode cX11_fits 55 = .ok (.ifCond .eq 19, 3) := by decide +kernel
theorem dX11_fits_58 : decode cX11_fits 58 = .ok (.iload_n 2, 1) := by decide +kernel
theorem dX11_fits_59 : decode cX11_fits 59 = .ok (.iload_n 3, 1) := by decide +kernel
theorem dX11_fits_60 : decode cX11_fits 60 = .ok (.iconst (-1), 1) := by decide +kernel
theorem dX11_fits_61 : decode cX11_fits 61 = .ok (.if_icmp .ne 8, 3) := by decide +kernel
theorem dX11_fits_64 : decode cX11_fits 64 = .ok (.bipush 64, 2) := by decide +kernel
theorem dX11_fits_66 : decode cX11_fits 66 = .ok (.goto 6, 3) := by decide +kernel
theorem dX11_fits_69 : decode cX11_fits 69 = .ok (.iconst 1, 1) := by decide +kernel
theorem dX11_fits_70 : decode cX11_fits 70 = .ok (.iload_n 3, 1) := by decide +kernel
theorem dX11_fits_71 : decode cX11_fits 71 = .ok (.ishl, 1) := by decide +kernel
theorem dX11_fits_72 : decode cX11_fits 72 = .ok (.ior, 1) := by decide +kernel
theorem dX11_fits_73 : decode cX11_fits 73 = .ok (.istore_n 2, 1) := by decide +kernel
theorem dX11_fits_74 : decode cX11_fits 74 = .ok (.iinc 3 1, 3) := by decide +kernel
theorem dX11_fits_77 : decode cX11_fits 77 = .ok (.goto (-52), 3) := by decide +kernel
theorem dX11_fits_80 : decode cX11_fits 80 = .ok (.iload_n 2, 1) := by decide +kernel
theorem dX11_fits_81 : decode cX11_fits 81 = .ok (.ireturn, 1) := by decide +kernel
theorem dX11_isToldSo_0 : decode cX11_isToldSo 0 = .ok (.aload_n 0, 1) := by decide +kernel
theorem dX11_isToldSo_1 : decode cX11_isToldSo 1 = .ok (.getfield 69, 3) := by decide +kernel
theorem dX11_isToldSo_4 : decode cX11_isToldSo 4 = .ok (.aload_n 0, 1) := by decide +kernel
theorem dX11_isToldSo_5 : decode cX11_isToldSo 5 = .ok (.getfield 63, 3) := by decide +kernel
theorem dX11_isToldSo_8 : decode cX11_isToldSo 8 = .ok (.ldc 234, 2) := by decide +kernel
theorem dX11_isToldSo_10 : decode cX11_isToldSo 10 = .ok (.invokevirtual 235, 3) := by decide +kernel
theorem dX11_isToldSo_13 : decode cX11_isToldSo 13 = .ok (.pop, 1) := by decide +kernel
theorem dX11_isToldSo_14 : decode cX11_isToldSo 14 = .ok (.iconst 0, 1) := by decide +kernel
theorem dX11_isToldSo_15 : decode cX11_isToldSo 15 = .ok (.istore_n 1, 1) := by decide +kernel
theorem dX11_isToldSo_16 : decode cX11_isToldSo 16 = .ok (.iload_n 1, 1) := by decide +kernel
theorem dX11_isToldSo_17 : decode cX11_isToldSo 17 = .ok (.aload_n 0, 1) := by decide +kernel
theorem dX11_isToldSo_18 : decode cX11_isToldSo 18 = .ok (.getfield 137, 3) := by decide +kernel
theorem dX11_isToldSo_21 : decode cX11_isToldSo 21 = .ok (.if_icmp .ge 66, 3) := by decide +kernel
theorem dX11_isToldSo_24 : decode cX11_isToldSo 24 = .ok (.iload_n 1, 1) := by decide +kernel
theorem dX11_isToldSo_25 : decode cX11_isToldSo 25 = .ok (.bipush 20, 2) := by decide +kernel
theorem dX11_isToldSo_27 : decode cX11_isToldSo 27 = .ok (.if_icmp .ge 60, 3) := by decide +kernel
theorem dX11_isToldSo_30 : decode cX11_isToldSo 30 = .ok (.iload_n 1, 1) := by decide +kernel
theorem dX11_isToldSo_31 : decode cX11_isToldSo 31 = .ok (.iconst 3, 1) := by decide +kernel
theorem dX11_isToldSo_32 : decode cX11_isToldSo 32 = .ok (.imul, 1) := by decide +kernel
theorem dX11_isToldSo_33 : decode cX11_isToldSo 33 = .ok (.istore_n 2, 1) := by decide +kernel
theorem dX11_isToldSo_34 : decode cX11_isToldSo 34 = .ok (.aload_n 0, 1) := by decide +kernel
theorem dX11_isToldSo_35 : decode cX11_isToldSo 35 = .ok (.getfield 52, 3) := by decide +kernel
theorem dX11_isToldSo_38 : decode cX11_isToldSo 38 = .ok (.iload_n 2, 1) := by decide +kernel
theorem dX11_isToldSo_39 : decode cX11_isToldSo 39 = .ok (.iconst 1, 1) := by decide +kernel
theorem dX11_isToldSo_40 : decode cX11_isToldSo 40 = .ok (.iadd, 1) := by decide +kernel
theorem dX11_isToldSo_41 : decode cX11_isToldSo 41 = .ok (.iaload, 1) := by decide +kernel
theorem dX11_isToldSo_42 : decode cX11_isToldSo 42 = .ok (.istore_n 3, 1) := by decide +kernel
theorem dX11_isToldSo_43 : decode cX11_isToldSo 43 = .ok (.iload_n 3, 1) := by decide +kernel
theorem dX11_isToldSo_44 : decode cX11_isToldSo 44 = .ok (.aload_n 0, 1) := by decide +kernel
theorem dX11_isToldSo_45 : decode cX11_isToldSo 45 = .ok (.getfield 63, 3) := by decide +kernel
theorem dX11_isToldSo_48 : decode cX11_isToldSo 48 = .ok (.getfield 182, 3) := by decide +kernel
theorem dX11_isToldSo_51 : decode cX11_isToldSo 51 = .ok (.if_icmp .ge 28, 3) := by decide +kernel
theorem dX11_isToldSo_54 : decode cX11_isToldSo 54 = .ok (.aload_n 0, 1) := by decide +kernel
theorem dX11_isToldSo_55 : decode cX11_isToldSo 55 = .ok (.getfield 69, 3) := by decide +kernel
theorem dX11_isToldSo_58 : decode cX11_isToldSo 58 = .ok (.aload_n 0, 1) := by decide +kernel
theorem dX11_isToldSo_59 : decode cX11_isToldSo 59 = .ok (.getfield 52, 3) := by decide +kernel
theorem dX11_isToldSo_62 : decode cX11_isToldSo 62 = .ok (.iload_n 2, 1) := by decide +kernel
theorem dX11_isToldSo_63 : decode cX11_isToldSo 63 = .ok (.iaload, 1) := by decide +kernel
theorem dX11_isToldSo_64 : decode cX11_isToldSo 64 = .ok (.iload_n 3, 1) := by decide +kernel
theorem dX11_isToldSo_65 : decode cX11_isToldSo 65 = .ok (.invokevirtual 243, 3) := by decide +kernel
theorem dX11_isToldSo_68 : decode cX11_isToldSo 68 = .ok (.aload_n 0, 1) := by decide +kernel
theorem dX11_isToldSo_69 : decode cX11_isToldSo 69 = .ok (.getfield 52, 3) := by decide +kernel
theorem dX11_isToldSo_72 : decode cX11_isToldSo 72 = .ok (.iload_n 2, 1) := by decide +kernel
theorem dX11_isToldSo_73 : decode cX11_isToldSo 73 = .ok (.iconst 2, 1) := by decide +kernel
theorem dX11_isToldSo_74 : decode cX11_isToldSo 74 = .ok (.iadd, 1) := by decide +kernel
theorem dX11_isToldSo_75 : decode cX11_isToldSo 75 = .ok (.iaload, 1) := by decide +kernel
theorem dX11_isToldSo_76 : decode cX11_isToldSo 76 = .ok (.if_icmp .eq 5, 3) := by decide +kernel
theorem dX11_isToldSo_79 : decode cX11_isToldSo 79 = .ok (.iconst 0, 1) := by decide +kernel
theorem dX11_isToldSo_80 : decode cX11_isToldSo 80 = .ok (.ireturn, 1) := by decide +kernel
theorem dX11_isToldSo_81 : decode cX11_isToldSo 81 = .ok (.iinc 1 1, 3) := by decide +kernel
theorem dX11_isToldSo_84 : decode cX11_isToldSo 84 = .ok (.goto (-68), 3) := by decide +kernel
theorem dX11_isToldSo_87 : decode cX11_isToldSo 87 = .ok (.iconst 1, 1) := by decide +kernel
theorem dX11_isToldSo_88 : decode cX11_isToldSo 88 = .ok (.ireturn, 1) := by decide +kernel
theorem dX11_echoes_0 : decode cX11_echoes 0 = .ok (.aload_n 0, 1) := by decide +kernel
theorem dX11_echoes_1 : decode cX11_echoes 1 = .ok (.iload_n 1, 1) := by decide +kernel
theorem dX11_echoes_2 : decode cX11_echoes 2 = .ok (.invokevirtual 252, 3) := by decide +kernel
theorem dX11_echoes_5 : decode cX11_echoes 5 = .ok (.ifCond .ne 5, 3) := by decide +kernel
theorem dX11_echoes_8 : decode cX11_echoes 8 = .ok (.iconst (-1), 1) := by decide +kernel
theorem dX11_echoes_9 : decode cX11_echoes 9 = .ok (.ireturn, 1) := by decide +kernel
theorem dX11_echoes_10 : decode cX11_echoes 10 = .ok (.aload_n 0, 1) := by decide +kernel
theorem dX11_echoes_11 : decode cX11_echoes 11 = .ok (.getfield 63, 3) := by decide +kernel
theorem dX11_echoes_14 : decode cX11_echoes 14 = .ok (.aload_n 0, 1) := by decide +kernel
theorem dX11_echoes_15 : decode cX11_echoes 15 = .ok (.getfield 59, 3) := by decide +kernel
theorem dX11_echoes_18 : decode cX11_echoes 18 = .ok (.invokevirtual 289, 3) := by decide +kernel
theorem dX11_echoes_21 : decode cX11_echoes 21 = .ok (.ldc 234, 2) := by decide +kernel
theorem dX11_echoes_23 : decode cX11_echoes 23 = .ok (.istore_n 2, 1) := by decide +kernel
theorem dX11_echoes_24 : decode cX11_echoes 24 = .ok (.iconst 0, 1) := by decide +kernel
theorem dX11_echoes_25 : decode cX11_echoes 25 = .ok (.istore_n 3, 1) := by decide +kernel
theorem dX11_echoes_26 : decode cX11_echoes 26 = .ok (.iconst 0, 1) := by decide +kernel
theorem dX11_echoes_27 : decode cX11_echoes 27 = .ok (.istore 4, 2) := by decide +kernel
theorem dX11_echoes_29 : decode cX11_echoes 29 = .ok (.iload 4, 2) := by decide +kernel
theorem dX11_echoes_31 : decode cX11_echoes 31 = .ok (.iconst 3, 1) := by decide +kernel
theorem dX11_echoes_32 : decode cX11_echoes 32 = .ok (.if_icmp .gt 44, 3) := by decide +kernel
theorem dX11_echoes_35 : decode cX11_echoes 35 = .ok (.aload_n 0, 1) := by decide +kernel
theorem dX11_echoes_36 : decode cX11_echoes 36 = .ok (.getfield 63, 3) := by decide +kernel
theorem dX11_echoes_39 : decode cX11_echoes 39 = .ok (.iload 4, 2) := by decide +kernel
theorem dX11_echoes_41 : decode cX11_echoes 41 = .ok (.putfield 185, 3) := by decide +kernel
theorem dX11_echoes_44 : decode cX11_echoes 44 = .ok (.aload_n 0, 1) := by decide +kernel
theorem dX11_echoes_45 : decode cX11_echoes 45 = .ok (.getfield 69, 3) := by decide +kernel
theorem dX11_echoes_48 : decode cX11_echoes 48 = .ok (.aload_n 0, 1) := by decide +kernel
theorem dX11_echoes_49 : decode cX11_echoes 49 = .ok (.getfield 63, 3) := by decide +kernel
theorem dX11_echoes_52 : decode cX11_echoes 52 = .ok (.iload_n 2, 1) := by decide +kernel
theorem dX11_echoes_53 : decode cX11_echoes 53 = .ok (.invokevirtual 235, 3) := by decide +kernel
theorem dX11_echoes_56 : decode cX11_echoes 56 = .ok (.istore 5, 2) := by decide +kernel
theorem dX11_echoes_58 : decode cX11_echoes 58 = .ok (.iload 5, 2) := by decide +kernel
theorem dX11_echoes_60 : decode cX11_echoes 60 = .ok (.iload_n 2, 1) := by decide +kernel
theorem dX11_echoes_61 : decode cX11_echoes 61 = .ok (.if_icmp .ge 9, 3) := by decide +kernel
theorem dX11_echoes_64 : decode cX11_echoes 64 = .ok (.iload 5, 2) := by decide +kernel
theorem dX11_echoes_66 : decode cX11_echoes 66 = .ok (.istore_n 2, 1) := by decide +kernel
theorem dX11_echoes_67 : decode cX11_echoes 67 = .ok (.iload 4, 2) := by decide +kernel
theorem dX11_echoes_69 : decode cX11_echoes 69 = .ok (.istore_n 3, 1) := by decide +kernel
theorem dX11_echoes_70 : decode cX11_echoes 70 = .ok (.iinc 4 1, 3) := by decide +kernel
theorem dX11_echoes_73 : decode cX11_echoes 73 = .ok (.goto (-44), 3) := by decide +kernel
theorem dX11_echoes_76 : decode cX11_echoes 76 = .ok (.iload_n 1, 1) := by decide +kernel
theorem dX11_echoes_77 : decode cX11_echoes 77 = .ok (.ifCond .ne 7, 3) := by decide +kernel
theorem dX11_echoes_80 : decode cX11_echoes 80 = .ok (.iload_n 3, 1) := by decide +kernel
theorem dX11_echoes_81 : decode cX11_echoes 81 = .ok (.goto 4, 3) := by decide +kernel
theorem dX11_echoes_84 : decode cX11_echoes 84 = .ok (.iload_n 2, 1) := by decide +kernel
theorem dX11_echoes_85 : decode cX11_echoes 85 = .ok (.ireturn, 1) := by decide +kernel
theorem dX11_tune_0 : decode cX11_tune 0 = .ok (.aload_n 0, 1) := by decide +kernel
theorem dX11_tune_1 : decode cX11_tune 1 = .ok (.iload_n 1, 1) := by decide +kernel
theorem dX11_tune_2 : decode cX11_tune 2 = .ok (.invokevirtual 147, 3) := by decide +kernel
theorem dX11_tune_5 : decode cX11_tune 5 = .ok (.ifCond .eq 12, 3) := by decide +kernel
theorem dX11_tune_8 : decode cX11_tune 8 = .ok (.iload_n 2, 1) := by decide +kernel
theorem dX11_tune_9 : decode cX11_tune 9 = .ok (.ifCond .lt 8, 3) := by decide +kernel
theorem dX11_tune_12 : decode cX11_tune 12 = .ok (.iload_n 2, 1) := by decide +kernel
theorem dX11_tune_13 : decode cX11_tune 13 = .ok (.iconst 1, 1) := by decide +kernel
theorem dX11_tune_14 : decode cX11_tune 14 = .ok (.if_icmp .le 5, 3) := by decide +kernel
theorem dX11_tune_17 : decode cX11_tune 17 = .ok (.iconst (-1), 1) := by decide +kernel
theorem dX11_tune_18 : decode cX11_tune 18 = .ok (.ireturn, 1) := by decide +kernel
theorem dX11_tune_19 : decode cX11_tune 19 = .ok (.aload_n 0, 1) := by decide +kernel
theorem dX11_tune_20 : decode cX11_tune 20 = .ok (.getfield 63, 3) := by decide +kernel
theorem dX11_tune_23 : decode cX11_tune 23 = .ok (.aload_n 0, 1) := by decide +kernel
theorem dX11_tune_24 : decode cX11_tune 24 = .ok (.getfield 59, 3) := by decide +kernel
theorem dX11_tune_27 : decode cX11_tune 27 = .ok (.invokevirtual 289, 3) := by decide +kernel
theorem dX11_tune_30 : decode cX11_tune 30 = .ok (.aload_n 0, 1) := by decide +kernel
theorem dX11_tune_31 : decode cX11_tune 31 = .ok (.getfield 59, 3) := by decide +kernel
theorem dX11_tune_34 : decode cX11_tune 34 = .ok (.getfield 171, 3) := by decide +kernel
theorem dX11_tune_37 : decode cX11_tune 37 = .ok (.iload_n 1, 1) := by decide +kernel
theorem dX11_tune_38 : decode cX11_tune 38 = .ok (.iaload, 1) := by decide +kernel
theorem dX11_tune_39 : decode cX11_tune 39 = .ok (.istore_n 3, 1) := by decide +kernel
theorem dX11_tune_40 : decode cX11_tune 40 = .ok (.iconst 0, 1) := by decide +kernel
theorem dX11_tune_41 : decode cX11_tune 41 = .ok (.istore 4, 2) := by decide +kernel
theorem dX11_tune_43 : decode cX11_tune 43 = .ok (.iload 4, 2) := by decide +kernel
theorem dX11_tune_45 : decode cX11_tune 45 = .ok (.bipush 20, 2) := by decide +kernel
theorem dX11_tune_47 : decode cX11_tune 47 = .ok (.if_icmp .gt 98, 3) := by decide +kernel
theorem dX11_tune_50 : decode cX11_tune 50 = .ok (.iload 4, 2) := by decide +kernel
theorem dX11_tune_52 : decode cX11_tune 52 = .ok (.iconst 2, 1) := by decide +kernel
theorem dX11_tune_53 : decode cX11_tune 53 = .ok (.irem, 1) := by decide +kernel
theorem dX11_tune_54 : decode cX11_tune 54 = .ok (.ifCond .ne 12, 3) := by decide +kernel
theorem dX11_tune_57 : decode cX11_tune 57 = .ok (.iload_n 3, 1) := by decide +kernel
theorem dX11_tune_58 : decode cX11_tune 58 = .ok (.iload 4, 2) := by decide +kernel
theorem dX11_tune_60 : decode cX11_tune 60 = .ok (.iconst 2, 1) := by decide +kernel
theorem dX11_tune_61 : decode cX11_tune 61 = .ok (.idiv, 1) := by decide +kernel
theorem dX11_tune_62 : decode cX11_tune 62 = .ok (.iadd, 1) := by decide +kernel
theorem dX11_tune_63 : decode cX11_tune 63 = .ok (.goto 11, 3) := by decide +kernel
theorem dX11_tune_66 : decode cX11_tune 66 = .ok (.iload_n 3, 1) := by decide +kernel
theorem dX11_tune_67 : decode cX11_tune 67 = .ok (.iload 4, 2) := by decide +kernel
theorem dX11_tune_69 : decode cX11_tune 69 = .ok (.iconst 1, 1) := by decide +kernel
theorem dX11_tune_70 : decode cX11_tune 70 = .ok (.iadd, 1) := by decide +kernel
theorem dX11_tune_71 : decode cX11_tune 71 = .ok (.iconst 2, 1) := by decide +kernel
theorem dX11_tune_72 : decode cX11_tune 72 = .ok (.idiv, 1) := by decide +kernel
theorem dX11_tune_73 : decode cX11_tune 73 = .ok (.isub, 1) := by decide +kernel
theorem dX11_tune_74 : decode cX11_tune 74 = .ok (.istore 5, 2) := by decide +kernel
theorem dX11_tune_76 : decode cX11_tune 76 = .ok (.iload 5, 2) := by decide +kernel
theorem dX11_tune_78 : decode cX11_tune 78 = .ok (.ifCond .lt 61, 3) := by decide +kernel
theorem dX11_tune_81 : decode cX11_tune 81 = .ok (.iload 5, 2) := by decide +kernel
theorem dX11_tune_83 : decode cX11_tune 83 = .ok (.bipush 10, 2) := by decide +kernel
theorem dX11_tune_85 : decode cX11_tune 85 = .ok (.if_icmp .gt 54, 3) := by decide +kernel
theorem dX11_tune_88 : decode cX11_tune 88 = .ok (.aload_n 0, 1) := by decide +kernel
theorem dX11_tune_89 : decode cX11_tune 89 = .ok (.getfield 63, 3) := by decide +kernel
theorem dX11_tune_92 : decode cX11_tune 92 = .ok (.getfield 171, 3) := by decide +kernel
theorem dX11_tune_95 : decode cX11_tune 95 = .ok (.iload_n 1, 1) := by decide +kernel
theorem dX11_tune_96 : decode cX11_tune 96 = .ok (.iload 5, 2) := by decide +kernel
theorem dX11_tune_98 : decode cX11_tune 98 = .ok (.iastore, 1) := by decide +kernel
theorem dX11_tune_99 : decode cX11_tune 99 = .ok (.aload_n 0, 1) := by decide +kernel
theorem dX11_tune_100 : decode cX11_tune 100 = .ok (.getfield 69, 3) := by decide +kernel
theorem dX11_tune_103 : decode cX11_tune 103 = .ok (.aload_n 0, 1) := by decide +kernel
theorem dX11_tune_104 : decode cX11_tune 104 = .ok (.getfield 63, 3) := by decide +kernel
theorem dX11_tune_107 : decode cX11_tune 107 = .ok (.aload_n 0, 1) := by decide +kernel
theorem dX11_tune_108 : decode cX11_tune 108 = .ok (.getfield 89, 3) := by decide +kernel
theorem dX11_tune_111 : decode cX11_tune 111 = .ok (.iconst 1, 1) := by decide +kernel
theorem dX11_tune_112 : decode cX11_tune 112 = .ok (.iadd, 1) := by decide +kernel
theorem dX11_tune_113 : decode cX11_tune 113 = .ok (.invokevirtual 235, 3) := by decide +kernel
theorem dX11_tune_116 : decode cX11_tune 116 = .ok (.istore 6, 2) := by decide +kernel
theorem dX11_tune_118 : decode cX11_tune 118 = .ok (.iload 6, 2) := by decide +kernel
theorem dX11_tune_120 : decode cX11_tune 120 = .ok (.aload_n 0, 1) := by decide +kernel
theorem dX11_tune_121 : decode cX11_tune 121 = .ok (.getfield 89, 3) := by decide +kernel
theorem dX11_tune_124 : decode cX11_tune 124 = .ok (.if_icmp .gt 15, 3) := by decide +kernel
theorem dX11_tune_127 : decode cX11_tune 127 = .ok (.iload_n 2, 1) := by decide +kernel
theorem dX11_tune_128 : decode cX11_tune 128 = .ok (.ifCond .ne 8, 3) := by decide +kernel
theorem dX11_tune_131 : decode cX11_tune 131 = .ok (.iload 5, 2) := by decide +kernel
theorem dX11_tune_133 : decode cX11_tune 133 = .ok (.goto 5, 3) := by decide +kernel
theorem dX11_tune_136 : decode cX11_tune 136 = .ok (.iload 6, 2) := by decide +kernel
theorem dX11_tune_138 : decode cX11_tune 138 = .ok (.ireturn, 1) := by decide +kernel
theorem dX11_tune_139 : decode cX11_tune 139 = .ok (.iinc 4 1, 3) := by decide +kernel
theorem dX11_tune_142 : decode cX11_tune 142 = .ok (.goto (-99), 3) := by decide +kernel
theorem dX11_tune_145 : decode cX11_tune 145 = .ok (.iconst (-1), 1) := by decide +kernel
theorem dX11_tune_146 : decode cX11_tune 146 = .ok (.ireturn, 1) := by decide +kernel
theorem dX11_paid_0 : decode cX11_paid 0 = .ok (.aload_n 0, 1) := by decide +kernel
theorem dX11_paid_1 : decode cX11_paid 1 = .ok (.iload_n 1, 1) := by decide +kernel
theorem dX11_paid_2 : decode cX11_paid 2 = .ok (.invokevirtual 147, 3) := by decide +kernel
theorem dX11_paid_5 : decode cX11_paid 5 = .ok (.ifCond .ne 5, 3) := by decide +kernel
theorem dX11_paid_8 : decode cX11_paid 8 = .ok (.iconst (-1), 1) := by decide +kernel
theorem dX11_paid_9 : decode cX11_paid 9 = .ok (.ireturn, 1) := by decide +kernel
theorem dX11_paid_10 : decode cX11_paid 10 = .ok (.aload_n 0, 1) := by decide +kernel
theorem dX11_paid_11 : decode cX11_paid 11 = .ok (.getfield 63, 3) := by decide +kernel
theorem dX11_paid_14 : decode cX11_paid 14 = .ok (.aload_n 0, 1) := by decide +kernel
theorem dX11_paid_15 : decode cX11_paid 15 = .ok (.getfield 59, 3) := by decide +kernel
theorem dX11_paid_18 : decode cX11_paid 18 = .ok (.invokevirtual 289, 3) := by decide +kernel
theorem dX11_paid_21 : decode cX11_paid 21 = .ok (.aload_n 0, 1) := by decide +kernel
theorem dX11_paid_22 : decode cX11_paid 22 = .ok (.getfield 63, 3) := by decide +kernel
theorem dX11_paid_25 : decode cX11_paid 25 = .ok (.getfield 182, 3) := by decide +kernel
theorem dX11_paid_28 : decode cX11_paid 28 = .ok (.iconst 1, 1) := by decide +kernel
theorem dX11_paid_29 : decode cX11_paid 29 = .ok (.isub, 1) := by decide +kernel
theorem dX11_paid_30 : decode cX11_paid 30 = .ok (.istore_n 2, 1) := by decide +kernel
theorem dX11_paid_31 : decode cX11_paid 31 = .ok (.iconst 0, 1) := by decide +kernel
theorem dX11_paid_32 : decode cX11_paid 32 = .ok (.istore_n 3, 1) := by decide +kernel
theorem dX11_paid_33 : decode cX11_paid 33 = .ok (.iload_n 3, 1) := by decide +kernel
theorem dX11_paid_34 : decode cX11_paid 34 = .ok (.bipush 50, 2) := by decide +kernel
theorem dX11_paid_36 : decode cX11_paid 36 = .ok (.if_icmp .gt 47, 3) := by decide +kernel
theorem dX11_paid_39 : decode cX11_paid 39 = .ok (.aload_n 0, 1) := by decide +kernel
theorem dX11_paid_40 : decode cX11_paid 40 = .ok (.getfield 63, 3) := by decide +kernel
theorem dX11_paid_43 : decode cX11_paid 43 = .ok (.getfield 174, 3) := by decide +kernel
theorem dX11_paid_46 : decode cX11_paid 46 = .ok (.iload_n 1, 1) := by decide +kernel
theorem dX11_paid_47 : decode cX11_paid 47 = .ok (.iload_n 3, 1) := by decide +kernel
theorem dX11_paid_48 : decode cX11_paid 48 = .ok (.iastore, 1) := by decide +kernel
theorem dX11_paid_49 : decode cX11_paid 49 = .ok (.aload_n 0, 1) := by decide +kernel
theorem dX11_paid_50 : decode cX11_paid 50 = .ok (.getfield 69, 3) := by decide +kernel
theorem dX11_paid_53 : decode cX11_paid 53 = .ok (.aload_n 0, 1) := by decide +kernel
theorem dX11_paid_54 : decode cX11_paid 54 = .ok (.getfield 63, 3) := by decide +kernel
theorem dX11_paid_57 : decode cX11_paid 57 = .ok (.ldc 234, 2) := by decide +kernel
theorem dX11_paid_59 : decode cX11_paid 59 = .ok (.invokevirtual 235, 3) := by decide +kernel
theorem dX11_paid_62 : decode cX11_paid 62 = .ok (.pop, 1) := by decide +kernel
theorem dX11_paid_63 : decode cX11_paid 63 = .ok (.aload_n 0, 1) := by decide +kernel
theorem dX11_paid_64 : decode cX11_paid 64 = .ok (.getfield 69, 3) := by decide +kernel
theorem dX11_paid_67 : decode cX11_paid 67 = .ok (.iload_n 1, 1) := by decide +kernel
theorem dX11_paid_68 : decode cX11_paid 68 = .ok (.iload_n 2, 1) := by decide +kernel
theorem dX11_paid_69 : decode cX11_paid 69 = .ok (.invokevirtual 296, 3) := by decide +kernel
theorem dX11_paid_72 : decode cX11_paid 72 = .ok (.ifCond .eq 5, 3) := by decide +kernel
theorem dX11_paid_75 : decode cX11_paid 75 = .ok (.iload_n 3, 1) := by decide +kernel
theorem dX11_paid_76 : decode cX11_paid 76 = .ok (.ireturn, 1) := by decide +kernel
theorem dX11_paid_77 : decode cX11_paid 77 = .ok (.iinc 3 1, 3) := by decide +kernel
theorem dX11_paid_80 : decode cX11_paid 80 = .ok (.goto (-47), 3) := by decide +kernel
theorem dX11_paid_83 : decode cX11_paid 83 = .ok (.iconst (-1), 1) := by decide +kernel
theorem dX11_paid_84 : decode cX11_paid 84 = .ok (.ireturn, 1) := by decide +kernel
theorem dX11_marks_0 : decode cX11_marks 0 = .ok (.aload_n 0, 1) := by decide +kernel
theorem dX11_marks_1 : decode cX11_marks 1 = .ok (.iload_n 1, 1) := by decide +kernel
theorem dX11_marks_2 : decode cX11_marks 2 = .ok (.invokevirtual 252, 3) := by decide +kernel
theorem dX11_marks_5 : decode cX11_marks 5 = .ok (.ifCond .ne 5, 3) := by decide +kernel
theorem dX11_marks_8 : decode cX11_marks 8 = .ok (.iconst (-1), 1) := by decide +kernel
theorem dX11_marks_9 : decode cX11_marks 9 = .ok (.ireturn, 1) := by decide +kernel
theorem dX11_marks_10 : decode cX11_marks 10 = .ok (.aload_n 0, 1) := by decide +kernel
theorem dX11_marks_11 : decode cX11_marks 11 = .ok (.getfield 69, 3) := by decide +kernel
theorem dX11_marks_14 : decode cX11_marks 14 = .ok (.aload_n 0, 1) := by decide +kernel
theorem dX11_marks_15 : decode cX11_marks 15 = .ok (.getfield 59, 3) := by decide +kernel
theorem dX11_marks_18 : decode cX11_marks 18 = .ok (.ldc 234, 2) := by decide +kernel
theorem dX11_marks_20 : decode cX11_marks 20 = .ok (.invokevirtual 235, 3) := by decide +kernel
theorem dX11_marks_23 : decode cX11_marks 23 = .ok (.pop, 1) := by decide +kernel
theorem dX11_marks_24 : decode cX11_marks 24 = .ok (.aload_n 0, 1) := by decide +kernel
theorem dX11_marks_25 : decode cX11_marks 25 = .ok (.getfield 76, 3) := by decide +kernel
theorem dX11_marks_28 : decode cX11_marks 28 = .ok (.aload_n 0, 1) := by decide +kernel
theorem dX11_marks_29 : decode cX11_marks 29 = .ok (.getfield 69, 3) := by decide +kernel
theorem dX11_marks_32 : decode cX11_marks 32 = .ok (.aload_n 0, 1) := by decide +kernel
theorem dX11_marks_33 : decode cX11_marks 33 = .ok (.getfield 59, 3) := by decide +kernel
theorem dX11_marks_36 : decode cX11_marks 36 = .ok (.aload_n 0, 1) := by decide +kernel
theorem dX11_marks_37 : decode cX11_marks 37 = .ok (.getfield 89, 3) := by decide +kernel
theorem dX11_marks_40 : decode cX11_marks 40 = .ok (.invokevirtual 300, 3) := by decide +kernel
theorem dX11_marks_43 : decode cX11_marks 43 = .ok (.ifCond .ne 5, 3) := by decide +kernel
theorem dX11_marks_46 : decode cX11_marks 46 = .ok (.iconst (-1), 1) := by decide +kernel
theorem dX11_marks_47 : decode cX11_marks 47 = .ok (.ireturn, 1) := by decide +kernel
theorem dX11_marks_48 : decode cX11_marks 48 = .ok (.iload_n 1, 1) := by decide +kernel
theorem dX11_marks_49 : decode cX11_marks 49 = .ok (.ifCond .ne 13, 3) := by decide +kernel
theorem dX11_marks_52 : decode cX11_marks 52 = .ok (.aload_n 0, 1) := by decide +kernel
theorem dX11_marks_53 : decode cX11_marks 53 = .ok (.getfield 76, 3) := by decide +kernel
theorem dX11_marks_56 : decode cX11_marks 56 = .ok (.getfield 304, 3) := by decide +kernel
theorem dX11_marks_59 : decode cX11_marks 59 = .ok (.goto 10, 3) := by decide +kernel
theorem dX11_marks_62 : decode cX11_marks 62 = .ok (.aload_n 0, 1) := by decide +kernel
theorem dX11_marks_63 : decode cX11_marks 63 = .ok (.getfield 76, 3) := by decide +kernel
theorem dX11_marks_66 : decode cX11_marks 66 = .ok (.getfield 307, 3) := by decide +kernel
theorem dX11_marks_69 : decode cX11_marks 69 = .ok (.ireturn, 1) := by decide +kernel
theorem dX11_week_0 : decode cX11_week 0 = .ok (.aload_n 0, 1) := by decide +kernel
theorem dX11_week_1 : decode cX11_week 1 = .ok (.iload_n 1, 1) := by decide +kernel
theorem dX11_week_2 : decode cX11_week 2 = .ok (.invokevirtual 252, 3) := by decide +kernel
theorem dX11_week_5 : decode cX11_week 5 = .ok (.ifCond .eq 19, 3) := by decide +kernel
theorem dX11_week_8 : decode cX11_week 8 = .ok (.aload_n 0, 1) := by decide +kernel
theorem dX11_week_9 : decode cX11_week 9 = .ok (.getfield 48, 3) := by decide +kernel
theorem dX11_week_12 : decode cX11_week 12 = .ok (.getfield 205, 3) := by decide +kernel
theorem dX11_week_15 : decode cX11_week 15 = .ok (.bipush 6, 2) := by decide +kernel
theorem dX11_week_17 : decode cX11_week 17 = .ok (.iadd, 1) := by decide +kernel
theorem dX11_week_18 : decode cX11_week 18 = .ok (.sipush 1000, 3) := by decide +kernel
theorem dX11_week_21 : decode cX11_week 21 = .ok (.if_icmp .le 5, 3) := by decide +kernel
theorem dX11_week_24 : decode cX11_week 24 = .ok (.iconst (-1), 1) := by decide +kernel
theorem dX11_week_25 : decode cX11_week 25 = .ok (.ireturn, 1) := by decide +kernel
theorem dX11_week_26 : decode cX11_week 26 = .ok (.aload_n 0, 1) := by decide +kernel
theorem dX11_week_27 : decode cX11_week 27 = .ok (.getfield 85, 3) := by decide +kernel
theorem dX11_week_30 : decode cX11_week 30 = .ok (.getfield 143, 3) := by decide +kernel
theorem dX11_week_33 : decode cX11_week 33 = .ok (.ifCond .ne 54, 3) := by decide +kernel
theorem dX11_week_36 : decode cX11_week 36 = .ok (.iconst 0, 1) := by decide +kernel
theorem dX11_week_37 : decode cX11_week 37 = .ok (.istore_n 2, 1) := by decide +kernel
theorem dX11_week_38 : decode cX11_week 38 = .ok (.iload_n 2, 1) := by decide +kernel
theorem dX11_week_39 : decode cX11_week 39 = .ok (.bipush 6, 2) := by decide +kernel
theorem dX11_week_41 : decode cX11_week 41 = .ok (.if_icmp .ge 31, 3) := by decide +kernel
theorem dX11_week_44 : decode cX11_week 44 = .ok (.aload_n 0, 1) := by decide +kernel
theorem dX11_week_45 : decode cX11_week 45 = .ok (.getfield 85, 3) := by decide +kernel
theorem dX11_week_48 : decode cX11_week 48 = .ok (.getfield 310, 3) := by decide +kernel
theorem dX11_week_51 : decode cX11_week 51 = .ok (.iload_n 2, 1) := by decide +kernel
theorem dX11_week_52 : decode cX11_week 52 = .ok (.aload_n 0, 1) := by decide +kernel
theorem dX11_week_53 : decode cX11_week 53 = .ok (.aload_n 0, 1) := by decide +kernel
theorem dX11_week_54 : decode cX11_week 54 = .ok (.getfield 48, 3) := by decide +kernel
theorem dX11_week_57 : decode cX11_week 57 = .ok (.getfield 205, 3) := by decide +kernel
theorem dX11_week_60 : decode cX11_week 60 = .ok (.iload_n 2, 1) := by decide +kernel
theorem dX11_week_61 : decode cX11_week 61 = .ok (.iadd, 1) := by decide +kernel
theorem dX11_week_62 : decode cX11_week 62 = .ok (.invokevirtual 199, 3) := by decide +kernel
theorem dX11_week_65 : decode cX11_week 65 = .ok (.iastore, 1) := by decide +kernel
theorem dX11_week_66 : decode cX11_week 66 = .ok (.iinc 2 1, 3) := by decide +kernel
theorem dX11_week_69 : decode cX11_week 69 = .ok (.goto (-31), 3) := by decide +kernel
theorem dX11_week_72 : decode cX11_week 72 = .ok (.aload_n 0, 1) := by decide +kernel
theorem dX11_week_73 : decode cX11_week 73 = .ok (.getfield 85, 3) := by decide +kernel
theorem dX11_week_76 : decode cX11_week 76 = .ok (.aload_n 0, 1) := by decide +kernel
theorem dX11_week_77 : decode cX11_week 77 = .ok (.getfield 35, 3) := by decide +kernel
theorem dX11_week_80 : decode cX11_week 80 = .ok (.aload_n 0, 1) := by decide +kernel
theorem dX11_week_81 : decode cX11_week 81 = .ok (.getfield 59, 3) := by decide +kernel
theorem dX11_week_84 : decode cX11_week 84 = .ok (.invokevirtual 313, 3) := by decide +kernel
theorem dX11_week_87 : decode cX11_week 87 = .ok (.iload_n 1, 1) := by decide +kernel
theorem dX11_week_88 : decode cX11_week 88 = .ok (.ifCond .ne 13, 3) := by decide +kernel
theorem dX11_week_91 : decode cX11_week 91 = .ok (.aload_n 0, 1) := by decide +kernel
theorem dX11_week_92 : decode cX11_week 92 = .ok (.getfield 85, 3) := by decide +kernel
theorem dX11_week_95 : decode cX11_week 95 = .ok (.getfield 316, 3) := by decide +kernel
theorem dX11_week_98 : decode cX11_week 98 = .ok (.goto 10, 3) := by decide +kernel
theorem dX11_week_101 : decode cX11_week 101 = .ok (.aload_n 0, 1) := by decide +kernel
theorem dX11_week_102 : decode cX11_week 102 = .ok (.getfield 85, 3) := by decide +kernel
theorem dX11_week_105 : decode cX11_week 105 = .ok (.getfield 319, 3) := by decide +kernel
theorem dX11_week_108 : decode cX11_week 108 = .ok (.ireturn, 1) := by decide +kernel
theorem dX11_gift_0 : decode cX11_gift 0 = .ok (.aload_n 0, 1) := by decide +kernel
theorem dX11_gift_1 : decode cX11_gift 1 = .ok (.iload_n 1, 1) := by decide +kernel
theorem dX11_gift_2 : decode cX11_gift 2 = .ok (.invokevirtual 252, 3) := by decide +kernel
theorem dX11_gift_5 : decode cX11_gift 5 = .ok (.ifCond .eq 16, 3) := by decide +kernel
theorem dX11_gift_8 : decode cX11_gift 8 = .ok (.aload_n 0, 1) := by decide +kernel
theorem dX11_gift_9 : decode cX11_gift 9 = .ok (.getfield 48, 3) := by decide +kernel
theorem dX11_gift_12 : decode cX11_gift 12 = .ok (.getfield 205, 3) := by decide +kernel
theorem dX11_gift_15 : decode cX11_gift 15 = .ok (.sipush 999, 3) := by decide +kernel
theorem dX11_gift_18 : decode cX11_gift 18 = .ok (.if_icmp .le 5, 3) := by decide +kernel
theorem dX11_gift_21 : decode cX11_gift 21 = .ok (.iconst (-1), 1) := by decide +kernel
theorem dX11_gift_22 : decode cX11_gift 22 = .ok (.ireturn, 1) := by decide +kernel
theorem dX11_gift_23 : decode cX11_gift 23 = .ok (.aload_n 0, 1) := by decide +kernel
theorem dX11_gift_24 : decode cX11_gift 24 = .ok (.aload_n 0, 1) := by decide +kernel
theorem dX11_gift_25 : decode cX11_gift 25 = .ok (.getfield 48, 3) := by decide +kernel
theorem dX11_gift_28 : decode cX11_gift 28 = .ok (.getfield 205, 3) := by decide +kernel
theorem dX11_gift_31 : decode cX11_gift 31 = .ok (.invokevirtual 199, 3) := by decide +kernel
theorem dX11_gift_34 : decode cX11_gift 34 = .ok (.istore_n 2, 1) := by decide +kernel
theorem dX11_gift_35 : decode cX11_gift 35 = .ok (.aload_n 0, 1) := by decide +kernel
theorem dX11_gift_36 : decode cX11_gift 36 = .ok (.getfield 63, 3) := by decide +kernel
theorem dX11_gift_39 : decode cX11_gift 39 = .ok (.aload_n 0, 1) := by decide +kernel
theorem dX11_gift_40 : decode cX11_gift 40 = .ok (.getfield 59, 3) := by decide +kernel
theorem dX11_gift_43 : decode cX11_gift 43 = .ok (.invokevirtual 289, 3) := by decide +kernel
theorem dX11_gift_46 : decode cX11_gift 46 = .ok (.ldc 234, 2) := by decide +kernel
theorem dX11_gift_48 : decode cX11_gift 48 = .ok (.istore_n 3, 1) := by decide +kernel
theorem dX11_gift_49 : decode cX11_gift 49 = .ok (.iconst 0, 1) := by decide +kernel
theorem dX11_gift_50 : decode cX11_gift 50 = .ok (.istore 4, 2) := by decide +kernel
theorem dX11_gift_52 : decode cX11_gift 52 = .ok (.iconst 0, 1) := by decide +kernel
theorem dX11_gift_53 : decode cX11_gift 53 = .ok (.istore 5, 2) := by decide +kernel
theorem dX11_gift_55 : decode cX11_gift 55 = .ok (.iload 5, 2) := by decide +kernel
theorem dX11_gift_57 : decode cX11_gift 57 = .ok (.aload_n 0, 1) := by decide +kernel
theorem dX11_gift_58 : decode cX11_gift 58 = .ok (.getfield 35, 3) := by decide +kernel
theorem dX11_gift_61 : decode cX11_gift 61 = .ok (.getfield 115, 3) := by decide +kernel
theorem dX11_gift_64 : decode cX11_gift 64 = .ok (.if_icmp .ge 74, 3) := by decide +kernel
theorem dX11_gift_67 : decode cX11_gift 67 = .ok (.aload_n 0, 1) := by decide +kernel
theorem dX11_gift_68 : decode cX11_gift 68 = .ok (.getfield 59, 3) := by decide +kernel
theorem dX11_gift_71 : decode cX11_gift 71 = .ok (.getfield 158, 3) := by decide +kernel
theorem dX11_gift_74 : decode cX11_gift 74 = .ok (.iconst 0, 1) := by decide +kernel
theorem dX11_gift_75 : decode cX11_gift 75 = .ok (.aload_n 0, 1) := by decide +kernel
theorem dX11_gift_76 : decode cX11_gift 76 = .ok (.getfield 63, 3) := by decide +kernel
theorem dX11_gift_79 : decode cX11_gift 79 = .ok (.getfield 158, 3) := by decide +kernel
theorem dX11_gift_82 : decode cX11_gift 82 = .ok (.iconst 0, 1) := by decide +kernel
theorem dX11_gift_83 : decode cX11_gift 83 = .ok (.bipush 6, 2) := by decide +kernel
theorem dX11_gift_85 : decode cX11_gift 85 = .ok (.invokestatic 322, 3) := by decide +kernel
theorem dX11_gift_88 : decode cX11_gift 88 = .ok (.aload_n 0, 1) := by decide +kernel
theorem dX11_gift_89 : decode cX11_gift 89 = .ok (.getfield 35, 3) := by decide +kernel
theorem dX11_gift_92 : decode cX11_gift 92 = .ok (.aload_n 0, 1) := by decide +kernel
theorem dX11_gift_93 : decode cX11_gift 93 = .ok (.getfield 63, 3) := by decide +kernel
theorem dX11_gift_96 : decode cX11_gift 96 = .ok (.getfield 158, 3) := by decide +kernel
theorem dX11_gift_99 : decode cX11_gift 99 = .ok (.iload 5, 2) := by decide +kernel
theorem dX11_gift_101 : decode cX11_gift 101 = .ok (.iload_n 2, 1) := by decide +kernel
theorem dX11_gift_102 : decode cX11_gift 102 = .ok (.invokevirtual 212, 3) := by decide +kernel
theorem dX11_gift_105 : decode cX11_gift 105 = .ok (.aload_n 0, 1) := by decide +kernel
theorem dX11_gift_106 : decode cX11_gift 106 = .ok (.getfield 69, 3) := by decide +kernel
theorem dX11_gift_109 : decode cX11_gift 109 = .ok (.aload_n 0, 1) := by decide +kernel
theorem dX11_gift_110 : decode cX11_gift 110 = .ok (.getfield 63, 3) := by decide +kernel
theorem dX11_gift_113 : decode cX11_gift 113 = .ok (.iload_n 3, 1) := by decide +kernel
theorem dX11_gift_114 : decode cX11_gift 114 = .ok (.invokevirtual 235, 3) := by decide +kernel
theorem dX11_gift_117 : decode cX11_gift 117 = .ok (.istore 6, 2) := by decide +kernel
theorem dX11_gift_119 : decode cX11_gift 119 = .ok (.iload 6, 2) := by decide +kernel
theorem dX11_gift_121 : decode cX11_gift 121 = .ok (.iload_n 3, 1) := by decide +kernel
theorem dX11_gift_122 : decode cX11_gift 122 = .ok (.if_icmp .ge 10, 3) := by decide +kernel
theorem dX11_gift_125 : decode cX11_gift 125 = .ok (.iload 6, 2) := by decide +kernel
theorem dX11_gift_127 : decode cX11_gift 127 = .ok (.istore_n 3, 1) := by decide +kernel
theorem dX11_gift_128 : decode cX11_gift 128 = .ok (.iload 5, 2) := by decide +kernel
theorem dX11_gift_130 : decode cX11_gift 130 = .ok (.istore 4, 2) := by decide +kernel
theorem dX11_gift_132 : decode cX11_gift 132 = .ok (.iinc 5 1, 3) := by decide +kernel
theorem dX11_gift_135 : decode cX11_gift 135 = .ok (.goto (-80), 3) := by decide +kernel
theorem dX11_gift_138 : decode cX11_gift 138 = .ok (.iload_n 1, 1) := by decide +kernel
theorem dX11_gift_139 : decode cX11_gift 139 = .ok (.ifCond .ne 8, 3) := by decide +kernel
theorem dX11_gift_142 : decode cX11_gift 142 = .ok (.iload 4, 2) := by decide +kernel
theorem dX11_gift_144 : decode cX11_gift 144 = .ok (.goto 4, 3) := by decide +kernel
theorem dX11_gift_147 : decode cX11_gift 147 = .ok (.iload_n 3, 1) := by decide +kernel
theorem dX11_gift_148 : decode cX11_gift 148 = .ok (.ireturn, 1) := by decide +kernel
theorem dX11_odds_0 : decode cX11_odds 0 = .ok (.aload_n 0, 1) := by decide +kernel
theorem dX11_odds_1 : decode cX11_odds 1 = .ok (.iload_n 1, 1) := by decide +kernel
theorem dX11_odds_2 : decode cX11_odds 2 = .ok (.invokevirtual 147, 3) := by decide +kernel
theorem dX11_odds_5 : decode cX11_odds 5 = .ok (.ifCond .eq 14, 3) := by decide +kernel
theorem dX11_odds_8 : decode cX11_odds 8 = .ok (.iload_n 2, 1) := by decide +kernel
theorem dX11_odds_9 : decode cX11_odds 9 = .ok (.iconst 1, 1) := by decide +kernel
theorem dX11_odds_10 : decode cX11_odds 10 = .ok (.if_icmp .lt 9, 3) := by decide +kernel
theorem dX11_odds_13 : decode cX11_odds 13 = .ok (.iload_n 2, 1) := by decide +kernel
theorem dX11_odds_14 : decode cX11_odds 14 = .ok (.bipush 6, 2) := by decide +kernel
theorem dX11_odds_16 : decode cX11_odds 16 = .ok (.if_icmp .le 5, 3) := by decide +kernel
theorem dX11_odds_19 : decode cX11_odds 19 = .ok (.iconst (-1), 1) := by decide +kernel
theorem dX11_odds_20 : decode cX11_odds 20 = .ok (.ireturn, 1) := by decide +kernel
theorem dX11_odds_21 : decode cX11_odds 21 = .ok (.aload_n 0, 1) := by decide +kernel
theorem dX11_odds_22 : decode cX11_odds 22 = .ok (.getfield 63, 3) := by decide +kernel
theorem dX11_odds_25 : decode cX11_odds 25 = .ok (.aload_n 0, 1) := by decide +kernel
theorem dX11_odds_26 : decode cX11_odds 26 = .ok (.getfield 59, 3) := by decide +kernel
theorem dX11_odds_29 : decode cX11_odds 29 = .ok (.invokevirtual 289, 3) := by decide +kernel
theorem dX11_odds_32 : decode cX11_odds 32 = .ok (.iconst 0, 1) := by decide +kernel
theorem dX11_odds_33 : decode cX11_odds 33 = .ok (.istore_n 3, 1) := by decide +kernel
theorem dX11_odds_34 : decode cX11_odds 34 = .ok (.iconst 0, 1) := by decide +kernel
theorem dX11_odds_35 : decode cX11_odds 35 = .ok (.istore 4, 2) := by decide +kernel
theorem dX11_odds_37 : decode cX11_odds 37 = .ok (.iload 4, 2) := by decide +kernel
theorem dX11_odds_39 : decode cX11_odds 39 = .ok (.iconst 2, 1) := by decide +kernel
theorem dX11_odds_40 : decode cX11_odds 40 = .ok (.iload_n 2, 1) := by decide +kernel
theorem dX11_odds_41 : decode cX11_odds 41 = .ok (.imul, 1) := by decide +kernel
theorem dX11_odds_42 : decode cX11_odds 42 = .ok (.if_icmp .gt 105, 3) := by decide +kernel
theorem dX11_odds_45 : decode cX11_odds 45 = .ok (.iconst 0, 1) := by decide +kernel
theorem dX11_odds_46 : decode cX11_odds 46 = .ok (.istore 5, 2) := by decide +kernel
theorem dX11_odds_48 : decode cX11_odds 48 = .ok (.iload 5, 2) := by decide +kernel
theorem dX11_odds_50 : decode cX11_odds 50 = .ok (.aload_n 0, 1) := by decide +kernel
theorem dX11_odds_51 : decode cX11_odds 51 = .ok (.getfield 35, 3) := by decide +kernel
theorem dX11_odds_54 : decode cX11_odds 54 = .ok (.getfield 115, 3) := by decide +kernel
theorem dX11_odds_57 : decode cX11_odds 57 = .ok (.if_icmp .ge 41, 3) := by decide +kernel
theorem dX11_odds_60 : decode cX11_odds 60 = .ok (.aload_n 0, 1) := by decide +kernel
theorem dX11_odds_61 : decode cX11_odds 61 = .ok (.getfield 63, 3) := by decide +kernel
theorem dX11_odds_64 : decode cX11_odds 64 = .ok (.getfield 158, 3) := by decide +kernel
theorem dX11_odds_67 : decode cX11_odds 67 = .ok (.iload 5, 2) := by decide +kernel
theorem dX11_odds_69 : decode cX11_odds 69 = .ok (.aload_n 0, 1) := by decide +kernel
theorem dX11_odds_70 : decode cX11_odds 70 = .ok (.getfield 35, 3) := by decide +kernel
theorem dX11_odds_73 : decode cX11_odds 73 = .ok (.iload 5, 2) := by decide +kernel
theorem dX11_odds_75 : decode cX11_odds 75 = .ok (.aload_n 0, 1) := by decide +kernel
theorem dX11_odds_76 : decode cX11_odds 76 = .ok (.getfield 59, 3) := by decide +kernel
theorem dX11_odds_79 : decode cX11_odds 79 = .ok (.getfield 158, 3) := by decide +kernel
theorem dX11_odds_82 : decode cX11_odds 82 = .ok (.iload 5, 2) := by decide +kernel
theorem dX11_odds_84 : decode cX11_odds 84 = .ok (.iaload, 1) := by decide +kernel
theorem dX11_odds_85 : decode cX11_odds 85 = .ok (.iload_n 2, 1) := by decide +kernel
theorem dX11_odds_86 : decode cX11_odds 86 = .ok (.iload 4, 2) := by decide +kernel
theorem dX11_odds_88 : decode cX11_odds 88 = .ok (.invokevirtual 328, 3) := by decide +kernel
theorem dX11_odds_91 : decode cX11_odds 91 = .ok (.iastore, 1) := by decide +kernel
theorem dX11_odds_92 : decode cX11_odds 92 = .ok (.iinc 5 1, 3) := by decide +kernel
theorem dX11_odds_95 : decode cX11_odds 95 = .ok (.goto (-47), 3) := by decide +kernel
theorem dX11_odds_98 : decode cX11_odds 98 = .ok (.aload_n 0, 1) := by decide +kernel
theorem dX11_odds_99 : decode cX11_odds 99 = .ok (.getfield 69, 3) := by decide +kernel
theorem dX11_odds_102 : decode cX11_odds 102 = .ok (.aload_n 0, 1) := by decide +kernel
theorem dX11_odds_103 : decode cX11_odds 103 = .ok (.getfield 63, 3) := by decide +kernel
theorem dX11_odds_106 : decode cX11_odds 106 = .ok (.ldc 234, 2) := by decide +kernel
theorem dX11_odds_108 : decode cX11_odds 108 = .ok (.invokevirtual 235, 3) := by decide +kernel
theorem dX11_odds_111 : decode cX11_odds 111 = .ok (.pop, 1) := by decide +kernel
theorem dX11_odds_112 : decode cX11_odds 112 = .ok (.aload_n 0, 1) := by decide +kernel
theorem dX11_odds_113 : decode cX11_odds 113 = .ok (.getfield 69, 3) := by decide +kernel
theorem dX11_odds_116 : decode cX11_odds 116 = .ok (.aload_n 0, 1) := by decide +kernel
theorem dX11_odds_117 : decode cX11_odds 117 = .ok (.getfield 63, 3) := by decide +kernel
theorem dX11_odds_120 : decode cX11_odds 120 = .ok (.getfield 182, 3) := by decide +kernel
theorem dX11_odds_123 : decode cX11_odds 123 = .ok (.iconst 1, 1) := by decide +kernel
theorem dX11_odds_124 : decode cX11_odds 124 = .ok (.isub, 1) := by decide +kernel
theorem dX11_odds_125 : decode cX11_odds 125 = .ok (.invokevirtual 258, 3) := by decide +kernel
theorem dX11_odds_128 : decode cX11_odds 128 = .ok (.iload_n 1, 1) := by decide +kernel
theorem dX11_odds_129 : decode cX11_odds 129 = .ok (.if_icmp .ne 12, 3) := by decide +kernel
theorem dX11_odds_132 : decode cX11_odds 132 = .ok (.iload_n 3, 1) := by decide +kernel
theorem dX11_odds_133 : decode cX11_odds 133 = .ok (.iload_n 2, 1) := by decide +kernel
theorem dX11_odds_134 : decode cX11_odds 134 = .ok (.iload 4, 2) := by decide +kernel
theorem dX11_odds_136 : decode cX11_odds 136 = .ok (.invokestatic 332, 3) := by decide +kernel
theorem dX11_odds_139 : decode cX11_odds 139 = .ok (.iadd, 1) := by decide +kernel
theorem dX11_odds_140 : decode cX11_odds 140 = .ok (.istore_n 3, 1) := by decide +kernel
theorem dX11_odds_141 : decode cX11_odds 141 = .ok (.iinc 4 1, 3) := by decide +kernel
theorem dX11_odds_144 : decode cX11_odds 144 = .ok (.goto (-107), 3) := by decide +kernel
theorem dX11_odds_147 : decode cX11_odds 147 = .ok (.iload_n 3, 1) := by decide +kernel
theorem dX11_odds_148 : decode cX11_odds 148 = .ok (.ireturn, 1) := by decide +kernel
theorem dX11_rowsWithSum_0 : decode cX11_rowsWithSum 0 = .ok (.iload_n 1, 1) := by decide +kernel
theorem dX11_rowsWithSum_1 : decode cX11_rowsWithSum 1 = .ok (.ifCond .lt 10, 3) := by decide +kernel
theorem dX11_rowsWithSum_4 : decode cX11_rowsWithSum 4 = .ok (.iload_n 1, 1) := by decide +kernel
theorem dX11_rowsWithSum_5 : decode cX11_rowsWithSum 5 = .ok (.iconst 2, 1) := by decide +kernel
theorem dX11_rowsWithSum_6 : decode cX11_rowsWithSum 6 = .ok (.iload_n 0, 1) := by decide +kernel
theorem dX11_rowsWithSum_7 : decode cX11_rowsWithSum 7 = .ok (.imul, 1) := by decide +kernel
theorem dX11_rowsWithSum_8 : decode cX11_rowsWithSum 8 = .ok (.if_icmp .le 5, 3) := by decide +kernel
theorem dX11_rowsWithSum_11 : decode cX11_rowsWithSum 11 = .ok (.iconst 0, 1) := by decide +kernel
theorem dX11_rowsWithSum_12 : decode cX11_rowsWithSum 12 = .ok (.ireturn, 1) := by decide +kernel
theorem dX11_rowsWithSum_13 : decode cX11_rowsWithSum 13 = .ok (.iload_n 0, 1) := by decide +kernel
theorem dX11_rowsWithSum_14 : decode cX11_rowsWithSum 14 = .ok (.ifCond .gt 5, 3) := by decide +kernel
theorem dX11_rowsWithSum_17 : decode cX11_rowsWithSum 17 = .ok (.iconst 1, 1) := by decide +kernel
theorem dX11_rowsWithSum_18 : decode cX11_rowsWithSum 18 = .ok (.ireturn, 1) := by decide +kernel
theorem dX11_rowsWithSum_19 : decode cX11_rowsWithSum 19 = .ok (.iload_n 0, 1) := by decide +kernel
theorem dX11_rowsWithSum_20 : decode cX11_rowsWithSum 20 = .ok (.iconst 1, 1) := by decide +kernel
theorem dX11_rowsWithSum_21 : decode cX11_rowsWithSum 21 = .ok (.isub, 1) := by decide +kernel
theorem dX11_rowsWithSum_22 : decode cX11_rowsWithSum 22 = .ok (.iload_n 1, 1) := by decide +kernel
theorem dX11_rowsWithSum_23 : decode cX11_rowsWithSum 23 = .ok (.invokestatic 332, 3) := by decide +kernel
theorem dX11_rowsWithSum_26 : decode cX11_rowsWithSum 26 = .ok (.iload_n 0, 1) := by decide +kernel
theorem dX11_rowsWithSum_27 : decode cX11_rowsWithSum 27 = .ok (.iconst 1, 1) := by decide +kernel
theorem dX11_rowsWithSum_28 : decode cX11_rowsWithSum 28 = .ok (.isub, 1) := by decide +kernel
theorem dX11_rowsWithSum_29 : decode cX11_rowsWithSum 29 = .ok (.iload_n 1, 1) := by decide +kernel
theorem dX11_rowsWithSum_30 : decode cX11_rowsWithSum 30 = .ok (.iconst 1, 1) := by decide +kernel
theorem dX11_rowsWithSum_31 : decode cX11_rowsWithSum 31 = .ok (.isub, 1) := by decide +kernel
theorem dX11_rowsWithSum_32 : decode cX11_rowsWithSum 32 = .ok (.invokestatic 332, 3) := by decide +kernel
theorem dX11_rowsWithSum_35 : decode cX11_rowsWithSum 35 = .ok (.iadd, 1) := by decide +kernel
theorem dX11_rowsWithSum_36 : decode cX11_rowsWithSum 36 = .ok (.iload_n 0, 1) := by decide +kernel
theorem dX11_rowsWithSum_37 : decode cX11_rowsWithSum 37 = .ok (.iconst 1, 1) := by decide +kernel
theorem dX11_rowsWithSum_38 : decode cX11_rowsWithSum 38 = .ok (.isub, 1) := by decide +kernel
theorem dX11_rowsWithSum_39 : decode cX11_rowsWithSum 39 = .ok (.iload_n 1, 1) := by decide +kernel
theorem dX11_rowsWithSum_40 : decode cX11_rowsWithSum 40 = .ok (.iconst 2, 1) := by decide +kernel
theorem dX11_rowsWithSum_41 : decode cX11_rowsWithSum 41 = .ok (.isub, 1) := by decide +kernel
theorem dX11_rowsWithSum_42 : decode cX11_rowsWithSum 42 = .ok (.invokestatic 332, 3) := by decide +kernel
theorem dX11_rowsWithSum_45 : decode cX11_rowsWithSum 45 = .ok (.iadd, 1) := by decide +kernel
theorem dX11_rowsWithSum_46 : decode cX11_rowsWithSum 46 = .ok (.ireturn, 1) := by decide +kernel
theorem dX11_count_0 : decode cX11_count 0 = .ok (.iload_n 1, 1) := by decide +kernel
theorem dX11_count_1 : decode cX11_count 1 = .ok (.tableswitch 147 0 11 #[63, 71, 79, 84, 92, 100, 105, 113, 121, 126, 134, 139], 63) := by decide +kernel
theorem dX11_count_64 : decode cX11_count 64 = .ok (.aload_n 0, 1) := by decide +kernel
theorem dX11_count_65 : decode cX11_count 65 = .ok (.getfield 35, 3) := by decide +kernel
theorem dX11_count_68 : decode cX11_count 68 = .ok (.getfield 115, 3) := by decide +kernel
theorem dX11_count_71 : decode cX11_count 71 = .ok (.ireturn, 1) := by decide +kernel
theorem dX11_count_72 : decode cX11_count 72 = .ok (.aload_n 0, 1) := by decide +kernel
theorem dX11_count_73 : decode cX11_count 73 = .ok (.getfield 35, 3) := by decide +kernel
theorem dX11_count_76 : decode cX11_count 76 = .ok (.getfield 335, 3) := by decide +kernel
theorem dX11_count_79 : decode cX11_count 79 = .ok (.ireturn, 1) := by decide +kernel
theorem dX11_count_80 : decode cX11_count 80 = .ok (.aload_n 0, 1) := by decide +kernel
theorem dX11_count_81 : decode cX11_count 81 = .ok (.getfield 118, 3) := by decide +kernel
theorem dX11_count_84 : decode cX11_count 84 = .ok (.ireturn, 1) := by decide +kernel
theorem dX11_count_85 : decode cX11_count 85 = .ok (.aload_n 0, 1) := by decide +kernel
theorem dX11_count_86 : decode cX11_count 86 = .ok (.getfield 10, 3) := by decide +kernel
theorem dX11_count_89 : decode cX11_count 89 = .ok (.getfield 100, 3) := by decide +kernel
theorem dX11_count_92 : decode cX11_count 92 = .ok (.ireturn, 1) := by decide +kernel
theorem dX11_count_93 : decode cX11_count 93 = .ok (.aload_n 0, 1) := by decide +kernel
theorem dX11_count_94 : decode cX11_count 94 = .ok (.getfield 48, 3) := by decide +kernel
theorem dX11_count_97 : decode cX11_count 97 = .ok (.getfield 205, 3) := by decide +kernel
theorem dX11_count_100 : decode cX11_count 100 = .ok (.ireturn, 1) := by decide +kernel
theorem dX11_count_101 : decode cX11_count 101 = .ok (.aload_n 0, 1) := by decide +kernel
theorem dX11_count_102 : decode cX11_count 102 = .ok (.getfield 93, 3) := by decide +kernel
theorem dX11_count_105 : decode cX11_count 105 = .ok (.ireturn, 1) := by decide +kernel
theorem dX11_count_106 : decode cX11_count 106 = .ok (.aload_n 0, 1) := by decide +kernel
theorem dX11_count_107 : decode cX11_count 107 = .ok (.getfield 59, 3) := by decide +kernel
theorem dX11_count_110 : decode cX11_count 110 = .ok (.getfield 182, 3) := by decide +kernel
theorem dX11_count_113 : decode cX11_count 113 = .ok (.ireturn, 1) := by decide +kernel
theorem dX11_count_114 : decode cX11_count 114 = .ok (.aload_n 0, 1) := by decide +kernel
theorem dX11_count_115 : decode cX11_count 115 = .ok (.getfield 59, 3) := by decide +kernel
theorem dX11_count_118 : decode cX11_count 118 = .ok (.getfield 185, 3) := by decide +kernel
theorem dX11_count_121 : decode cX11_count 121 = .ok (.ireturn, 1) := by decide +kernel
theorem dX11_count_122 : decode cX11_count 122 = .ok (.aload_n 0, 1) := by decide +kernel
theorem dX11_count_123 : decode cX11_count 123 = .ok (.getfield 89, 3) := by decide +kernel
theorem dX11_count_126 : decode cX11_count 126 = .ok (.ireturn, 1) := by decide +kernel
theorem dX11_count_127 : decode cX11_count 127 = .ok (.aload_n 0, 1) := by decide +kernel
theorem dX11_count_128 : decode cX11_count 128 = .ok (.getfield 59, 3) := by decide +kernel
theorem dX11_count_131 : decode cX11_count 131 = .ok (.getfield 196, 3) := by decide +kernel
theorem dX11_count_134 : decode cX11_count 134 = .ok (.ireturn, 1) := by decide +kernel
theorem dX11_count_135 : decode cX11_count 135 = .ok (.aload_n 0, 1) := by decide +kernel
theorem dX11_count_136 : decode cX11_count 136 = .ok (.getfield 137, 3) := by decide +kernel
theorem dX11_count_139 : decode cX11_count 139 = .ok (.ireturn, 1) := by decide +kernel
theorem dX11_count_140 : decode cX11_count 140 = .ok (.aload_n 0, 1) := by decide +kernel
theorem dX11_count_141 : decode cX11_count 141 = .ok (.getfield 48, 3) := by decide +kernel
theorem dX11_count_144 : decode cX11_count 144 = .ok (.getfield 216, 3) := by decide +kernel
theorem dX11_count_147 : decode cX11_count 147 = .ok (.ireturn, 1) := by decide +kernel
theorem dX11_count_148 : decode cX11_count 148 = .ok (.ldc 188, 2) := by decide +kernel
theorem dX11_count_150 : decode cX11_count 150 = .ok (.ireturn, 1) := by decide +kernel
theorem dX11_held_0 : decode cX11_held 0 = .ok (.iload_n 0, 1) := by decide +kernel
theorem dX11_held_1 : decode cX11_held 1 = .ok (.iload_n 1, 1) := by decide +kernel
theorem dX11_held_2 : decode cX11_held 2 = .ok (.if_icmp .ge 7, 3) := by decide +kernel
theorem dX11_held_5 : decode cX11_held 5 = .ok (.iload_n 1, 1) := by decide +kernel
theorem dX11_held_6 : decode cX11_held 6 = .ok (.goto 13, 3) := by decide +kernel
theorem dX11_held_9 : decode cX11_held 9 = .ok (.iload_n 0, 1) := by decide +kernel
theorem dX11_held_10 : decode cX11_held 10 = .ok (.iload_n 2, 1) := by decide +kernel
theorem dX11_held_11 : decode cX11_held 11 = .ok (.if_icmp .le 7, 3) := by decide +kernel
theorem dX11_held_14 : decode cX11_held 14 = .ok (.iload_n 2, 1) := by decide +kernel
theorem dX11_held_15 : decode cX11_held 15 = .ok (.goto 4, 3) := by decide +kernel
theorem dX11_held_18 : decode cX11_held 18 = .ok (.iload_n 0, 1) := by decide +kernel
theorem dX11_held_19 : decode cX11_held 19 = .ok (.ireturn, 1) := by decide +kernel
theorem dX12_in_0 : decode cX12_in 0 = .ok (.iload_n 0, 1) := by decide +kernel
theorem dX12_in_1 : decode cX12_in 1 = .ok (.iload_n 1, 1) := by decide +kernel
theorem dX12_in_2 : decode cX12_in 2 = .ok (.if_icmp .lt 12, 3) := by decide +kernel
theorem dX12_in_5 : decode cX12_in 5 = .ok (.iload_n 0, 1) := by decide +kernel
theorem dX12_in_6 : decode cX12_in 6 = .ok (.iload_n 2, 1) := by decide +kernel
theorem dX12_in_7 : decode cX12_in 7 = .ok (.if_icmp .gt 7, 3) := by decide +kernel
theorem dX12_in_10 : decode cX12_in 10 = .ok (.iconst 1, 1) := by decide +kernel
theorem dX12_in_11 : decode cX12_in 11 = .ok (.goto 4, 3) := by decide +kernel
theorem dX12_in_14 : decode cX12_in 14 = .ok (.iconst 0, 1) := by decide +kernel
theorem dX12_in_15 : decode cX12_in 15 = .ok (.ireturn, 1) := by decide +kernel
theorem dX12_has_0 : decode cX12_has 0 = .ok (.iload_n 0, 1) := by decide +kernel
theorem dX12_has_1 : decode cX12_has 1 = .ok (.iload_n 1, 1) := by decide +kernel
theorem dX12_has_2 : decode cX12_has 2 = .ok (.ishr, 1) := by decide +kernel
theorem dX12_has_3 : decode cX12_has 3 = .ok (.iconst 1, 1) := by decide +kernel
theorem dX12_has_4 : decode cX12_has 4 = .ok (.iand, 1) := by decide +kernel
theorem dX12_has_5 : decode cX12_has 5 = .ok (.iconst 1, 1) := by decide +kernel
theorem dX12_has_6 : decode cX12_has 6 = .ok (.if_icmp .ne 7, 3) := by decide +kernel
theorem dX12_has_9 : decode cX12_has 9 = .ok (.iconst 1, 1) := by decide +kernel
theorem dX12_has_10 : decode cX12_has 10 = .ok (.goto 4, 3) := by decide +kernel
theorem dX12_has_13 : decode cX12_has 13 = .ok (.iconst 0, 1) := by decide +kernel
theorem dX12_has_14 : decode cX12_has 14 = .ok (.ireturn, 1) := by decide +kernel
theorem dX12_init_0 : decode cX12_init 0 = .ok (.aload_n 0, 1) := by decide +kernel
theorem dX12_init_1 : decode cX12_init 1 = .ok (.invokespecial 3, 3) := by decide +kernel
theorem dX12_init_4 : decode cX12_init 4 = .ok (.aload_n 0, 1) := by decide +kernel
theorem dX12_init_5 : decode cX12_init 5 = .ok (.sipush 160, 3) := by decide +kernel
theorem dX12_init_8 : decode cX12_init 8 = .ok (.newarray .int, 2) := by decide +kernel
theorem dX12_init_10 : decode cX12_init 10 = .ok (.putfield 9, 3) := by decide +kernel
theorem dX12_init_13 : decode cX12_init 13 = .ok (.aload_n 0, 1) := by decide +kernel
theorem dX12_init_14 : decode cX12_init 14 = .ok (.sipush 1700, 3) := by decide +kernel
theorem dX12_init_17 : decode cX12_init 17 = .ok (.newarray .int, 2) := by decide +kernel
theorem dX12_init_19 : decode cX12_init 19 = .ok (.putfield 13, 3) := by decide +kernel
theorem dX12_init_22 : decode cX12_init 22 = .ok (.aload_n 0, 1) := by decide +kernel
theorem dX12_init_23 : decode cX12_init 23 = .ok (.sipush 1700, 3) := by decide +kernel
theorem dX12_init_26 : decode cX12_init 26 = .ok (.newarray .int, 2) := by decide +kernel
theorem dX12_init_28 : decode cX12_init 28 = .ok (.putfield 16, 3) := by decide +kernel
theorem dX12_init_31 : decode cX12_init 31 = .ok (.aload_n 0, 1) := by decide +kernel
theorem dX12_init_32 : decode cX12_init 32 = .ok (.iconst 5, 1) := by decide +kernel
theorem dX12_init_33 : decode cX12_init 33 = .ok (.newarray .int, 2) := by decide +kernel
theorem dX12_init_35 : decode cX12_init 35 = .ok (.putfield 19, 3) := by decide +kernel
theorem dX12_init_38 : decode cX12_init 38 = .ok (.aload_n 0, 1) := by decide +kernel
theorem dX12_init_39 : decode cX12_init 39 = .ok (.iconst 5, 1) := by decide +kernel
theorem dX12_init_40 : decode cX12_init 40 = .ok (.newarray .int, 2) := by decide +kernel
theorem dX12_init_42 : decode cX12_init 42 = .ok (.putfield 22, 3) := by decide +kernel
theorem dX12_init_45 : decode cX12_init 45 = .ok (.aload_n 0, 1) := by decide +kernel
theorem dX12_init_46 : decode cX12_init 46 = .ok (.sipush 450, 3) := by decide +kernel
theorem dX12_init_49 : decode cX12_init 49 = .ok (.newarray .int, 2) := by decide +kernel
theorem dX12_init_51 : decode cX12_init 51 = .ok (.putfield 25, 3) := by decide +kernel
theorem dX12_init_54 : decode cX12_init 54 = .ok (.aload_n 0, 1) := by decide +kernel
theorem dX12_init_55 : decode cX12_init 55 = .ok (.sipush 450, 3) := by decide +kernel
theorem dX12_init_58 : decode cX12_init 58 = .ok (.newarray .int, 2) := by decide +kernel
theorem dX12_init_60 : decode cX12_init 60 = .ok (.putfield 28, 3) := by decide +kernel
theorem dX12_init_63 : decode cX12_init 63 = .ok (.aload_n 0, 1) := by decide +kernel
theorem dX12_init_64 : decode cX12_init 64 = .ok (.sipush 450, 3) := by decide +kernel
theorem dX12_init_67 : decode cX12_init 67 = .ok (.newarray .int, 2) := by decide +kernel
theorem dX12_init_69 : decode cX12_init 69 = .ok (.putfield 31, 3) := by decide +kernel
theorem dX12_init_72 : decode cX12_init 72 = .ok (.aload_n 0, 1) := by decide +kernel
theorem dX12_init_73 : decode cX12_init 73 = .ok (.iconst 5, 1) := by decide +kernel
theorem dX12_init_74 : decode cX12_init 74 = .ok (.newarray .int, 2) := by decide +kernel
theorem dX12_init_76 : decode cX12_init 76 = .ok (.putfield 34, 3) := by decide +kernel
theorem dX12_init_79 : decode cX12_init 79 = .ok (.aload_n 0, 1) := by decide +kernel
theorem dX12_init_80 : decode cX12_init 80 = .ok (.bipush 80, 2) := by decide +kernel
theorem dX12_init_82 : decode cX12_init 82 = .ok (.newarray .int, 2) := by decide +kernel
theorem dX12_init_84 : decode cX12_init 84 = .ok (.putfield 37, 3) := by decide +kernel
theorem dX12_init_87 : decode cX12_init 87 = .ok (.aload_n 0, 1) := by decide +kernel
theorem dX12_init_88 : decode cX12_init 88 = .ok (.bipush 30, 2) := by decide +kernel
theorem dX12_init_90 : decode cX12_init 90 = .ok (.newarray .int, 2) := by decide +kernel
theorem dX12_init_92 : decode cX12_init 92 = .ok (.putfield 40, 3) := by decide +kernel
theorem dX12_init_95 : decode cX12_init 95 = .ok (.aload_n 0, 1) := by decide +kernel
theorem dX12_init_96 : decode cX12_init 96 = .ok (.bipush 30, 2) := by decide +kernel
theorem dX12_init_98 : decode cX12_init 98 = .ok (.newarray .int, 2) := by decide +kernel
theorem dX12_init_100 : decode cX12_init 100 = .ok (.putfield 43, 3) := by decide +kernel
theorem dX12_init_103 : decode cX12_init 103 = .ok (.aload_n 0, 1) := by decide +kernel
theorem dX12_init_104 : decode cX12_init 104 = .ok (.bipush 6, 2) := by decide +kernel
theorem dX12_init_106 : decode cX12_init 106 = .ok (.newarray .int, 2) := by decide +kernel
theorem dX12_init_108 : decode cX12_init 108 = .ok (.putfield 46, 3) := by decide +kernel
theorem dX12_init_111 : decode cX12_init 111 = .ok (.aload_n 0, 1) := by decide +kernel
theorem dX12_init_112 : decode cX12_init 112 = .ok (.bipush 6, 2) := by decide +kernel
theorem dX12_init_114 : decode cX12_init 114 = .ok (.newarray .int, 2) := by decide +kernel
theorem dX12_init_116 : decode cX12_init 116 = .ok (.putfield 49, 3) := by decide +kernel
theorem dX12_init_119 : decode cX12_init 119 = .ok (.aload_n 0, 1) := by decide +kernel
theorem dX12_init_120 : decode cX12_init 120 = .ok (.iconst (-1), 1) := by decide +kernel
theorem dX12_init_121 : decode cX12_init 121 = .ok (.putfield 52, 3) := by decide +kernel
theorem dX12_init_124 : decode cX12_init 124 = .ok (.aload_n 0, 1) := by decide +kernel
theorem dX12_init_125 : decode cX12_init 125 = .ok (.bipush 9, 2) := by decide +kernel
theorem dX12_init_127 : decode cX12_init 127 = .ok (.putfield 56, 3) := by decide +kernel
theorem dX12_init_130 : decode cX12_init 130 = .ok (.aload_n 0, 1) := by decide +kernel
theorem dX12_init_131 : decode cX12_init 131 = .ok (.bipush 20, 2) := by decide +kernel
theorem dX12_init_133 : decode cX12_init 133 = .ok (.putfield 59, 3) := by decide +kernel
theorem dX12_init_136 : decode cX12_init 136 = .ok (.aload_n 0, 1) := by decide +kernel
theorem dX12_init_137 : decode cX12_init 137 = .ok (.sipush 360, 3) := by decide +kernel
theorem dX12_init_140 : decode cX12_init 140 = .ok (.newarray .int, 2) := by decide +kernel
theorem dX12_init_142 : decode cX12_init 142 = .ok (.putfield 62, 3) := by decide +kernel
theorem dX12_init_145 : decode cX12_init 145 = .ok (.aload_n 0, 1) := by decide +kernel
theorem dX12_init_146 : decode cX12_init 146 = .ok (.sipush 1206, 3) := by decide +kernel
theorem dX12_init_149 : decode cX12_init 149 = .ok (.newarray .int, 2) := by decide +kernel
theorem dX12_init_151 : decode cX12_init 151 = .ok (.putfield 65, 3) := by decide +kernel
theorem dX12_init_154 : decode cX12_init 154 = .ok (.aload_n 0, 1) := by decide +kernel
theorem dX12_init_155 : decode cX12_init 155 = .ok (.sipush 180, 3) := by decide +kernel
theorem dX12_init_158 : decode cX12_init 158 = .ok (.newarray .int, 2) := by decide +kernel
theorem dX12_init_160 : decode cX12_init 160 = .ok (.putfield 68, 3) := by decide +kernel
theorem dX12_init_163 : decode cX12_init 163 = .ok (.aload_n 0, 1) := by decide +kernel
theorem dX12_init_164 : decode cX12_init 164 = .ok (.sipush 180, 3) := by decide +kernel
theorem dX12_init_167 : decode cX12_init 167 = .ok (.newarray .int, 2) := by decide +kernel
theorem dX12_init_169 : decode cX12_init 169 = .ok (.putfield 71, 3) := by decide +kernel
theorem dX12_init_172 : decode cX12_init 172 = .ok (.aload_n 0, 1) := by decide +kernel
theorem dX12_init_173 : decode cX12_init 173 = .ok (.bipush 42, 2) := by decide +kernel
theorem dX12_init_175 : decode cX12_init 175 = .ok (.newarray .int, 2) := by decide +kernel
theorem dX12_init_177 : decode cX12_init 177 = .ok (.putfield 74, 3) := by decide +kernel
theorem dX12_init_180 : decode cX12_init 180 = .ok (.aload_n 0, 1) := by decide +kernel
theorem dX12_init_181 : decode cX12_init 181 = .ok (.bipush 6, 2) := by decide +kernel
theorem dX12_init_183 : decode cX12_init 183 = .ok (.newarray .int, 2) := by decide +kernel
theorem dX12_init_185 : decode cX12_init 185 = .ok (.putfield 77, 3) := by decide +kernel
theorem dX12_init_188 : decode cX12_init 188 = .ok (.aload_n 0, 1) := by decide +kernel
theorem dX12_init_189 : decode cX12_init 189 = .ok (.bipush 31, 2) := by decide +kernel
theorem dX12_init_191 : decode cX12_init 191 = .ok (.newarray .int, 2) := by decide +kernel
theorem dX12_init_193 : decode cX12_init 193 = .ok (.putfield 80, 3) := by decide +kernel
theorem dX12_init_196 : decode cX12_init 196 = .ok (.aload_n 0, 1) := by decide +kernel
theorem dX12_init_197 : decode cX12_init 197 = .ok (.bipush 31, 2) := by decide +kernel
theorem dX12_init_199 : decode cX12_init 199 = .ok (.newarray .int, 2) := by decide +kernel
theorem dX12_init_201 : decode cX12_init 201 = .ok (.putfield 83, 3) := by decide +kernel
theorem dX12_init_204 : decode cX12_init 204 = .ok (.aload_n 0, 1) := by decide +kernel
theorem dX12_init_205 : decode cX12_init 205 = .ok (.bipush 6, 2) := by decide +kernel
theorem dX12_init_207 : decode cX12_init 207 = .ok (.newarray .int, 2) := by decide +kernel
theorem dX12_init_209 : decode cX12_init 209 = .ok (.putfield 86, 3) := by decide +kernel
theorem dX12_init_212 : decode cX12_init 212 = .ok (.aload_n 0, 1) := by decide +kernel
theorem dX12_init_213 : decode cX12_init 213 = .ok (.bipush 20, 2) := by decide +kernel
theorem dX12_init_215 : decode cX12_init 215 = .ok (.newarray .int, 2) := by decide +kernel
theorem dX12_init_217 : decode cX12_init 217 = .ok (.putfield 89, 3) := by decide +kernel
theorem dX12_init_220 : decode cX12_init 220 = .ok (.aload_n 0, 1) := by decide +kernel
theorem dX12_init_221 : decode cX12_init 221 = .ok (.bipush 20, 2) := by decide +kernel
theorem dX12_init_223 : decode cX12_init 223 = .ok (.newarray .int, 2) := by decide +kernel
theorem dX12_init_225 : decode cX12_init 225 = .ok (.putfield 92, 3) := by decide +kernel
theorem dX12_init_228 : decode cX12_init 228 = .ok (.aload_n 0, 1) := by decide +kernel
theorem dX12_init_229 : decode cX12_init 229 = .ok (.bipush 20, 2) := by decide +kernel
theorem dX12_init_231 : decode cX12_init 231 = .ok (.newarray .int, 2) := by decide +kernel
theorem dX12_init_233 : decode cX12_init 233 = .ok (.putfield 95, 3) := by decide +kernel
theorem dX12_init_236 : decode cX12_init 236 = .ok (.aload_n 0, 1) := by decide +kernel
theorem dX12_init_237 : decode cX12_init 237 = .ok (.bipush 6, 2) := by decide +kernel
theorem dX12_init_239 : decode cX12_init 239 = .ok (.newarray .int, 2) := by decide +kernel
theorem dX12_init_241 : decode cX12_init 241 = .ok (.putfield 98, 3) := by decide +kernel
theorem dX12_init_244 : decode cX12_init 244 = .ok (.return_, 1) := by decide +kernel
theorem dX12_byteOf_0 : decode cX12_byteOf 0 = .ok (.iload 5, 2) := by decide +kernel
theorem dX12_byteOf_2 : decode cX12_byteOf 2 = .ok (.iconst 4, 1) := by decide +kernel
theorem dX12_byteOf_3 : decode cX12_byteOf 3 = .ok (.if_icmp .ge 7, 3) := by decide +kernel
theorem dX12_byteOf_6 : decode cX12_byteOf 6 = .ok (.iload_n 0, 1) := by decide +kernel
theorem dX12_byteOf_7 : decode cX12_byteOf 7 = .ok (.goto 38, 3) := by decide +kernel
theorem dX12_byteOf_10 : decode cX12_byteOf 10 = .ok (.iload 5, 2) := by decide +kernel
theorem dX12_byteOf_12 : decode cX12_byteOf 12 = .ok (.bipush 8, 2) := by decide +kernel
theorem dX12_byteOf_14 : decode cX12_byteOf 14 = .ok (.if_icmp .ge 7, 3) := by decide +kernel
theorem dX12_byteOf_17 : decode cX12_byteOf 17 = .ok (.iload_n 1, 1) := by decide +kernel
theorem dX12_byteOf_18 : decode cX12_byteOf 18 = .ok (.goto 27, 3) := by decide +kernel
theorem dX12_byteOf_21 : decode cX12_byteOf 21 = .ok (.iload 5, 2) := by decide +kernel
theorem dX12_byteOf_23 : decode cX12_byteOf 23 = .ok (.bipush 12, 2) := by decide +kernel
theorem dX12_byteOf_25 : decode cX12_byteOf 25 = .ok (.if_icmp .ge 7, 3) := by decide +kernel
theorem dX12_byteOf_28 : decode cX12_byteOf 28 = .ok (.iload_n 2, 1) := by decide +kernel
theorem dX12_byteOf_29 : decode cX12_byteOf 29 = .ok (.goto 16, 3) := by decide +kernel
theorem dX12_byteOf_32 : decode cX12_byteOf 32 = .ok (.iload 5, 2) := by decide +kernel
theorem dX12_byteOf_34 : decode cX12_byteOf 34 = .ok (.bipush 16, 2) := by decide +kernel
theorem dX12_byteOf_36 : decode cX12_byteOf 36 = .ok (.if_icmp .ge 7, 3) := by decide +kernel
theorem dX12_byteOf_39 : decode cX12_byteOf 39 = .ok (.iload_n 3, 1) := by decide +kernel
theorem dX12_byteOf_40 : decode cX12_byteOf 40 = .ok (.goto 5, 3) := by decide +kernel
theorem dX12_byteOf_43 : decode cX12_byteOf 43 = .ok (.iload 4, 2) := by decide +kernel
theorem dX12_byteOf_45 : decode cX12_byteOf 45 = .ok (.istore 6, 2) := by decide +kernel
theorem dX12_byteOf_47 : decode cX12_byteOf 47 = .ok (.iload 6, 2) := by decide +kernel
theorem dX12_byteOf_49 : decode cX12_byteOf 49 = .ok (.bipush 24, 2) := by decide +kernel
theorem dX12_byteOf_51 : decode cX12_byteOf 51 = .ok (.bipush 8, 2) := by decide +kernel
theorem dX12_byteOf_53 : decode cX12_byteOf 53 = .ok (.iload 5, 2) := by decide +kernel
theorem dX12_byteOf_55 : decode cX12_byteOf 55 = .ok (.iconst 4, 1) := by decide +kernel
theorem dX12_byteOf_56 : decode cX12_byteOf 56 = .ok (.irem, 1) := by decide +kernel
theorem dX12_byteOf_57 : decode cX12_byteOf 57 = .ok (.imul, 1) := by decide +kernel
theorem dX12_byteOf_58 : decode cX12_byteOf 58 = .ok (.isub, 1) := by decide +kernel
theorem dX12_byteOf_59 : decode cX12_byteOf 59 = .ok (.ishr, 1) := by decide +kernel
theorem dX12_byteOf_60 : decode cX12_byteOf 60 = .ok (.sipush 255, 3) := by decide +kernel
theorem dX12_byteOf_63 : decode cX12_byteOf 63 = .ok (.iand, 1) := by decide +kernel
theorem dX12_byteOf_64 : decode cX12_byteOf 64 = .ok (.ireturn, 1) := by decide +kernel
theorem dX12_feed_0 : decode cX12_feed 0 = .ok (.iconst 0, 1) := by decide +kernel
theorem dX12_feed_1 : decode cX12_feed 1 = .ok (.istore 6, 2) := by decide +kernel
theorem dX12_feed_3 : decode cX12_feed 3 = .ok (.iconst 0, 1) := by decide +kernel
theorem dX12_feed_4 : decode cX12_feed 4 = .ok (.istore 7, 2) := by decide +kernel
theorem dX12_feed_6 : decode cX12_feed 6 = .ok (.iload 7, 2) := by decide +kernel
theorem dX12_feed_8 : decode cX12_feed 8 = .ok (.bipush 20, 2) := by decide +kernel
theorem dX12_feed_10 : decode cX12_feed 10 = .ok (.if_icmp .ge 34, 3) := by decide +kernel
theorem dX12_feed_13 : decode cX12_feed 13 = .ok (.iload 6, 2) := by decide +kernel
theorem dX12_feed_15 : decode cX12_feed 15 = .ok (.iload_n 1, 1) := by decide +kernel
theorem dX12_feed_16 : decode cX12_feed 16 = .ok (.iload_n 2, 1) := by decide +kernel
theorem dX12_feed_17 : decode cX12_feed 17 = .ok (.iload_n 3, 1) := by decide +kernel
theorem dX12_feed_18 : decode cX12_feed 18 = .ok (.iload 4, 2) := by decide +kernel
theorem dX12_feed_20 : decode cX12_feed 20 = .ok (.iload 5, 2) := by decide +kernel
theorem dX12_feed_22 : decode cX12_feed 22 = .ok (.iload 7, 2) := by decide +kernel
theorem dX12_feed_24 : decode cX12_feed 24 = .ok (.invokestatic 104, 3) := by decide +kernel
theorem dX12_feed_27 : decode cX12_feed 27 = .ok (.ifCond .eq 7, 3) := by decide +kernel
theorem dX12_feed_30 : decode cX12_feed 30 = .ok (.iconst 1, 1) := by decide +kernel
theorem dX12_feed_31 : decode cX12_feed 31 = .ok (.goto 4, 3) := by decide +kernel
theorem dX12_feed_34 : decode cX12_feed 34 = .ok (.iconst 0, 1) := by decide +kernel
theorem dX12_feed_35 : decode cX12_feed 35 = .ok (.iadd, 1) := by decide +kernel
theorem dX12_feed_36 : decode cX12_feed 36 = .ok (.istore 6, 2) := by decide +kernel
theorem dX12_feed_38 : decode cX12_feed 38 = .ok (.iinc 7 1, 3) := by decide +kernel
theorem dX12_feed_41 : decode cX12_feed 41 = .ok (.goto (-35), 3) := by decide +kernel
theorem dX12_feed_44 : decode cX12_feed 44 = .ok (.aload_n 0, 1) := by decide +kernel
theorem dX12_feed_45 : decode cX12_feed 45 = .ok (.getfield 108, 3) := by decide +kernel
theorem dX12_feed_48 : decode cX12_feed 48 = .ok (.iload 6, 2) := by decide +kernel
theorem dX12_feed_50 : decode cX12_feed 50 = .ok (.iadd, 1) := by decide +kernel
theorem dX12_feed_51 : decode cX12_feed 51 = .ok (.sipush 160, 3) := by decide +kernel
theorem dX12_feed_54 : decode cX12_feed 54 = .ok (.if_icmp .le 5, 3) := by decide +kernel
theorem dX12_feed_57 : decode cX12_feed 57 = .ok (.iconst (-1), 1) := by decide +kernel
theorem dX12_feed_58 : decode cX12_feed 58 = .ok (.ireturn, 1) := by decide +kernel
theorem dX12_feed_59 : decode cX12_feed 59 = .ok (.iconst 0, 1) := by decide +kernel
theorem dX12_feed_60 : decode cX12_feed 60 = .ok (.istore 7, 2) := by decide +kernel
theorem dX12_feed_62 : decode cX12_feed 62 = .ok (.iload 7, 2) := by decide +kernel
theorem dX12_feed_64 : decode cX12_feed 64 = .ok (.bipush 20, 2) := by decide +kernel
theorem dX12_feed_66 : decode cX12_feed 66 = .ok (.if_icmp .ge 49, 3) := by decide +kernel
theorem dX12_feed_69 : decode cX12_feed 69 = .ok (.iload_n 1, 1) := by decide +kernel
theorem dX12_feed_70 : decode cX12_feed 70 = .ok (.iload_n 2, 1) := by decide +kernel
theorem dX12_feed_71 : decode cX12_feed 71 = .ok (.iload_n 3, 1) := by decide +kernel
theorem dX12_feed_72 : decode cX12_feed 72 = .ok (.iload 4, 2) := by decide +kernel
theorem dX12_feed_74 : decode cX12_feed 74 = .ok (.iload 5, 2) := by decide +kernel
theorem dX12_feed_76 : decode cX12_feed 76 = .ok (.iload 7, 2) := by decide +kernel
theorem dX12_feed_78 : decode cX12_feed 78 = .ok (.invokestatic 104, 3) := by decide +kernel
theorem dX12_feed_81 : decode cX12_feed 81 = .ok (.istore 8, 2) := by decide +kernel
theorem dX12_feed_83 : decode cX12_feed 83 = .ok (.iload 8, 2) := by decide +kernel
theorem dX12_feed_85 : decode cX12_feed 85 = .ok (.ifCond .eq 24, 3) := by decide +kernel
theorem dX12_feed_88 : decode cX12_feed 88 = .ok (.aload_n 0, 1) := by decide +kernel
theorem dX12_feed_89 : decode cX12_feed 89 = .ok (.getfield 9, 3) := by decide +kernel
theorem dX12_feed_92 : decode cX12_feed 92 = .ok (.aload_n 0, 1) := by decide +kernel
theorem dX12_feed_93 : decode cX12_feed 93 = .ok (.getfield 108, 3) := by decide +kernel
theorem dX12_feed_96 : decode cX12_feed 96 = .ok (.iload 8, 2) := by decide +kernel
theorem dX12_feed_98 : decode cX12_feed 98 = .ok (.iastore, 1) := by decide +kernel
theorem dX12_feed_99 : decode cX12_feed 99 = .ok (.aload_n 0, 1) := by decide +kernel
theorem dX12_feed_100 : decode cX12_feed 100 = .ok (.dup, 1) := by decide +kernel
theorem dX12_feed_101 : decode cX12_feed 101 = .ok (.getfield 108, 3) := by decide +kernel
theorem dX12_feed_104 : decode cX12_feed 104 = .ok (.iconst 1, 1) := by decide +kernel
theorem dX12_feed_105 : decode cX12_feed 105 = .ok (.iadd, 1) := by decide +kernel
theorem dX12_feed_106 : decode cX12_feed 106 = .ok (.putfield 108, 3) := by decide +kernel
theorem dX12_feed_109 : decode cX12_feed 109 = .ok (.iinc 7 1, 3) := by decide +kernel
theorem dX12_feed_112 : decode cX12_feed 112 = .ok (.goto (-50), 3) := by decide +kernel
theorem dX12_feed_115 : decode cX12_feed 115 = .ok (.aload_n 0, 1) := by decide +kernel
theorem dX12_feed_116 : decode cX12_feed 116 = .ok (.getfield 108, 3) := by decide +kernel
theorem dX12_feed_119 : decode cX12_feed 119 = .ok (.ireturn, 1) := by decide +kernel
theorem dX12_end_0 : decode cX12_end 0 = .ok (.iload_n 1, 1) := by decide +kernel
theorem dX12_end_1 : decode cX12_end 1 = .ok (.ifCond .lt 11, 3) := by decide +kernel
theorem dX12_end_4 : decode cX12_end 4 = .ok (.iload_n 1, 1) := by decide +kernel
theorem dX12_end_5 : decode cX12_end 5 = .ok (.aload_n 0, 1) := by decide +kernel
theorem dX12_end_6 : decode cX12_end 6 = .ok (.getfield 108, 3) := by decide +kernel
theorem dX12_end_9 : decode cX12_end 9 = .ok (.if_icmp .le 5, 3) := by decide +kernel
theorem dX12_end_12 : decode cX12_end 12 = .ok (.iconst 0, 1) := by decide +kernel
theorem dX12_end_13 : decode cX12_end 13 = .ok (.ireturn, 1) := by decide +kernel
theorem dX12_end_14 : decode cX12_end 14 = .ok (.aload_n 0, 1) := by decide +kernel
theorem dX12_end_15 : decode cX12_end 15 = .ok (.iload_n 1, 1) := by decide +kernel
theorem dX12_end_16 : decode cX12_end 16 = .ok (.putfield 108, 3) := by decide +kernel
theorem dX12_end_19 : decode cX12_end 19 = .ok (.iconst 1, 1) := by decide +kernel
theorem dX12_end_20 : decode cX12_end 20 = .ok (.ireturn, 1) := by decide +kernel
theorem dX12_here_0 : decode cX12_here 0 = .ok (.aload_n 0, 1) := by decide +kernel
theorem dX12_here_1 : decode cX12_here 1 = .ok (.getfield 111, 3) := by decide +kernel
theorem dX12_here_4 : decode cX12_here 4 = .ok (.aload_n 0, 1) := by decide +kernel
theorem dX12_here_5 : decode cX12_here 5 = .ok (.getfield 108, 3) := by decide +kernel
theorem dX12_here_8 : decode cX12_here 8 = .ok (.if_icmp .ge 15, 3) := by decide +kernel
theorem dX12_here_11 : decode cX12_here 11 = .ok (.aload_n 0, 1) := by decide +kernel
theorem dX12_here_12 : decode cX12_here 12 = .ok (.getfield 9, 3) := by decide +kernel
theorem dX12_here_15 : decode cX12_here 15 = .ok (.aload_n 0, 1) := by decide +kernel
theorem dX12_here_16 : decode cX12_here 16 = .ok (.getfield 111, 3) := by decide +kernel
theorem dX12_here_19 : decode cX12_here 19 = .ok (.iaload, 1) := by decide +kernel
theorem dX12_here_20 : decode cX12_here 20 = .ok (.goto 4, 3) := by decide +kernel
theorem dX12_here_23 : decode cX12_here 23 = .ok (.iconst (-1), 1) := by decide +kernel
theorem dX12_here_24 : decode cX12_here 24 = .ok (.ireturn, 1) := by decide +kernel
theorem dX12_look_0 : decode cX12_look 0 = .ok (.aload_n 0, 1) := by decide +kernel
theorem dX12_look_1 : decode cX12_look 1 = .ok (.invokevirtual 114, 3) := by decide +kernel
theorem dX12_look_4 : decode cX12_look 4 = .ok (.bipush 32, 2) := by decide +kernel
theorem dX12_look_6 : decode cX12_look 6 = .ok (.if_icmp .ne 16, 3) := by decide +kernel
theorem dX12_look_9 : decode cX12_look 9 = .ok (.aload_n 0, 1) := by decide +kernel
theorem dX12_look_10 : decode cX12_look 10 = .ok (.dup, 1) := by decide +kernel
theorem dX12_look_11 : decode cX12_look 11 = .ok (.getfield 111, 3) := by decide +kernel
theorem dX12_look_14 : decode cX12_look 14 = .ok (.iconst 1, 1) := by decide +kernel
theorem dX12_look_15 : decode cX12_look 15 = .ok (.iadd, 1) := by decide +kernel
theorem dX12_look_16 : decode cX12_look 16 = .ok (.putfield 111, 3) := by decide +kernel
theorem dX12_look_19 : decode cX12_look 19 = .ok (.goto (-19), 3) := by decide +kernel
theorem dX12_look_22 : decode cX12_look 22 = .ok (.aload_n 0, 1) := by decide +kernel
theorem dX12_look_23 : decode cX12_look 23 = .ok (.invokevirtual 114, 3) := by decide +kernel
theorem dX12_look_26 : decode cX12_look 26 = .ok (.ireturn, 1) := by decide +kernel
theorem dX12_bad_0 : decode cX12_bad 0 = .ok (.aload_n 0, 1) := by decide +kernel
theorem dX12_bad_1 : decode cX12_bad 1 = .ok (.aload_n 0, 1) := by decide +kernel
theorem dX12_bad_2 : decode cX12_bad 2 = .ok (.getfield 118, 3) := by decide +kernel
theorem dX12_bad_5 : decode cX12_bad 5 = .ok (.iconst (-1), 1) := by decide +kernel
theorem dX12_bad_6 : decode cX12_bad 6 = .ok (.if_icmp .ne 10, 3) := by decide +kernel
theorem dX12_bad_9 : decode cX12_bad 9 = .ok (.aload_n 0, 1) := by decide +kernel
theorem dX12_bad_10 : decode cX12_bad 10 = .ok (.getfield 111, 3) := by decide +kernel
theorem dX12_bad_13 : decode cX12_bad 13 = .ok (.goto 7, 3) := by decide +kernel
theorem dX12_bad_16 : decode cX12_bad 16 = .ok (.aload_n 0, 1) := by decide +kernel
theorem dX12_bad_17 : decode cX12_bad 17 = .ok (.getfield 118, 3) := by decide +kernel
theorem dX12_bad_20 : decode cX12_bad 20 = .ok (.putfield 118, 3) := by decide +kernel
theorem dX12_bad_23 : decode cX12_bad 23 = .ok (.return_, 1) := by decide +kernel
theorem dX12_isDigit_0 : decode cX12_isDigit 0 = .ok (.iload_n 0, 1) := by decide +kernel
theorem dX12_isDigit_1 : decode cX12_isDigit 1 = .ok (.bipush 48, 2) := by decide +kernel
theorem dX12_isDigit_3 : decode cX12_isDigit 3 = .ok (.if_icmp .lt 13, 3) := by decide +kernel
theorem dX12_isDigit_6 : decode cX12_isDigit 6 = .ok (.iload_n 0, 1) := by decide +kernel
theorem dX12_isDigit_7 : decode cX12_isDigit 7 = .ok (.bipush 57, 2) := by decide +kernel
theorem dX12_isDigit_9 : decode cX12_isDigit 9 = .ok (.if_icmp .gt 7, 3) := by decide +kernel
theorem dX12_isDigit_12 : decode cX12_isDigit 12 = .ok (.iconst 1, 1) := by decide +kernel
theorem dX12_isDigit_13 : decode cX12_isDigit 13 = .ok (.goto 4, 3) := by decide +kernel
theorem dX12_isDigit_16 : decode cX12_isDigit 16 = .ok (.iconst 0, 1) := by decide +kernel
theorem dX12_isDigit_17 : decode cX12_isDigit 17 = .ok (.ireturn, 1) := by decide +kernel
theorem dX12_put_0 : decode cX12_put 0 = .ok (.aload_n 0, 1) := by decide +kernel
theorem dX12_put_1 : decode cX12_put 1 = .ok (.getfield 13, 3) := by decide +kernel
theorem dX12_put_4 : decode cX12_put 4 = .ok (.sipush 340, 3) := by decide +kernel
theorem dX12_put_7 : decode cX12_put 7 = .ok (.aload_n 0, 1) := by decide +kernel
theorem dX12_put_8 : decode cX12_put 8 = .ok (.getfield 121, 3) := by decide +kernel
theorem dX12_put_11 : decode cX12_put 11 = .ok (.imul, 1) := by decide +kernel
theorem dX12_put_12 : decode cX12_put 12 = .ok (.aload_n 0, 1) := by decide +kernel
theorem dX12_put_13 : decode cX12_put 13 = .ok (.getfield 19, 3) := by decide +kernel
theorem dX12_put_16 : decode cX12_put 16 = .ok (.aload_n 0, 1) := by decide +kernel
theorem dX12_put_17 : decode cX12_put 17 = .ok (.getfield 121, 3) := by decide +kernel
theorem dX12_put_20 : decode cX12_put 20 = .ok (.iaload, 1) := by decide +kernel
theorem dX12_put_21 : decode cX12_put 21 = .ok (.iadd, 1) := by decide +kernel
theorem dX12_put_22 : decode cX12_put 22 = .ok (.iload_n 1, 1) := by decide +kernel
theorem dX12_put_23 : decode cX12_put 23 = .ok (.iastore, 1) := by decide +kernel
theorem dX12_put_24 : decode cX12_put 24 = .ok (.aload_n 0, 1) := by decide +kernel
theorem dX12_put_25 : decode cX12_put 25 = .ok (.getfield 16, 3) := by decide +kernel
theorem dX12_put_28 : decode cX12_put 28 = .ok (.sipush 340, 3) := by decide +kernel
theorem dX12_put_31 : decode cX12_put 31 = .ok (.aload_n 0, 1) := by decide +kernel
theorem dX12_put_32 : decode cX12_put 32 = .ok (.getfield 121, 3) := by decide +kernel
theorem dX12_put_35 : decode cX12_put 35 = .ok (.imul, 1) := by decide +kernel
theorem dX12_put_36 : decode cX12_put 36 = .ok (.aload_n 0, 1) := by decide +kernel
theorem dX12_put_37 : decode cX12_put 37 = .ok (.getfield 19, 3) := by decide +kernel
theorem dX12_put_40 : decode cX12_put 40 = .ok (.aload_n 0, 1) := by decide +kernel
theorem dX12_put_41 : decode cX12_put 41 = .ok (.getfield 121, 3) := by decide +kernel
theorem dX12_put_44 : decode cX12_put 44 = .ok (.iaload, 1) := by decide +kernel
theorem dX12_put_45 : decode cX12_put 45 = .ok (.iadd, 1) := by decide +kernel
theorem dX12_put_46 : decode cX12_put 46 = .ok (.iload_n 2, 1) := by decide +kernel
theorem dX12_put_47 : decode cX12_put 47 = .ok (.iastore, 1) := by decide +kernel
theorem dX12_put_48 : decode cX12_put 48 = .ok (.aload_n 0, 1) := by decide +kernel
theorem dX12_put_49 : decode cX12_put 49 = .ok (.getfield 19, 3) := by decide +kernel
theorem dX12_put_52 : decode cX12_put 52 = .ok (.aload_n 0, 1) := by decide +kernel
theorem dX12_put_53 : decode cX12_put 53 = .ok (.getfield 121, 3) := by decide +kernel
theorem dX12_put_56 : decode cX12_put 56 = .ok (.dup2, 1) := by decide +kernel
theorem dX12_put_57 : decode cX12_put 57 = .ok (.iaload, 1) := by decide +kernel
theorem dX12_put_58 : decode cX12_put 58 = .ok (.iconst 1, 1) := by decide +kernel
theorem dX12_put_59 : decode cX12_put 59 = .ok (.iadd, 1) := by decide +kernel
theorem dX12_put_60 : decode cX12_put 60 = .ok (.iastore, 1) := by decide +kernel
theorem dX12_put_61 : decode cX12_put 61 = .ok (.return_, 1) := by decide +kernel
theorem dX12_letterOf_0 : decode cX12_letterOf 0 = .ok (.iload_n 0, 1) := by decide +kernel
theorem dX12_letterOf_1 : decode cX12_letterOf 1 = .ok (.bipush 100, 2) := by decide +kernel
theorem dX12_letterOf_3 : decode cX12_letterOf 3 = .ok (.if_icmp .ne 7, 3) := by decide +kernel
theorem dX12_letterOf_6 : decode cX12_letterOf 6 = .ok (.iconst 0, 1) := by decide +kernel
theorem dX12_letterOf_7 : decode cX12_letterOf 7 = .ok (.goto 44, 3) := by decide +kernel
theorem dX12_letterOf_10 : decode cX12_letterOf 10 = .ok (.iload_n 0, 1) := by decide +kernel
theorem dX12_letterOf_11 : decode cX12_letterOf 11 = .ok (.bipush 119, 2) := by decide +kernel
theorem dX12_letterOf_13 : decode cX12_letterOf 13 = .ok (.if_icmp .ne 7, 3) := by decide +kernel
theorem dX12_letterOf_16 : decode cX12_letterOf 16 = .ok (.iconst 1, 1) := by decide +kernel
theorem dX12_letterOf_17 : decode cX12_letterOf 17 = .ok (.goto 34, 3) := by decide +kernel
theorem dX12_letterOf_20 : decode cX12_letterOf 20 = .ok (.iload_n 0, 1) := by decide +kernel
theorem dX12_letterOf_21 : decode cX12_letterOf 21 = .ok (.bipush 109, 2) := by decide +kernel
theorem dX12_letterOf_23 : decode cX12_letterOf 23 = .ok (.if_icmp .ne 7, 3) := by decide +kernel
theorem dX12_letterOf_26 : decode cX12_letterOf 26 = .ok (.iconst 2, 1) := by decide +kernel
theorem dX12_letterOf_27 : decode cX12_letterOf 27 = .ok (.goto 24, 3) := by decide +kernel
theorem dX12_letterOf_30 : decode cX12_letterOf 30 = .ok (.iload_n 0, 1) := by decide +kernel
theorem dX12_letterOf_31 : decode cX12_letterOf 31 = .ok (.bipush 110, 2) := by decide +kernel
theorem dX12_letterOf_33 : decode cX12_letterOf 33 = .ok (.if_icmp .ne 7, 3) := by decide +kernel
theorem dX12_letterOf_36 : decode cX12_letterOf 36 = .ok (.iconst 3, 1) := by decide +kernel
theorem dX12_letterOf_37 : decode cX12_letterOf 37 = .ok (.goto 14, 3) := by decide +kernel
theorem dX12_letterOf_40 : decode cX12_letterOf 40 = .ok (.iload_n 0, 1) := by decide +kernel
theorem dX12_letterOf_41 : decode cX12_letterOf 41 = .ok (.bipush 111, 2) := by decide +kernel
theorem dX12_letterOf_43 : decode cX12_letterOf 43 = .ok (.if_icmp .ne 7, 3) := by decide +kernel
theorem dX12_letterOf_46 : decode cX12_letterOf 46 = .ok (.iconst 4, 1) := by decide +kernel
theorem dX12_letterOf_47 : decode cX12_letterOf 47 = .ok (.goto 4, 3) := by decide +kernel
theorem dX12_letterOf_50 : decode cX12_letterOf 50 = .ok (.iconst (-1), 1) := by decide +kernel
theorem dX12_letterOf_51 : decode cX12_letterOf 51 = .ok (.ireturn, 1) := by decide +kernel
theorem dX12_opens_0 : decode cX12_opens 0 = .ok (.aload_n 0, 1) := by decide +kernel
theorem dX12_opens_1 : decode cX12_opens 1 = .ok (.getfield 124, 3) := by decide +kernel
theorem dX12_opens_4 : decode cX12_opens 4 = .ok (.bipush 6, 2) := by decide +kernel
theorem dX12_opens_6 : decode cX12_opens 6 = .ok (.if_icmp .ne 7, 3) := by decide +kernel
theorem dX12_opens_9 : decode cX12_opens 9 = .ok (.aload_n 0, 1) := by decide +kernel
theorem dX12_opens_10 : decode cX12_opens 10 = .ok (.invokevirtual 127, 3) := by decide +kernel
theorem dX12_opens_13 : decode cX12_opens 13 = .ok (.aload_n 0, 1) := by decide +kernel
theorem dX12_opens_14 : decode cX12_opens 14 = .ok (.dup, 1) := by decide +kernel
theorem dX12_opens_15 : decode cX12_opens 15 = .ok (.getfield 124, 3) := by decide +kernel
theorem dX12_opens_18 : decode cX12_opens 18 = .ok (.iconst 1, 1) := by decide +kernel
theorem dX12_opens_19 : decode cX12_opens 19 = .ok (.iadd, 1) := by decide +kernel
theorem dX12_opens_20 : decode cX12_opens 20 = .ok (.putfield 124, 3) := by decide +kernel
theorem dX12_opens_23 : decode cX12_opens 23 = .ok (.aload_n 0, 1) := by decide +kernel
theorem dX12_opens_24 : decode cX12_opens 24 = .ok (.dup, 1) := by decide +kernel
theorem dX12_opens_25 : decode cX12_opens 25 = .ok (.getfield 111, 3) := by decide +kernel
theorem dX12_opens_28 : decode cX12_opens 28 = .ok (.iconst 1, 1) := by decide +kernel
theorem dX12_opens_29 : decode cX12_opens 29 = .ok (.iadd, 1) := by decide +kernel
theorem dX12_opens_30 : decode cX12_opens 30 = .ok (.putfield 111, 3) := by decide +kernel
theorem dX12_opens_33 : decode cX12_opens 33 = .ok (.return_, 1) := by decide +kernel
theorem dX12_closes_0 : decode cX12_closes 0 = .ok (.aload_n 0, 1) := by decide +kernel
theorem dX12_closes_1 : decode cX12_closes 1 = .ok (.getfield 118, 3) := by decide +kernel
theorem dX12_closes_4 : decode cX12_closes 4 = .ok (.iconst (-1), 1) := by decide +kernel
theorem dX12_closes_5 : decode cX12_closes 5 = .ok (.if_icmp .ne 15, 3) := by decide +kernel
theorem dX12_closes_8 : decode cX12_closes 8 = .ok (.aload_n 0, 1) := by decide +kernel
theorem dX12_closes_9 : decode cX12_closes 9 = .ok (.invokevirtual 130, 3) := by decide +kernel
theorem dX12_closes_12 : decode cX12_closes 12 = .ok (.iload_n 1, 1) := by decide +kernel
theorem dX12_closes_13 : decode cX12_closes 13 = .ok (.if_icmp .eq 7, 3) := by decide +kernel
theorem dX12_closes_16 : decode cX12_closes 16 = .ok (.aload_n 0, 1) := by decide +kernel
theorem dX12_closes_17 : decode cX12_closes 17 = .ok (.invokevirtual 127, 3) := by decide +kernel
theorem dX12_closes_20 : decode cX12_closes 20 = .ok (.aload_n 0, 1) := by decide +kernel
theorem dX12_closes_21 : decode cX12_closes 21 = .ok (.dup, 1) := by decide +kernel
theorem dX12_closes_22 : decode cX12_closes 22 = .ok (.getfield 111, 3) := by decide +kernel
theorem dX12_closes_25 : decode cX12_closes 25 = .ok (.iconst 1, 1) := by decide +kernel
theorem dX12_closes_26 : decode cX12_closes 26 = .ok (.iadd, 1) := by decide +kernel
theorem dX12_closes_27 : decode cX12_closes 27 = .ok (.putfield 111, 3) := by decide +kernel
theorem dX12_closes_30 : decode cX12_closes 30 = .ok (.aload_n 0, 1) := by decide +kernel
theorem dX12_closes_31 : decode cX12_closes 31 = .ok (.dup, 1) := by decide +kernel
theorem dX12_closes_32 : decode cX12_closes 32 = .ok (.getfield 124, 3) := by decide +kernel
theorem dX12_closes_35 : decode cX12_closes 35 = .ok (.iconst 1, 1) := by decide +kernel
theorem dX12_closes_36 : decode cX12_closes 36 = .ok (.isub, 1) := by decide +kernel
theorem dX12_closes_37 : decode cX12_closes 37 = .ok (.putfield 124, 3) := by decide +kernel
theorem dX12_closes_40 : decode cX12_closes 40 = .ok (.return_, 1) := by decide +kernel
theorem dX12_plainNumber_0 : decode cX12_plainNumber 0 = .ok (.iconst 0, 1) := by decide +kernel
theorem dX12_plainNumber_1 : decode cX12_plainNumber 1 = .ok (.istore_n 1, 1) := by decide +kernel
theorem dX12_plainNumber_2 : decode cX12_plainNumber 2 = .ok (.iconst 0, 1) := by decide +kernel
theorem dX12_plainNumber_3 : decode cX12_plainNumber 3 = .ok (.istore_n 2, 1) := by decide +kernel
theorem dX12_plainNumber_4 : decode cX12_plainNumber 4 = .ok (.iload_n 2, 1) := by decide +kernel
theorem dX12_plainNumber_5 : decode cX12_plainNumber 5 = .ok (.iconst 4, 1) := by decide +kernel
theorem dX12_plainNumber_6 : decode cX12_plainNumber 6 = .ok (.if_icmp .ge 42, 3) := by decide +kernel
theorem dX12_plainNumber_9 : decode cX12_plainNumber 9 = .ok (.aload_n 0, 1) := by decide +kernel
theorem dX12_plainNumber_10 : decode cX12_plainNumber 10 = .ok (.invokevirtual 114, 3) := by decide +kernel
theorem dX12_plainNumber_13 : decode cX12_plainNumber 13 = .ok (.invokestatic 133, 3) := by decide +kernel
theorem dX12_plainNumber_16 : decode cX12_plainNumber 16 = .ok (.ifCond .eq 32, 3) := by decide +kernel
theorem dX12_plainNumber_19 : decode cX12_plainNumber 19 = .ok (.bipush 10, 2) := by decide +kernel
theorem dX12_plainNumber_21 : decode cX12_plainNumber 21 = .ok (.iload_n 1, 1) := by decide +kernel
theorem dX12_plainNumber_22 : decode cX12_plainNumber 22 = .ok (.imul, 1) := by decide +kernel
theorem dX12_plainNumber_23 : decode cX12_plainNumber 23 = .ok (.aload_n 0, 1) := by decide +kernel
theorem dX12_plainNumber_24 : decode cX12_plainNumber 24 = .ok (.invokevirtual 114, 3) := by decide +kernel
theorem dX12_plainNumber_27 : decode cX12_plainNumber 27 = .ok (.iadd, 1) := by decide +kernel
theorem dX12_plainNumber_28 : decode cX12_plainNumber 28 = .ok (.bipush 48, 2) := by decide +kernel
theorem dX12_plainNumber_30 : decode cX12_plainNumber 30 = .ok (.isub, 1) := by decide +kernel
theorem dX12_plainNumber_31 : decode cX12_plainNumber 31 = .ok (.istore_n 1, 1) := by decide +kernel
theorem dX12_plainNumber_32 : decode cX12_plainNumber 32 = .ok (.aload_n 0, 1) := by decide +kernel
theorem dX12_plainNumber_33 : decode cX12_plainNumber 33 = .ok (.dup, 1) := by decide +kernel
theorem dX12_plainNumber_34 : decode cX12_plainNumber 34 = .ok (.getfield 111, 3) := by decide +kernel
theorem dX12_plainNumber_37 : decode cX12_plainNumber 37 = .ok (.iconst 1, 1) := by decide +kernel
theorem dX12_plainNumber_38 : decode cX12_plainNumber 38 = .ok (.iadd, 1) := by decide +kernel
theorem dX12_plainNumber_39 : decode cX12_plainNumber 39 = .ok (.putfield 111, 3) := by decide +kernel
theorem dX12_plainNumber_42 : decode cX12_plainNumber 42 = .ok (.iinc 2 1, 3) := by decide +kernel
theorem dX12_plainNumber_45 : decode cX12_plainNumber 45 = .ok (.goto (-41), 3) := by decide +kernel
theorem dX12_plainNumber_48 : decode cX12_plainNumber 48 = .ok (.aload_n 0, 1) := by decide +kernel
theorem dX12_plainNumber_49 : decode cX12_plainNumber 49 = .ok (.invokevirtual 114, 3) := by decide +kernel
theorem dX12_plainNumber_52 : decode cX12_plainNumber 52 = .ok (.invokestatic 133, 3) := by decide +kernel
theorem dX12_plainNumber_55 : decode cX12_plainNumber 55 = .ok (.ifCond .eq 7, 3) := by decide +kernel
theorem dX12_plainNumber_58 : decode cX12_plainNumber 58 = .ok (.aload_n 0, 1) := by decide +kernel
theorem dX12_plainNumber_59 : decode cX12_plainNumber 59 = .ok (.invokevirtual 127, 3) := by decide +kernel
theorem dX12_plainNumber_62 : decode cX12_plainNumber 62 = .ok (.iload_n 1, 1) := by decide +kernel
theorem dX12_plainNumber_63 : decode cX12_plainNumber 63 = .ok (.ireturn, 1) := by decide +kernel
theorem dX12_atom_0 : decode cX12_atom 0 = .ok (.aload_n 0, 1) := by decide +kernel
theorem dX12_atom_1 : decode cX12_atom 1 = .ok (.invokevirtual 130, 3) := by decide +kernel
theorem dX12_atom_4 : decode cX12_atom 4 = .ok (.istore_n 1, 1) := by decide +kernel
theorem dX12_atom_5 : decode cX12_atom 5 = .ok (.iload_n 1, 1) := by decide +kernel
theorem dX12_atom_6 : decode cX12_atom 6 = .ok (.invokestatic 133, 3) := by decide +kernel
theorem dX12_atom_9 : decode cX12_atom 9 = .ok (.ifCond .eq 15, 3) := by decide +kernel
theorem dX12_atom_12 : decode cX12_atom 12 = .ok (.aload_n 0, 1) := by decide +kernel
theorem dX12_atom_13 : decode cX12_atom 13 = .ok (.iconst 0, 1) := by decide +kernel
theorem dX12_atom_14 : decode cX12_atom 14 = .ok (.aload_n 0, 1) := by decide +kernel
theorem dX12_atom_15 : decode cX12_atom 15 = .ok (.invokevirtual 137, 3) := by decide +kernel
theorem dX12_atom_18 : decode cX12_atom 18 = .ok (.invokevirtual 140, 3) := by decide +kernel
theorem dX12_atom_21 : decode cX12_atom 21 = .ok (.goto 68, 3) := by decide +kernel
theorem dX12_atom_24 : decode cX12_atom 24 = .ok (.iload_n 1, 1) := by decide +kernel
theorem dX12_atom_25 : decode cX12_atom 25 = .ok (.invokestatic 144, 3) := by decide +kernel
theorem dX12_atom_28 : decode cX12_atom 28 = .ok (.iconst (-1), 1) := by decide +kernel
theorem dX12_atom_29 : decode cX12_atom 29 = .ok (.if_icmp .eq 25, 3) := by decide +kernel
theorem dX12_atom_32 : decode cX12_atom 32 = .ok (.aload_n 0, 1) := by decide +kernel
theorem dX12_atom_33 : decode cX12_atom 33 = .ok (.dup, 1) := by decide +kernel
theorem dX12_atom_34 : decode cX12_atom 34 = .ok (.getfield 111, 3) := by decide +kernel
theorem dX12_atom_37 : decode cX12_atom 37 = .ok (.iconst 1, 1) := by decide +kernel
theorem dX12_atom_38 : decode cX12_atom 38 = .ok (.iadd, 1) := by decide +kernel
theorem dX12_atom_39 : decode cX12_atom 39 = .ok (.putfield 111, 3) := by decide +kernel
theorem dX12_atom_42 : decode cX12_atom 42 = .ok (.aload_n 0, 1) := by decide +kernel
theorem dX12_atom_43 : decode cX12_atom 43 = .ok (.iconst 1, 1) := by decide +kernel
theorem dX12_atom_44 : decode cX12_atom 44 = .ok (.iload_n 1, 1) := by decide +kernel
theorem dX12_atom_45 : decode cX12_atom 45 = .ok (.invokestatic 144, 3) := by decide +kernel
theorem dX12_atom_48 : decode cX12_atom 48 = .ok (.invokevirtual 140, 3) := by decide +kernel
theorem dX12_atom_51 : decode cX12_atom 51 = .ok (.goto 38, 3) := by decide +kernel
theorem dX12_atom_54 : decode cX12_atom 54 = .ok (.iload_n 1, 1) := by decide +kernel
theorem dX12_atom_55 : decode cX12_atom 55 = .ok (.bipush 91, 2) := by decide +kernel
theorem dX12_atom_57 : decode cX12_atom 57 = .ok (.if_icmp .ne 28, 3) := by decide +kernel
theorem dX12_atom_60 : decode cX12_atom 60 = .ok (.aload_n 0, 1) := by decide +kernel
theorem dX12_atom_61 : decode cX12_atom 61 = .ok (.invokevirtual 148, 3) := by decide +kernel
theorem dX12_atom_64 : decode cX12_atom 64 = .ok (.aload_n 0, 1) := by decide +kernel
theorem dX12_atom_65 : decode cX12_atom 65 = .ok (.getfield 118, 3) := by decide +kernel
theorem dX12_atom_68 : decode cX12_atom 68 = .ok (.iconst (-1), 1) := by decide +kernel
theorem dX12_atom_69 : decode cX12_atom 69 = .ok (.if_icmp .ne 20, 3) := by decide +kernel
theorem dX12_atom_72 : decode cX12_atom 72 = .ok (.aload_n 0, 1) := by decide +kernel
theorem dX12_atom_73 : decode cX12_atom 73 = .ok (.invokevirtual 151, 3) := by decide +kernel
theorem dX12_atom_76 : decode cX12_atom 76 = .ok (.aload_n 0, 1) := by decide +kernel
theorem dX12_atom_77 : decode cX12_atom 77 = .ok (.bipush 93, 2) := by decide +kernel
theorem dX12_atom_79 : decode cX12_atom 79 = .ok (.invokevirtual 154, 3) := by decide +kernel
theorem dX12_atom_82 : decode cX12_atom 82 = .ok (.goto 7, 3) := by decide +kernel
theorem dX12_atom_85 : decode cX12_atom 85 = .ok (.aload_n 0, 1) := by decide +kernel
theorem dX12_atom_86 : decode cX12_atom 86 = .ok (.invokevirtual 127, 3) := by decide +kernel
theorem dX12_atom_89 : decode cX12_atom 89 = .ok (.return_, 1) := by decide +kernel
theorem dX12_term_0 : decode cX12_term 0 = .ok (.aload_n 0, 1) := by decide +kernel
theorem dX12_term_1 : decode cX12_term 1 = .ok (.invokevirtual 158, 3) := by decide +kernel
theorem dX12_term_4 : decode cX12_term 4 = .ok (.aload_n 0, 1) := by decide +kernel
theorem dX12_term_5 : decode cX12_term 5 = .ok (.getfield 118, 3) := by decide +kernel
theorem dX12_term_8 : decode cX12_term 8 = .ok (.iconst (-1), 1) := by decide +kernel
theorem dX12_term_9 : decode cX12_term 9 = .ok (.if_icmp .ne 10, 3) := by decide +kernel
theorem dX12_term_12 : decode cX12_term 12 = .ok (.aload_n 0, 1) := by decide +kernel
theorem dX12_term_13 : decode cX12_term 13 = .ok (.invokevirtual 130, 3) := by decide +kernel
theorem dX12_term_16 : decode cX12_term 16 = .ok (.goto 4, 3) := by decide +kernel
theorem dX12_term_19 : decode cX12_term 19 = .ok (.iconst (-1), 1) := by decide +kernel
theorem dX12_term_20 : decode cX12_term 20 = .ok (.istore_n 1, 1) := by decide +kernel
theorem dX12_term_21 : decode cX12_term 21 = .ok (.iload_n 1, 1) := by decide +kernel
theorem dX12_term_22 : decode cX12_term 22 = .ok (.bipush 42, 2) := by decide +kernel
theorem dX12_term_24 : decode cX12_term 24 = .ok (.if_icmp .eq 9, 3) := by decide +kernel
theorem dX12_term_27 : decode cX12_term 27 = .ok (.iload_n 1, 1) := by decide +kernel
theorem dX12_term_28 : decode cX12_term 28 = .ok (.bipush 47, 2) := by decide +kernel
theorem dX12_term_30 : decode cX12_term 30 = .ok (.if_icmp .ne 53, 3) := by decide +kernel
theorem dX12_term_33 : decode cX12_term 33 = .ok (.aload_n 0, 1) := by decide +kernel
theorem dX12_term_34 : decode cX12_term 34 = .ok (.dup, 1) := by decide +kernel
theorem dX12_term_35 : decode cX12_term 35 = .ok (.getfield 111, 3) := by decide +kernel
theorem dX12_term_38 : decode cX12_term 38 = .ok (.iconst 1, 1) := by decide +kernel
theorem dX12_term_39 : decode cX12_term 39 = .ok (.iadd, 1) := by decide +kernel
theorem dX12_term_40 : decode cX12_term 40 = .ok (.putfield 111, 3) := by decide +kernel
theorem dX12_term_43 : decode cX12_term 43 = .ok (.aload_n 0, 1) := by decide +kernel
theorem dX12_term_44 : decode cX12_term 44 = .ok (.invokevirtual 158, 3) := by decide +kernel
theorem dX12_term_47 : decode cX12_term 47 = .ok (.aload_n 0, 1) := by decide +kernel
theorem dX12_term_48 : decode cX12_term 48 = .ok (.iload_n 1, 1) := by decide +kernel
theorem dX12_term_49 : decode cX12_term 49 = .ok (.bipush 42, 2) := by decide +kernel
theorem dX12_term_51 : decode cX12_term 51 = .ok (.if_icmp .ne 7, 3) := by decide +kernel
theorem dX12_term_54 : decode cX12_term 54 = .ok (.iconst 4, 1) := by decide +kernel
theorem dX12_term_55 : decode cX12_term 55 = .ok (.goto 4, 3) := by decide +kernel
theorem dX12_term_58 : decode cX12_term 58 = .ok (.iconst 5, 1) := by decide +kernel
theorem dX12_term_59 : decode cX12_term 59 = .ok (.iconst 0, 1) := by decide +kernel
theorem dX12_term_60 : decode cX12_term 60 = .ok (.invokevirtual 140, 3) := by decide +kernel
theorem dX12_term_63 : decode cX12_term 63 = .ok (.aload_n 0, 1) := by decide +kernel
theorem dX12_term_64 : decode cX12_term 64 = .ok (.getfield 118, 3) := by decide +kernel
theorem dX12_term_67 : decode cX12_term 67 = .ok (.iconst (-1), 1) := by decide +kernel
theorem dX12_term_68 : decode cX12_term 68 = .ok (.if_icmp .ne 10, 3) := by decide +kernel
theorem dX12_term_71 : decode cX12_term 71 = .ok (.aload_n 0, 1) := by decide +kernel
theorem dX12_term_72 : decode cX12_term 72 = .ok (.invokevirtual 130, 3) := by decide +kernel
theorem dX12_term_75 : decode cX12_term 75 = .ok (.goto 4, 3) := by decide +kernel
theorem dX12_term_78 : decode cX12_term 78 = .ok (.iconst (-1), 1) := by decide +kernel
theorem dX12_term_79 : decode cX12_term 79 = .ok (.istore_n 1, 1) := by decide +kernel
theorem dX12_term_80 : decode cX12_term 80 = .ok (.goto (-59), 3) := by decide +kernel
theorem dX12_term_83 : decode cX12_term 83 = .ok (.return_, 1) := by decide +kernel
theorem dX12_sum_0 : decode cX12_sum 0 = .ok (.aload_n 0, 1) := by decide +kernel
theorem dX12_sum_1 : decode cX12_sum 1 = .ok (.invokevirtual 161, 3) := by decide +kernel
theorem dX12_sum_4 : decode cX12_sum 4 = .ok (.aload_n 0, 1) := by decide +kernel
theorem dX12_sum_5 : decode cX12_sum 5 = .ok (.getfield 118, 3) := by decide +kernel
theorem dX12_sum_8 : decode cX12_sum 8 = .ok (.iconst (-1), 1) := by decide +kernel
theorem dX12_sum_9 : decode cX12_sum 9 = .ok (.if_icmp .ne 10, 3) := by decide +kernel
theorem dX12_sum_12 : decode cX12_sum 12 = .ok (.aload_n 0, 1) := by decide +kernel
theorem dX12_sum_13 : decode cX12_sum 13 = .ok (.invokevirtual 130, 3) := by decide +kernel
theorem dX12_sum_16 : decode cX12_sum 16 = .ok (.goto 4, 3) := by decide +kernel
theorem dX12_sum_19 : decode cX12_sum 19 = .ok (.iconst (-1), 1) := by decide +kernel
theorem dX12_sum_20 : decode cX12_sum 20 = .ok (.istore_n 1, 1) := by decide +kernel
theorem dX12_sum_21 : decode cX12_sum 21 = .ok (.iload_n 1, 1) := by decide +kernel
theorem dX12_sum_22 : decode cX12_sum 22 = .ok (.bipush 43, 2) := by decide +kernel
theorem dX12_sum_24 : decode cX12_sum 24 = .ok (.if_icmp .eq 9, 3) := by decide +kernel
theorem dX12_sum_27 : decode cX12_sum 27 = .ok (.iload_n 1, 1) := by decide +kernel
theorem dX12_sum_28 : decode cX12_sum 28 = .ok (.bipush 45, 2) := by decide +kernel
theorem dX12_sum_30 : decode cX12_sum 30 = .ok (.if_icmp .ne 53, 3) := by decide +kernel
theorem dX12_sum_33 : decode cX12_sum 33 = .ok (.aload_n 0, 1) := by decide +kernel
theorem dX12_sum_34 : decode cX12_sum 34 = .ok (.dup, 1) := by decide +kernel
theorem dX12_sum_35 : decode cX12_sum 35 = .ok (.getfield 111, 3) := by decide +kernel
theorem dX12_sum_38 : decode cX12_sum 38 = .ok (.iconst 1, 1) := by decide +kernel
theorem dX12_sum_39 : decode cX12_sum 39 = .ok (.iadd, 1) := by decide +kernel
theorem dX12_sum_40 : decode cX12_sum 40 = .ok (.putfield 111, 3) := by decide +kernel
theorem dX12_sum_43 : decode cX12_sum 43 = .ok (.aload_n 0, 1) := by decide +kernel
theorem dX12_sum_44 : decode cX12_sum 44 = .ok (.invokevirtual 161, 3) := by decide +kernel
theorem dX12_sum_47 : decode cX12_sum 47 = .ok (.aload_n 0, 1) := by decide +kernel
theorem dX12_sum_48 : decode cX12_sum 48 = .ok (.iload_n 1, 1) := by decide +kernel
theorem dX12_sum_49 : decode cX12_sum 49 = .ok (.bipush 43, 2) := by decide +kernel
theorem dX12_sum_51 : decode cX12_sum 51 = .ok (.if_icmp .ne 7, 3) := by decide +kernel
theorem dX12_sum_54 : decode cX12_sum 54 = .ok (.iconst 2, 1) := by decide +kernel
theorem dX12_sum_55 : decode cX12_sum 55 = .ok (.goto 4, 3) := by decide +kernel
theorem dX12_sum_58 : decode cX12_sum 58 = .ok (.iconst 3, 1) := by decide +kernel
theorem dX12_sum_59 : decode cX12_sum 59 = .ok (.iconst 0, 1) := by decide +kernel
theorem dX12_sum_60 : decode cX12_sum 60 = .ok (.invokevirtual 140, 3) := by decide +kernel
theorem dX12_sum_63 : decode cX12_sum 63 = .ok (.aload_n 0, 1) := by decide +kernel
theorem dX12_sum_64 : decode cX12_sum 64 = .ok (.getfield 118, 3) := by decide +kernel
theorem dX12_sum_67 : decode cX12_sum 67 = .ok (.iconst (-1), 1) := by decide +kernel
theorem dX12_sum_68 : decode cX12_sum 68 = .ok (.if_icmp .ne 10, 3) := by decide +kernel
theorem dX12_sum_71 : decode cX12_sum 71 = .ok (.aload_n 0, 1) := by decide +kernel
theorem dX12_sum_72 : decode cX12_sum 72 = .ok (.invokevirtual 130, 3) := by decide +kernel
theorem dX12_sum_75 : decode cX12_sum 75 = .ok (.goto 4, 3) := by decide +kernel
theorem dX12_sum_78 : decode cX12_sum 78 = .ok (.iconst (-1), 1) := by decide +kernel
theorem dX12_sum_79 : decode cX12_sum 79 = .ok (.istore_n 1, 1) := by decide +kernel
theorem dX12_sum_80 : decode cX12_sum 80 = .ok (.goto (-59), 3) := by decide +kernel
theorem dX12_sum_83 : decode cX12_sum 83 = .ok (.return_, 1) := by decide +kernel
theorem dX12_isSign_0 : decode cX12_isSign 0 = .ok (.iload_n 0, 1) := by decide +kernel
theorem dX12_isSign_1 : decode cX12_isSign 1 = .ok (.bipush 61, 2) := by decide +kernel
theorem dX12_isSign_3 : decode cX12_isSign 3 = .ok (.if_icmp .eq 15, 3) := by decide +kernel
theorem dX12_isSign_6 : decode cX12_isSign 6 = .ok (.iload_n 0, 1) := by decide +kernel
theorem dX12_isSign_7 : decode cX12_isSign 7 = .ok (.bipush 60, 2) := by decide +kernel
theorem dX12_isSign_9 : decode cX12_isSign 9 = .ok (.if_icmp .eq 9, 3) := by decide +kernel
theorem dX12_isSign_12 : decode cX12_isSign 12 = .ok (.iload_n 0, 1) := by decide +kernel
theorem dX12_isSign_13 : decode cX12_isSign 13 = .ok (.bipush 62, 2) := by decide +kernel
theorem dX12_isSign_15 : decode cX12_isSign 15 = .ok (.if_icmp .ne 7, 3) := by decide +kernel
theorem dX12_isSign_18 : decode cX12_isSign 18 = .ok (.iconst 1, 1) := by decide +kernel
theorem dX12_isSign_19 : decode cX12_isSign 19 = .ok (.goto 4, 3) := by decide +kernel
theorem dX12_isSign_22 : decode cX12_isSign 22 = .ok (.iconst 0, 1) := by decide +kernel
theorem dX12_isSign_23 : decode cX12_isSign 23 = .ok (.ireturn, 1) := by decide +kernel
theorem dX12_compare_0 : decode cX12_compare 0 = .ok (.aload_n 0, 1) := by decide +kernel
theorem dX12_compare_1 : decode cX12_compare 1 = .ok (.getfield 118, 3) := by decide +kernel
theorem dX12_compare_4 : decode cX12_compare 4 = .ok (.iconst (-1), 1) := by decide +kernel
theorem dX12_compare_5 : decode cX12_compare 5 = .ok (.if_icmp .ne 10, 3) := by decide +kernel
theorem dX12_compare_8 : decode cX12_compare 8 = .ok (.aload_n 0, 1) := by decide +kernel
theorem dX12_compare_9 : decode cX12_compare 9 = .ok (.invokevirtual 130, 3) := by decide +kernel
theorem dX12_compare_12 : decode cX12_compare 12 = .ok (.goto 4, 3) := by decide +kernel
theorem dX12_compare_15 : decode cX12_compare 15 = .ok (.iconst (-1), 1) := by decide +kernel
theorem dX12_compare_16 : decode cX12_compare 16 = .ok (.istore_n 1, 1) := by decide +kernel
theorem dX12_compare_17 : decode cX12_compare 17 = .ok (.iload_n 1, 1) := by decide +kernel
theorem dX12_compare_18 : decode cX12_compare 18 = .ok (.invokestatic 164, 3) := by decide +kernel
theorem dX12_compare_21 : decode cX12_compare 21 = .ok (.ifCond .ne 8, 3) := by decide +kernel
theorem dX12_compare_24 : decode cX12_compare 24 = .ok (.aload_n 0, 1) := by decide +kernel
