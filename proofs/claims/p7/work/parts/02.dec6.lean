theorem dX12_oddsFrom_60 : decode cX12_oddsFrom 60 = .ok (.iload_n 3, 1) := by decide +kernel
theorem dX12_oddsFrom_61 : decode cX12_oddsFrom 61 = .ok (.invokevirtual 349, 3) := by decide +kernel
theorem dX12_oddsFrom_64 : decode cX12_oddsFrom 64 = .ok (.iadd, 1) := by decide +kernel
theorem dX12_oddsFrom_65 : decode cX12_oddsFrom 65 = .ok (.istore 4, 2) := by decide +kernel
theorem dX12_oddsFrom_67 : decode cX12_oddsFrom 67 = .ok (.aload_n 0, 1) := by decide +kernel
theorem dX12_oddsFrom_68 : decode cX12_oddsFrom 68 = .ok (.iload_n 1, 1) := by decide +kernel
theorem dX12_oddsFrom_69 : decode cX12_oddsFrom 69 = .ok (.invokevirtual 342, 3) := by decide +kernel
theorem dX12_oddsFrom_72 : decode cX12_oddsFrom 72 = .ok (.iinc 5 1, 3) := by decide +kernel
theorem dX12_oddsFrom_75 : decode cX12_oddsFrom 75 = .ok (.goto (-35), 3) := by decide +kernel
theorem dX12_oddsFrom_78 : decode cX12_oddsFrom 78 = .ok (.iload 4, 2) := by decide +kernel
theorem dX12_oddsFrom_80 : decode cX12_oddsFrom 80 = .ok (.ireturn, 1) := by decide +kernel
theorem dX12_odds_0 : decode cX12_odds 0 = .ok (.aload_n 0, 1) := by decide +kernel
theorem dX12_odds_1 : decode cX12_odds 1 = .ok (.iload_n 1, 1) := by decide +kernel
theorem dX12_odds_2 : decode cX12_odds 2 = .ok (.invokevirtual 281, 3) := by decide +kernel
theorem dX12_odds_5 : decode cX12_odds 5 = .ok (.ifCond .eq 23, 3) := by decide +kernel
theorem dX12_odds_8 : decode cX12_odds 8 = .ok (.iload_n 2, 1) := by decide +kernel
theorem dX12_odds_9 : decode cX12_odds 9 = .ok (.iconst 1, 1) := by decide +kernel
theorem dX12_odds_10 : decode cX12_odds 10 = .ok (.bipush 6, 2) := by decide +kernel
theorem dX12_odds_12 : decode cX12_odds 12 = .ok (.invokestatic 216, 3) := by decide +kernel
theorem dX12_odds_15 : decode cX12_odds 15 = .ok (.ifCond .eq 13, 3) := by decide +kernel
theorem dX12_odds_18 : decode cX12_odds 18 = .ok (.aload_n 0, 1) := by decide +kernel
theorem dX12_odds_19 : decode cX12_odds 19 = .ok (.iconst 0, 1) := by decide +kernel
theorem dX12_odds_20 : decode cX12_odds 20 = .ok (.iload_n 2, 1) := by decide +kernel
theorem dX12_odds_21 : decode cX12_odds 21 = .ok (.iload_n 1, 1) := by decide +kernel
theorem dX12_odds_22 : decode cX12_odds 22 = .ok (.invokevirtual 349, 3) := by decide +kernel
theorem dX12_odds_25 : decode cX12_odds 25 = .ok (.goto 4, 3) := by decide +kernel
theorem dX12_odds_28 : decode cX12_odds 28 = .ok (.iconst (-1), 1) := by decide +kernel
theorem dX12_odds_29 : decode cX12_odds 29 = .ok (.ireturn, 1) := by decide +kernel
theorem dX12_isAloneLast_0 : decode cX12_isAloneLast 0 = .ok (.aload_n 0, 1) := by decide +kernel
theorem dX12_isAloneLast_1 : decode cX12_isAloneLast 1 = .ok (.invokevirtual 312, 3) := by decide +kernel
theorem dX12_isAloneLast_4 : decode cX12_isAloneLast 4 = .ok (.aload_n 0, 1) := by decide +kernel
theorem dX12_isAloneLast_5 : decode cX12_isAloneLast 5 = .ok (.getfield 56, 3) := by decide +kernel
theorem dX12_isAloneLast_8 : decode cX12_isAloneLast 8 = .ok (.iconst 1, 1) := by decide +kernel
theorem dX12_isAloneLast_9 : decode cX12_isAloneLast 9 = .ok (.isub, 1) := by decide +kernel
theorem dX12_isAloneLast_10 : decode cX12_isAloneLast 10 = .ok (.istore_n 2, 1) := by decide +kernel
theorem dX12_isAloneLast_11 : decode cX12_isAloneLast 11 = .ok (.iconst 0, 1) := by decide +kernel
theorem dX12_isAloneLast_12 : decode cX12_isAloneLast 12 = .ok (.istore_n 3, 1) := by decide +kernel
theorem dX12_isAloneLast_13 : decode cX12_isAloneLast 13 = .ok (.iload_n 3, 1) := by decide +kernel
theorem dX12_isAloneLast_14 : decode cX12_isAloneLast 14 = .ok (.aload_n 0, 1) := by decide +kernel
theorem dX12_isAloneLast_15 : decode cX12_isAloneLast 15 = .ok (.getfield 253, 3) := by decide +kernel
theorem dX12_isAloneLast_18 : decode cX12_isAloneLast 18 = .ok (.if_icmp .ge 41, 3) := by decide +kernel
theorem dX12_isAloneLast_21 : decode cX12_isAloneLast 21 = .ok (.iload_n 3, 1) := by decide +kernel
theorem dX12_isAloneLast_22 : decode cX12_isAloneLast 22 = .ok (.iload_n 1, 1) := by decide +kernel
theorem dX12_isAloneLast_23 : decode cX12_isAloneLast 23 = .ok (.if_icmp .eq 30, 3) := by decide +kernel
theorem dX12_isAloneLast_26 : decode cX12_isAloneLast 26 = .ok (.aload_n 0, 1) := by decide +kernel
theorem dX12_isAloneLast_27 : decode cX12_isAloneLast 27 = .ok (.getfield 68, 3) := by decide +kernel
theorem dX12_isAloneLast_30 : decode cX12_isAloneLast 30 = .ok (.bipush 6, 2) := by decide +kernel
theorem dX12_isAloneLast_32 : decode cX12_isAloneLast 32 = .ok (.iload_n 2, 1) := by decide +kernel
theorem dX12_isAloneLast_33 : decode cX12_isAloneLast 33 = .ok (.imul, 1) := by decide +kernel
theorem dX12_isAloneLast_34 : decode cX12_isAloneLast 34 = .ok (.iload_n 3, 1) := by decide +kernel
theorem dX12_isAloneLast_35 : decode cX12_isAloneLast 35 = .ok (.iadd, 1) := by decide +kernel
theorem dX12_isAloneLast_36 : decode cX12_isAloneLast 36 = .ok (.iaload, 1) := by decide +kernel
theorem dX12_isAloneLast_37 : decode cX12_isAloneLast 37 = .ok (.aload_n 0, 1) := by decide +kernel
theorem dX12_isAloneLast_38 : decode cX12_isAloneLast 38 = .ok (.getfield 68, 3) := by decide +kernel
theorem dX12_isAloneLast_41 : decode cX12_isAloneLast 41 = .ok (.bipush 6, 2) := by decide +kernel
theorem dX12_isAloneLast_43 : decode cX12_isAloneLast 43 = .ok (.iload_n 2, 1) := by decide +kernel
theorem dX12_isAloneLast_44 : decode cX12_isAloneLast 44 = .ok (.imul, 1) := by decide +kernel
theorem dX12_isAloneLast_45 : decode cX12_isAloneLast 45 = .ok (.iload_n 1, 1) := by decide +kernel
theorem dX12_isAloneLast_46 : decode cX12_isAloneLast 46 = .ok (.iadd, 1) := by decide +kernel
theorem dX12_isAloneLast_47 : decode cX12_isAloneLast 47 = .ok (.iaload, 1) := by decide +kernel
theorem dX12_isAloneLast_48 : decode cX12_isAloneLast 48 = .ok (.if_icmp .lt 5, 3) := by decide +kernel
theorem dX12_isAloneLast_51 : decode cX12_isAloneLast 51 = .ok (.iconst 0, 1) := by decide +kernel
theorem dX12_isAloneLast_52 : decode cX12_isAloneLast 52 = .ok (.ireturn, 1) := by decide +kernel
theorem dX12_isAloneLast_53 : decode cX12_isAloneLast 53 = .ok (.iinc 3 1, 3) := by decide +kernel
theorem dX12_isAloneLast_56 : decode cX12_isAloneLast 56 = .ok (.goto (-43), 3) := by decide +kernel
theorem dX12_isAloneLast_59 : decode cX12_isAloneLast 59 = .ok (.iconst 1, 1) := by decide +kernel
theorem dX12_isAloneLast_60 : decode cX12_isAloneLast 60 = .ok (.ireturn, 1) := by decide +kernel
theorem dX12_paid_0 : decode cX12_paid 0 = .ok (.aload_n 0, 1) := by decide +kernel
theorem dX12_paid_1 : decode cX12_paid 1 = .ok (.iload_n 1, 1) := by decide +kernel
theorem dX12_paid_2 : decode cX12_paid 2 = .ok (.invokevirtual 281, 3) := by decide +kernel
theorem dX12_paid_5 : decode cX12_paid 5 = .ok (.ifCond .ne 5, 3) := by decide +kernel
theorem dX12_paid_8 : decode cX12_paid 8 = .ok (.iconst (-1), 1) := by decide +kernel
theorem dX12_paid_9 : decode cX12_paid 9 = .ok (.ireturn, 1) := by decide +kernel
theorem dX12_paid_10 : decode cX12_paid 10 = .ok (.aload_n 0, 1) := by decide +kernel
theorem dX12_paid_11 : decode cX12_paid 11 = .ok (.getfield 49, 3) := by decide +kernel
theorem dX12_paid_14 : decode cX12_paid 14 = .ok (.iload_n 1, 1) := by decide +kernel
theorem dX12_paid_15 : decode cX12_paid 15 = .ok (.iaload, 1) := by decide +kernel
theorem dX12_paid_16 : decode cX12_paid 16 = .ok (.istore_n 2, 1) := by decide +kernel
theorem dX12_paid_17 : decode cX12_paid 17 = .ok (.iconst (-1), 1) := by decide +kernel
theorem dX12_paid_18 : decode cX12_paid 18 = .ok (.istore_n 3, 1) := by decide +kernel
theorem dX12_paid_19 : decode cX12_paid 19 = .ok (.bipush 50, 2) := by decide +kernel
theorem dX12_paid_21 : decode cX12_paid 21 = .ok (.istore 4, 2) := by decide +kernel
theorem dX12_paid_23 : decode cX12_paid 23 = .ok (.iload 4, 2) := by decide +kernel
theorem dX12_paid_25 : decode cX12_paid 25 = .ok (.ifCond .lt 32, 3) := by decide +kernel
theorem dX12_paid_28 : decode cX12_paid 28 = .ok (.aload_n 0, 1) := by decide +kernel
theorem dX12_paid_29 : decode cX12_paid 29 = .ok (.getfield 49, 3) := by decide +kernel
theorem dX12_paid_32 : decode cX12_paid 32 = .ok (.iload_n 1, 1) := by decide +kernel
theorem dX12_paid_33 : decode cX12_paid 33 = .ok (.iload 4, 2) := by decide +kernel
theorem dX12_paid_35 : decode cX12_paid 35 = .ok (.iastore, 1) := by decide +kernel
theorem dX12_paid_36 : decode cX12_paid 36 = .ok (.aload_n 0, 1) := by decide +kernel
theorem dX12_paid_37 : decode cX12_paid 37 = .ok (.iload_n 1, 1) := by decide +kernel
theorem dX12_paid_38 : decode cX12_paid 38 = .ok (.invokevirtual 352, 3) := by decide +kernel
theorem dX12_paid_41 : decode cX12_paid 41 = .ok (.ifCond .eq 8, 3) := by decide +kernel
theorem dX12_paid_44 : decode cX12_paid 44 = .ok (.iload 4, 2) := by decide +kernel
theorem dX12_paid_46 : decode cX12_paid 46 = .ok (.goto 4, 3) := by decide +kernel
theorem dX12_paid_49 : decode cX12_paid 49 = .ok (.iload_n 3, 1) := by decide +kernel
theorem dX12_paid_50 : decode cX12_paid 50 = .ok (.istore_n 3, 1) := by decide +kernel
theorem dX12_paid_51 : decode cX12_paid 51 = .ok (.iinc 4 (-1), 3) := by decide +kernel
theorem dX12_paid_54 : decode cX12_paid 54 = .ok (.goto (-31), 3) := by decide +kernel
theorem dX12_paid_57 : decode cX12_paid 57 = .ok (.aload_n 0, 1) := by decide +kernel
theorem dX12_paid_58 : decode cX12_paid 58 = .ok (.getfield 49, 3) := by decide +kernel
theorem dX12_paid_61 : decode cX12_paid 61 = .ok (.iload_n 1, 1) := by decide +kernel
theorem dX12_paid_62 : decode cX12_paid 62 = .ok (.iload_n 2, 1) := by decide +kernel
theorem dX12_paid_63 : decode cX12_paid 63 = .ok (.iastore, 1) := by decide +kernel
theorem dX12_paid_64 : decode cX12_paid 64 = .ok (.iload_n 3, 1) := by decide +kernel
theorem dX12_paid_65 : decode cX12_paid 65 = .ok (.ireturn, 1) := by decide +kernel
theorem dX12_roll_0 : decode cX12_roll 0 = .ok (.aload_n 0, 1) := by decide +kernel
theorem dX12_roll_1 : decode cX12_roll 1 = .ok (.iload_n 1, 1) := by decide +kernel
theorem dX12_roll_2 : decode cX12_roll 2 = .ok (.invokevirtual 281, 3) := by decide +kernel
theorem dX12_roll_5 : decode cX12_roll 5 = .ok (.ifCond .eq 33, 3) := by decide +kernel
theorem dX12_roll_8 : decode cX12_roll 8 = .ok (.iload_n 2, 1) := by decide +kernel
theorem dX12_roll_9 : decode cX12_roll 9 = .ok (.iconst 0, 1) := by decide +kernel
theorem dX12_roll_10 : decode cX12_roll 10 = .ok (.bipush 29, 2) := by decide +kernel
theorem dX12_roll_12 : decode cX12_roll 12 = .ok (.invokestatic 216, 3) := by decide +kernel
theorem dX12_roll_15 : decode cX12_roll 15 = .ok (.ifCond .eq 23, 3) := by decide +kernel
theorem dX12_roll_18 : decode cX12_roll 18 = .ok (.iload_n 3, 1) := by decide +kernel
theorem dX12_roll_19 : decode cX12_roll 19 = .ok (.iconst 0, 1) := by decide +kernel
theorem dX12_roll_20 : decode cX12_roll 20 = .ok (.sipush 9999, 3) := by decide +kernel
theorem dX12_roll_23 : decode cX12_roll 23 = .ok (.invokestatic 216, 3) := by decide +kernel
theorem dX12_roll_26 : decode cX12_roll 26 = .ok (.ifCond .eq 12, 3) := by decide +kernel
theorem dX12_roll_29 : decode cX12_roll 29 = .ok (.aload_n 0, 1) := by decide +kernel
theorem dX12_roll_30 : decode cX12_roll 30 = .ok (.getfield 268, 3) := by decide +kernel
theorem dX12_roll_33 : decode cX12_roll 33 = .ok (.bipush 20, 2) := by decide +kernel
theorem dX12_roll_35 : decode cX12_roll 35 = .ok (.if_icmp .ne 5, 3) := by decide +kernel
theorem dX12_roll_38 : decode cX12_roll 38 = .ok (.iconst (-1), 1) := by decide +kernel
theorem dX12_roll_39 : decode cX12_roll 39 = .ok (.ireturn, 1) := by decide +kernel
theorem dX12_roll_40 : decode cX12_roll 40 = .ok (.aload_n 0, 1) := by decide +kernel
theorem dX12_roll_41 : decode cX12_roll 41 = .ok (.getfield 89, 3) := by decide +kernel
theorem dX12_roll_44 : decode cX12_roll 44 = .ok (.aload_n 0, 1) := by decide +kernel
theorem dX12_roll_45 : decode cX12_roll 45 = .ok (.getfield 268, 3) := by decide +kernel
theorem dX12_roll_48 : decode cX12_roll 48 = .ok (.iload_n 1, 1) := by decide +kernel
theorem dX12_roll_49 : decode cX12_roll 49 = .ok (.iastore, 1) := by decide +kernel
theorem dX12_roll_50 : decode cX12_roll 50 = .ok (.aload_n 0, 1) := by decide +kernel
theorem dX12_roll_51 : decode cX12_roll 51 = .ok (.getfield 92, 3) := by decide +kernel
theorem dX12_roll_54 : decode cX12_roll 54 = .ok (.aload_n 0, 1) := by decide +kernel
theorem dX12_roll_55 : decode cX12_roll 55 = .ok (.getfield 268, 3) := by decide +kernel
theorem dX12_roll_58 : decode cX12_roll 58 = .ok (.iload_n 2, 1) := by decide +kernel
theorem dX12_roll_59 : decode cX12_roll 59 = .ok (.iastore, 1) := by decide +kernel
theorem dX12_roll_60 : decode cX12_roll 60 = .ok (.aload_n 0, 1) := by decide +kernel
theorem dX12_roll_61 : decode cX12_roll 61 = .ok (.getfield 95, 3) := by decide +kernel
theorem dX12_roll_64 : decode cX12_roll 64 = .ok (.aload_n 0, 1) := by decide +kernel
theorem dX12_roll_65 : decode cX12_roll 65 = .ok (.getfield 268, 3) := by decide +kernel
theorem dX12_roll_68 : decode cX12_roll 68 = .ok (.iload_n 3, 1) := by decide +kernel
theorem dX12_roll_69 : decode cX12_roll 69 = .ok (.iastore, 1) := by decide +kernel
theorem dX12_roll_70 : decode cX12_roll 70 = .ok (.aload_n 0, 1) := by decide +kernel
theorem dX12_roll_71 : decode cX12_roll 71 = .ok (.dup, 1) := by decide +kernel
theorem dX12_roll_72 : decode cX12_roll 72 = .ok (.getfield 268, 3) := by decide +kernel
theorem dX12_roll_75 : decode cX12_roll 75 = .ok (.iconst 1, 1) := by decide +kernel
theorem dX12_roll_76 : decode cX12_roll 76 = .ok (.iadd, 1) := by decide +kernel
theorem dX12_roll_77 : decode cX12_roll 77 = .ok (.putfield 268, 3) := by decide +kernel
theorem dX12_roll_80 : decode cX12_roll 80 = .ok (.aload_n 0, 1) := by decide +kernel
theorem dX12_roll_81 : decode cX12_roll 81 = .ok (.getfield 268, 3) := by decide +kernel
theorem dX12_roll_84 : decode cX12_roll 84 = .ok (.ireturn, 1) := by decide +kernel
theorem dX12_agrees_0 : decode cX12_agrees 0 = .ok (.aload_n 0, 1) := by decide +kernel
theorem dX12_agrees_1 : decode cX12_agrees 1 = .ok (.invokevirtual 312, 3) := by decide +kernel
theorem dX12_agrees_4 : decode cX12_agrees 4 = .ok (.iconst 0, 1) := by decide +kernel
theorem dX12_agrees_5 : decode cX12_agrees 5 = .ok (.istore_n 1, 1) := by decide +kernel
theorem dX12_agrees_6 : decode cX12_agrees 6 = .ok (.iload_n 1, 1) := by decide +kernel
theorem dX12_agrees_7 : decode cX12_agrees 7 = .ok (.aload_n 0, 1) := by decide +kernel
theorem dX12_agrees_8 : decode cX12_agrees 8 = .ok (.getfield 268, 3) := by decide +kernel
theorem dX12_agrees_11 : decode cX12_agrees 11 = .ok (.if_icmp .ge 54, 3) := by decide +kernel
theorem dX12_agrees_14 : decode cX12_agrees 14 = .ok (.aload_n 0, 1) := by decide +kernel
theorem dX12_agrees_15 : decode cX12_agrees 15 = .ok (.getfield 92, 3) := by decide +kernel
theorem dX12_agrees_18 : decode cX12_agrees 18 = .ok (.iload_n 1, 1) := by decide +kernel
theorem dX12_agrees_19 : decode cX12_agrees 19 = .ok (.iaload, 1) := by decide +kernel
theorem dX12_agrees_20 : decode cX12_agrees 20 = .ok (.aload_n 0, 1) := by decide +kernel
theorem dX12_agrees_21 : decode cX12_agrees 21 = .ok (.getfield 56, 3) := by decide +kernel
theorem dX12_agrees_24 : decode cX12_agrees 24 = .ok (.if_icmp .ge 33, 3) := by decide +kernel
theorem dX12_agrees_27 : decode cX12_agrees 27 = .ok (.aload_n 0, 1) := by decide +kernel
theorem dX12_agrees_28 : decode cX12_agrees 28 = .ok (.getfield 71, 3) := by decide +kernel
theorem dX12_agrees_31 : decode cX12_agrees 31 = .ok (.bipush 6, 2) := by decide +kernel
theorem dX12_agrees_33 : decode cX12_agrees 33 = .ok (.aload_n 0, 1) := by decide +kernel
theorem dX12_agrees_34 : decode cX12_agrees 34 = .ok (.getfield 92, 3) := by decide +kernel
theorem dX12_agrees_37 : decode cX12_agrees 37 = .ok (.iload_n 1, 1) := by decide +kernel
theorem dX12_agrees_38 : decode cX12_agrees 38 = .ok (.iaload, 1) := by decide +kernel
theorem dX12_agrees_39 : decode cX12_agrees 39 = .ok (.imul, 1) := by decide +kernel
theorem dX12_agrees_40 : decode cX12_agrees 40 = .ok (.aload_n 0, 1) := by decide +kernel
theorem dX12_agrees_41 : decode cX12_agrees 41 = .ok (.getfield 89, 3) := by decide +kernel
theorem dX12_agrees_44 : decode cX12_agrees 44 = .ok (.iload_n 1, 1) := by decide +kernel
theorem dX12_agrees_45 : decode cX12_agrees 45 = .ok (.iaload, 1) := by decide +kernel
theorem dX12_agrees_46 : decode cX12_agrees 46 = .ok (.iadd, 1) := by decide +kernel
theorem dX12_agrees_47 : decode cX12_agrees 47 = .ok (.iaload, 1) := by decide +kernel
theorem dX12_agrees_48 : decode cX12_agrees 48 = .ok (.aload_n 0, 1) := by decide +kernel
theorem dX12_agrees_49 : decode cX12_agrees 49 = .ok (.getfield 95, 3) := by decide +kernel
theorem dX12_agrees_52 : decode cX12_agrees 52 = .ok (.iload_n 1, 1) := by decide +kernel
theorem dX12_agrees_53 : decode cX12_agrees 53 = .ok (.iaload, 1) := by decide +kernel
theorem dX12_agrees_54 : decode cX12_agrees 54 = .ok (.if_icmp .eq 5, 3) := by decide +kernel
theorem dX12_agrees_57 : decode cX12_agrees 57 = .ok (.iconst 0, 1) := by decide +kernel
theorem dX12_agrees_58 : decode cX12_agrees 58 = .ok (.ireturn, 1) := by decide +kernel
theorem dX12_agrees_59 : decode cX12_agrees 59 = .ok (.iinc 1 1, 3) := by decide +kernel
theorem dX12_agrees_62 : decode cX12_agrees 62 = .ok (.goto (-56), 3) := by decide +kernel
theorem dX12_agrees_65 : decode cX12_agrees 65 = .ok (.iconst 1, 1) := by decide +kernel
theorem dX12_agrees_66 : decode cX12_agrees 66 = .ok (.ireturn, 1) := by decide +kernel
theorem dX12_fits_0 : decode cX12_fits 0 = .ok (.aload_n 0, 1) := by decide +kernel
theorem dX12_fits_1 : decode cX12_fits 1 = .ok (.iload_n 1, 1) := by decide +kernel
theorem dX12_fits_2 : decode cX12_fits 2 = .ok (.invokevirtual 281, 3) := by decide +kernel
theorem dX12_fits_5 : decode cX12_fits 5 = .ok (.ifCond .ne 5, 3) := by decide +kernel
theorem dX12_fits_8 : decode cX12_fits 8 = .ok (.iconst (-1), 1) := by decide +kernel
theorem dX12_fits_9 : decode cX12_fits 9 = .ok (.ireturn, 1) := by decide +kernel
theorem dX12_fits_10 : decode cX12_fits 10 = .ok (.aload_n 0, 1) := by decide +kernel
theorem dX12_fits_11 : decode cX12_fits 11 = .ok (.iload_n 1, 1) := by decide +kernel
theorem dX12_fits_12 : decode cX12_fits 12 = .ok (.iconst 3, 1) := by decide +kernel
theorem dX12_fits_13 : decode cX12_fits 13 = .ok (.invokevirtual 284, 3) := by decide +kernel
theorem dX12_fits_16 : decode cX12_fits 16 = .ok (.istore_n 2, 1) := by decide +kernel
theorem dX12_fits_17 : decode cX12_fits 17 = .ok (.iconst 0, 1) := by decide +kernel
theorem dX12_fits_18 : decode cX12_fits 18 = .ok (.istore_n 3, 1) := by decide +kernel
theorem dX12_fits_19 : decode cX12_fits 19 = .ok (.iconst (-1), 1) := by decide +kernel
theorem dX12_fits_20 : decode cX12_fits 20 = .ok (.istore 4, 2) := by decide +kernel
theorem dX12_fits_22 : decode cX12_fits 22 = .ok (.iload 4, 2) := by decide +kernel
theorem dX12_fits_24 : decode cX12_fits 24 = .ok (.aload_n 0, 1) := by decide +kernel
theorem dX12_fits_25 : decode cX12_fits 25 = .ok (.getfield 253, 3) := by decide +kernel
theorem dX12_fits_28 : decode cX12_fits 28 = .ok (.if_icmp .ge 56, 3) := by decide +kernel
theorem dX12_fits_31 : decode cX12_fits 31 = .ok (.iload 4, 2) := by decide +kernel
theorem dX12_fits_33 : decode cX12_fits 33 = .ok (.iload_n 1, 1) := by decide +kernel
theorem dX12_fits_34 : decode cX12_fits 34 = .ok (.if_icmp .eq 44, 3) := by decide +kernel
theorem dX12_fits_37 : decode cX12_fits 37 = .ok (.aload_n 0, 1) := by decide +kernel
theorem dX12_fits_38 : decode cX12_fits 38 = .ok (.getfield 43, 3) := by decide +kernel
theorem dX12_fits_41 : decode cX12_fits 41 = .ok (.iconst 5, 1) := by decide +kernel
theorem dX12_fits_42 : decode cX12_fits 42 = .ok (.iload_n 1, 1) := by decide +kernel
theorem dX12_fits_43 : decode cX12_fits 43 = .ok (.imul, 1) := by decide +kernel
theorem dX12_fits_44 : decode cX12_fits 44 = .ok (.iconst 3, 1) := by decide +kernel
theorem dX12_fits_45 : decode cX12_fits 45 = .ok (.iadd, 1) := by decide +kernel
theorem dX12_fits_46 : decode cX12_fits 46 = .ok (.iload 4, 2) := by decide +kernel
theorem dX12_fits_48 : decode cX12_fits 48 = .ok (.iastore, 1) := by decide +kernel
theorem dX12_fits_49 : decode cX12_fits 49 = .ok (.iload_n 3, 1) := by decide +kernel
theorem dX12_fits_50 : decode cX12_fits 50 = .ok (.aload_n 0, 1) := by decide +kernel
theorem dX12_fits_51 : decode cX12_fits 51 = .ok (.invokevirtual 355, 3) := by decide +kernel
theorem dX12_fits_54 : decode cX12_fits 54 = .ok (.ifCond .eq 21, 3) := by decide +kernel
theorem dX12_fits_57 : decode cX12_fits 57 = .ok (.iconst 1, 1) := by decide +kernel
theorem dX12_fits_58 : decode cX12_fits 58 = .ok (.iload 4, 2) := by decide +kernel
theorem dX12_fits_60 : decode cX12_fits 60 = .ok (.iconst (-1), 1) := by decide +kernel
theorem dX12_fits_61 : decode cX12_fits 61 = .ok (.if_icmp .ne 8, 3) := by decide +kernel
theorem dX12_fits_64 : decode cX12_fits 64 = .ok (.bipush 6, 2) := by decide +kernel
theorem dX12_fits_66 : decode cX12_fits 66 = .ok (.goto 5, 3) := by decide +kernel
theorem dX12_fits_69 : decode cX12_fits 69 = .ok (.iload 4, 2) := by decide +kernel
theorem dX12_fits_71 : decode cX12_fits 71 = .ok (.ishl, 1) := by decide +kernel
theorem dX12_fits_72 : decode cX12_fits 72 = .ok (.goto 4, 3) := by decide +kernel
theorem dX12_fits_75 : decode cX12_fits 75 = .ok (.iconst 0, 1) := by decide +kernel
theorem dX12_fits_76 : decode cX12_fits 76 = .ok (.ior, 1) := by decide +kernel
theorem dX12_fits_77 : decode cX12_fits 77 = .ok (.istore_n 3, 1) := by decide +kernel
theorem dX12_fits_78 : decode cX12_fits 78 = .ok (.iinc 4 1, 3) := by decide +kernel
theorem dX12_fits_81 : decode cX12_fits 81 = .ok (.goto (-59), 3) := by decide +kernel
theorem dX12_fits_84 : decode cX12_fits 84 = .ok (.aload_n 0, 1) := by decide +kernel
theorem dX12_fits_85 : decode cX12_fits 85 = .ok (.getfield 43, 3) := by decide +kernel
theorem dX12_fits_88 : decode cX12_fits 88 = .ok (.iconst 5, 1) := by decide +kernel
theorem dX12_fits_89 : decode cX12_fits 89 = .ok (.iload_n 1, 1) := by decide +kernel
theorem dX12_fits_90 : decode cX12_fits 90 = .ok (.imul, 1) := by decide +kernel
theorem dX12_fits_91 : decode cX12_fits 91 = .ok (.iconst 3, 1) := by decide +kernel
theorem dX12_fits_92 : decode cX12_fits 92 = .ok (.iadd, 1) := by decide +kernel
theorem dX12_fits_93 : decode cX12_fits 93 = .ok (.iload_n 2, 1) := by decide +kernel
theorem dX12_fits_94 : decode cX12_fits 94 = .ok (.iastore, 1) := by decide +kernel
theorem dX12_fits_95 : decode cX12_fits 95 = .ok (.iload_n 3, 1) := by decide +kernel
theorem dX12_fits_96 : decode cX12_fits 96 = .ok (.ireturn, 1) := by decide +kernel
theorem dX12_deaf_0 : decode cX12_deaf 0 = .ok (.aload_n 0, 1) := by decide +kernel
theorem dX12_deaf_1 : decode cX12_deaf 1 = .ok (.iload_n 1, 1) := by decide +kernel
theorem dX12_deaf_2 : decode cX12_deaf 2 = .ok (.invokevirtual 281, 3) := by decide +kernel
theorem dX12_deaf_5 : decode cX12_deaf 5 = .ok (.ifCond .ne 5, 3) := by decide +kernel
theorem dX12_deaf_8 : decode cX12_deaf 8 = .ok (.iconst (-1), 1) := by decide +kernel
theorem dX12_deaf_9 : decode cX12_deaf 9 = .ok (.ireturn, 1) := by decide +kernel
theorem dX12_deaf_10 : decode cX12_deaf 10 = .ok (.aload_n 0, 1) := by decide +kernel
theorem dX12_deaf_11 : decode cX12_deaf 11 = .ok (.iload_n 1, 1) := by decide +kernel
theorem dX12_deaf_12 : decode cX12_deaf 12 = .ok (.iconst 3, 1) := by decide +kernel
theorem dX12_deaf_13 : decode cX12_deaf 13 = .ok (.invokevirtual 284, 3) := by decide +kernel
theorem dX12_deaf_16 : decode cX12_deaf 16 = .ok (.istore_n 2, 1) := by decide +kernel
theorem dX12_deaf_17 : decode cX12_deaf 17 = .ok (.aload_n 0, 1) := by decide +kernel
theorem dX12_deaf_18 : decode cX12_deaf 18 = .ok (.getfield 43, 3) := by decide +kernel
theorem dX12_deaf_21 : decode cX12_deaf 21 = .ok (.iconst 5, 1) := by decide +kernel
theorem dX12_deaf_22 : decode cX12_deaf 22 = .ok (.iload_n 1, 1) := by decide +kernel
theorem dX12_deaf_23 : decode cX12_deaf 23 = .ok (.imul, 1) := by decide +kernel
theorem dX12_deaf_24 : decode cX12_deaf 24 = .ok (.iconst 3, 1) := by decide +kernel
theorem dX12_deaf_25 : decode cX12_deaf 25 = .ok (.iadd, 1) := by decide +kernel
theorem dX12_deaf_26 : decode cX12_deaf 26 = .ok (.iconst (-1), 1) := by decide +kernel
theorem dX12_deaf_27 : decode cX12_deaf 27 = .ok (.iastore, 1) := by decide +kernel
theorem dX12_deaf_28 : decode cX12_deaf 28 = .ok (.aload_n 0, 1) := by decide +kernel
theorem dX12_deaf_29 : decode cX12_deaf 29 = .ok (.invokevirtual 321, 3) := by decide +kernel
theorem dX12_deaf_32 : decode cX12_deaf 32 = .ok (.istore_n 3, 1) := by decide +kernel
theorem dX12_deaf_33 : decode cX12_deaf 33 = .ok (.aload_n 0, 1) := by decide +kernel
theorem dX12_deaf_34 : decode cX12_deaf 34 = .ok (.getfield 43, 3) := by decide +kernel
theorem dX12_deaf_37 : decode cX12_deaf 37 = .ok (.iconst 5, 1) := by decide +kernel
theorem dX12_deaf_38 : decode cX12_deaf 38 = .ok (.iload_n 1, 1) := by decide +kernel
theorem dX12_deaf_39 : decode cX12_deaf 39 = .ok (.imul, 1) := by decide +kernel
theorem dX12_deaf_40 : decode cX12_deaf 40 = .ok (.iconst 3, 1) := by decide +kernel
theorem dX12_deaf_41 : decode cX12_deaf 41 = .ok (.iadd, 1) := by decide +kernel
theorem dX12_deaf_42 : decode cX12_deaf 42 = .ok (.iload_n 2, 1) := by decide +kernel
theorem dX12_deaf_43 : decode cX12_deaf 43 = .ok (.iastore, 1) := by decide +kernel
theorem dX12_deaf_44 : decode cX12_deaf 44 = .ok (.iload_n 3, 1) := by decide +kernel
theorem dX12_deaf_45 : decode cX12_deaf 45 = .ok (.ireturn, 1) := by decide +kernel
theorem dX12_echoes_0 : decode cX12_echoes 0 = .ok (.aload_n 0, 1) := by decide +kernel
theorem dX12_echoes_1 : decode cX12_echoes 1 = .ok (.getfield 253, 3) := by decide +kernel
theorem dX12_echoes_4 : decode cX12_echoes 4 = .ok (.ifCond .eq 12, 3) := by decide +kernel
theorem dX12_echoes_7 : decode cX12_echoes 7 = .ok (.iload_n 1, 1) := by decide +kernel
theorem dX12_echoes_8 : decode cX12_echoes 8 = .ok (.iconst 0, 1) := by decide +kernel
theorem dX12_echoes_9 : decode cX12_echoes 9 = .ok (.iconst 1, 1) := by decide +kernel
theorem dX12_echoes_10 : decode cX12_echoes 10 = .ok (.invokestatic 216, 3) := by decide +kernel
theorem dX12_echoes_13 : decode cX12_echoes 13 = .ok (.ifCond .ne 5, 3) := by decide +kernel
theorem dX12_echoes_16 : decode cX12_echoes 16 = .ok (.iconst (-1), 1) := by decide +kernel
theorem dX12_echoes_17 : decode cX12_echoes 17 = .ok (.ireturn, 1) := by decide +kernel
theorem dX12_echoes_18 : decode cX12_echoes 18 = .ok (.aload_n 0, 1) := by decide +kernel
theorem dX12_echoes_19 : decode cX12_echoes 19 = .ok (.getfield 287, 3) := by decide +kernel
theorem dX12_echoes_22 : decode cX12_echoes 22 = .ok (.istore_n 2, 1) := by decide +kernel
theorem dX12_echoes_23 : decode cX12_echoes 23 = .ok (.iconst 0, 1) := by decide +kernel
theorem dX12_echoes_24 : decode cX12_echoes 24 = .ok (.istore_n 3, 1) := by decide +kernel
theorem dX12_echoes_25 : decode cX12_echoes 25 = .ok (.iconst 0, 1) := by decide +kernel
theorem dX12_echoes_26 : decode cX12_echoes 26 = .ok (.istore 4, 2) := by decide +kernel
theorem dX12_echoes_28 : decode cX12_echoes 28 = .ok (.iconst 0, 1) := by decide +kernel
theorem dX12_echoes_29 : decode cX12_echoes 29 = .ok (.istore 5, 2) := by decide +kernel
theorem dX12_echoes_31 : decode cX12_echoes 31 = .ok (.iload 5, 2) := by decide +kernel
theorem dX12_echoes_33 : decode cX12_echoes 33 = .ok (.iconst 4, 1) := by decide +kernel
theorem dX12_echoes_34 : decode cX12_echoes 34 = .ok (.if_icmp .ge 40, 3) := by decide +kernel
theorem dX12_echoes_37 : decode cX12_echoes 37 = .ok (.aload_n 0, 1) := by decide +kernel
theorem dX12_echoes_38 : decode cX12_echoes 38 = .ok (.iload 5, 2) := by decide +kernel
theorem dX12_echoes_40 : decode cX12_echoes 40 = .ok (.putfield 287, 3) := by decide +kernel
theorem dX12_echoes_43 : decode cX12_echoes 43 = .ok (.aload_n 0, 1) := by decide +kernel
theorem dX12_echoes_44 : decode cX12_echoes 44 = .ok (.invokevirtual 321, 3) := by decide +kernel
theorem dX12_echoes_47 : decode cX12_echoes 47 = .ok (.istore 6, 2) := by decide +kernel
theorem dX12_echoes_49 : decode cX12_echoes 49 = .ok (.iload 5, 2) := by decide +kernel
theorem dX12_echoes_51 : decode cX12_echoes 51 = .ok (.ifCond .eq 10, 3) := by decide +kernel
theorem dX12_echoes_54 : decode cX12_echoes 54 = .ok (.iload 6, 2) := by decide +kernel
theorem dX12_echoes_56 : decode cX12_echoes 56 = .ok (.iload 4, 2) := by decide +kernel
theorem dX12_echoes_58 : decode cX12_echoes 58 = .ok (.if_icmp .ge 10, 3) := by decide +kernel
theorem dX12_echoes_61 : decode cX12_echoes 61 = .ok (.iload 5, 2) := by decide +kernel
theorem dX12_echoes_63 : decode cX12_echoes 63 = .ok (.istore_n 3, 1) := by decide +kernel
theorem dX12_echoes_64 : decode cX12_echoes 64 = .ok (.iload 6, 2) := by decide +kernel
theorem dX12_echoes_66 : decode cX12_echoes 66 = .ok (.istore 4, 2) := by decide +kernel
theorem dX12_echoes_68 : decode cX12_echoes 68 = .ok (.iinc 5 1, 3) := by decide +kernel
theorem dX12_echoes_71 : decode cX12_echoes 71 = .ok (.goto (-40), 3) := by decide +kernel
theorem dX12_echoes_74 : decode cX12_echoes 74 = .ok (.aload_n 0, 1) := by decide +kernel
theorem dX12_echoes_75 : decode cX12_echoes 75 = .ok (.iload_n 2, 1) := by decide +kernel
theorem dX12_echoes_76 : decode cX12_echoes 76 = .ok (.putfield 287, 3) := by decide +kernel
theorem dX12_echoes_79 : decode cX12_echoes 79 = .ok (.iload_n 1, 1) := by decide +kernel
theorem dX12_echoes_80 : decode cX12_echoes 80 = .ok (.ifCond .ne 7, 3) := by decide +kernel
theorem dX12_echoes_83 : decode cX12_echoes 83 = .ok (.iload_n 3, 1) := by decide +kernel
theorem dX12_echoes_84 : decode cX12_echoes 84 = .ok (.goto 5, 3) := by decide +kernel
theorem dX12_echoes_87 : decode cX12_echoes 87 = .ok (.iload 4, 2) := by decide +kernel
theorem dX12_echoes_89 : decode cX12_echoes 89 = .ok (.ireturn, 1) := by decide +kernel
theorem dX12_gift_0 : decode cX12_gift 0 = .ok (.aload_n 0, 1) := by decide +kernel
theorem dX12_gift_1 : decode cX12_gift 1 = .ok (.getfield 253, 3) := by decide +kernel
theorem dX12_gift_4 : decode cX12_gift 4 = .ok (.ifCond .eq 22, 3) := by decide +kernel
theorem dX12_gift_7 : decode cX12_gift 7 = .ok (.iload_n 1, 1) := by decide +kernel
theorem dX12_gift_8 : decode cX12_gift 8 = .ok (.iconst 0, 1) := by decide +kernel
theorem dX12_gift_9 : decode cX12_gift 9 = .ok (.iconst 1, 1) := by decide +kernel
theorem dX12_gift_10 : decode cX12_gift 10 = .ok (.invokestatic 216, 3) := by decide +kernel
theorem dX12_gift_13 : decode cX12_gift 13 = .ok (.ifCond .eq 13, 3) := by decide +kernel
theorem dX12_gift_16 : decode cX12_gift 16 = .ok (.aload_n 0, 1) := by decide +kernel
theorem dX12_gift_17 : decode cX12_gift 17 = .ok (.getfield 259, 3) := by decide +kernel
theorem dX12_gift_20 : decode cX12_gift 20 = .ok (.sipush 999, 3) := by decide +kernel
theorem dX12_gift_23 : decode cX12_gift 23 = .ok (.if_icmp .le 5, 3) := by decide +kernel
theorem dX12_gift_26 : decode cX12_gift 26 = .ok (.iconst (-1), 1) := by decide +kernel
theorem dX12_gift_27 : decode cX12_gift 27 = .ok (.ireturn, 1) := by decide +kernel
theorem dX12_gift_28 : decode cX12_gift 28 = .ok (.aload_n 0, 1) := by decide +kernel
theorem dX12_gift_29 : decode cX12_gift 29 = .ok (.aload_n 0, 1) := by decide +kernel
theorem dX12_gift_30 : decode cX12_gift 30 = .ok (.getfield 259, 3) := by decide +kernel
theorem dX12_gift_33 : decode cX12_gift 33 = .ok (.invokevirtual 297, 3) := by decide +kernel
theorem dX12_gift_36 : decode cX12_gift 36 = .ok (.istore_n 2, 1) := by decide +kernel
theorem dX12_gift_37 : decode cX12_gift 37 = .ok (.aload_n 0, 1) := by decide +kernel
theorem dX12_gift_38 : decode cX12_gift 38 = .ok (.iconst 0, 1) := by decide +kernel
theorem dX12_gift_39 : decode cX12_gift 39 = .ok (.invokevirtual 336, 3) := by decide +kernel
theorem dX12_gift_42 : decode cX12_gift 42 = .ok (.iconst (-1), 1) := by decide +kernel
theorem dX12_gift_43 : decode cX12_gift 43 = .ok (.istore_n 3, 1) := by decide +kernel
theorem dX12_gift_44 : decode cX12_gift 44 = .ok (.iconst 0, 1) := by decide +kernel
theorem dX12_gift_45 : decode cX12_gift 45 = .ok (.istore 4, 2) := by decide +kernel
theorem dX12_gift_47 : decode cX12_gift 47 = .ok (.iconst 0, 1) := by decide +kernel
theorem dX12_gift_48 : decode cX12_gift 48 = .ok (.istore 5, 2) := by decide +kernel
theorem dX12_gift_50 : decode cX12_gift 50 = .ok (.iload 5, 2) := by decide +kernel
theorem dX12_gift_52 : decode cX12_gift 52 = .ok (.aload_n 0, 1) := by decide +kernel
theorem dX12_gift_53 : decode cX12_gift 53 = .ok (.getfield 253, 3) := by decide +kernel
theorem dX12_gift_56 : decode cX12_gift 56 = .ok (.if_icmp .ge 46, 3) := by decide +kernel
theorem dX12_gift_59 : decode cX12_gift 59 = .ok (.aload_n 0, 1) := by decide +kernel
theorem dX12_gift_60 : decode cX12_gift 60 = .ok (.iload 5, 2) := by decide +kernel
theorem dX12_gift_62 : decode cX12_gift 62 = .ok (.iload_n 2, 1) := by decide +kernel
theorem dX12_gift_63 : decode cX12_gift 63 = .ok (.invokevirtual 300, 3) := by decide +kernel
theorem dX12_gift_66 : decode cX12_gift 66 = .ok (.aload_n 0, 1) := by decide +kernel
theorem dX12_gift_67 : decode cX12_gift 67 = .ok (.invokevirtual 321, 3) := by decide +kernel
theorem dX12_gift_70 : decode cX12_gift 70 = .ok (.istore 6, 2) := by decide +kernel
theorem dX12_gift_72 : decode cX12_gift 72 = .ok (.aload_n 0, 1) := by decide +kernel
theorem dX12_gift_73 : decode cX12_gift 73 = .ok (.iconst 0, 1) := by decide +kernel
theorem dX12_gift_74 : decode cX12_gift 74 = .ok (.invokevirtual 342, 3) := by decide +kernel
theorem dX12_gift_77 : decode cX12_gift 77 = .ok (.iload_n 3, 1) := by decide +kernel
theorem dX12_gift_78 : decode cX12_gift 78 = .ok (.iconst (-1), 1) := by decide +kernel
theorem dX12_gift_79 : decode cX12_gift 79 = .ok (.if_icmp .eq 10, 3) := by decide +kernel
theorem dX12_gift_82 : decode cX12_gift 82 = .ok (.iload 6, 2) := by decide +kernel
theorem dX12_gift_84 : decode cX12_gift 84 = .ok (.iload 4, 2) := by decide +kernel
theorem dX12_gift_86 : decode cX12_gift 86 = .ok (.if_icmp .ge 10, 3) := by decide +kernel
theorem dX12_gift_89 : decode cX12_gift 89 = .ok (.iload 5, 2) := by decide +kernel
theorem dX12_gift_91 : decode cX12_gift 91 = .ok (.istore_n 3, 1) := by decide +kernel
theorem dX12_gift_92 : decode cX12_gift 92 = .ok (.iload 6, 2) := by decide +kernel
theorem dX12_gift_94 : decode cX12_gift 94 = .ok (.istore 4, 2) := by decide +kernel
theorem dX12_gift_96 : decode cX12_gift 96 = .ok (.iinc 5 1, 3) := by decide +kernel
theorem dX12_gift_99 : decode cX12_gift 99 = .ok (.goto (-49), 3) := by decide +kernel
theorem dX12_gift_102 : decode cX12_gift 102 = .ok (.iload_n 1, 1) := by decide +kernel
theorem dX12_gift_103 : decode cX12_gift 103 = .ok (.ifCond .ne 7, 3) := by decide +kernel
theorem dX12_gift_106 : decode cX12_gift 106 = .ok (.iload_n 3, 1) := by decide +kernel
theorem dX12_gift_107 : decode cX12_gift 107 = .ok (.goto 5, 3) := by decide +kernel
theorem dX12_gift_110 : decode cX12_gift 110 = .ok (.iload 4, 2) := by decide +kernel
theorem dX12_gift_112 : decode cX12_gift 112 = .ok (.ireturn, 1) := by decide +kernel
theorem dX12_tune_0 : decode cX12_tune 0 = .ok (.aload_n 0, 1) := by decide +kernel
theorem dX12_tune_1 : decode cX12_tune 1 = .ok (.iload_n 1, 1) := by decide +kernel
theorem dX12_tune_2 : decode cX12_tune 2 = .ok (.invokevirtual 281, 3) := by decide +kernel
theorem dX12_tune_5 : decode cX12_tune 5 = .ok (.ifCond .eq 12, 3) := by decide +kernel
theorem dX12_tune_8 : decode cX12_tune 8 = .ok (.iload_n 2, 1) := by decide +kernel
theorem dX12_tune_9 : decode cX12_tune 9 = .ok (.iconst 0, 1) := by decide +kernel
theorem dX12_tune_10 : decode cX12_tune 10 = .ok (.iconst 1, 1) := by decide +kernel
theorem dX12_tune_11 : decode cX12_tune 11 = .ok (.invokestatic 216, 3) := by decide +kernel
theorem dX12_tune_14 : decode cX12_tune 14 = .ok (.ifCond .ne 5, 3) := by decide +kernel
theorem dX12_tune_17 : decode cX12_tune 17 = .ok (.iconst (-1), 1) := by decide +kernel
theorem dX12_tune_18 : decode cX12_tune 18 = .ok (.ireturn, 1) := by decide +kernel
theorem dX12_tune_19 : decode cX12_tune 19 = .ok (.aload_n 0, 1) := by decide +kernel
theorem dX12_tune_20 : decode cX12_tune 20 = .ok (.iload_n 1, 1) := by decide +kernel
theorem dX12_tune_21 : decode cX12_tune 21 = .ok (.iconst 4, 1) := by decide +kernel
theorem dX12_tune_22 : decode cX12_tune 22 = .ok (.invokevirtual 284, 3) := by decide +kernel
theorem dX12_tune_25 : decode cX12_tune 25 = .ok (.istore_n 3, 1) := by decide +kernel
theorem dX12_tune_26 : decode cX12_tune 26 = .ok (.iconst (-1), 1) := by decide +kernel
theorem dX12_tune_27 : decode cX12_tune 27 = .ok (.istore 4, 2) := by decide +kernel
theorem dX12_tune_29 : decode cX12_tune 29 = .ok (.iconst 0, 1) := by decide +kernel
theorem dX12_tune_30 : decode cX12_tune 30 = .ok (.istore 5, 2) := by decide +kernel
theorem dX12_tune_32 : decode cX12_tune 32 = .ok (.iconst 0, 1) := by decide +kernel
theorem dX12_tune_33 : decode cX12_tune 33 = .ok (.istore 6, 2) := by decide +kernel
theorem dX12_tune_35 : decode cX12_tune 35 = .ok (.iload 6, 2) := by decide +kernel
theorem dX12_tune_37 : decode cX12_tune 37 = .ok (.bipush 10, 2) := by decide +kernel
theorem dX12_tune_39 : decode cX12_tune 39 = .ok (.if_icmp .gt 67, 3) := by decide +kernel
theorem dX12_tune_42 : decode cX12_tune 42 = .ok (.aload_n 0, 1) := by decide +kernel
theorem dX12_tune_43 : decode cX12_tune 43 = .ok (.getfield 43, 3) := by decide +kernel
theorem dX12_tune_46 : decode cX12_tune 46 = .ok (.iconst 5, 1) := by decide +kernel
theorem dX12_tune_47 : decode cX12_tune 47 = .ok (.iload_n 1, 1) := by decide +kernel
theorem dX12_tune_48 : decode cX12_tune 48 = .ok (.imul, 1) := by decide +kernel
theorem dX12_tune_49 : decode cX12_tune 49 = .ok (.iconst 4, 1) := by decide +kernel
theorem dX12_tune_50 : decode cX12_tune 50 = .ok (.iadd, 1) := by decide +kernel
theorem dX12_tune_51 : decode cX12_tune 51 = .ok (.iload 6, 2) := by decide +kernel
theorem dX12_tune_53 : decode cX12_tune 53 = .ok (.iastore, 1) := by decide +kernel
theorem dX12_tune_54 : decode cX12_tune 54 = .ok (.aload_n 0, 1) := by decide +kernel
theorem dX12_tune_55 : decode cX12_tune 55 = .ok (.invokevirtual 321, 3) := by decide +kernel
theorem dX12_tune_58 : decode cX12_tune 58 = .ok (.istore 7, 2) := by decide +kernel
theorem dX12_tune_60 : decode cX12_tune 60 = .ok (.iload 7, 2) := by decide +kernel
theorem dX12_tune_62 : decode cX12_tune 62 = .ok (.aload_n 0, 1) := by decide +kernel
theorem dX12_tune_63 : decode cX12_tune 63 = .ok (.getfield 59, 3) := by decide +kernel
theorem dX12_tune_66 : decode cX12_tune 66 = .ok (.if_icmp .gt 34, 3) := by decide +kernel
theorem dX12_tune_69 : decode cX12_tune 69 = .ok (.iload 4, 2) := by decide +kernel
theorem dX12_tune_71 : decode cX12_tune 71 = .ok (.iconst (-1), 1) := by decide +kernel
theorem dX12_tune_72 : decode cX12_tune 72 = .ok (.if_icmp .eq 20, 3) := by decide +kernel
theorem dX12_tune_75 : decode cX12_tune 75 = .ok (.iload 6, 2) := by decide +kernel
theorem dX12_tune_77 : decode cX12_tune 77 = .ok (.iload_n 3, 1) := by decide +kernel
theorem dX12_tune_78 : decode cX12_tune 78 = .ok (.isub, 1) := by decide +kernel
theorem dX12_tune_79 : decode cX12_tune 79 = .ok (.invokestatic 358, 3) := by decide +kernel
theorem dX12_tune_82 : decode cX12_tune 82 = .ok (.iload 4, 2) := by decide +kernel
theorem dX12_tune_84 : decode cX12_tune 84 = .ok (.iload_n 3, 1) := by decide +kernel
theorem dX12_tune_85 : decode cX12_tune 85 = .ok (.isub, 1) := by decide +kernel
theorem dX12_tune_86 : decode cX12_tune 86 = .ok (.invokestatic 358, 3) := by decide +kernel
theorem dX12_tune_89 : decode cX12_tune 89 = .ok (.if_icmp .ge 11, 3) := by decide +kernel
theorem dX12_tune_92 : decode cX12_tune 92 = .ok (.iload 6, 2) := by decide +kernel
theorem dX12_tune_94 : decode cX12_tune 94 = .ok (.istore 4, 2) := by decide +kernel
theorem dX12_tune_96 : decode cX12_tune 96 = .ok (.iload 7, 2) := by decide +kernel
theorem dX12_tune_98 : decode cX12_tune 98 = .ok (.istore 5, 2) := by decide +kernel
theorem dX12_tune_100 : decode cX12_tune 100 = .ok (.iinc 6 1, 3) := by decide +kernel
theorem dX12_tune_103 : decode cX12_tune 103 = .ok (.goto (-68), 3) := by decide +kernel
theorem dX12_tune_106 : decode cX12_tune 106 = .ok (.aload_n 0, 1) := by decide +kernel
theorem dX12_tune_107 : decode cX12_tune 107 = .ok (.getfield 43, 3) := by decide +kernel
theorem dX12_tune_110 : decode cX12_tune 110 = .ok (.iconst 5, 1) := by decide +kernel
theorem dX12_tune_111 : decode cX12_tune 111 = .ok (.iload_n 1, 1) := by decide +kernel
theorem dX12_tune_112 : decode cX12_tune 112 = .ok (.imul, 1) := by decide +kernel
theorem dX12_tune_113 : decode cX12_tune 113 = .ok (.iconst 4, 1) := by decide +kernel
theorem dX12_tune_114 : decode cX12_tune 114 = .ok (.iadd, 1) := by decide +kernel
theorem dX12_tune_115 : decode cX12_tune 115 = .ok (.iload_n 3, 1) := by decide +kernel
theorem dX12_tune_116 : decode cX12_tune 116 = .ok (.iastore, 1) := by decide +kernel
theorem dX12_tune_117 : decode cX12_tune 117 = .ok (.iload 4, 2) := by decide +kernel
theorem dX12_tune_119 : decode cX12_tune 119 = .ok (.iconst (-1), 1) := by decide +kernel
theorem dX12_tune_120 : decode cX12_tune 120 = .ok (.if_icmp .eq 7, 3) := by decide +kernel
theorem dX12_tune_123 : decode cX12_tune 123 = .ok (.iload_n 2, 1) := by decide +kernel
theorem dX12_tune_124 : decode cX12_tune 124 = .ok (.ifCond .ne 8, 3) := by decide +kernel
theorem dX12_tune_127 : decode cX12_tune 127 = .ok (.iload 4, 2) := by decide +kernel
theorem dX12_tune_129 : decode cX12_tune 129 = .ok (.goto 5, 3) := by decide +kernel
theorem dX12_tune_132 : decode cX12_tune 132 = .ok (.iload 5, 2) := by decide +kernel
theorem dX12_tune_134 : decode cX12_tune 134 = .ok (.ireturn, 1) := by decide +kernel
theorem dX12_place_0 : decode cX12_place 0 = .ok (.aload_n 0, 1) := by decide +kernel
theorem dX12_place_1 : decode cX12_place 1 = .ok (.iload_n 1, 1) := by decide +kernel
theorem dX12_place_2 : decode cX12_place 2 = .ok (.invokevirtual 309, 3) := by decide +kernel
theorem dX12_place_5 : decode cX12_place 5 = .ok (.ifCond .ne 5, 3) := by decide +kernel
theorem dX12_place_8 : decode cX12_place 8 = .ok (.iconst (-1), 1) := by decide +kernel
theorem dX12_place_9 : decode cX12_place 9 = .ok (.ireturn, 1) := by decide +kernel
theorem dX12_place_10 : decode cX12_place 10 = .ok (.aload_n 0, 1) := by decide +kernel
theorem dX12_place_11 : decode cX12_place 11 = .ok (.invokevirtual 312, 3) := by decide +kernel
theorem dX12_place_14 : decode cX12_place 14 = .ok (.iconst 0, 1) := by decide +kernel
theorem dX12_place_15 : decode cX12_place 15 = .ok (.istore_n 3, 1) := by decide +kernel
theorem dX12_place_16 : decode cX12_place 16 = .ok (.iload_n 3, 1) := by decide +kernel
theorem dX12_place_17 : decode cX12_place 17 = .ok (.aload_n 0, 1) := by decide +kernel
theorem dX12_place_18 : decode cX12_place 18 = .ok (.getfield 253, 3) := by decide +kernel
theorem dX12_place_21 : decode cX12_place 21 = .ok (.if_icmp .ge 90, 3) := by decide +kernel
theorem dX12_place_24 : decode cX12_place 24 = .ok (.iconst 0, 1) := by decide +kernel
theorem dX12_place_25 : decode cX12_place 25 = .ok (.istore 4, 2) := by decide +kernel
theorem dX12_place_27 : decode cX12_place 27 = .ok (.iconst 0, 1) := by decide +kernel
theorem dX12_place_28 : decode cX12_place 28 = .ok (.istore 5, 2) := by decide +kernel
theorem dX12_place_30 : decode cX12_place 30 = .ok (.iload 5, 2) := by decide +kernel
theorem dX12_place_32 : decode cX12_place 32 = .ok (.aload_n 0, 1) := by decide +kernel
theorem dX12_place_33 : decode cX12_place 33 = .ok (.getfield 253, 3) := by decide +kernel
theorem dX12_place_36 : decode cX12_place 36 = .ok (.if_icmp .ge 61, 3) := by decide +kernel
theorem dX12_place_39 : decode cX12_place 39 = .ok (.aload_n 0, 1) := by decide +kernel
theorem dX12_place_40 : decode cX12_place 40 = .ok (.getfield 68, 3) := by decide +kernel
theorem dX12_place_43 : decode cX12_place 43 = .ok (.bipush 6, 2) := by decide +kernel
theorem dX12_place_45 : decode cX12_place 45 = .ok (.iload_n 1, 1) := by decide +kernel
theorem dX12_place_46 : decode cX12_place 46 = .ok (.imul, 1) := by decide +kernel
theorem dX12_place_47 : decode cX12_place 47 = .ok (.iload_n 3, 1) := by decide +kernel
theorem dX12_place_48 : decode cX12_place 48 = .ok (.iadd, 1) := by decide +kernel
theorem dX12_place_49 : decode cX12_place 49 = .ok (.iaload, 1) := by decide +kernel
theorem dX12_place_50 : decode cX12_place 50 = .ok (.aload_n 0, 1) := by decide +kernel
theorem dX12_place_51 : decode cX12_place 51 = .ok (.getfield 68, 3) := by decide +kernel
theorem dX12_place_54 : decode cX12_place 54 = .ok (.bipush 6, 2) := by decide +kernel
theorem dX12_place_56 : decode cX12_place 56 = .ok (.iload_n 1, 1) := by decide +kernel
theorem dX12_place_57 : decode cX12_place 57 = .ok (.imul, 1) := by decide +kernel
theorem dX12_place_58 : decode cX12_place 58 = .ok (.iload 5, 2) := by decide +kernel
theorem dX12_place_60 : decode cX12_place 60 = .ok (.iadd, 1) := by decide +kernel
theorem dX12_place_61 : decode cX12_place 61 = .ok (.iaload, 1) := by decide +kernel
theorem dX12_place_62 : decode cX12_place 62 = .ok (.isub, 1) := by decide +kernel
theorem dX12_place_63 : decode cX12_place 63 = .ok (.istore 6, 2) := by decide +kernel
theorem dX12_place_65 : decode cX12_place 65 = .ok (.iload 4, 2) := by decide +kernel
theorem dX12_place_67 : decode cX12_place 67 = .ok (.iload 6, 2) := by decide +kernel
theorem dX12_place_69 : decode cX12_place 69 = .ok (.ifCond .gt 14, 3) := by decide +kernel
theorem dX12_place_72 : decode cX12_place 72 = .ok (.iload 6, 2) := by decide +kernel
theorem dX12_place_74 : decode cX12_place 74 = .ok (.ifCond .ne 13, 3) := by decide +kernel
theorem dX12_place_77 : decode cX12_place 77 = .ok (.iload 5, 2) := by decide +kernel
theorem dX12_place_79 : decode cX12_place 79 = .ok (.iload_n 3, 1) := by decide +kernel
theorem dX12_place_80 : decode cX12_place 80 = .ok (.if_icmp .ge 7, 3) := by decide +kernel
theorem dX12_place_83 : decode cX12_place 83 = .ok (.iconst 1, 1) := by decide +kernel
theorem dX12_place_84 : decode cX12_place 84 = .ok (.goto 4, 3) := by decide +kernel
theorem dX12_place_87 : decode cX12_place 87 = .ok (.iconst 0, 1) := by decide +kernel
theorem dX12_place_88 : decode cX12_place 88 = .ok (.iadd, 1) := by decide +kernel
theorem dX12_place_89 : decode cX12_place 89 = .ok (.istore 4, 2) := by decide +kernel
theorem dX12_place_91 : decode cX12_place 91 = .ok (.iinc 5 1, 3) := by decide +kernel
theorem dX12_place_94 : decode cX12_place 94 = .ok (.goto (-64), 3) := by decide +kernel
theorem dX12_place_97 : decode cX12_place 97 = .ok (.iload 4, 2) := by decide +kernel
theorem dX12_place_99 : decode cX12_place 99 = .ok (.iload_n 2, 1) := by decide +kernel
theorem dX12_place_100 : decode cX12_place 100 = .ok (.if_icmp .ne 5, 3) := by decide +kernel
theorem dX12_place_103 : decode cX12_place 103 = .ok (.iload_n 3, 1) := by decide +kernel
theorem dX12_place_104 : decode cX12_place 104 = .ok (.ireturn, 1) := by decide +kernel
theorem dX12_place_105 : decode cX12_place 105 = .ok (.iinc 3 1, 3) := by decide +kernel
theorem dX12_place_108 : decode cX12_place 108 = .ok (.goto (-92), 3) := by decide +kernel
theorem dX12_place_111 : decode cX12_place 111 = .ok (.iconst (-1), 1) := by decide +kernel
theorem dX12_place_112 : decode cX12_place 112 = .ok (.ireturn, 1) := by decide +kernel
theorem dX12_aheadAt_0 : decode cX12_aheadAt 0 = .ok (.aload_n 0, 1) := by decide +kernel
theorem dX12_aheadAt_1 : decode cX12_aheadAt 1 = .ok (.getfield 68, 3) := by decide +kernel
theorem dX12_aheadAt_4 : decode cX12_aheadAt 4 = .ok (.bipush 6, 2) := by decide +kernel
theorem dX12_aheadAt_6 : decode cX12_aheadAt 6 = .ok (.iload_n 1, 1) := by decide +kernel
theorem dX12_aheadAt_7 : decode cX12_aheadAt 7 = .ok (.imul, 1) := by decide +kernel
theorem dX12_aheadAt_8 : decode cX12_aheadAt 8 = .ok (.iload_n 2, 1) := by decide +kernel
theorem dX12_aheadAt_9 : decode cX12_aheadAt 9 = .ok (.iadd, 1) := by decide +kernel
theorem dX12_aheadAt_10 : decode cX12_aheadAt 10 = .ok (.iaload, 1) := by decide +kernel
theorem dX12_aheadAt_11 : decode cX12_aheadAt 11 = .ok (.aload_n 0, 1) := by decide +kernel
theorem dX12_aheadAt_12 : decode cX12_aheadAt 12 = .ok (.getfield 68, 3) := by decide +kernel
theorem dX12_aheadAt_15 : decode cX12_aheadAt 15 = .ok (.bipush 6, 2) := by decide +kernel
theorem dX12_aheadAt_17 : decode cX12_aheadAt 17 = .ok (.iload_n 1, 1) := by decide +kernel
theorem dX12_aheadAt_18 : decode cX12_aheadAt 18 = .ok (.imul, 1) := by decide +kernel
theorem dX12_aheadAt_19 : decode cX12_aheadAt 19 = .ok (.iload_n 3, 1) := by decide +kernel
theorem dX12_aheadAt_20 : decode cX12_aheadAt 20 = .ok (.iadd, 1) := by decide +kernel
theorem dX12_aheadAt_21 : decode cX12_aheadAt 21 = .ok (.iaload, 1) := by decide +kernel
theorem dX12_aheadAt_22 : decode cX12_aheadAt 22 = .ok (.invokestatic 361, 3) := by decide +kernel
theorem dX12_aheadAt_25 : decode cX12_aheadAt 25 = .ok (.ireturn, 1) := by decide +kernel
theorem dX12_overtakes_0 : decode cX12_overtakes 0 = .ok (.aload_n 0, 1) := by decide +kernel
theorem dX12_overtakes_1 : decode cX12_overtakes 1 = .ok (.iload_n 1, 1) := by decide +kernel
theorem dX12_overtakes_2 : decode cX12_overtakes 2 = .ok (.invokevirtual 281, 3) := by decide +kernel
theorem dX12_overtakes_5 : decode cX12_overtakes 5 = .ok (.ifCond .eq 16, 3) := by decide +kernel
theorem dX12_overtakes_8 : decode cX12_overtakes 8 = .ok (.aload_n 0, 1) := by decide +kernel
theorem dX12_overtakes_9 : decode cX12_overtakes 9 = .ok (.iload_n 2, 1) := by decide +kernel
theorem dX12_overtakes_10 : decode cX12_overtakes 10 = .ok (.invokevirtual 281, 3) := by decide +kernel
theorem dX12_overtakes_13 : decode cX12_overtakes 13 = .ok (.ifCond .eq 8, 3) := by decide +kernel
theorem dX12_overtakes_16 : decode cX12_overtakes 16 = .ok (.iload_n 1, 1) := by decide +kernel
theorem dX12_overtakes_17 : decode cX12_overtakes 17 = .ok (.iload_n 2, 1) := by decide +kernel
theorem dX12_overtakes_18 : decode cX12_overtakes 18 = .ok (.if_icmp .ne 5, 3) := by decide +kernel
theorem dX12_overtakes_21 : decode cX12_overtakes 21 = .ok (.iconst (-1), 1) := by decide +kernel
theorem dX12_overtakes_22 : decode cX12_overtakes 22 = .ok (.ireturn, 1) := by decide +kernel
theorem dX12_overtakes_23 : decode cX12_overtakes 23 = .ok (.aload_n 0, 1) := by decide +kernel
theorem dX12_overtakes_24 : decode cX12_overtakes 24 = .ok (.invokevirtual 312, 3) := by decide +kernel
theorem dX12_overtakes_27 : decode cX12_overtakes 27 = .ok (.iconst 0, 1) := by decide +kernel
theorem dX12_overtakes_28 : decode cX12_overtakes 28 = .ok (.istore_n 3, 1) := by decide +kernel
theorem dX12_overtakes_29 : decode cX12_overtakes 29 = .ok (.iconst 1, 1) := by decide +kernel
theorem dX12_overtakes_30 : decode cX12_overtakes 30 = .ok (.istore 4, 2) := by decide +kernel
theorem dX12_overtakes_32 : decode cX12_overtakes 32 = .ok (.iload 4, 2) := by decide +kernel
theorem dX12_overtakes_34 : decode cX12_overtakes 34 = .ok (.aload_n 0, 1) := by decide +kernel
theorem dX12_overtakes_35 : decode cX12_overtakes 35 = .ok (.getfield 56, 3) := by decide +kernel
theorem dX12_overtakes_38 : decode cX12_overtakes 38 = .ok (.if_icmp .ge 47, 3) := by decide +kernel
theorem dX12_overtakes_41 : decode cX12_overtakes 41 = .ok (.aload_n 0, 1) := by decide +kernel
theorem dX12_overtakes_42 : decode cX12_overtakes 42 = .ok (.iload 4, 2) := by decide +kernel
theorem dX12_overtakes_44 : decode cX12_overtakes 44 = .ok (.iload_n 1, 1) := by decide +kernel
theorem dX12_overtakes_45 : decode cX12_overtakes 45 = .ok (.iload_n 2, 1) := by decide +kernel
theorem dX12_overtakes_46 : decode cX12_overtakes 46 = .ok (.invokevirtual 365, 3) := by decide +kernel
theorem dX12_overtakes_49 : decode cX12_overtakes 49 = .ok (.istore 5, 2) := by decide +kernel
theorem dX12_overtakes_51 : decode cX12_overtakes 51 = .ok (.iload_n 3, 1) := by decide +kernel
theorem dX12_overtakes_52 : decode cX12_overtakes 52 = .ok (.iload 5, 2) := by decide +kernel
theorem dX12_overtakes_54 : decode cX12_overtakes 54 = .ok (.ifCond .eq 22, 3) := by decide +kernel
theorem dX12_overtakes_57 : decode cX12_overtakes 57 = .ok (.iload 5, 2) := by decide +kernel
theorem dX12_overtakes_59 : decode cX12_overtakes 59 = .ok (.aload_n 0, 1) := by decide +kernel
theorem dX12_overtakes_60 : decode cX12_overtakes 60 = .ok (.iload 4, 2) := by decide +kernel
theorem dX12_overtakes_62 : decode cX12_overtakes 62 = .ok (.iconst 1, 1) := by decide +kernel
theorem dX12_overtakes_63 : decode cX12_overtakes 63 = .ok (.isub, 1) := by decide +kernel
theorem dX12_overtakes_64 : decode cX12_overtakes 64 = .ok (.iload_n 1, 1) := by decide +kernel
theorem dX12_overtakes_65 : decode cX12_overtakes 65 = .ok (.iload_n 2, 1) := by decide +kernel
theorem dX12_overtakes_66 : decode cX12_overtakes 66 = .ok (.invokevirtual 365, 3) := by decide +kernel
theorem dX12_overtakes_69 : decode cX12_overtakes 69 = .ok (.if_icmp .eq 7, 3) := by decide +kernel
theorem dX12_overtakes_72 : decode cX12_overtakes 72 = .ok (.iconst 1, 1) := by decide +kernel
theorem dX12_overtakes_73 : decode cX12_overtakes 73 = .ok (.goto 4, 3) := by decide +kernel
theorem dX12_overtakes_76 : decode cX12_overtakes 76 = .ok (.iconst 0, 1) := by decide +kernel
theorem dX12_overtakes_77 : decode cX12_overtakes 77 = .ok (.iadd, 1) := by decide +kernel
theorem dX12_overtakes_78 : decode cX12_overtakes 78 = .ok (.istore_n 3, 1) := by decide +kernel
theorem dX12_overtakes_79 : decode cX12_overtakes 79 = .ok (.iinc 4 1, 3) := by decide +kernel
theorem dX12_overtakes_82 : decode cX12_overtakes 82 = .ok (.goto (-50), 3) := by decide +kernel
theorem dX12_overtakes_85 : decode cX12_overtakes 85 = .ok (.iload_n 3, 1) := by decide +kernel
theorem dX12_overtakes_86 : decode cX12_overtakes 86 = .ok (.ireturn, 1) := by decide +kernel
theorem dX12_middle_0 : decode cX12_middle 0 = .ok (.aload_n 0, 1) := by decide +kernel
theorem dX12_middle_1 : decode cX12_middle 1 = .ok (.getfield 253, 3) := by decide +kernel
theorem dX12_middle_4 : decode cX12_middle 4 = .ok (.ifCond .ne 5, 3) := by decide +kernel
theorem dX12_middle_7 : decode cX12_middle 7 = .ok (.iconst (-1), 1) := by decide +kernel
theorem dX12_middle_8 : decode cX12_middle 8 = .ok (.ireturn, 1) := by decide +kernel
theorem dX12_middle_9 : decode cX12_middle 9 = .ok (.aload_n 0, 1) := by decide +kernel
theorem dX12_middle_10 : decode cX12_middle 10 = .ok (.invokevirtual 312, 3) := by decide +kernel
theorem dX12_middle_13 : decode cX12_middle 13 = .ok (.iconst (-1), 1) := by decide +kernel
theorem dX12_middle_14 : decode cX12_middle 14 = .ok (.istore_n 1, 1) := by decide +kernel
theorem dX12_middle_15 : decode cX12_middle 15 = .ok (.iconst 0, 1) := by decide +kernel
theorem dX12_middle_16 : decode cX12_middle 16 = .ok (.istore_n 2, 1) := by decide +kernel
theorem dX12_middle_17 : decode cX12_middle 17 = .ok (.iconst 0, 1) := by decide +kernel
theorem dX12_middle_18 : decode cX12_middle 18 = .ok (.istore_n 3, 1) := by decide +kernel
theorem dX12_middle_19 : decode cX12_middle 19 = .ok (.iload_n 3, 1) := by decide +kernel
theorem dX12_middle_20 : decode cX12_middle 20 = .ok (.aload_n 0, 1) := by decide +kernel
theorem dX12_middle_21 : decode cX12_middle 21 = .ok (.getfield 253, 3) := by decide +kernel
theorem dX12_middle_24 : decode cX12_middle 24 = .ok (.if_icmp .ge 88, 3) := by decide +kernel
theorem dX12_middle_27 : decode cX12_middle 27 = .ok (.iconst 0, 1) := by decide +kernel
theorem dX12_middle_28 : decode cX12_middle 28 = .ok (.istore 4, 2) := by decide +kernel
theorem dX12_middle_30 : decode cX12_middle 30 = .ok (.iconst 0, 1) := by decide +kernel
theorem dX12_middle_31 : decode cX12_middle 31 = .ok (.istore 5, 2) := by decide +kernel
theorem dX12_middle_33 : decode cX12_middle 33 = .ok (.iload 5, 2) := by decide +kernel
theorem dX12_middle_35 : decode cX12_middle 35 = .ok (.aload_n 0, 1) := by decide +kernel
theorem dX12_middle_36 : decode cX12_middle 36 = .ok (.getfield 253, 3) := by decide +kernel
theorem dX12_middle_39 : decode cX12_middle 39 = .ok (.if_icmp .ge 51, 3) := by decide +kernel
theorem dX12_middle_42 : decode cX12_middle 42 = .ok (.iload 4, 2) := by decide +kernel
theorem dX12_middle_44 : decode cX12_middle 44 = .ok (.aload_n 0, 1) := by decide +kernel
theorem dX12_middle_45 : decode cX12_middle 45 = .ok (.getfield 68, 3) := by decide +kernel
theorem dX12_middle_48 : decode cX12_middle 48 = .ok (.bipush 6, 2) := by decide +kernel
theorem dX12_middle_50 : decode cX12_middle 50 = .ok (.aload_n 0, 1) := by decide +kernel
theorem dX12_middle_51 : decode cX12_middle 51 = .ok (.getfield 56, 3) := by decide +kernel
theorem dX12_middle_54 : decode cX12_middle 54 = .ok (.iconst 1, 1) := by decide +kernel
theorem dX12_middle_55 : decode cX12_middle 55 = .ok (.isub, 1) := by decide +kernel
theorem dX12_middle_56 : decode cX12_middle 56 = .ok (.imul, 1) := by decide +kernel
theorem dX12_middle_57 : decode cX12_middle 57 = .ok (.iload 5, 2) := by decide +kernel
theorem dX12_middle_59 : decode cX12_middle 59 = .ok (.iadd, 1) := by decide +kernel
theorem dX12_middle_60 : decode cX12_middle 60 = .ok (.iaload, 1) := by decide +kernel
theorem dX12_middle_61 : decode cX12_middle 61 = .ok (.aload_n 0, 1) := by decide +kernel
theorem dX12_middle_62 : decode cX12_middle 62 = .ok (.getfield 68, 3) := by decide +kernel
theorem dX12_middle_65 : decode cX12_middle 65 = .ok (.bipush 6, 2) := by decide +kernel
theorem dX12_middle_67 : decode cX12_middle 67 = .ok (.aload_n 0, 1) := by decide +kernel
theorem dX12_middle_68 : decode cX12_middle 68 = .ok (.getfield 56, 3) := by decide +kernel
theorem dX12_middle_71 : decode cX12_middle 71 = .ok (.iconst 1, 1) := by decide +kernel
theorem dX12_middle_72 : decode cX12_middle 72 = .ok (.isub, 1) := by decide +kernel
theorem dX12_middle_73 : decode cX12_middle 73 = .ok (.imul, 1) := by decide +kernel
theorem dX12_middle_74 : decode cX12_middle 74 = .ok (.iload_n 3, 1) := by decide +kernel
theorem dX12_middle_75 : decode cX12_middle 75 = .ok (.iadd, 1) := by decide +kernel
theorem dX12_middle_76 : decode cX12_middle 76 = .ok (.iaload, 1) := by decide +kernel
theorem dX12_middle_77 : decode cX12_middle 77 = .ok (.isub, 1) := by decide +kernel
theorem dX12_middle_78 : decode cX12_middle 78 = .ok (.invokestatic 358, 3) := by decide +kernel
theorem dX12_middle_81 : decode cX12_middle 81 = .ok (.iadd, 1) := by decide +kernel
theorem dX12_middle_82 : decode cX12_middle 82 = .ok (.istore 4, 2) := by decide +kernel
theorem dX12_middle_84 : decode cX12_middle 84 = .ok (.iinc 5 1, 3) := by decide +kernel
theorem dX12_middle_87 : decode cX12_middle 87 = .ok (.goto (-54), 3) := by decide +kernel
theorem dX12_middle_90 : decode cX12_middle 90 = .ok (.iload_n 1, 1) := by decide +kernel
theorem dX12_middle_91 : decode cX12_middle 91 = .ok (.iconst (-1), 1) := by decide +kernel
theorem dX12_middle_92 : decode cX12_middle 92 = .ok (.if_icmp .eq 9, 3) := by decide +kernel
theorem dX12_middle_95 : decode cX12_middle 95 = .ok (.iload 4, 2) := by decide +kernel
theorem dX12_middle_97 : decode cX12_middle 97 = .ok (.iload_n 2, 1) := by decide +kernel
theorem dX12_middle_98 : decode cX12_middle 98 = .ok (.if_icmp .ge 8, 3) := by decide +kernel
theorem dX12_middle_101 : decode cX12_middle 101 = .ok (.iload_n 3, 1) := by decide +kernel
theorem dX12_middle_102 : decode cX12_middle 102 = .ok (.istore_n 1, 1) := by decide +kernel
theorem dX12_middle_103 : decode cX12_middle 103 = .ok (.iload 4, 2) := by decide +kernel
theorem dX12_middle_105 : decode cX12_middle 105 = .ok (.istore_n 2, 1) := by decide +kernel
theorem dX12_middle_106 : decode cX12_middle 106 = .ok (.iinc 3 1, 3) := by decide +kernel
theorem dX12_middle_109 : decode cX12_middle 109 = .ok (.goto (-90), 3) := by decide +kernel
theorem dX12_middle_112 : decode cX12_middle 112 = .ok (.iload_n 1, 1) := by decide +kernel
theorem dX12_middle_113 : decode cX12_middle 113 = .ok (.ireturn, 1) := by decide +kernel
theorem dX12_ends_0 : decode cX12_ends 0 = .ok (.aload_n 0, 1) := by decide +kernel
theorem dX12_ends_1 : decode cX12_ends 1 = .ok (.getfield 253, 3) := by decide +kernel
theorem dX12_ends_4 : decode cX12_ends 4 = .ok (.ifCond .eq 12, 3) := by decide +kernel
theorem dX12_ends_7 : decode cX12_ends 7 = .ok (.iload_n 1, 1) := by decide +kernel
theorem dX12_ends_8 : decode cX12_ends 8 = .ok (.iconst 0, 1) := by decide +kernel
theorem dX12_ends_9 : decode cX12_ends 9 = .ok (.iconst 1, 1) := by decide +kernel
theorem dX12_ends_10 : decode cX12_ends 10 = .ok (.invokestatic 216, 3) := by decide +kernel
theorem dX12_ends_13 : decode cX12_ends 13 = .ok (.ifCond .ne 5, 3) := by decide +kernel
theorem dX12_ends_16 : decode cX12_ends 16 = .ok (.iconst (-1), 1) := by decide +kernel
theorem dX12_ends_17 : decode cX12_ends 17 = .ok (.ireturn, 1) := by decide +kernel
theorem dX12_ends_18 : decode cX12_ends 18 = .ok (.aload_n 0, 1) := by decide +kernel
theorem dX12_ends_19 : decode cX12_ends 19 = .ok (.invokevirtual 312, 3) := by decide +kernel
theorem dX12_ends_22 : decode cX12_ends 22 = .ok (.aload_n 0, 1) := by decide +kernel
theorem dX12_ends_23 : decode cX12_ends 23 = .ok (.getfield 68, 3) := by decide +kernel
theorem dX12_ends_26 : decode cX12_ends 26 = .ok (.bipush 6, 2) := by decide +kernel
theorem dX12_ends_28 : decode cX12_ends 28 = .ok (.aload_n 0, 1) := by decide +kernel
theorem dX12_ends_29 : decode cX12_ends 29 = .ok (.getfield 56, 3) := by decide +kernel
theorem dX12_ends_32 : decode cX12_ends 32 = .ok (.iconst 1, 1) := by decide +kernel
theorem dX12_ends_33 : decode cX12_ends 33 = .ok (.isub, 1) := by decide +kernel
theorem dX12_ends_34 : decode cX12_ends 34 = .ok (.imul, 1) := by decide +kernel
theorem dX12_ends_35 : decode cX12_ends 35 = .ok (.aload_n 0, 1) := by decide +kernel
theorem dX12_ends_36 : decode cX12_ends 36 = .ok (.aload_n 0, 1) := by decide +kernel
theorem dX12_ends_37 : decode cX12_ends 37 = .ok (.getfield 56, 3) := by decide +kernel
theorem dX12_ends_40 : decode cX12_ends 40 = .ok (.iconst 1, 1) := by decide +kernel
theorem dX12_ends_41 : decode cX12_ends 41 = .ok (.isub, 1) := by decide +kernel
theorem dX12_ends_42 : decode cX12_ends 42 = .ok (.invokevirtual 324, 3) := by decide +kernel
theorem dX12_ends_45 : decode cX12_ends 45 = .ok (.iadd, 1) := by decide +kernel
theorem dX12_ends_46 : decode cX12_ends 46 = .ok (.iaload, 1) := by decide +kernel
theorem dX12_ends_47 : decode cX12_ends 47 = .ok (.istore_n 2, 1) := by decide +kernel
theorem dX12_ends_48 : decode cX12_ends 48 = .ok (.iload_n 1, 1) := by decide +kernel
theorem dX12_ends_49 : decode cX12_ends 49 = .ok (.ifCond .ne 7, 3) := by decide +kernel
theorem dX12_ends_52 : decode cX12_ends 52 = .ok (.iload_n 2, 1) := by decide +kernel
theorem dX12_ends_53 : decode cX12_ends 53 = .ok (.goto 15, 3) := by decide +kernel
theorem dX12_ends_56 : decode cX12_ends 56 = .ok (.iload_n 2, 1) := by decide +kernel
theorem dX12_ends_57 : decode cX12_ends 57 = .ok (.aload_n 0, 1) := by decide +kernel
theorem dX12_ends_58 : decode cX12_ends 58 = .ok (.aload_n 0, 1) := by decide +kernel
theorem dX12_ends_59 : decode cX12_ends 59 = .ok (.getfield 56, 3) := by decide +kernel
theorem dX12_ends_62 : decode cX12_ends 62 = .ok (.iconst 1, 1) := by decide +kernel
theorem dX12_ends_63 : decode cX12_ends 63 = .ok (.isub, 1) := by decide +kernel
theorem dX12_ends_64 : decode cX12_ends 64 = .ok (.invokevirtual 315, 3) := by decide +kernel
theorem dX12_ends_67 : decode cX12_ends 67 = .ok (.isub, 1) := by decide +kernel
theorem dX12_ends_68 : decode cX12_ends 68 = .ok (.ireturn, 1) := by decide +kernel
theorem dX12_stray_0 : decode cX12_stray 0 = .ok (.aload_n 0, 1) := by decide +kernel
theorem dX12_stray_1 : decode cX12_stray 1 = .ok (.iload_n 1, 1) := by decide +kernel
theorem dX12_stray_2 : decode cX12_stray 2 = .ok (.invokevirtual 281, 3) := by decide +kernel
theorem dX12_stray_5 : decode cX12_stray 5 = .ok (.ifCond .eq 13, 3) := by decide +kernel
theorem dX12_stray_8 : decode cX12_stray 8 = .ok (.iload_n 2, 1) := by decide +kernel
theorem dX12_stray_9 : decode cX12_stray 9 = .ok (.iconst 1, 1) := by decide +kernel
theorem dX12_stray_10 : decode cX12_stray 10 = .ok (.bipush 99, 2) := by decide +kernel
theorem dX12_stray_12 : decode cX12_stray 12 = .ok (.invokestatic 216, 3) := by decide +kernel
theorem dX12_stray_15 : decode cX12_stray 15 = .ok (.ifCond .ne 5, 3) := by decide +kernel
theorem dX12_stray_18 : decode cX12_stray 18 = .ok (.iconst (-1), 1) := by decide +kernel
theorem dX12_stray_19 : decode cX12_stray 19 = .ok (.ireturn, 1) := by decide +kernel
theorem dX12_stray_20 : decode cX12_stray 20 = .ok (.aload_n 0, 1) := by decide +kernel
theorem dX12_stray_21 : decode cX12_stray 21 = .ok (.invokevirtual 312, 3) := by decide +kernel
theorem dX12_stray_24 : decode cX12_stray 24 = .ok (.iconst 1, 1) := by decide +kernel
theorem dX12_stray_25 : decode cX12_stray 25 = .ok (.istore_n 3, 1) := by decide +kernel
theorem dX12_stray_26 : decode cX12_stray 26 = .ok (.iload_n 3, 1) := by decide +kernel
theorem dX12_stray_27 : decode cX12_stray 27 = .ok (.aload_n 0, 1) := by decide +kernel
theorem dX12_stray_28 : decode cX12_stray 28 = .ok (.getfield 56, 3) := by decide +kernel
theorem dX12_stray_31 : decode cX12_stray 31 = .ok (.if_icmp .ge 43, 3) := by decide +kernel
theorem dX12_stray_34 : decode cX12_stray 34 = .ok (.aload_n 0, 1) := by decide +kernel
theorem dX12_stray_35 : decode cX12_stray 35 = .ok (.getfield 65, 3) := by decide +kernel
theorem dX12_stray_38 : decode cX12_stray 38 = .ok (.bipush 6, 2) := by decide +kernel
theorem dX12_stray_40 : decode cX12_stray 40 = .ok (.iload_n 3, 1) := by decide +kernel
theorem dX12_stray_41 : decode cX12_stray 41 = .ok (.imul, 1) := by decide +kernel
theorem dX12_stray_42 : decode cX12_stray 42 = .ok (.iload_n 1, 1) := by decide +kernel
theorem dX12_stray_43 : decode cX12_stray 43 = .ok (.iadd, 1) := by decide +kernel
theorem dX12_stray_44 : decode cX12_stray 44 = .ok (.iaload, 1) := by decide +kernel
theorem dX12_stray_45 : decode cX12_stray 45 = .ok (.aload_n 0, 1) := by decide +kernel
theorem dX12_stray_46 : decode cX12_stray 46 = .ok (.getfield 65, 3) := by decide +kernel
theorem dX12_stray_49 : decode cX12_stray 49 = .ok (.bipush 6, 2) := by decide +kernel
theorem dX12_stray_51 : decode cX12_stray 51 = .ok (.iload_n 3, 1) := by decide +kernel
theorem dX12_stray_52 : decode cX12_stray 52 = .ok (.iconst 1, 1) := by decide +kernel
theorem dX12_stray_53 : decode cX12_stray 53 = .ok (.isub, 1) := by decide +kernel
theorem dX12_stray_54 : decode cX12_stray 54 = .ok (.imul, 1) := by decide +kernel
theorem dX12_stray_55 : decode cX12_stray 55 = .ok (.iload_n 1, 1) := by decide +kernel
theorem dX12_stray_56 : decode cX12_stray 56 = .ok (.iadd, 1) := by decide +kernel
theorem dX12_stray_57 : decode cX12_stray 57 = .ok (.iaload, 1) := by decide +kernel
theorem dX12_stray_58 : decode cX12_stray 58 = .ok (.isub, 1) := by decide +kernel
theorem dX12_stray_59 : decode cX12_stray 59 = .ok (.invokestatic 358, 3) := by decide +kernel
theorem dX12_stray_62 : decode cX12_stray 62 = .ok (.iload_n 2, 1) := by decide +kernel
theorem dX12_stray_63 : decode cX12_stray 63 = .ok (.if_icmp .lt 5, 3) := by decide +kernel
theorem dX12_stray_66 : decode cX12_stray 66 = .ok (.iload_n 3, 1) := by decide +kernel
theorem dX12_stray_67 : decode cX12_stray 67 = .ok (.ireturn, 1) := by decide +kernel
theorem dX12_stray_68 : decode cX12_stray 68 = .ok (.iinc 3 1, 3) := by decide +kernel
theorem dX12_stray_71 : decode cX12_stray 71 = .ok (.goto (-45), 3) := by decide +kernel
theorem dX12_stray_74 : decode cX12_stray 74 = .ok (.iconst (-1), 1) := by decide +kernel
theorem dX12_stray_75 : decode cX12_stray 75 = .ok (.ireturn, 1) := by decide +kernel
theorem dX12_image_0 : decode cX12_image 0 = .ok (.aload_n 0, 1) := by decide +kernel
theorem dX12_image_1 : decode cX12_image 1 = .ok (.getfield 253, 3) := by decide +kernel
theorem dX12_image_4 : decode cX12_image 4 = .ok (.ifCond .ne 5, 3) := by decide +kernel
theorem dX12_image_7 : decode cX12_image 7 = .ok (.iconst (-1), 1) := by decide +kernel
theorem dX12_image_8 : decode cX12_image 8 = .ok (.ireturn, 1) := by decide +kernel
theorem dX12_image_9 : decode cX12_image 9 = .ok (.iconst 0, 1) := by decide +kernel
theorem dX12_image_10 : decode cX12_image 10 = .ok (.istore_n 1, 1) := by decide +kernel
theorem dX12_image_11 : decode cX12_image 11 = .ok (.iload_n 1, 1) := by decide +kernel
theorem dX12_image_12 : decode cX12_image 12 = .ok (.bipush 6, 2) := by decide +kernel
theorem dX12_image_14 : decode cX12_image 14 = .ok (.if_icmp .ge 21, 3) := by decide +kernel
theorem dX12_image_17 : decode cX12_image 17 = .ok (.aload_n 0, 1) := by decide +kernel
theorem dX12_image_18 : decode cX12_image 18 = .ok (.getfield 98, 3) := by decide +kernel
theorem dX12_image_21 : decode cX12_image 21 = .ok (.iload_n 1, 1) := by decide +kernel
theorem dX12_image_22 : decode cX12_image 22 = .ok (.aload_n 0, 1) := by decide +kernel
theorem dX12_image_23 : decode cX12_image 23 = .ok (.getfield 46, 3) := by decide +kernel
theorem dX12_image_26 : decode cX12_image 26 = .ok (.iload_n 1, 1) := by decide +kernel
theorem dX12_image_27 : decode cX12_image 27 = .ok (.iaload, 1) := by decide +kernel
theorem dX12_image_28 : decode cX12_image 28 = .ok (.iastore, 1) := by decide +kernel
theorem dX12_image_29 : decode cX12_image 29 = .ok (.iinc 1 1, 3) := by decide +kernel
theorem dX12_image_32 : decode cX12_image 32 = .ok (.goto (-21), 3) := by decide +kernel
theorem dX12_image_35 : decode cX12_image 35 = .ok (.aload_n 0, 1) := by decide +kernel
theorem dX12_image_36 : decode cX12_image 36 = .ok (.aload_n 0, 1) := by decide +kernel
theorem dX12_image_37 : decode cX12_image 37 = .ok (.getfield 259, 3) := by decide +kernel
theorem dX12_image_40 : decode cX12_image 40 = .ok (.putfield 368, 3) := by decide +kernel
theorem dX12_image_43 : decode cX12_image 43 = .ok (.aload_n 0, 1) := by decide +kernel
theorem dX12_image_44 : decode cX12_image 44 = .ok (.iconst 1, 1) := by decide +kernel
theorem dX12_image_45 : decode cX12_image 45 = .ok (.putfield 271, 3) := by decide +kernel
theorem dX12_image_48 : decode cX12_image 48 = .ok (.aload_n 0, 1) := by decide +kernel
theorem dX12_image_49 : decode cX12_image 49 = .ok (.getfield 259, 3) := by decide +kernel
theorem dX12_image_52 : decode cX12_image 52 = .ok (.ireturn, 1) := by decide +kernel
theorem dX12_back_0 : decode cX12_back 0 = .ok (.aload_n 0, 1) := by decide +kernel
theorem dX12_back_1 : decode cX12_back 1 = .ok (.getfield 271, 3) := by decide +kernel
theorem dX12_back_4 : decode cX12_back 4 = .ok (.ifCond .ne 5, 3) := by decide +kernel
theorem dX12_back_7 : decode cX12_back 7 = .ok (.iconst (-1), 1) := by decide +kernel
theorem dX12_back_8 : decode cX12_back 8 = .ok (.ireturn, 1) := by decide +kernel
theorem dX12_back_9 : decode cX12_back 9 = .ok (.iconst 0, 1) := by decide +kernel
theorem dX12_back_10 : decode cX12_back 10 = .ok (.istore_n 1, 1) := by decide +kernel
theorem dX12_back_11 : decode cX12_back 11 = .ok (.iload_n 1, 1) := by decide +kernel
theorem dX12_back_12 : decode cX12_back 12 = .ok (.bipush 6, 2) := by decide +kernel
theorem dX12_back_14 : decode cX12_back 14 = .ok (.if_icmp .ge 21, 3) := by decide +kernel
theorem dX12_back_17 : decode cX12_back 17 = .ok (.aload_n 0, 1) := by decide +kernel
theorem dX12_back_18 : decode cX12_back 18 = .ok (.getfield 46, 3) := by decide +kernel
theorem dX12_back_21 : decode cX12_back 21 = .ok (.iload_n 1, 1) := by decide +kernel
theorem dX12_back_22 : decode cX12_back 22 = .ok (.aload_n 0, 1) := by decide +kernel
theorem dX12_back_23 : decode cX12_back 23 = .ok (.getfield 98, 3) := by decide +kernel
theorem dX12_back_26 : decode cX12_back 26 = .ok (.iload_n 1, 1) := by decide +kernel
theorem dX12_back_27 : decode cX12_back 27 = .ok (.iaload, 1) := by decide +kernel
theorem dX12_back_28 : decode cX12_back 28 = .ok (.iastore, 1) := by decide +kernel
theorem dX12_back_29 : decode cX12_back 29 = .ok (.iinc 1 1, 3) := by decide +kernel
theorem dX12_back_32 : decode cX12_back 32 = .ok (.goto (-21), 3) := by decide +kernel
theorem dX12_back_35 : decode cX12_back 35 = .ok (.aload_n 0, 1) := by decide +kernel
theorem dX12_back_36 : decode cX12_back 36 = .ok (.aload_n 0, 1) := by decide +kernel
theorem dX12_back_37 : decode cX12_back 37 = .ok (.getfield 368, 3) := by decide +kernel
theorem dX12_back_40 : decode cX12_back 40 = .ok (.putfield 259, 3) := by decide +kernel
theorem dX12_back_43 : decode cX12_back 43 = .ok (.aload_n 0, 1) := by decide +kernel
theorem dX12_back_44 : decode cX12_back 44 = .ok (.iconst 0, 1) := by decide +kernel
theorem dX12_back_45 : decode cX12_back 45 = .ok (.putfield 262, 3) := by decide +kernel
theorem dX12_back_48 : decode cX12_back 48 = .ok (.aload_n 0, 1) := by decide +kernel
theorem dX12_back_49 : decode cX12_back 49 = .ok (.getfield 259, 3) := by decide +kernel
theorem dX12_back_52 : decode cX12_back 52 = .ok (.ireturn, 1) := by decide +kernel
theorem dX12_count_0 : decode cX12_count 0 = .ok (.iload_n 1, 1) := by decide +kernel
theorem dX12_count_1 : decode cX12_count 1 = .ok (.tableswitch 123 0 11 #[63, 68, 73, 78, 83, 88, 93, 98, 103, 108, 113, 118], 63) := by decide +kernel
theorem dX12_count_64 : decode cX12_count 64 = .ok (.aload_n 0, 1) := by decide +kernel
theorem dX12_count_65 : decode cX12_count 65 = .ok (.getfield 253, 3) := by decide +kernel
theorem dX12_count_68 : decode cX12_count 68 = .ok (.ireturn, 1) := by decide +kernel
theorem dX12_count_69 : decode cX12_count 69 = .ok (.aload_n 0, 1) := by decide +kernel
theorem dX12_count_70 : decode cX12_count 70 = .ok (.getfield 256, 3) := by decide +kernel
theorem dX12_count_73 : decode cX12_count 73 = .ok (.ireturn, 1) := by decide +kernel
theorem dX12_count_74 : decode cX12_count 74 = .ok (.aload_n 0, 1) := by decide +kernel
theorem dX12_count_75 : decode cX12_count 75 = .ok (.getfield 278, 3) := by decide +kernel
theorem dX12_count_78 : decode cX12_count 78 = .ok (.ireturn, 1) := by decide +kernel
theorem dX12_count_79 : decode cX12_count 79 = .ok (.aload_n 0, 1) := by decide +kernel
theorem dX12_count_80 : decode cX12_count 80 = .ok (.getfield 108, 3) := by decide +kernel
theorem dX12_count_83 : decode cX12_count 83 = .ok (.ireturn, 1) := by decide +kernel
theorem dX12_count_84 : decode cX12_count 84 = .ok (.aload_n 0, 1) := by decide +kernel
theorem dX12_count_85 : decode cX12_count 85 = .ok (.getfield 259, 3) := by decide +kernel
theorem dX12_count_88 : decode cX12_count 88 = .ok (.ireturn, 1) := by decide +kernel
theorem dX12_count_89 : decode cX12_count 89 = .ok (.aload_n 0, 1) := by decide +kernel
theorem dX12_count_90 : decode cX12_count 90 = .ok (.getfield 52, 3) := by decide +kernel
theorem dX12_count_93 : decode cX12_count 93 = .ok (.ireturn, 1) := by decide +kernel
theorem dX12_count_94 : decode cX12_count 94 = .ok (.aload_n 0, 1) := by decide +kernel
theorem dX12_count_95 : decode cX12_count 95 = .ok (.getfield 56, 3) := by decide +kernel
theorem dX12_count_98 : decode cX12_count 98 = .ok (.ireturn, 1) := by decide +kernel
theorem dX12_count_99 : decode cX12_count 99 = .ok (.aload_n 0, 1) := by decide +kernel
theorem dX12_count_100 : decode cX12_count 100 = .ok (.getfield 287, 3) := by decide +kernel
theorem dX12_count_103 : decode cX12_count 103 = .ok (.ireturn, 1) := by decide +kernel
theorem dX12_count_104 : decode cX12_count 104 = .ok (.aload_n 0, 1) := by decide +kernel
theorem dX12_count_105 : decode cX12_count 105 = .ok (.getfield 59, 3) := by decide +kernel
theorem dX12_count_108 : decode cX12_count 108 = .ok (.ireturn, 1) := by decide +kernel
theorem dX12_count_109 : decode cX12_count 109 = .ok (.aload_n 0, 1) := by decide +kernel
theorem dX12_count_110 : decode cX12_count 110 = .ok (.getfield 265, 3) := by decide +kernel
theorem dX12_count_113 : decode cX12_count 113 = .ok (.ireturn, 1) := by decide +kernel
theorem dX12_count_114 : decode cX12_count 114 = .ok (.aload_n 0, 1) := by decide +kernel
theorem dX12_count_115 : decode cX12_count 115 = .ok (.getfield 268, 3) := by decide +kernel
theorem dX12_count_118 : decode cX12_count 118 = .ok (.ireturn, 1) := by decide +kernel
theorem dX12_count_119 : decode cX12_count 119 = .ok (.aload_n 0, 1) := by decide +kernel
theorem dX12_count_120 : decode cX12_count 120 = .ok (.getfield 262, 3) := by decide +kernel
theorem dX12_count_123 : decode cX12_count 123 = .ok (.ireturn, 1) := by decide +kernel
theorem dX12_count_124 : decode cX12_count 124 = .ok (.ldc_w 345, 3) := by decide +kernel
theorem dX12_count_127 : decode cX12_count 127 = .ok (.ireturn, 1) := by decide +kernel
theorem dJ6_compare_7cf53_0 : decode cJ6_compare_7cf53 0 = .ok (.iload_n 0, 1) := by decide +kernel
theorem dJ6_compare_7cf53_1 : decode cJ6_compare_7cf53 1 = .ok (.iload_n 1, 1) := by decide +kernel
theorem dJ6_compare_7cf53_2 : decode cJ6_compare_7cf53 2 = .ok (.if_icmp .ge 7, 3) := by decide +kernel
theorem dJ6_compare_7cf53_5 : decode cJ6_compare_7cf53 5 = .ok (.iconst (-1), 1) := by decide +kernel
theorem dJ6_compare_7cf53_6 : decode cJ6_compare_7cf53 6 = .ok (.goto 13, 3) := by decide +kernel
theorem dJ6_compare_7cf53_9 : decode cJ6_compare_7cf53 9 = .ok (.iload_n 0, 1) := by decide +kernel
theorem dJ6_compare_7cf53_10 : decode cJ6_compare_7cf53 10 = .ok (.iload_n 1, 1) := by decide +kernel
theorem dJ6_compare_7cf53_11 : decode cJ6_compare_7cf53 11 = .ok (.if_icmp .ne 7, 3) := by decide +kernel
theorem dJ6_compare_7cf53_14 : decode cJ6_compare_7cf53 14 = .ok (.iconst 0, 1) := by decide +kernel
theorem dJ6_compare_7cf53_15 : decode cJ6_compare_7cf53 15 = .ok (.goto 4, 3) := by decide +kernel
theorem dJ6_compare_7cf53_18 : decode cJ6_compare_7cf53 18 = .ok (.iconst 1, 1) := by decide +kernel
theorem dJ6_compare_7cf53_19 : decode cJ6_compare_7cf53 19 = .ok (.ireturn, 1) := by decide +kernel
theorem dJ9_abs_0f7a4_0 : decode cJ9_abs_0f7a4 0 = .ok (.iload_n 0, 1) := by decide +kernel
theorem dJ9_abs_0f7a4_1 : decode cJ9_abs_0f7a4 1 = .ok (.ifCond .ge 8, 3) := by decide +kernel
theorem dJ9_abs_0f7a4_4 : decode cJ9_abs_0f7a4 4 = .ok (.iload_n 0, 1) := by decide +kernel
theorem dJ9_abs_0f7a4_5 : decode cJ9_abs_0f7a4 5 = .ok (.ineg, 1) := by decide +kernel
theorem dJ9_abs_0f7a4_6 : decode cJ9_abs_0f7a4 6 = .ok (.goto 4, 3) := by decide +kernel
theorem dJ9_abs_0f7a4_9 : decode cJ9_abs_0f7a4 9 = .ok (.iload_n 0, 1) := by decide +kernel
theorem dJ9_abs_0f7a4_10 : decode cJ9_abs_0f7a4 10 = .ok (.ireturn, 1) := by decide +kernel
theorem dJ9_max_7cf53_0 : decode cJ9_max_7cf53 0 = .ok (.iload_n 0, 1) := by decide +kernel
theorem dJ9_max_7cf53_1 : decode cJ9_max_7cf53 1 = .ok (.iload_n 1, 1) := by decide +kernel
theorem dJ9_max_7cf53_2 : decode cJ9_max_7cf53 2 = .ok (.if_icmp .lt 7, 3) := by decide +kernel
theorem dJ9_max_7cf53_5 : decode cJ9_max_7cf53 5 = .ok (.iload_n 0, 1) := by decide +kernel
theorem dJ9_max_7cf53_6 : decode cJ9_max_7cf53 6 = .ok (.goto 4, 3) := by decide +kernel
theorem dJ9_max_7cf53_9 : decode cJ9_max_7cf53 9 = .ok (.iload_n 1, 1) := by decide +kernel
theorem dJ9_max_7cf53_10 : decode cJ9_max_7cf53 10 = .ok (.ireturn, 1) := by decide +kernel
theorem dJ9_max_f86c9_0 : decode cJ9_max_f86c9 0 = .ok (.lload_n 0, 1) := by decide +kernel
theorem dJ9_max_f86c9_1 : decode cJ9_max_f86c9 1 = .ok (.lload_n 2, 1) := by decide +kernel
theorem dJ9_max_f86c9_2 : decode cJ9_max_f86c9 2 = .ok (.lcmp, 1) := by decide +kernel
theorem dJ9_max_f86c9_3 : decode cJ9_max_f86c9 3 = .ok (.ifCond .lt 7, 3) := by decide +kernel
theorem dJ9_max_f86c9_6 : decode cJ9_max_f86c9 6 = .ok (.lload_n 0, 1) := by decide +kernel
theorem dJ9_max_f86c9_7 : decode cJ9_max_f86c9 7 = .ok (.goto 4, 3) := by decide +kernel
theorem dJ9_max_f86c9_10 : decode cJ9_max_f86c9 10 = .ok (.lload_n 2, 1) := by decide +kernel
theorem dJ9_max_f86c9_11 : decode cJ9_max_f86c9 11 = .ok (.lreturn, 1) := by decide +kernel
theorem dJ9_min_7cf53_0 : decode cJ9_min_7cf53 0 = .ok (.iload_n 0, 1) := by decide +kernel
theorem dJ9_min_7cf53_1 : decode cJ9_min_7cf53 1 = .ok (.iload_n 1, 1) := by decide +kernel
theorem dJ9_min_7cf53_2 : decode cJ9_min_7cf53 2 = .ok (.if_icmp .gt 7, 3) := by decide +kernel
theorem dJ9_min_7cf53_5 : decode cJ9_min_7cf53 5 = .ok (.iload_n 0, 1) := by decide +kernel
theorem dJ9_min_7cf53_6 : decode cJ9_min_7cf53 6 = .ok (.goto 4, 3) := by decide +kernel
theorem dJ9_min_7cf53_9 : decode cJ9_min_7cf53 9 = .ok (.iload_n 1, 1) := by decide +kernel
theorem dJ9_min_7cf53_10 : decode cJ9_min_7cf53 10 = .ok (.ireturn, 1) := by decide +kernel
theorem dJ9_min_f86c9_0 : decode cJ9_min_f86c9 0 = .ok (.lload_n 0, 1) := by decide +kernel
theorem dJ9_min_f86c9_1 : decode cJ9_min_f86c9 1 = .ok (.lload_n 2, 1) := by decide +kernel
theorem dJ9_min_f86c9_2 : decode cJ9_min_f86c9 2 = .ok (.lcmp, 1) := by decide +kernel
theorem dJ9_min_f86c9_3 : decode cJ9_min_f86c9 3 = .ok (.ifCond .gt 7, 3) := by decide +kernel
theorem dJ9_min_f86c9_6 : decode cJ9_min_f86c9 6 = .ok (.lload_n 0, 1) := by decide +kernel
theorem dJ9_min_f86c9_7 : decode cJ9_min_f86c9 7 = .ok (.goto 4, 3) := by decide +kernel
theorem dJ9_min_f86c9_10 : decode cJ9_min_f86c9 10 = .ok (.lload_n 2, 1) := by decide +kernel
theorem dJ9_min_f86c9_11 : decode cJ9_min_f86c9 11 = .ok (.lreturn, 1) := by decide +kernel
theorem dJ7_fill_53178_0 : decode cJ7_fill_53178 0 = .ok (.iconst 0, 1) := by decide +kernel
theorem dJ7_fill_53178_1 : decode cJ7_fill_53178 1 = .ok (.istore_n 2, 1) := by decide +kernel
theorem dJ7_fill_53178_2 : decode cJ7_fill_53178 2 = .ok (.aload_n 0, 1) := by decide +kernel
theorem dJ7_fill_53178_3 : decode cJ7_fill_53178 3 = .ok (.arraylength, 1) := by decide +kernel
theorem dJ7_fill_53178_4 : decode cJ7_fill_53178 4 = .ok (.istore_n 3, 1) := by decide +kernel
theorem dJ7_fill_53178_5 : decode cJ7_fill_53178 5 = .ok (.iload_n 2, 1) := by decide +kernel
theorem dJ7_fill_53178_6 : decode cJ7_fill_53178 6 = .ok (.iload_n 3, 1) := by decide +kernel
theorem dJ7_fill_53178_7 : decode cJ7_fill_53178 7 = .ok (.if_icmp .ge 13, 3) := by decide +kernel
theorem dJ7_fill_53178_10 : decode cJ7_fill_53178 10 = .ok (.aload_n 0, 1) := by decide +kernel
theorem dJ7_fill_53178_11 : decode cJ7_fill_53178 11 = .ok (.iload_n 2, 1) := by decide +kernel
theorem dJ7_fill_53178_12 : decode cJ7_fill_53178 12 = .ok (.iload_n 1, 1) := by decide +kernel
theorem dJ7_fill_53178_13 : decode cJ7_fill_53178 13 = .ok (.iastore, 1) := by decide +kernel
theorem dJ7_fill_53178_14 : decode cJ7_fill_53178 14 = .ok (.iinc 2 1, 3) := by decide +kernel
theorem dJ7_fill_53178_17 : decode cJ7_fill_53178 17 = .ok (.goto (-12), 3) := by decide +kernel
theorem dJ7_fill_53178_20 : decode cJ7_fill_53178 20 = .ok (.return_, 1) := by decide +kernel
theorem dJ7_copyOf_59c91_0 : decode cJ7_copyOf_59c91 0 = .ok (.iload_n 1, 1) := by decide +kernel
theorem dJ7_copyOf_59c91_1 : decode cJ7_copyOf_59c91 1 = .ok (.aload_n 0, 1) := by decide +kernel
theorem dJ7_copyOf_59c91_2 : decode cJ7_copyOf_59c91 2 = .ok (.arraylength, 1) := by decide +kernel
theorem dJ7_copyOf_59c91_3 : decode cJ7_copyOf_59c91 3 = .ok (.if_icmp .ne 11, 3) := by decide +kernel
theorem dJ7_copyOf_59c91_6 : decode cJ7_copyOf_59c91 6 = .ok (.aload_n 0, 1) := by decide +kernel
theorem dJ7_copyOf_59c91_7 : decode cJ7_copyOf_59c91 7 = .ok (.invokevirtual 316, 3) := by decide +kernel
theorem dJ7_copyOf_59c91_10 : decode cJ7_copyOf_59c91 10 = .ok (.checkcast 317, 3) := by decide +kernel
theorem dJ7_copyOf_59c91_13 : decode cJ7_copyOf_59c91 13 = .ok (.areturn, 1) := by decide +kernel
theorem dJ7_copyOf_59c91_14 : decode cJ7_copyOf_59c91 14 = .ok (.iload_n 1, 1) := by decide +kernel
theorem dJ7_copyOf_59c91_15 : decode cJ7_copyOf_59c91 15 = .ok (.newarray .int, 2) := by decide +kernel
theorem dJ7_copyOf_59c91_17 : decode cJ7_copyOf_59c91 17 = .ok (.astore_n 2, 1) := by decide +kernel
theorem dJ7_copyOf_59c91_18 : decode cJ7_copyOf_59c91 18 = .ok (.aload_n 0, 1) := by decide +kernel
theorem dJ7_copyOf_59c91_19 : decode cJ7_copyOf_59c91 19 = .ok (.iconst 0, 1) := by decide +kernel
theorem dJ7_copyOf_59c91_20 : decode cJ7_copyOf_59c91 20 = .ok (.aload_n 2, 1) := by decide +kernel
theorem dJ7_copyOf_59c91_21 : decode cJ7_copyOf_59c91 21 = .ok (.iconst 0, 1) := by decide +kernel
theorem dJ7_copyOf_59c91_22 : decode cJ7_copyOf_59c91 22 = .ok (.aload_n 0, 1) := by decide +kernel
theorem dJ7_copyOf_59c91_23 : decode cJ7_copyOf_59c91 23 = .ok (.arraylength, 1) := by decide +kernel
theorem dJ7_copyOf_59c91_24 : decode cJ7_copyOf_59c91 24 = .ok (.iload_n 1, 1) := by decide +kernel
theorem dJ7_copyOf_59c91_25 : decode cJ7_copyOf_59c91 25 = .ok (.invokestatic 304, 3) := by decide +kernel
theorem dJ7_copyOf_59c91_28 : decode cJ7_copyOf_59c91 28 = .ok (.invokestatic 150, 3) := by decide +kernel
theorem dJ7_copyOf_59c91_31 : decode cJ7_copyOf_59c91 31 = .ok (.aload_n 2, 1) := by decide +kernel
theorem dJ7_copyOf_59c91_32 : decode cJ7_copyOf_59c91 32 = .ok (.areturn, 1) := by decide +kernel
theorem dL_player_0 : decode cL_player 0 = .ok (.aload_n 3, 1) := by decide +kernel
theorem dL_player_1 : decode cL_player 1 = .ok (.iconst 0, 1) := by decide +kernel
theorem dL_player_2 : decode cL_player 2 = .ok (.aload_n 0, 1) := by decide +kernel
theorem dL_player_3 : decode cL_player 3 = .ok (.iload_n 1, 1) := by decide +kernel
theorem dL_player_4 : decode cL_player 4 = .ok (.iload_n 2, 1) := by decide +kernel
theorem dL_player_5 : decode cL_player 5 = .ok (.invokevirtual 7, 3) := by decide +kernel
theorem dL_player_8 : decode cL_player 8 = .ok (.i2l, 1) := by decide +kernel
theorem dL_player_9 : decode cL_player 9 = .ok (.lastore, 1) := by decide +kernel
theorem dL_player_10 : decode cL_player 10 = .ok (.goto 7, 3) := by decide +kernel
theorem dL_player_13 : decode cL_player 13 = .ok (.astore 4, 2) := by decide +kernel
theorem dL_player_15 : decode cL_player 15 = .ok (.iconst 1, 1) := by decide +kernel
theorem dL_player_16 : decode cL_player 16 = .ok (.ireturn, 1) := by decide +kernel
theorem dL_player_17 : decode cL_player 17 = .ok (.iconst 0, 1) := by decide +kernel
theorem dL_player_18 : decode cL_player 18 = .ok (.ireturn, 1) := by decide +kernel
theorem dL_law_0 : decode cL_law 0 = .ok (.new 8, 3) := by decide +kernel
theorem dL_law_3 : decode cL_law 3 = .ok (.dup, 1) := by decide +kernel
theorem dL_law_4 : decode cL_law 4 = .ok (.invokespecial 15, 3) := by decide +kernel
theorem dL_law_7 : decode cL_law 7 = .ok (.astore_n 1, 1) := by decide +kernel
theorem dL_law_8 : decode cL_law 8 = .ok (.new 16, 3) := by decide +kernel
theorem dL_law_11 : decode cL_law 11 = .ok (.dup, 1) := by decide +kernel
theorem dL_law_12 : decode cL_law 12 = .ok (.invokespecial 18, 3) := by decide +kernel
theorem dL_law_15 : decode cL_law 15 = .ok (.astore_n 2, 1) := by decide +kernel
theorem dL_law_16 : decode cL_law 16 = .ok (.iconst 1, 1) := by decide +kernel
theorem dL_law_17 : decode cL_law 17 = .ok (.newarray .long, 2) := by decide +kernel
theorem dL_law_19 : decode cL_law 19 = .ok (.astore_n 3, 1) := by decide +kernel
theorem dL_law_20 : decode cL_law 20 = .ok (.iconst 0, 1) := by decide +kernel
theorem dL_law_21 : decode cL_law 21 = .ok (.istore 4, 2) := by decide +kernel
theorem dL_law_23 : decode cL_law 23 = .ok (.iload 4, 2) := by decide +kernel
theorem dL_law_25 : decode cL_law 25 = .ok (.aload_n 0, 1) := by decide +kernel
theorem dL_law_26 : decode cL_law 26 = .ok (.arraylength, 1) := by decide +kernel
theorem dL_law_27 : decode cL_law 27 = .ok (.bipush 6, 2) := by decide +kernel
theorem dL_law_29 : decode cL_law 29 = .ok (.isub, 1) := by decide +kernel
theorem dL_law_30 : decode cL_law 30 = .ok (.if_icmp .gt 1321, 3) := by decide +kernel
theorem dL_law_33 : decode cL_law 33 = .ok (.aload_n 0, 1) := by decide +kernel
theorem dL_law_34 : decode cL_law 34 = .ok (.iload 4, 2) := by decide +kernel
theorem dL_law_36 : decode cL_law 36 = .ok (.iaload, 1) := by decide +kernel
theorem dL_law_37 : decode cL_law 37 = .ok (.bipush 63, 2) := by decide +kernel
theorem dL_law_39 : decode cL_law 39 = .ok (.iand, 1) := by decide +kernel
theorem dL_law_40 : decode cL_law 40 = .ok (.tableswitch 1305 0 37 #[168, 241, 266, 291, 316, 356, 393, 442, 495, 520, 545, 558, 607, 632, 657, 670, 695, 720, 745, 770, 795, 832, 857, 894, 919, 968, 993, 1018, 1043, 1068, 1105, 1142, 1179, 1192, 1217, 1254, 1267, 1280], 168) := by decide +kernel
theorem dL_law_208 : decode cL_law 208 = .ok (.aload_n 1, 1) := by decide +kernel
theorem dL_law_209 : decode cL_law 209 = .ok (.aload_n 0, 1) := by decide +kernel
theorem dL_law_210 : decode cL_law 210 = .ok (.iload 4, 2) := by decide +kernel
theorem dL_law_212 : decode cL_law 212 = .ok (.iconst 1, 1) := by decide +kernel
theorem dL_law_213 : decode cL_law 213 = .ok (.iadd, 1) := by decide +kernel
theorem dL_law_214 : decode cL_law 214 = .ok (.iaload, 1) := by decide +kernel
theorem dL_law_215 : decode cL_law 215 = .ok (.aload_n 0, 1) := by decide +kernel
theorem dL_law_216 : decode cL_law 216 = .ok (.iload 4, 2) := by decide +kernel
theorem dL_law_218 : decode cL_law 218 = .ok (.iconst 2, 1) := by decide +kernel
theorem dL_law_219 : decode cL_law 219 = .ok (.iadd, 1) := by decide +kernel
theorem dL_law_220 : decode cL_law 220 = .ok (.iaload, 1) := by decide +kernel
theorem dL_law_221 : decode cL_law 221 = .ok (.aload_n 0, 1) := by decide +kernel
theorem dL_law_222 : decode cL_law 222 = .ok (.iload 4, 2) := by decide +kernel
theorem dL_law_224 : decode cL_law 224 = .ok (.iconst 3, 1) := by decide +kernel
theorem dL_law_225 : decode cL_law 225 = .ok (.iadd, 1) := by decide +kernel
theorem dL_law_226 : decode cL_law 226 = .ok (.iaload, 1) := by decide +kernel
theorem dL_law_227 : decode cL_law 227 = .ok (.aload_n 0, 1) := by decide +kernel
theorem dL_law_228 : decode cL_law 228 = .ok (.iload 4, 2) := by decide +kernel
theorem dL_law_230 : decode cL_law 230 = .ok (.iconst 4, 1) := by decide +kernel
theorem dL_law_231 : decode cL_law 231 = .ok (.iadd, 1) := by decide +kernel
theorem dL_law_232 : decode cL_law 232 = .ok (.iaload, 1) := by decide +kernel
theorem dL_law_233 : decode cL_law 233 = .ok (.aload_n 0, 1) := by decide +kernel
theorem dL_law_234 : decode cL_law 234 = .ok (.iload 4, 2) := by decide +kernel
theorem dL_law_236 : decode cL_law 236 = .ok (.iconst 5, 1) := by decide +kernel
theorem dL_law_237 : decode cL_law 237 = .ok (.iadd, 1) := by decide +kernel
theorem dL_law_238 : decode cL_law 238 = .ok (.iaload, 1) := by decide +kernel
theorem dL_law_239 : decode cL_law 239 = .ok (.invokevirtual 19, 3) := by decide +kernel
theorem dL_law_242 : decode cL_law 242 = .ok (.pop, 1) := by decide +kernel
theorem dL_law_243 : decode cL_law 243 = .ok (.aload_n 2, 1) := by decide +kernel
theorem dL_law_244 : decode cL_law 244 = .ok (.aload_n 0, 1) := by decide +kernel
theorem dL_law_245 : decode cL_law 245 = .ok (.iload 4, 2) := by decide +kernel
theorem dL_law_247 : decode cL_law 247 = .ok (.iconst 1, 1) := by decide +kernel
theorem dL_law_248 : decode cL_law 248 = .ok (.iadd, 1) := by decide +kernel
theorem dL_law_249 : decode cL_law 249 = .ok (.iaload, 1) := by decide +kernel
theorem dL_law_250 : decode cL_law 250 = .ok (.aload_n 0, 1) := by decide +kernel
theorem dL_law_251 : decode cL_law 251 = .ok (.iload 4, 2) := by decide +kernel
theorem dL_law_253 : decode cL_law 253 = .ok (.iconst 2, 1) := by decide +kernel
theorem dL_law_254 : decode cL_law 254 = .ok (.iadd, 1) := by decide +kernel
theorem dL_law_255 : decode cL_law 255 = .ok (.iaload, 1) := by decide +kernel
theorem dL_law_256 : decode cL_law 256 = .ok (.aload_n 0, 1) := by decide +kernel
theorem dL_law_257 : decode cL_law 257 = .ok (.iload 4, 2) := by decide +kernel
theorem dL_law_259 : decode cL_law 259 = .ok (.iconst 3, 1) := by decide +kernel
theorem dL_law_260 : decode cL_law 260 = .ok (.iadd, 1) := by decide +kernel
theorem dL_law_261 : decode cL_law 261 = .ok (.iaload, 1) := by decide +kernel
theorem dL_law_262 : decode cL_law 262 = .ok (.aload_n 0, 1) := by decide +kernel
theorem dL_law_263 : decode cL_law 263 = .ok (.iload 4, 2) := by decide +kernel
theorem dL_law_265 : decode cL_law 265 = .ok (.iconst 4, 1) := by decide +kernel
theorem dL_law_266 : decode cL_law 266 = .ok (.iadd, 1) := by decide +kernel
theorem dL_law_267 : decode cL_law 267 = .ok (.iaload, 1) := by decide +kernel
theorem dL_law_268 : decode cL_law 268 = .ok (.aload_n 0, 1) := by decide +kernel
theorem dL_law_269 : decode cL_law 269 = .ok (.iload 4, 2) := by decide +kernel
theorem dL_law_271 : decode cL_law 271 = .ok (.iconst 5, 1) := by decide +kernel
theorem dL_law_272 : decode cL_law 272 = .ok (.iadd, 1) := by decide +kernel
theorem dL_law_273 : decode cL_law 273 = .ok (.iaload, 1) := by decide +kernel
theorem dL_law_274 : decode cL_law 274 = .ok (.invokevirtual 23, 3) := by decide +kernel
theorem dL_law_277 : decode cL_law 277 = .ok (.pop, 1) := by decide +kernel
theorem dL_law_278 : decode cL_law 278 = .ok (.goto 1067, 3) := by decide +kernel
theorem dL_law_281 : decode cL_law 281 = .ok (.aload_n 1, 1) := by decide +kernel
theorem dL_law_282 : decode cL_law 282 = .ok (.aload_n 0, 1) := by decide +kernel
theorem dL_law_283 : decode cL_law 283 = .ok (.iload 4, 2) := by decide +kernel
theorem dL_law_285 : decode cL_law 285 = .ok (.iconst 1, 1) := by decide +kernel
theorem dL_law_286 : decode cL_law 286 = .ok (.iadd, 1) := by decide +kernel
theorem dL_law_287 : decode cL_law 287 = .ok (.iaload, 1) := by decide +kernel
theorem dL_law_288 : decode cL_law 288 = .ok (.invokevirtual 24, 3) := by decide +kernel
theorem dL_law_291 : decode cL_law 291 = .ok (.pop, 1) := by decide +kernel
theorem dL_law_292 : decode cL_law 292 = .ok (.aload_n 2, 1) := by decide +kernel
theorem dL_law_293 : decode cL_law 293 = .ok (.aload_n 0, 1) := by decide +kernel
theorem dL_law_294 : decode cL_law 294 = .ok (.iload 4, 2) := by decide +kernel
theorem dL_law_296 : decode cL_law 296 = .ok (.iconst 1, 1) := by decide +kernel
theorem dL_law_297 : decode cL_law 297 = .ok (.iadd, 1) := by decide +kernel
theorem dL_law_298 : decode cL_law 298 = .ok (.iaload, 1) := by decide +kernel
theorem dL_law_299 : decode cL_law 299 = .ok (.invokevirtual 28, 3) := by decide +kernel
theorem dL_law_302 : decode cL_law 302 = .ok (.pop, 1) := by decide +kernel
theorem dL_law_303 : decode cL_law 303 = .ok (.goto 1042, 3) := by decide +kernel
theorem dL_law_306 : decode cL_law 306 = .ok (.aload_n 1, 1) := by decide +kernel
theorem dL_law_307 : decode cL_law 307 = .ok (.aload_n 0, 1) := by decide +kernel
theorem dL_law_308 : decode cL_law 308 = .ok (.iload 4, 2) := by decide +kernel
theorem dL_law_310 : decode cL_law 310 = .ok (.iconst 1, 1) := by decide +kernel
theorem dL_law_311 : decode cL_law 311 = .ok (.iadd, 1) := by decide +kernel
theorem dL_law_312 : decode cL_law 312 = .ok (.iaload, 1) := by decide +kernel
theorem dL_law_313 : decode cL_law 313 = .ok (.invokevirtual 29, 3) := by decide +kernel
theorem dL_law_316 : decode cL_law 316 = .ok (.pop, 1) := by decide +kernel
theorem dL_law_317 : decode cL_law 317 = .ok (.aload_n 2, 1) := by decide +kernel
theorem dL_law_318 : decode cL_law 318 = .ok (.aload_n 0, 1) := by decide +kernel
theorem dL_law_319 : decode cL_law 319 = .ok (.iload 4, 2) := by decide +kernel
theorem dL_law_321 : decode cL_law 321 = .ok (.iconst 1, 1) := by decide +kernel
theorem dL_law_322 : decode cL_law 322 = .ok (.iadd, 1) := by decide +kernel
theorem dL_law_323 : decode cL_law 323 = .ok (.iaload, 1) := by decide +kernel
theorem dL_law_324 : decode cL_law 324 = .ok (.invokevirtual 33, 3) := by decide +kernel
theorem dL_law_327 : decode cL_law 327 = .ok (.pop, 1) := by decide +kernel
theorem dL_law_328 : decode cL_law 328 = .ok (.goto 1017, 3) := by decide +kernel
theorem dL_law_331 : decode cL_law 331 = .ok (.aload_n 1, 1) := by decide +kernel
theorem dL_law_332 : decode cL_law 332 = .ok (.aload_n 0, 1) := by decide +kernel
theorem dL_law_333 : decode cL_law 333 = .ok (.iload 4, 2) := by decide +kernel
theorem dL_law_335 : decode cL_law 335 = .ok (.iconst 1, 1) := by decide +kernel
theorem dL_law_336 : decode cL_law 336 = .ok (.iadd, 1) := by decide +kernel
theorem dL_law_337 : decode cL_law 337 = .ok (.iaload, 1) := by decide +kernel
theorem dL_law_338 : decode cL_law 338 = .ok (.invokevirtual 34, 3) := by decide +kernel
theorem dL_law_341 : decode cL_law 341 = .ok (.pop, 1) := by decide +kernel
theorem dL_law_342 : decode cL_law 342 = .ok (.aload_n 2, 1) := by decide +kernel
theorem dL_law_343 : decode cL_law 343 = .ok (.aload_n 0, 1) := by decide +kernel
theorem dL_law_344 : decode cL_law 344 = .ok (.iload 4, 2) := by decide +kernel
theorem dL_law_346 : decode cL_law 346 = .ok (.iconst 1, 1) := by decide +kernel
theorem dL_law_347 : decode cL_law 347 = .ok (.iadd, 1) := by decide +kernel
theorem dL_law_348 : decode cL_law 348 = .ok (.iaload, 1) := by decide +kernel
theorem dL_law_349 : decode cL_law 349 = .ok (.invokevirtual 37, 3) := by decide +kernel
theorem dL_law_352 : decode cL_law 352 = .ok (.pop, 1) := by decide +kernel
theorem dL_law_353 : decode cL_law 353 = .ok (.goto 992, 3) := by decide +kernel
theorem dL_law_356 : decode cL_law 356 = .ok (.aload_n 1, 1) := by decide +kernel
theorem dL_law_357 : decode cL_law 357 = .ok (.aload_n 0, 1) := by decide +kernel
theorem dL_law_358 : decode cL_law 358 = .ok (.iload 4, 2) := by decide +kernel
theorem dL_law_360 : decode cL_law 360 = .ok (.iconst 1, 1) := by decide +kernel
theorem dL_law_361 : decode cL_law 361 = .ok (.iadd, 1) := by decide +kernel
theorem dL_law_362 : decode cL_law 362 = .ok (.iaload, 1) := by decide +kernel
theorem dL_law_363 : decode cL_law 363 = .ok (.aload_n 0, 1) := by decide +kernel
theorem dL_law_364 : decode cL_law 364 = .ok (.iload 4, 2) := by decide +kernel
theorem dL_law_366 : decode cL_law 366 = .ok (.iconst 2, 1) := by decide +kernel
theorem dL_law_367 : decode cL_law 367 = .ok (.iadd, 1) := by decide +kernel
theorem dL_law_368 : decode cL_law 368 = .ok (.iaload, 1) := by decide +kernel
theorem dL_law_369 : decode cL_law 369 = .ok (.aload_n 3, 1) := by decide +kernel
theorem dL_law_370 : decode cL_law 370 = .ok (.invokestatic 38, 3) := by decide +kernel
theorem dL_law_373 : decode cL_law 373 = .ok (.istore 5, 2) := by decide +kernel
theorem dL_law_375 : decode cL_law 375 = .ok (.aload_n 2, 1) := by decide +kernel
theorem dL_law_376 : decode cL_law 376 = .ok (.aload_n 0, 1) := by decide +kernel
theorem dL_law_377 : decode cL_law 377 = .ok (.iload 4, 2) := by decide +kernel
theorem dL_law_379 : decode cL_law 379 = .ok (.iconst 1, 1) := by decide +kernel
theorem dL_law_380 : decode cL_law 380 = .ok (.iadd, 1) := by decide +kernel
theorem dL_law_381 : decode cL_law 381 = .ok (.iaload, 1) := by decide +kernel
theorem dL_law_382 : decode cL_law 382 = .ok (.aload_n 0, 1) := by decide +kernel
theorem dL_law_383 : decode cL_law 383 = .ok (.iload 4, 2) := by decide +kernel
theorem dL_law_385 : decode cL_law 385 = .ok (.iconst 2, 1) := by decide +kernel
theorem dL_law_386 : decode cL_law 386 = .ok (.iadd, 1) := by decide +kernel
theorem dL_law_387 : decode cL_law 387 = .ok (.iaload, 1) := by decide +kernel
theorem dL_law_388 : decode cL_law 388 = .ok (.invokevirtual 43, 3) := by decide +kernel
theorem dL_law_391 : decode cL_law 391 = .ok (.istore 6, 2) := by decide +kernel
theorem dL_law_393 : decode cL_law 393 = .ok (.goto 952, 3) := by decide +kernel
theorem dL_law_396 : decode cL_law 396 = .ok (.aload_n 1, 1) := by decide +kernel
theorem dL_law_397 : decode cL_law 397 = .ok (.aload_n 0, 1) := by decide +kernel
theorem dL_law_398 : decode cL_law 398 = .ok (.iload 4, 2) := by decide +kernel
theorem dL_law_400 : decode cL_law 400 = .ok (.iconst 1, 1) := by decide +kernel
theorem dL_law_401 : decode cL_law 401 = .ok (.iadd, 1) := by decide +kernel
theorem dL_law_402 : decode cL_law 402 = .ok (.iaload, 1) := by decide +kernel
theorem dL_law_403 : decode cL_law 403 = .ok (.aload_n 0, 1) := by decide +kernel
theorem dL_law_404 : decode cL_law 404 = .ok (.iload 4, 2) := by decide +kernel
theorem dL_law_406 : decode cL_law 406 = .ok (.iconst 2, 1) := by decide +kernel
theorem dL_law_407 : decode cL_law 407 = .ok (.iadd, 1) := by decide +kernel
theorem dL_law_408 : decode cL_law 408 = .ok (.iaload, 1) := by decide +kernel
theorem dL_law_409 : decode cL_law 409 = .ok (.invokevirtual 44, 3) := by decide +kernel
theorem dL_law_412 : decode cL_law 412 = .ok (.aload_n 2, 1) := by decide +kernel
theorem dL_law_413 : decode cL_law 413 = .ok (.aload_n 0, 1) := by decide +kernel
theorem dL_law_414 : decode cL_law 414 = .ok (.iload 4, 2) := by decide +kernel
theorem dL_law_416 : decode cL_law 416 = .ok (.iconst 1, 1) := by decide +kernel
theorem dL_law_417 : decode cL_law 417 = .ok (.iadd, 1) := by decide +kernel
theorem dL_law_418 : decode cL_law 418 = .ok (.iaload, 1) := by decide +kernel
theorem dL_law_419 : decode cL_law 419 = .ok (.aload_n 0, 1) := by decide +kernel
theorem dL_law_420 : decode cL_law 420 = .ok (.iload 4, 2) := by decide +kernel
theorem dL_law_422 : decode cL_law 422 = .ok (.iconst 2, 1) := by decide +kernel
theorem dL_law_423 : decode cL_law 423 = .ok (.iadd, 1) := by decide +kernel
theorem dL_law_424 : decode cL_law 424 = .ok (.iaload, 1) := by decide +kernel
theorem dL_law_425 : decode cL_law 425 = .ok (.invokevirtual 48, 3) := by decide +kernel
theorem dL_law_428 : decode cL_law 428 = .ok (.if_icmp .eq 917, 3) := by decide +kernel
theorem dL_law_431 : decode cL_law 431 = .ok (.iconst 0, 1) := by decide +kernel
theorem dL_law_432 : decode cL_law 432 = .ok (.ireturn, 1) := by decide +kernel
theorem dL_law_433 : decode cL_law 433 = .ok (.aload_n 1, 1) := by decide +kernel
theorem dL_law_434 : decode cL_law 434 = .ok (.aload_n 0, 1) := by decide +kernel
theorem dL_law_435 : decode cL_law 435 = .ok (.iload 4, 2) := by decide +kernel
theorem dL_law_437 : decode cL_law 437 = .ok (.iconst 1, 1) := by decide +kernel
theorem dL_law_438 : decode cL_law 438 = .ok (.iadd, 1) := by decide +kernel
theorem dL_law_439 : decode cL_law 439 = .ok (.iaload, 1) := by decide +kernel
theorem dL_law_440 : decode cL_law 440 = .ok (.aload_n 0, 1) := by decide +kernel
theorem dL_law_441 : decode cL_law 441 = .ok (.iload 4, 2) := by decide +kernel
theorem dL_law_443 : decode cL_law 443 = .ok (.iconst 2, 1) := by decide +kernel
theorem dL_law_444 : decode cL_law 444 = .ok (.iadd, 1) := by decide +kernel
theorem dL_law_445 : decode cL_law 445 = .ok (.iaload, 1) := by decide +kernel
theorem dL_law_446 : decode cL_law 446 = .ok (.aload_n 0, 1) := by decide +kernel
theorem dL_law_447 : decode cL_law 447 = .ok (.iload 4, 2) := by decide +kernel
theorem dL_law_449 : decode cL_law 449 = .ok (.iconst 3, 1) := by decide +kernel
theorem dL_law_450 : decode cL_law 450 = .ok (.iadd, 1) := by decide +kernel
theorem dL_law_451 : decode cL_law 451 = .ok (.iaload, 1) := by decide +kernel
theorem dL_law_452 : decode cL_law 452 = .ok (.invokevirtual 49, 3) := by decide +kernel
theorem dL_law_455 : decode cL_law 455 = .ok (.pop, 1) := by decide +kernel
theorem dL_law_456 : decode cL_law 456 = .ok (.aload_n 2, 1) := by decide +kernel
theorem dL_law_457 : decode cL_law 457 = .ok (.aload_n 0, 1) := by decide +kernel
theorem dL_law_458 : decode cL_law 458 = .ok (.iload 4, 2) := by decide +kernel
theorem dL_law_460 : decode cL_law 460 = .ok (.iconst 1, 1) := by decide +kernel
theorem dL_law_461 : decode cL_law 461 = .ok (.iadd, 1) := by decide +kernel
theorem dL_law_462 : decode cL_law 462 = .ok (.iaload, 1) := by decide +kernel
theorem dL_law_463 : decode cL_law 463 = .ok (.aload_n 0, 1) := by decide +kernel
theorem dL_law_464 : decode cL_law 464 = .ok (.iload 4, 2) := by decide +kernel
theorem dL_law_466 : decode cL_law 466 = .ok (.iconst 2, 1) := by decide +kernel
theorem dL_law_467 : decode cL_law 467 = .ok (.iadd, 1) := by decide +kernel
theorem dL_law_468 : decode cL_law 468 = .ok (.iaload, 1) := by decide +kernel
theorem dL_law_469 : decode cL_law 469 = .ok (.aload_n 0, 1) := by decide +kernel
theorem dL_law_470 : decode cL_law 470 = .ok (.iload 4, 2) := by decide +kernel
theorem dL_law_472 : decode cL_law 472 = .ok (.iconst 3, 1) := by decide +kernel
theorem dL_law_473 : decode cL_law 473 = .ok (.iadd, 1) := by decide +kernel
theorem dL_law_474 : decode cL_law 474 = .ok (.iaload, 1) := by decide +kernel
theorem dL_law_475 : decode cL_law 475 = .ok (.invokevirtual 53, 3) := by decide +kernel
theorem dL_law_478 : decode cL_law 478 = .ok (.pop, 1) := by decide +kernel
theorem dL_law_479 : decode cL_law 479 = .ok (.goto 866, 3) := by decide +kernel
theorem dL_law_482 : decode cL_law 482 = .ok (.aload_n 1, 1) := by decide +kernel
theorem dL_law_483 : decode cL_law 483 = .ok (.aload_n 0, 1) := by decide +kernel
theorem dL_law_484 : decode cL_law 484 = .ok (.iload 4, 2) := by decide +kernel
theorem dL_law_486 : decode cL_law 486 = .ok (.iconst 1, 1) := by decide +kernel
theorem dL_law_487 : decode cL_law 487 = .ok (.iadd, 1) := by decide +kernel
theorem dL_law_488 : decode cL_law 488 = .ok (.iaload, 1) := by decide +kernel
theorem dL_law_489 : decode cL_law 489 = .ok (.aload_n 0, 1) := by decide +kernel
theorem dL_law_490 : decode cL_law 490 = .ok (.iload 4, 2) := by decide +kernel
theorem dL_law_492 : decode cL_law 492 = .ok (.iconst 2, 1) := by decide +kernel
theorem dL_law_493 : decode cL_law 493 = .ok (.iadd, 1) := by decide +kernel
theorem dL_law_494 : decode cL_law 494 = .ok (.iaload, 1) := by decide +kernel
theorem dL_law_495 : decode cL_law 495 = .ok (.ifCond .eq 7, 3) := by decide +kernel
theorem dL_law_498 : decode cL_law 498 = .ok (.iconst 1, 1) := by decide +kernel
theorem dL_law_499 : decode cL_law 499 = .ok (.goto 4, 3) := by decide +kernel
theorem dL_law_502 : decode cL_law 502 = .ok (.iconst 0, 1) := by decide +kernel
theorem dL_law_503 : decode cL_law 503 = .ok (.invokevirtual 54, 3) := by decide +kernel
theorem dL_law_506 : decode cL_law 506 = .ok (.pop, 1) := by decide +kernel
theorem dL_law_507 : decode cL_law 507 = .ok (.aload_n 2, 1) := by decide +kernel
theorem dL_law_508 : decode cL_law 508 = .ok (.aload_n 0, 1) := by decide +kernel
theorem dL_law_509 : decode cL_law 509 = .ok (.iload 4, 2) := by decide +kernel
theorem dL_law_511 : decode cL_law 511 = .ok (.iconst 1, 1) := by decide +kernel
theorem dL_law_512 : decode cL_law 512 = .ok (.iadd, 1) := by decide +kernel
theorem dL_law_513 : decode cL_law 513 = .ok (.iaload, 1) := by decide +kernel
theorem dL_law_514 : decode cL_law 514 = .ok (.aload_n 0, 1) := by decide +kernel
theorem dL_law_515 : decode cL_law 515 = .ok (.iload 4, 2) := by decide +kernel
theorem dL_law_517 : decode cL_law 517 = .ok (.iconst 2, 1) := by decide +kernel
theorem dL_law_518 : decode cL_law 518 = .ok (.iadd, 1) := by decide +kernel
theorem dL_law_519 : decode cL_law 519 = .ok (.iaload, 1) := by decide +kernel
theorem dL_law_520 : decode cL_law 520 = .ok (.ifCond .eq 7, 3) := by decide +kernel
theorem dL_law_523 : decode cL_law 523 = .ok (.iconst 1, 1) := by decide +kernel
theorem dL_law_524 : decode cL_law 524 = .ok (.goto 4, 3) := by decide +kernel
theorem dL_law_527 : decode cL_law 527 = .ok (.iconst 0, 1) := by decide +kernel
theorem dL_law_528 : decode cL_law 528 = .ok (.invokevirtual 58, 3) := by decide +kernel
theorem dL_law_531 : decode cL_law 531 = .ok (.pop, 1) := by decide +kernel
theorem dL_law_532 : decode cL_law 532 = .ok (.goto 813, 3) := by decide +kernel
theorem dL_law_535 : decode cL_law 535 = .ok (.aload_n 1, 1) := by decide +kernel
theorem dL_law_536 : decode cL_law 536 = .ok (.aload_n 0, 1) := by decide +kernel
theorem dL_law_537 : decode cL_law 537 = .ok (.iload 4, 2) := by decide +kernel
theorem dL_law_539 : decode cL_law 539 = .ok (.iconst 1, 1) := by decide +kernel
theorem dL_law_540 : decode cL_law 540 = .ok (.iadd, 1) := by decide +kernel
theorem dL_law_541 : decode cL_law 541 = .ok (.iaload, 1) := by decide +kernel
theorem dL_law_542 : decode cL_law 542 = .ok (.invokevirtual 59, 3) := by decide +kernel
theorem dL_law_545 : decode cL_law 545 = .ok (.pop, 1) := by decide +kernel
theorem dL_law_546 : decode cL_law 546 = .ok (.aload_n 2, 1) := by decide +kernel
theorem dL_law_547 : decode cL_law 547 = .ok (.aload_n 0, 1) := by decide +kernel
theorem dL_law_548 : decode cL_law 548 = .ok (.iload 4, 2) := by decide +kernel
theorem dL_law_550 : decode cL_law 550 = .ok (.iconst 1, 1) := by decide +kernel
theorem dL_law_551 : decode cL_law 551 = .ok (.iadd, 1) := by decide +kernel
theorem dL_law_552 : decode cL_law 552 = .ok (.iaload, 1) := by decide +kernel
theorem dL_law_553 : decode cL_law 553 = .ok (.invokevirtual 62, 3) := by decide +kernel
theorem dL_law_556 : decode cL_law 556 = .ok (.pop, 1) := by decide +kernel
theorem dL_law_557 : decode cL_law 557 = .ok (.goto 788, 3) := by decide +kernel
theorem dL_law_560 : decode cL_law 560 = .ok (.aload_n 1, 1) := by decide +kernel
theorem dL_law_561 : decode cL_law 561 = .ok (.aload_n 0, 1) := by decide +kernel
theorem dL_law_562 : decode cL_law 562 = .ok (.iload 4, 2) := by decide +kernel
theorem dL_law_564 : decode cL_law 564 = .ok (.iconst 1, 1) := by decide +kernel
theorem dL_law_565 : decode cL_law 565 = .ok (.iadd, 1) := by decide +kernel
theorem dL_law_566 : decode cL_law 566 = .ok (.iaload, 1) := by decide +kernel
theorem dL_law_567 : decode cL_law 567 = .ok (.invokevirtual 63, 3) := by decide +kernel
theorem dL_law_570 : decode cL_law 570 = .ok (.pop, 1) := by decide +kernel
theorem dL_law_571 : decode cL_law 571 = .ok (.aload_n 2, 1) := by decide +kernel
theorem dL_law_572 : decode cL_law 572 = .ok (.aload_n 0, 1) := by decide +kernel
theorem dL_law_573 : decode cL_law 573 = .ok (.iload 4, 2) := by decide +kernel
theorem dL_law_575 : decode cL_law 575 = .ok (.iconst 1, 1) := by decide +kernel
theorem dL_law_576 : decode cL_law 576 = .ok (.iadd, 1) := by decide +kernel
theorem dL_law_577 : decode cL_law 577 = .ok (.iaload, 1) := by decide +kernel
theorem dL_law_578 : decode cL_law 578 = .ok (.invokevirtual 66, 3) := by decide +kernel
theorem dL_law_581 : decode cL_law 581 = .ok (.pop, 1) := by decide +kernel
theorem dL_law_582 : decode cL_law 582 = .ok (.goto 763, 3) := by decide +kernel
theorem dL_law_585 : decode cL_law 585 = .ok (.aload_n 1, 1) := by decide +kernel
theorem dL_law_586 : decode cL_law 586 = .ok (.invokevirtual 67, 3) := by decide +kernel
theorem dL_law_589 : decode cL_law 589 = .ok (.pop, 1) := by decide +kernel
theorem dL_law_590 : decode cL_law 590 = .ok (.aload_n 2, 1) := by decide +kernel
theorem dL_law_591 : decode cL_law 591 = .ok (.invokevirtual 71, 3) := by decide +kernel
theorem dL_law_594 : decode cL_law 594 = .ok (.pop, 1) := by decide +kernel
theorem dL_law_595 : decode cL_law 595 = .ok (.goto 750, 3) := by decide +kernel
theorem dL_law_598 : decode cL_law 598 = .ok (.aload_n 1, 1) := by decide +kernel
theorem dL_law_599 : decode cL_law 599 = .ok (.aload_n 0, 1) := by decide +kernel
theorem dL_law_600 : decode cL_law 600 = .ok (.iload 4, 2) := by decide +kernel
theorem dL_law_602 : decode cL_law 602 = .ok (.iconst 1, 1) := by decide +kernel
theorem dL_law_603 : decode cL_law 603 = .ok (.iadd, 1) := by decide +kernel
theorem dL_law_604 : decode cL_law 604 = .ok (.iaload, 1) := by decide +kernel
theorem dL_law_605 : decode cL_law 605 = .ok (.aload_n 0, 1) := by decide +kernel
theorem dL_law_606 : decode cL_law 606 = .ok (.iload 4, 2) := by decide +kernel
theorem dL_law_608 : decode cL_law 608 = .ok (.iconst 2, 1) := by decide +kernel
theorem dL_law_609 : decode cL_law 609 = .ok (.iadd, 1) := by decide +kernel
theorem dL_law_610 : decode cL_law 610 = .ok (.iaload, 1) := by decide +kernel
theorem dL_law_611 : decode cL_law 611 = .ok (.aload_n 0, 1) := by decide +kernel
theorem dL_law_612 : decode cL_law 612 = .ok (.iload 4, 2) := by decide +kernel
theorem dL_law_614 : decode cL_law 614 = .ok (.iconst 3, 1) := by decide +kernel
theorem dL_law_615 : decode cL_law 615 = .ok (.iadd, 1) := by decide +kernel
theorem dL_law_616 : decode cL_law 616 = .ok (.iaload, 1) := by decide +kernel
theorem dL_law_617 : decode cL_law 617 = .ok (.invokevirtual 72, 3) := by decide +kernel
theorem dL_law_620 : decode cL_law 620 = .ok (.pop, 1) := by decide +kernel
theorem dL_law_621 : decode cL_law 621 = .ok (.aload_n 2, 1) := by decide +kernel
theorem dL_law_622 : decode cL_law 622 = .ok (.aload_n 0, 1) := by decide +kernel
theorem dL_law_623 : decode cL_law 623 = .ok (.iload 4, 2) := by decide +kernel
theorem dL_law_625 : decode cL_law 625 = .ok (.iconst 1, 1) := by decide +kernel
theorem dL_law_626 : decode cL_law 626 = .ok (.iadd, 1) := by decide +kernel
theorem dL_law_627 : decode cL_law 627 = .ok (.iaload, 1) := by decide +kernel
theorem dL_law_628 : decode cL_law 628 = .ok (.aload_n 0, 1) := by decide +kernel
theorem dL_law_629 : decode cL_law 629 = .ok (.iload 4, 2) := by decide +kernel
theorem dL_law_631 : decode cL_law 631 = .ok (.iconst 2, 1) := by decide +kernel
theorem dL_law_632 : decode cL_law 632 = .ok (.iadd, 1) := by decide +kernel
theorem dL_law_633 : decode cL_law 633 = .ok (.iaload, 1) := by decide +kernel
theorem dL_law_634 : decode cL_law 634 = .ok (.aload_n 0, 1) := by decide +kernel
theorem dL_law_635 : decode cL_law 635 = .ok (.iload 4, 2) := by decide +kernel
theorem dL_law_637 : decode cL_law 637 = .ok (.iconst 3, 1) := by decide +kernel
theorem dL_law_638 : decode cL_law 638 = .ok (.iadd, 1) := by decide +kernel
theorem dL_law_639 : decode cL_law 639 = .ok (.iaload, 1) := by decide +kernel
theorem dL_law_640 : decode cL_law 640 = .ok (.invokevirtual 76, 3) := by decide +kernel
theorem dL_law_643 : decode cL_law 643 = .ok (.pop, 1) := by decide +kernel
theorem dL_law_644 : decode cL_law 644 = .ok (.goto 701, 3) := by decide +kernel
theorem dL_law_647 : decode cL_law 647 = .ok (.aload_n 1, 1) := by decide +kernel
