theorem dX0_init_0 : decode cX0_init 0 = .ok (.aload_n 0, 1) := by decide +kernel
theorem dX0_init_1 : decode cX0_init 1 = .ok (.invokespecial 3, 3) := by decide +kernel
theorem dX0_init_4 : decode cX0_init 4 = .ok (.aload_n 0, 1) := by decide +kernel
theorem dX0_init_5 : decode cX0_init 5 = .ok (.bipush 6, 2) := by decide +kernel
theorem dX0_init_7 : decode cX0_init 7 = .ok (.newarray .int, 2) := by decide +kernel
theorem dX0_init_9 : decode cX0_init 9 = .ok (.putfield 9, 3) := by decide +kernel
theorem dX0_init_12 : decode cX0_init 12 = .ok (.aload_n 0, 1) := by decide +kernel
theorem dX0_init_13 : decode cX0_init 13 = .ok (.sipush 360, 3) := by decide +kernel
theorem dX0_init_16 : decode cX0_init 16 = .ok (.newarray .int, 2) := by decide +kernel
theorem dX0_init_18 : decode cX0_init 18 = .ok (.putfield 15, 3) := by decide +kernel
theorem dX0_init_21 : decode cX0_init 21 = .ok (.return_, 1) := by decide +kernel
theorem dX0_open_0 : decode cX0_open 0 = .ok (.aload_n 0, 1) := by decide +kernel
theorem dX0_open_1 : decode cX0_open 1 = .ok (.iconst 0, 1) := by decide +kernel
theorem dX0_open_2 : decode cX0_open 2 = .ok (.putfield 18, 3) := by decide +kernel
theorem dX0_open_5 : decode cX0_open 5 = .ok (.aload_n 0, 1) := by decide +kernel
theorem dX0_open_6 : decode cX0_open 6 = .ok (.iconst 0, 1) := by decide +kernel
theorem dX0_open_7 : decode cX0_open 7 = .ok (.putfield 22, 3) := by decide +kernel
theorem dX0_open_10 : decode cX0_open 10 = .ok (.aload_n 0, 1) := by decide +kernel
theorem dX0_open_11 : decode cX0_open 11 = .ok (.iconst 0, 1) := by decide +kernel
theorem dX0_open_12 : decode cX0_open 12 = .ok (.putfield 25, 3) := by decide +kernel
theorem dX0_open_15 : decode cX0_open 15 = .ok (.aload_n 0, 1) := by decide +kernel
theorem dX0_open_16 : decode cX0_open 16 = .ok (.iconst 0, 1) := by decide +kernel
theorem dX0_open_17 : decode cX0_open 17 = .ok (.putfield 28, 3) := by decide +kernel
theorem dX0_open_20 : decode cX0_open 20 = .ok (.return_, 1) := by decide +kernel
theorem dX0_keep_0 : decode cX0_keep 0 = .ok (.aload_n 1, 1) := by decide +kernel
theorem dX0_keep_1 : decode cX0_keep 1 = .ok (.iconst 0, 1) := by decide +kernel
theorem dX0_keep_2 : decode cX0_keep 2 = .ok (.aload_n 0, 1) := by decide +kernel
theorem dX0_keep_3 : decode cX0_keep 3 = .ok (.getfield 15, 3) := by decide +kernel
theorem dX0_keep_6 : decode cX0_keep 6 = .ok (.aload_n 0, 1) := by decide +kernel
theorem dX0_keep_7 : decode cX0_keep 7 = .ok (.getfield 25, 3) := by decide +kernel
theorem dX0_keep_10 : decode cX0_keep 10 = .ok (.bipush 6, 2) := by decide +kernel
theorem dX0_keep_12 : decode cX0_keep 12 = .ok (.imul, 1) := by decide +kernel
theorem dX0_keep_13 : decode cX0_keep 13 = .ok (.bipush 6, 2) := by decide +kernel
theorem dX0_keep_15 : decode cX0_keep 15 = .ok (.invokestatic 32, 3) := by decide +kernel
theorem dX0_keep_18 : decode cX0_keep 18 = .ok (.aload_n 0, 1) := by decide +kernel
theorem dX0_keep_19 : decode cX0_keep 19 = .ok (.aload_n 0, 1) := by decide +kernel
theorem dX0_keep_20 : decode cX0_keep 20 = .ok (.getfield 25, 3) := by decide +kernel
theorem dX0_keep_23 : decode cX0_keep 23 = .ok (.iconst 1, 1) := by decide +kernel
theorem dX0_keep_24 : decode cX0_keep 24 = .ok (.iadd, 1) := by decide +kernel
theorem dX0_keep_25 : decode cX0_keep 25 = .ok (.bipush 60, 2) := by decide +kernel
theorem dX0_keep_27 : decode cX0_keep 27 = .ok (.irem, 1) := by decide +kernel
theorem dX0_keep_28 : decode cX0_keep 28 = .ok (.putfield 25, 3) := by decide +kernel
theorem dX0_keep_31 : decode cX0_keep 31 = .ok (.aload_n 0, 1) := by decide +kernel
theorem dX0_keep_32 : decode cX0_keep 32 = .ok (.aload_n 0, 1) := by decide +kernel
theorem dX0_keep_33 : decode cX0_keep 33 = .ok (.getfield 22, 3) := by decide +kernel
theorem dX0_keep_36 : decode cX0_keep 36 = .ok (.iconst 1, 1) := by decide +kernel
theorem dX0_keep_37 : decode cX0_keep 37 = .ok (.iadd, 1) := by decide +kernel
theorem dX0_keep_38 : decode cX0_keep 38 = .ok (.bipush 60, 2) := by decide +kernel
theorem dX0_keep_40 : decode cX0_keep 40 = .ok (.invokestatic 38, 3) := by decide +kernel
theorem dX0_keep_43 : decode cX0_keep 43 = .ok (.putfield 22, 3) := by decide +kernel
theorem dX0_keep_46 : decode cX0_keep 46 = .ok (.return_, 1) := by decide +kernel
theorem dX0_takeBack_0 : decode cX0_takeBack 0 = .ok (.aload_n 0, 1) := by decide +kernel
theorem dX0_takeBack_1 : decode cX0_takeBack 1 = .ok (.aload_n 0, 1) := by decide +kernel
theorem dX0_takeBack_2 : decode cX0_takeBack 2 = .ok (.getfield 25, 3) := by decide +kernel
theorem dX0_takeBack_5 : decode cX0_takeBack 5 = .ok (.bipush 60, 2) := by decide +kernel
theorem dX0_takeBack_7 : decode cX0_takeBack 7 = .ok (.iadd, 1) := by decide +kernel
theorem dX0_takeBack_8 : decode cX0_takeBack 8 = .ok (.iconst 1, 1) := by decide +kernel
theorem dX0_takeBack_9 : decode cX0_takeBack 9 = .ok (.isub, 1) := by decide +kernel
theorem dX0_takeBack_10 : decode cX0_takeBack 10 = .ok (.bipush 60, 2) := by decide +kernel
theorem dX0_takeBack_12 : decode cX0_takeBack 12 = .ok (.irem, 1) := by decide +kernel
theorem dX0_takeBack_13 : decode cX0_takeBack 13 = .ok (.putfield 25, 3) := by decide +kernel
theorem dX0_takeBack_16 : decode cX0_takeBack 16 = .ok (.aload_n 0, 1) := by decide +kernel
theorem dX0_takeBack_17 : decode cX0_takeBack 17 = .ok (.getfield 15, 3) := by decide +kernel
theorem dX0_takeBack_20 : decode cX0_takeBack 20 = .ok (.aload_n 0, 1) := by decide +kernel
theorem dX0_takeBack_21 : decode cX0_takeBack 21 = .ok (.getfield 25, 3) := by decide +kernel
theorem dX0_takeBack_24 : decode cX0_takeBack 24 = .ok (.bipush 6, 2) := by decide +kernel
theorem dX0_takeBack_26 : decode cX0_takeBack 26 = .ok (.imul, 1) := by decide +kernel
theorem dX0_takeBack_27 : decode cX0_takeBack 27 = .ok (.aload_n 1, 1) := by decide +kernel
theorem dX0_takeBack_28 : decode cX0_takeBack 28 = .ok (.iconst 0, 1) := by decide +kernel
theorem dX0_takeBack_29 : decode cX0_takeBack 29 = .ok (.bipush 6, 2) := by decide +kernel
theorem dX0_takeBack_31 : decode cX0_takeBack 31 = .ok (.invokestatic 32, 3) := by decide +kernel
theorem dX0_takeBack_34 : decode cX0_takeBack 34 = .ok (.aload_n 0, 1) := by decide +kernel
theorem dX0_takeBack_35 : decode cX0_takeBack 35 = .ok (.dup, 1) := by decide +kernel
theorem dX0_takeBack_36 : decode cX0_takeBack 36 = .ok (.getfield 22, 3) := by decide +kernel
theorem dX0_takeBack_39 : decode cX0_takeBack 39 = .ok (.iconst 1, 1) := by decide +kernel
theorem dX0_takeBack_40 : decode cX0_takeBack 40 = .ok (.isub, 1) := by decide +kernel
theorem dX0_takeBack_41 : decode cX0_takeBack 41 = .ok (.putfield 22, 3) := by decide +kernel
theorem dX0_takeBack_44 : decode cX0_takeBack 44 = .ok (.aload_n 0, 1) := by decide +kernel
theorem dX0_takeBack_45 : decode cX0_takeBack 45 = .ok (.dup, 1) := by decide +kernel
theorem dX0_takeBack_46 : decode cX0_takeBack 46 = .ok (.getfield 18, 3) := by decide +kernel
theorem dX0_takeBack_49 : decode cX0_takeBack 49 = .ok (.iconst 1, 1) := by decide +kernel
theorem dX0_takeBack_50 : decode cX0_takeBack 50 = .ok (.isub, 1) := by decide +kernel
theorem dX0_takeBack_51 : decode cX0_takeBack 51 = .ok (.putfield 18, 3) := by decide +kernel
theorem dX0_takeBack_54 : decode cX0_takeBack 54 = .ok (.return_, 1) := by decide +kernel
theorem dX0_takeImage_0 : decode cX0_takeImage 0 = .ok (.aload_n 1, 1) := by decide +kernel
theorem dX0_takeImage_1 : decode cX0_takeImage 1 = .ok (.iconst 0, 1) := by decide +kernel
theorem dX0_takeImage_2 : decode cX0_takeImage 2 = .ok (.aload_n 0, 1) := by decide +kernel
theorem dX0_takeImage_3 : decode cX0_takeImage 3 = .ok (.getfield 9, 3) := by decide +kernel
theorem dX0_takeImage_6 : decode cX0_takeImage 6 = .ok (.iconst 0, 1) := by decide +kernel
theorem dX0_takeImage_7 : decode cX0_takeImage 7 = .ok (.bipush 6, 2) := by decide +kernel
theorem dX0_takeImage_9 : decode cX0_takeImage 9 = .ok (.invokestatic 32, 3) := by decide +kernel
theorem dX0_takeImage_12 : decode cX0_takeImage 12 = .ok (.aload_n 0, 1) := by decide +kernel
theorem dX0_takeImage_13 : decode cX0_takeImage 13 = .ok (.aload_n 0, 1) := by decide +kernel
theorem dX0_takeImage_14 : decode cX0_takeImage 14 = .ok (.getfield 18, 3) := by decide +kernel
theorem dX0_takeImage_17 : decode cX0_takeImage 17 = .ok (.putfield 44, 3) := by decide +kernel
theorem dX0_takeImage_20 : decode cX0_takeImage 20 = .ok (.aload_n 0, 1) := by decide +kernel
theorem dX0_takeImage_21 : decode cX0_takeImage 21 = .ok (.iconst 1, 1) := by decide +kernel
theorem dX0_takeImage_22 : decode cX0_takeImage 22 = .ok (.putfield 28, 3) := by decide +kernel
theorem dX0_takeImage_25 : decode cX0_takeImage 25 = .ok (.return_, 1) := by decide +kernel
theorem dX0_comeBack_0 : decode cX0_comeBack 0 = .ok (.aload_n 0, 1) := by decide +kernel
theorem dX0_comeBack_1 : decode cX0_comeBack 1 = .ok (.getfield 9, 3) := by decide +kernel
theorem dX0_comeBack_4 : decode cX0_comeBack 4 = .ok (.iconst 0, 1) := by decide +kernel
theorem dX0_comeBack_5 : decode cX0_comeBack 5 = .ok (.aload_n 1, 1) := by decide +kernel
theorem dX0_comeBack_6 : decode cX0_comeBack 6 = .ok (.iconst 0, 1) := by decide +kernel
theorem dX0_comeBack_7 : decode cX0_comeBack 7 = .ok (.bipush 6, 2) := by decide +kernel
theorem dX0_comeBack_9 : decode cX0_comeBack 9 = .ok (.invokestatic 32, 3) := by decide +kernel
theorem dX0_comeBack_12 : decode cX0_comeBack 12 = .ok (.aload_n 0, 1) := by decide +kernel
theorem dX0_comeBack_13 : decode cX0_comeBack 13 = .ok (.aload_n 0, 1) := by decide +kernel
theorem dX0_comeBack_14 : decode cX0_comeBack 14 = .ok (.getfield 44, 3) := by decide +kernel
theorem dX0_comeBack_17 : decode cX0_comeBack 17 = .ok (.putfield 18, 3) := by decide +kernel
theorem dX0_comeBack_20 : decode cX0_comeBack 20 = .ok (.aload_n 0, 1) := by decide +kernel
theorem dX0_comeBack_21 : decode cX0_comeBack 21 = .ok (.iconst 0, 1) := by decide +kernel
theorem dX0_comeBack_22 : decode cX0_comeBack 22 = .ok (.putfield 22, 3) := by decide +kernel
theorem dX0_comeBack_25 : decode cX0_comeBack 25 = .ok (.return_, 1) := by decide +kernel
theorem dX1_init_0 : decode cX1_init 0 = .ok (.aload_n 0, 1) := by decide +kernel
theorem dX1_init_1 : decode cX1_init 1 = .ok (.invokespecial 3, 3) := by decide +kernel
theorem dX1_init_4 : decode cX1_init 4 = .ok (.iconst 0, 1) := by decide +kernel
theorem dX1_init_5 : decode cX1_init 5 = .ok (.istore_n 2, 1) := by decide +kernel
theorem dX1_init_6 : decode cX1_init 6 = .ok (.iconst 0, 1) := by decide +kernel
theorem dX1_init_7 : decode cX1_init 7 = .ok (.istore_n 3, 1) := by decide +kernel
theorem dX1_init_8 : decode cX1_init 8 = .ok (.iload_n 3, 1) := by decide +kernel
theorem dX1_init_9 : decode cX1_init 9 = .ok (.aload_n 1, 1) := by decide +kernel
theorem dX1_init_10 : decode cX1_init 10 = .ok (.arraylength, 1) := by decide +kernel
theorem dX1_init_11 : decode cX1_init 11 = .ok (.if_icmp .ge 19, 3) := by decide +kernel
theorem dX1_init_14 : decode cX1_init 14 = .ok (.aload_n 1, 1) := by decide +kernel
theorem dX1_init_15 : decode cX1_init 15 = .ok (.iload_n 3, 1) := by decide +kernel
theorem dX1_init_16 : decode cX1_init 16 = .ok (.iaload, 1) := by decide +kernel
theorem dX1_init_17 : decode cX1_init 17 = .ok (.bipush (-111), 2) := by decide +kernel
theorem dX1_init_19 : decode cX1_init 19 = .ok (.if_icmp .ne 5, 3) := by decide +kernel
theorem dX1_init_22 : decode cX1_init 22 = .ok (.iconst 1, 1) := by decide +kernel
theorem dX1_init_23 : decode cX1_init 23 = .ok (.istore_n 2, 1) := by decide +kernel
theorem dX1_init_24 : decode cX1_init 24 = .ok (.iinc 3 1, 3) := by decide +kernel
theorem dX1_init_27 : decode cX1_init 27 = .ok (.goto (-19), 3) := by decide +kernel
theorem dX1_init_30 : decode cX1_init 30 = .ok (.aload_n 0, 1) := by decide +kernel
theorem dX1_init_31 : decode cX1_init 31 = .ok (.aload_n 1, 1) := by decide +kernel
theorem dX1_init_32 : decode cX1_init 32 = .ok (.putfield 9, 3) := by decide +kernel
theorem dX1_init_35 : decode cX1_init 35 = .ok (.aload_n 0, 1) := by decide +kernel
theorem dX1_init_36 : decode cX1_init 36 = .ok (.aload_n 1, 1) := by decide +kernel
theorem dX1_init_37 : decode cX1_init 37 = .ok (.arraylength, 1) := by decide +kernel
theorem dX1_init_38 : decode cX1_init 38 = .ok (.newarray .int, 2) := by decide +kernel
theorem dX1_init_40 : decode cX1_init 40 = .ok (.putfield 15, 3) := by decide +kernel
theorem dX1_init_43 : decode cX1_init 43 = .ok (.aload_n 0, 1) := by decide +kernel
theorem dX1_init_44 : decode cX1_init 44 = .ok (.iload_n 2, 1) := by decide +kernel
theorem dX1_init_45 : decode cX1_init 45 = .ok (.ifCond .eq 9, 3) := by decide +kernel
theorem dX1_init_48 : decode cX1_init 48 = .ok (.sipush 1000, 3) := by decide +kernel
theorem dX1_init_51 : decode cX1_init 51 = .ok (.goto 4, 3) := by decide +kernel
theorem dX1_init_54 : decode cX1_init 54 = .ok (.iconst 0, 1) := by decide +kernel
theorem dX1_init_55 : decode cX1_init 55 = .ok (.newarray .int, 2) := by decide +kernel
theorem dX1_init_57 : decode cX1_init 57 = .ok (.putfield 18, 3) := by decide +kernel
theorem dX1_init_60 : decode cX1_init 60 = .ok (.return_, 1) := by decide +kernel
theorem dX1_forget_0 : decode cX1_forget 0 = .ok (.aload_n 0, 1) := by decide +kernel
theorem dX1_forget_1 : decode cX1_forget 1 = .ok (.iconst 0, 1) := by decide +kernel
theorem dX1_forget_2 : decode cX1_forget 2 = .ok (.putfield 21, 3) := by decide +kernel
theorem dX1_forget_5 : decode cX1_forget 5 = .ok (.return_, 1) := by decide +kernel
theorem dX1_wetness_0 : decode cX1_wetness 0 = .ok (.iload_n 1, 1) := by decide +kernel
theorem dX1_wetness_1 : decode cX1_wetness 1 = .ok (.ifCond .lt 12, 3) := by decide +kernel
theorem dX1_wetness_4 : decode cX1_wetness 4 = .ok (.iload_n 1, 1) := by decide +kernel
theorem dX1_wetness_5 : decode cX1_wetness 5 = .ok (.aload_n 0, 1) := by decide +kernel
theorem dX1_wetness_6 : decode cX1_wetness 6 = .ok (.getfield 18, 3) := by decide +kernel
theorem dX1_wetness_9 : decode cX1_wetness 9 = .ok (.arraylength, 1) := by decide +kernel
theorem dX1_wetness_10 : decode cX1_wetness 10 = .ok (.if_icmp .lt 17, 3) := by decide +kernel
theorem dX1_wetness_13 : decode cX1_wetness 13 = .ok (.aload_n 0, 1) := by decide +kernel
theorem dX1_wetness_14 : decode cX1_wetness 14 = .ok (.iload_n 1, 1) := by decide +kernel
theorem dX1_wetness_15 : decode cX1_wetness 15 = .ok (.iconst 0, 1) := by decide +kernel
theorem dX1_wetness_16 : decode cX1_wetness 16 = .ok (.aload_n 2, 1) := by decide +kernel
theorem dX1_wetness_17 : decode cX1_wetness 17 = .ok (.invokevirtual 25, 3) := by decide +kernel
theorem dX1_wetness_20 : decode cX1_wetness 20 = .ok (.iconst 0, 1) := by decide +kernel
theorem dX1_wetness_21 : decode cX1_wetness 21 = .ok (.bipush 9, 2) := by decide +kernel
theorem dX1_wetness_23 : decode cX1_wetness 23 = .ok (.invokestatic 29, 3) := by decide +kernel
theorem dX1_wetness_26 : decode cX1_wetness 26 = .ok (.ireturn, 1) := by decide +kernel
theorem dX1_wetness_27 : decode cX1_wetness 27 = .ok (.aload_n 0, 1) := by decide +kernel
theorem dX1_wetness_28 : decode cX1_wetness 28 = .ok (.getfield 21, 3) := by decide +kernel
theorem dX1_wetness_31 : decode cX1_wetness 31 = .ok (.iload_n 1, 1) := by decide +kernel
theorem dX1_wetness_32 : decode cX1_wetness 32 = .ok (.if_icmp .gt 76, 3) := by decide +kernel
theorem dX1_wetness_35 : decode cX1_wetness 35 = .ok (.aload_n 0, 1) := by decide +kernel
theorem dX1_wetness_36 : decode cX1_wetness 36 = .ok (.getfield 21, 3) := by decide +kernel
theorem dX1_wetness_39 : decode cX1_wetness 39 = .ok (.aload_n 0, 1) := by decide +kernel
theorem dX1_wetness_40 : decode cX1_wetness 40 = .ok (.getfield 18, 3) := by decide +kernel
theorem dX1_wetness_43 : decode cX1_wetness 43 = .ok (.arraylength, 1) := by decide +kernel
theorem dX1_wetness_44 : decode cX1_wetness 44 = .ok (.if_icmp .ge 64, 3) := by decide +kernel
theorem dX1_wetness_47 : decode cX1_wetness 47 = .ok (.aload_n 0, 1) := by decide +kernel
theorem dX1_wetness_48 : decode cX1_wetness 48 = .ok (.getfield 21, 3) := by decide +kernel
theorem dX1_wetness_51 : decode cX1_wetness 51 = .ok (.ifCond .le 17, 3) := by decide +kernel
theorem dX1_wetness_54 : decode cX1_wetness 54 = .ok (.aload_n 0, 1) := by decide +kernel
theorem dX1_wetness_55 : decode cX1_wetness 55 = .ok (.getfield 18, 3) := by decide +kernel
theorem dX1_wetness_58 : decode cX1_wetness 58 = .ok (.aload_n 0, 1) := by decide +kernel
theorem dX1_wetness_59 : decode cX1_wetness 59 = .ok (.getfield 21, 3) := by decide +kernel
theorem dX1_wetness_62 : decode cX1_wetness 62 = .ok (.iconst 1, 1) := by decide +kernel
theorem dX1_wetness_63 : decode cX1_wetness 63 = .ok (.isub, 1) := by decide +kernel
theorem dX1_wetness_64 : decode cX1_wetness 64 = .ok (.iaload, 1) := by decide +kernel
theorem dX1_wetness_65 : decode cX1_wetness 65 = .ok (.goto 4, 3) := by decide +kernel
theorem dX1_wetness_68 : decode cX1_wetness 68 = .ok (.iconst 0, 1) := by decide +kernel
theorem dX1_wetness_69 : decode cX1_wetness 69 = .ok (.istore_n 3, 1) := by decide +kernel
theorem dX1_wetness_70 : decode cX1_wetness 70 = .ok (.aload_n 0, 1) := by decide +kernel
theorem dX1_wetness_71 : decode cX1_wetness 71 = .ok (.getfield 18, 3) := by decide +kernel
theorem dX1_wetness_74 : decode cX1_wetness 74 = .ok (.aload_n 0, 1) := by decide +kernel
theorem dX1_wetness_75 : decode cX1_wetness 75 = .ok (.getfield 21, 3) := by decide +kernel
theorem dX1_wetness_78 : decode cX1_wetness 78 = .ok (.aload_n 0, 1) := by decide +kernel
theorem dX1_wetness_79 : decode cX1_wetness 79 = .ok (.aload_n 0, 1) := by decide +kernel
theorem dX1_wetness_80 : decode cX1_wetness 80 = .ok (.getfield 21, 3) := by decide +kernel
theorem dX1_wetness_83 : decode cX1_wetness 83 = .ok (.iload_n 3, 1) := by decide +kernel
theorem dX1_wetness_84 : decode cX1_wetness 84 = .ok (.aload_n 2, 1) := by decide +kernel
theorem dX1_wetness_85 : decode cX1_wetness 85 = .ok (.invokevirtual 25, 3) := by decide +kernel
theorem dX1_wetness_88 : decode cX1_wetness 88 = .ok (.iconst 0, 1) := by decide +kernel
theorem dX1_wetness_89 : decode cX1_wetness 89 = .ok (.bipush 9, 2) := by decide +kernel
theorem dX1_wetness_91 : decode cX1_wetness 91 = .ok (.invokestatic 29, 3) := by decide +kernel
theorem dX1_wetness_94 : decode cX1_wetness 94 = .ok (.iastore, 1) := by decide +kernel
theorem dX1_wetness_95 : decode cX1_wetness 95 = .ok (.aload_n 0, 1) := by decide +kernel
theorem dX1_wetness_96 : decode cX1_wetness 96 = .ok (.dup, 1) := by decide +kernel
theorem dX1_wetness_97 : decode cX1_wetness 97 = .ok (.getfield 21, 3) := by decide +kernel
theorem dX1_wetness_100 : decode cX1_wetness 100 = .ok (.iconst 1, 1) := by decide +kernel
theorem dX1_wetness_101 : decode cX1_wetness 101 = .ok (.iadd, 1) := by decide +kernel
theorem dX1_wetness_102 : decode cX1_wetness 102 = .ok (.putfield 21, 3) := by decide +kernel
theorem dX1_wetness_105 : decode cX1_wetness 105 = .ok (.goto (-78), 3) := by decide +kernel
theorem dX1_wetness_108 : decode cX1_wetness 108 = .ok (.aload_n 0, 1) := by decide +kernel
theorem dX1_wetness_109 : decode cX1_wetness 109 = .ok (.getfield 18, 3) := by decide +kernel
theorem dX1_wetness_112 : decode cX1_wetness 112 = .ok (.iload_n 1, 1) := by decide +kernel
theorem dX1_wetness_113 : decode cX1_wetness 113 = .ok (.iaload, 1) := by decide +kernel
theorem dX1_wetness_114 : decode cX1_wetness 114 = .ok (.ireturn, 1) := by decide +kernel
theorem dX1_worth_0 : decode cX1_worth 0 = .ok (.aload_n 0, 1) := by decide +kernel
theorem dX1_worth_1 : decode cX1_worth 1 = .ok (.iconst 0, 1) := by decide +kernel
theorem dX1_worth_2 : decode cX1_worth 2 = .ok (.putfield 33, 3) := by decide +kernel
theorem dX1_worth_5 : decode cX1_worth 5 = .ok (.iconst 0, 1) := by decide +kernel
theorem dX1_worth_6 : decode cX1_worth 6 = .ok (.istore 4, 2) := by decide +kernel
theorem dX1_worth_8 : decode cX1_worth 8 = .ok (.iconst 0, 1) := by decide +kernel
theorem dX1_worth_9 : decode cX1_worth 9 = .ok (.istore 5, 2) := by decide +kernel
theorem dX1_worth_11 : decode cX1_worth 11 = .ok (.iload 5, 2) := by decide +kernel
theorem dX1_worth_13 : decode cX1_worth 13 = .ok (.aload_n 0, 1) := by decide +kernel
theorem dX1_worth_14 : decode cX1_worth 14 = .ok (.getfield 9, 3) := by decide +kernel
theorem dX1_worth_17 : decode cX1_worth 17 = .ok (.arraylength, 1) := by decide +kernel
theorem dX1_worth_18 : decode cX1_worth 18 = .ok (.if_icmp .ge 100, 3) := by decide +kernel
theorem dX1_worth_21 : decode cX1_worth 21 = .ok (.aload_n 0, 1) := by decide +kernel
theorem dX1_worth_22 : decode cX1_worth 22 = .ok (.getfield 9, 3) := by decide +kernel
theorem dX1_worth_25 : decode cX1_worth 25 = .ok (.iload 5, 2) := by decide +kernel
theorem dX1_worth_27 : decode cX1_worth 27 = .ok (.iaload, 1) := by decide +kernel
theorem dX1_worth_28 : decode cX1_worth 28 = .ok (.istore 6, 2) := by decide +kernel
theorem dX1_worth_30 : decode cX1_worth 30 = .ok (.iload 4, 2) := by decide +kernel
theorem dX1_worth_32 : decode cX1_worth 32 = .ok (.ifCond .eq 20, 3) := by decide +kernel
theorem dX1_worth_35 : decode cX1_worth 35 = .ok (.iload 6, 2) := by decide +kernel
theorem dX1_worth_37 : decode cX1_worth 37 = .ok (.bipush (-59), 2) := by decide +kernel
theorem dX1_worth_39 : decode cX1_worth 39 = .ok (.if_icmp .eq 7, 3) := by decide +kernel
theorem dX1_worth_42 : decode cX1_worth 42 = .ok (.iconst 1, 1) := by decide +kernel
theorem dX1_worth_43 : decode cX1_worth 43 = .ok (.goto 4, 3) := by decide +kernel
theorem dX1_worth_46 : decode cX1_worth 46 = .ok (.iconst 0, 1) := by decide +kernel
theorem dX1_worth_47 : decode cX1_worth 47 = .ok (.istore 4, 2) := by decide +kernel
theorem dX1_worth_49 : decode cX1_worth 49 = .ok (.goto 63, 3) := by decide +kernel
theorem dX1_worth_52 : decode cX1_worth 52 = .ok (.iload 6, 2) := by decide +kernel
theorem dX1_worth_54 : decode cX1_worth 54 = .ok (.ifCond .lt 12, 3) := by decide +kernel
theorem dX1_worth_57 : decode cX1_worth 57 = .ok (.aload_n 0, 1) := by decide +kernel
theorem dX1_worth_58 : decode cX1_worth 58 = .ok (.iload 6, 2) := by decide +kernel
theorem dX1_worth_60 : decode cX1_worth 60 = .ok (.invokevirtual 36, 3) := by decide +kernel
theorem dX1_worth_63 : decode cX1_worth 63 = .ok (.goto 49, 3) := by decide +kernel
theorem dX1_worth_66 : decode cX1_worth 66 = .ok (.iload 6, 2) := by decide +kernel
theorem dX1_worth_68 : decode cX1_worth 68 = .ok (.bipush (-59), 2) := by decide +kernel
theorem dX1_worth_70 : decode cX1_worth 70 = .ok (.if_icmp .ne 8, 3) := by decide +kernel
theorem dX1_worth_73 : decode cX1_worth 73 = .ok (.aload_n 0, 1) := by decide +kernel
theorem dX1_worth_74 : decode cX1_worth 74 = .ok (.invokevirtual 40, 3) := by decide +kernel
theorem dX1_worth_77 : decode cX1_worth 77 = .ok (.ireturn, 1) := by decide +kernel
theorem dX1_worth_78 : decode cX1_worth 78 = .ok (.iload 6, 2) := by decide +kernel
theorem dX1_worth_80 : decode cX1_worth 80 = .ok (.bipush (-63), 2) := by decide +kernel
theorem dX1_worth_82 : decode cX1_worth 82 = .ok (.if_icmp .ne 20, 3) := by decide +kernel
theorem dX1_worth_85 : decode cX1_worth 85 = .ok (.aload_n 0, 1) := by decide +kernel
theorem dX1_worth_86 : decode cX1_worth 86 = .ok (.invokevirtual 40, 3) := by decide +kernel
theorem dX1_worth_89 : decode cX1_worth 89 = .ok (.ifCond .ne 7, 3) := by decide +kernel
theorem dX1_worth_92 : decode cX1_worth 92 = .ok (.iconst 1, 1) := by decide +kernel
theorem dX1_worth_93 : decode cX1_worth 93 = .ok (.goto 4, 3) := by decide +kernel
theorem dX1_worth_96 : decode cX1_worth 96 = .ok (.iconst 0, 1) := by decide +kernel
theorem dX1_worth_97 : decode cX1_worth 97 = .ok (.istore 4, 2) := by decide +kernel
theorem dX1_worth_99 : decode cX1_worth 99 = .ok (.goto 13, 3) := by decide +kernel
theorem dX1_worth_102 : decode cX1_worth 102 = .ok (.aload_n 0, 1) := by decide +kernel
theorem dX1_worth_103 : decode cX1_worth 103 = .ok (.iload 6, 2) := by decide +kernel
theorem dX1_worth_105 : decode cX1_worth 105 = .ok (.ineg, 1) := by decide +kernel
theorem dX1_worth_106 : decode cX1_worth 106 = .ok (.iload_n 1, 1) := by decide +kernel
theorem dX1_worth_107 : decode cX1_worth 107 = .ok (.iload_n 2, 1) := by decide +kernel
theorem dX1_worth_108 : decode cX1_worth 108 = .ok (.aload_n 3, 1) := by decide +kernel
theorem dX1_worth_109 : decode cX1_worth 109 = .ok (.invokevirtual 44, 3) := by decide +kernel
theorem dX1_worth_112 : decode cX1_worth 112 = .ok (.iinc 5 1, 3) := by decide +kernel
theorem dX1_worth_115 : decode cX1_worth 115 = .ok (.goto (-104), 3) := by decide +kernel
theorem dX1_worth_118 : decode cX1_worth 118 = .ok (.iconst 0, 1) := by decide +kernel
theorem dX1_worth_119 : decode cX1_worth 119 = .ok (.ireturn, 1) := by decide +kernel
theorem dX1_work_0 : decode cX1_work 0 = .ok (.iload_n 1, 1) := by decide +kernel
theorem dX1_work_1 : decode cX1_work 1 = .ok (.lookupswitch 129 #[(33, 110), (100, 59), (109, 78), (110, 90), (111, 102), (119, 67)], 59) := by decide +kernel
theorem dX1_work_60 : decode cX1_work 60 = .ok (.aload_n 0, 1) := by decide +kernel
theorem dX1_work_61 : decode cX1_work 61 = .ok (.iload_n 2, 1) := by decide +kernel
theorem dX1_work_62 : decode cX1_work 62 = .ok (.invokevirtual 36, 3) := by decide +kernel
theorem dX1_work_65 : decode cX1_work 65 = .ok (.goto 85, 3) := by decide +kernel
theorem dX1_work_68 : decode cX1_work 68 = .ok (.aload_n 0, 1) := by decide +kernel
theorem dX1_work_69 : decode cX1_work 69 = .ok (.iload_n 2, 1) := by decide +kernel
theorem dX1_work_70 : decode cX1_work 70 = .ok (.bipush 7, 2) := by decide +kernel
theorem dX1_work_72 : decode cX1_work 72 = .ok (.irem, 1) := by decide +kernel
theorem dX1_work_73 : decode cX1_work 73 = .ok (.invokevirtual 36, 3) := by decide +kernel
theorem dX1_work_76 : decode cX1_work 76 = .ok (.goto 74, 3) := by decide +kernel
theorem dX1_work_79 : decode cX1_work 79 = .ok (.aload_n 0, 1) := by decide +kernel
theorem dX1_work_80 : decode cX1_work 80 = .ok (.aload 4, 2) := by decide +kernel
theorem dX1_work_82 : decode cX1_work 82 = .ok (.getfield 48, 3) := by decide +kernel
theorem dX1_work_85 : decode cX1_work 85 = .ok (.invokevirtual 36, 3) := by decide +kernel
theorem dX1_work_88 : decode cX1_work 88 = .ok (.goto 62, 3) := by decide +kernel
theorem dX1_work_91 : decode cX1_work 91 = .ok (.aload_n 0, 1) := by decide +kernel
theorem dX1_work_92 : decode cX1_work 92 = .ok (.aload 4, 2) := by decide +kernel
theorem dX1_work_94 : decode cX1_work 94 = .ok (.getfield 53, 3) := by decide +kernel
theorem dX1_work_97 : decode cX1_work 97 = .ok (.invokevirtual 36, 3) := by decide +kernel
theorem dX1_work_100 : decode cX1_work 100 = .ok (.goto 50, 3) := by decide +kernel
theorem dX1_work_103 : decode cX1_work 103 = .ok (.aload_n 0, 1) := by decide +kernel
theorem dX1_work_104 : decode cX1_work 104 = .ok (.iload_n 3, 1) := by decide +kernel
theorem dX1_work_105 : decode cX1_work 105 = .ok (.invokevirtual 36, 3) := by decide +kernel
theorem dX1_work_108 : decode cX1_work 108 = .ok (.goto 42, 3) := by decide +kernel
theorem dX1_work_111 : decode cX1_work 111 = .ok (.aload_n 0, 1) := by decide +kernel
theorem dX1_work_112 : decode cX1_work 112 = .ok (.aload_n 0, 1) := by decide +kernel
theorem dX1_work_113 : decode cX1_work 113 = .ok (.invokevirtual 40, 3) := by decide +kernel
theorem dX1_work_116 : decode cX1_work 116 = .ok (.ifCond .ne 7, 3) := by decide +kernel
theorem dX1_work_119 : decode cX1_work 119 = .ok (.iconst 1, 1) := by decide +kernel
theorem dX1_work_120 : decode cX1_work 120 = .ok (.goto 4, 3) := by decide +kernel
theorem dX1_work_123 : decode cX1_work 123 = .ok (.iconst 0, 1) := by decide +kernel
theorem dX1_work_124 : decode cX1_work 124 = .ok (.invokevirtual 36, 3) := by decide +kernel
theorem dX1_work_127 : decode cX1_work 127 = .ok (.goto 23, 3) := by decide +kernel
theorem dX1_work_130 : decode cX1_work 130 = .ok (.aload_n 0, 1) := by decide +kernel
theorem dX1_work_131 : decode cX1_work 131 = .ok (.invokevirtual 40, 3) := by decide +kernel
theorem dX1_work_134 : decode cX1_work 134 = .ok (.istore 5, 2) := by decide +kernel
theorem dX1_work_136 : decode cX1_work 136 = .ok (.aload_n 0, 1) := by decide +kernel
theorem dX1_work_137 : decode cX1_work 137 = .ok (.iload_n 1, 1) := by decide +kernel
theorem dX1_work_138 : decode cX1_work 138 = .ok (.aload_n 0, 1) := by decide +kernel
theorem dX1_work_139 : decode cX1_work 139 = .ok (.invokevirtual 40, 3) := by decide +kernel
theorem dX1_work_142 : decode cX1_work 142 = .ok (.iload 5, 2) := by decide +kernel
theorem dX1_work_144 : decode cX1_work 144 = .ok (.invokestatic 56, 3) := by decide +kernel
theorem dX1_work_147 : decode cX1_work 147 = .ok (.invokevirtual 36, 3) := by decide +kernel
theorem dX1_work_150 : decode cX1_work 150 = .ok (.return_, 1) := by decide +kernel
theorem dX1_joined_0 : decode cX1_joined 0 = .ok (.iload_n 0, 1) := by decide +kernel
theorem dX1_joined_1 : decode cX1_joined 1 = .ok (.tableswitch 207 38 62 #[203, 207, 207, 207, 137, 115, 207, 126, 207, 158, 207, 207, 207, 207, 207, 207, 207, 207, 207, 207, 207, 207, 181, 170, 192], 115) := by decide +kernel
theorem dX1_joined_116 : decode cX1_joined 116 = .ok (.iload_n 1, 1) := by decide +kernel
theorem dX1_joined_117 : decode cX1_joined 117 = .ok (.iload_n 2, 1) := by decide +kernel
theorem dX1_joined_118 : decode cX1_joined 118 = .ok (.iadd, 1) := by decide +kernel
theorem dX1_joined_119 : decode cX1_joined 119 = .ok (.ldc 59, 2) := by decide +kernel
theorem dX1_joined_121 : decode cX1_joined 121 = .ok (.ldc 60, 2) := by decide +kernel
theorem dX1_joined_123 : decode cX1_joined 123 = .ok (.invokestatic 29, 3) := by decide +kernel
theorem dX1_joined_126 : decode cX1_joined 126 = .ok (.ireturn, 1) := by decide +kernel
theorem dX1_joined_127 : decode cX1_joined 127 = .ok (.iload_n 1, 1) := by decide +kernel
theorem dX1_joined_128 : decode cX1_joined 128 = .ok (.iload_n 2, 1) := by decide +kernel
theorem dX1_joined_129 : decode cX1_joined 129 = .ok (.isub, 1) := by decide +kernel
theorem dX1_joined_130 : decode cX1_joined 130 = .ok (.ldc 59, 2) := by decide +kernel
theorem dX1_joined_132 : decode cX1_joined 132 = .ok (.ldc 60, 2) := by decide +kernel
theorem dX1_joined_134 : decode cX1_joined 134 = .ok (.invokestatic 29, 3) := by decide +kernel
theorem dX1_joined_137 : decode cX1_joined 137 = .ok (.ireturn, 1) := by decide +kernel
theorem dX1_joined_138 : decode cX1_joined 138 = .ok (.iload_n 1, 1) := by decide +kernel
theorem dX1_joined_139 : decode cX1_joined 139 = .ok (.i2l, 1) := by decide +kernel
theorem dX1_joined_140 : decode cX1_joined 140 = .ok (.iload_n 2, 1) := by decide +kernel
theorem dX1_joined_141 : decode cX1_joined 141 = .ok (.i2l, 1) := by decide +kernel
theorem dX1_joined_142 : decode cX1_joined 142 = .ok (.lmul, 1) := by decide +kernel
theorem dX1_joined_143 : decode cX1_joined 143 = .ok (.lstore_n 3, 1) := by decide +kernel
theorem dX1_joined_144 : decode cX1_joined 144 = .ok (.ldc2_w 61, 3) := by decide +kernel
theorem dX1_joined_147 : decode cX1_joined 147 = .ok (.ldc2_w 63, 3) := by decide +kernel
theorem dX1_joined_150 : decode cX1_joined 150 = .ok (.lload_n 3, 1) := by decide +kernel
theorem dX1_joined_151 : decode cX1_joined 151 = .ok (.invokestatic 65, 3) := by decide +kernel
theorem dX1_joined_154 : decode cX1_joined 154 = .ok (.invokestatic 71, 3) := by decide +kernel
theorem dX1_joined_157 : decode cX1_joined 157 = .ok (.l2i, 1) := by decide +kernel
theorem dX1_joined_158 : decode cX1_joined 158 = .ok (.ireturn, 1) := by decide +kernel
theorem dX1_joined_159 : decode cX1_joined 159 = .ok (.iload_n 2, 1) := by decide +kernel
theorem dX1_joined_160 : decode cX1_joined 160 = .ok (.ifCond .ne 7, 3) := by decide +kernel
theorem dX1_joined_163 : decode cX1_joined 163 = .ok (.iconst 0, 1) := by decide +kernel
theorem dX1_joined_164 : decode cX1_joined 164 = .ok (.goto 6, 3) := by decide +kernel
theorem dX1_joined_167 : decode cX1_joined 167 = .ok (.iload_n 1, 1) := by decide +kernel
theorem dX1_joined_168 : decode cX1_joined 168 = .ok (.iload_n 2, 1) := by decide +kernel
theorem dX1_joined_169 : decode cX1_joined 169 = .ok (.idiv, 1) := by decide +kernel
theorem dX1_joined_170 : decode cX1_joined 170 = .ok (.ireturn, 1) := by decide +kernel
theorem dX1_joined_171 : decode cX1_joined 171 = .ok (.iload_n 1, 1) := by decide +kernel
theorem dX1_joined_172 : decode cX1_joined 172 = .ok (.iload_n 2, 1) := by decide +kernel
theorem dX1_joined_173 : decode cX1_joined 173 = .ok (.if_icmp .ne 7, 3) := by decide +kernel
theorem dX1_joined_176 : decode cX1_joined 176 = .ok (.iconst 1, 1) := by decide +kernel
theorem dX1_joined_177 : decode cX1_joined 177 = .ok (.goto 4, 3) := by decide +kernel
theorem dX1_joined_180 : decode cX1_joined 180 = .ok (.iconst 0, 1) := by decide +kernel
theorem dX1_joined_181 : decode cX1_joined 181 = .ok (.ireturn, 1) := by decide +kernel
theorem dX1_joined_182 : decode cX1_joined 182 = .ok (.iload_n 1, 1) := by decide +kernel
theorem dX1_joined_183 : decode cX1_joined 183 = .ok (.iload_n 2, 1) := by decide +kernel
theorem dX1_joined_184 : decode cX1_joined 184 = .ok (.if_icmp .ge 7, 3) := by decide +kernel
theorem dX1_joined_187 : decode cX1_joined 187 = .ok (.iconst 1, 1) := by decide +kernel
theorem dX1_joined_188 : decode cX1_joined 188 = .ok (.goto 4, 3) := by decide +kernel
theorem dX1_joined_191 : decode cX1_joined 191 = .ok (.iconst 0, 1) := by decide +kernel
theorem dX1_joined_192 : decode cX1_joined 192 = .ok (.ireturn, 1) := by decide +kernel
theorem dX1_joined_193 : decode cX1_joined 193 = .ok (.iload_n 1, 1) := by decide +kernel
theorem dX1_joined_194 : decode cX1_joined 194 = .ok (.iload_n 2, 1) := by decide +kernel
theorem dX1_joined_195 : decode cX1_joined 195 = .ok (.if_icmp .le 7, 3) := by decide +kernel
theorem dX1_joined_198 : decode cX1_joined 198 = .ok (.iconst 1, 1) := by decide +kernel
theorem dX1_joined_199 : decode cX1_joined 199 = .ok (.goto 4, 3) := by decide +kernel
theorem dX1_joined_202 : decode cX1_joined 202 = .ok (.iconst 0, 1) := by decide +kernel
theorem dX1_joined_203 : decode cX1_joined 203 = .ok (.ireturn, 1) := by decide +kernel
theorem dX1_joined_204 : decode cX1_joined 204 = .ok (.iload_n 1, 1) := by decide +kernel
theorem dX1_joined_205 : decode cX1_joined 205 = .ok (.iload_n 2, 1) := by decide +kernel
theorem dX1_joined_206 : decode cX1_joined 206 = .ok (.iand, 1) := by decide +kernel
theorem dX1_joined_207 : decode cX1_joined 207 = .ok (.ireturn, 1) := by decide +kernel
theorem dX1_joined_208 : decode cX1_joined 208 = .ok (.iload_n 1, 1) := by decide +kernel
theorem dX1_joined_209 : decode cX1_joined 209 = .ok (.iload_n 2, 1) := by decide +kernel
theorem dX1_joined_210 : decode cX1_joined 210 = .ok (.ior, 1) := by decide +kernel
theorem dX1_joined_211 : decode cX1_joined 211 = .ok (.ireturn, 1) := by decide +kernel
theorem dX1_push_0 : decode cX1_push 0 = .ok (.aload_n 0, 1) := by decide +kernel
theorem dX1_push_1 : decode cX1_push 1 = .ok (.getfield 33, 3) := by decide +kernel
theorem dX1_push_4 : decode cX1_push 4 = .ok (.ifCond .lt 35, 3) := by decide +kernel
theorem dX1_push_7 : decode cX1_push 7 = .ok (.aload_n 0, 1) := by decide +kernel
theorem dX1_push_8 : decode cX1_push 8 = .ok (.getfield 33, 3) := by decide +kernel
theorem dX1_push_11 : decode cX1_push 11 = .ok (.aload_n 0, 1) := by decide +kernel
theorem dX1_push_12 : decode cX1_push 12 = .ok (.getfield 15, 3) := by decide +kernel
theorem dX1_push_15 : decode cX1_push 15 = .ok (.arraylength, 1) := by decide +kernel
theorem dX1_push_16 : decode cX1_push 16 = .ok (.if_icmp .ge 23, 3) := by decide +kernel
theorem dX1_push_19 : decode cX1_push 19 = .ok (.aload_n 0, 1) := by decide +kernel
theorem dX1_push_20 : decode cX1_push 20 = .ok (.getfield 15, 3) := by decide +kernel
theorem dX1_push_23 : decode cX1_push 23 = .ok (.aload_n 0, 1) := by decide +kernel
theorem dX1_push_24 : decode cX1_push 24 = .ok (.getfield 33, 3) := by decide +kernel
theorem dX1_push_27 : decode cX1_push 27 = .ok (.iload_n 1, 1) := by decide +kernel
theorem dX1_push_28 : decode cX1_push 28 = .ok (.iastore, 1) := by decide +kernel
theorem dX1_push_29 : decode cX1_push 29 = .ok (.aload_n 0, 1) := by decide +kernel
theorem dX1_push_30 : decode cX1_push 30 = .ok (.dup, 1) := by decide +kernel
theorem dX1_push_31 : decode cX1_push 31 = .ok (.getfield 33, 3) := by decide +kernel
theorem dX1_push_34 : decode cX1_push 34 = .ok (.iconst 1, 1) := by decide +kernel
theorem dX1_push_35 : decode cX1_push 35 = .ok (.iadd, 1) := by decide +kernel
theorem dX1_push_36 : decode cX1_push 36 = .ok (.putfield 33, 3) := by decide +kernel
theorem dX1_push_39 : decode cX1_push 39 = .ok (.return_, 1) := by decide +kernel
theorem dX1_pop_0 : decode cX1_pop 0 = .ok (.aload_n 0, 1) := by decide +kernel
theorem dX1_pop_1 : decode cX1_pop 1 = .ok (.getfield 33, 3) := by decide +kernel
theorem dX1_pop_4 : decode cX1_pop 4 = .ok (.ifCond .le 15, 3) := by decide +kernel
theorem dX1_pop_7 : decode cX1_pop 7 = .ok (.aload_n 0, 1) := by decide +kernel
theorem dX1_pop_8 : decode cX1_pop 8 = .ok (.getfield 33, 3) := by decide +kernel
theorem dX1_pop_11 : decode cX1_pop 11 = .ok (.aload_n 0, 1) := by decide +kernel
theorem dX1_pop_12 : decode cX1_pop 12 = .ok (.getfield 15, 3) := by decide +kernel
theorem dX1_pop_15 : decode cX1_pop 15 = .ok (.arraylength, 1) := by decide +kernel
theorem dX1_pop_16 : decode cX1_pop 16 = .ok (.if_icmp .le 5, 3) := by decide +kernel
theorem dX1_pop_19 : decode cX1_pop 19 = .ok (.iconst 0, 1) := by decide +kernel
theorem dX1_pop_20 : decode cX1_pop 20 = .ok (.ireturn, 1) := by decide +kernel
theorem dX1_pop_21 : decode cX1_pop 21 = .ok (.aload_n 0, 1) := by decide +kernel
theorem dX1_pop_22 : decode cX1_pop 22 = .ok (.dup, 1) := by decide +kernel
theorem dX1_pop_23 : decode cX1_pop 23 = .ok (.getfield 33, 3) := by decide +kernel
theorem dX1_pop_26 : decode cX1_pop 26 = .ok (.iconst 1, 1) := by decide +kernel
theorem dX1_pop_27 : decode cX1_pop 27 = .ok (.isub, 1) := by decide +kernel
theorem dX1_pop_28 : decode cX1_pop 28 = .ok (.putfield 33, 3) := by decide +kernel
theorem dX1_pop_31 : decode cX1_pop 31 = .ok (.aload_n 0, 1) := by decide +kernel
theorem dX1_pop_32 : decode cX1_pop 32 = .ok (.getfield 15, 3) := by decide +kernel
theorem dX1_pop_35 : decode cX1_pop 35 = .ok (.aload_n 0, 1) := by decide +kernel
theorem dX1_pop_36 : decode cX1_pop 36 = .ok (.getfield 33, 3) := by decide +kernel
theorem dX1_pop_39 : decode cX1_pop 39 = .ok (.iaload, 1) := by decide +kernel
theorem dX1_pop_40 : decode cX1_pop 40 = .ok (.ireturn, 1) := by decide +kernel
theorem dX2_init_0 : decode cX2_init 0 = .ok (.aload_n 0, 1) := by decide +kernel
theorem dX2_init_1 : decode cX2_init 1 = .ok (.aload_n 1, 1) := by decide +kernel
theorem dX2_init_2 : decode cX2_init 2 = .ok (.invokespecial 3, 3) := by decide +kernel
theorem dX2_init_5 : decode cX2_init 5 = .ok (.aload_n 0, 1) := by decide +kernel
theorem dX2_init_6 : decode cX2_init 6 = .ok (.sipush 160, 3) := by decide +kernel
theorem dX2_init_9 : decode cX2_init 9 = .ok (.newarray .int, 2) := by decide +kernel
theorem dX2_init_11 : decode cX2_init 11 = .ok (.putfield 11, 3) := by decide +kernel
theorem dX2_init_14 : decode cX2_init 14 = .ok (.return_, 1) := by decide +kernel
theorem dX2_clear_0 : decode cX2_clear 0 = .ok (.aload_n 0, 1) := by decide +kernel
theorem dX2_clear_1 : decode cX2_clear 1 = .ok (.iconst 0, 1) := by decide +kernel
theorem dX2_clear_2 : decode cX2_clear 2 = .ok (.putfield 17, 3) := by decide +kernel
theorem dX2_clear_5 : decode cX2_clear 5 = .ok (.return_, 1) := by decide +kernel
theorem dX2_isWhole_0 : decode cX2_isWhole 0 = .ok (.iconst 1, 1) := by decide +kernel
theorem dX2_isWhole_1 : decode cX2_isWhole 1 = .ok (.ireturn, 1) := by decide +kernel
theorem dX2_toLaw_0 : decode cX2_toLaw 0 = .ok (.new 21, 3) := by decide +kernel
theorem dX2_toLaw_3 : decode cX2_toLaw 3 = .ok (.dup, 1) := by decide +kernel
theorem dX2_toLaw_4 : decode cX2_toLaw 4 = .ok (.aload_n 0, 1) := by decide +kernel
theorem dX2_toLaw_5 : decode cX2_toLaw 5 = .ok (.getfield 11, 3) := by decide +kernel
theorem dX2_toLaw_8 : decode cX2_toLaw 8 = .ok (.aload_n 0, 1) := by decide +kernel
theorem dX2_toLaw_9 : decode cX2_toLaw 9 = .ok (.getfield 17, 3) := by decide +kernel
theorem dX2_toLaw_12 : decode cX2_toLaw 12 = .ok (.invokestatic 23, 3) := by decide +kernel
theorem dX2_toLaw_15 : decode cX2_toLaw 15 = .ok (.invokespecial 29, 3) := by decide +kernel
theorem dX2_toLaw_18 : decode cX2_toLaw 18 = .ok (.areturn, 1) := by decide +kernel
theorem dX2_emit_0 : decode cX2_emit 0 = .ok (.aload_n 0, 1) := by decide +kernel
theorem dX2_emit_1 : decode cX2_emit 1 = .ok (.getfield 17, 3) := by decide +kernel
theorem dX2_emit_4 : decode cX2_emit 4 = .ok (.sipush 160, 3) := by decide +kernel
theorem dX2_emit_7 : decode cX2_emit 7 = .ok (.if_icmp .ge 23, 3) := by decide +kernel
theorem dX2_emit_10 : decode cX2_emit 10 = .ok (.aload_n 0, 1) := by decide +kernel
theorem dX2_emit_11 : decode cX2_emit 11 = .ok (.getfield 11, 3) := by decide +kernel
theorem dX2_emit_14 : decode cX2_emit 14 = .ok (.aload_n 0, 1) := by decide +kernel
theorem dX2_emit_15 : decode cX2_emit 15 = .ok (.getfield 17, 3) := by decide +kernel
theorem dX2_emit_18 : decode cX2_emit 18 = .ok (.iload_n 1, 1) := by decide +kernel
theorem dX2_emit_19 : decode cX2_emit 19 = .ok (.iastore, 1) := by decide +kernel
theorem dX2_emit_20 : decode cX2_emit 20 = .ok (.aload_n 0, 1) := by decide +kernel
theorem dX2_emit_21 : decode cX2_emit 21 = .ok (.dup, 1) := by decide +kernel
theorem dX2_emit_22 : decode cX2_emit 22 = .ok (.getfield 17, 3) := by decide +kernel
theorem dX2_emit_25 : decode cX2_emit 25 = .ok (.iconst 1, 1) := by decide +kernel
theorem dX2_emit_26 : decode cX2_emit 26 = .ok (.iadd, 1) := by decide +kernel
theorem dX2_emit_27 : decode cX2_emit 27 = .ok (.putfield 17, 3) := by decide +kernel
theorem dX2_emit_30 : decode cX2_emit 30 = .ok (.iconst 1, 1) := by decide +kernel
theorem dX2_emit_31 : decode cX2_emit 31 = .ok (.ireturn, 1) := by decide +kernel
theorem dX2_readClause_0 : decode cX2_readClause 0 = .ok (.aload_n 0, 1) := by decide +kernel
theorem dX2_readClause_1 : decode cX2_readClause 1 = .ok (.bipush 121, 2) := by decide +kernel
theorem dX2_readClause_3 : decode cX2_readClause 3 = .ok (.invokevirtual 32, 3) := by decide +kernel
theorem dX2_readClause_6 : decode cX2_readClause 6 = .ok (.ifCond .eq 12, 3) := by decide +kernel
theorem dX2_readClause_9 : decode cX2_readClause 9 = .ok (.aload_n 0, 1) := by decide +kernel
theorem dX2_readClause_10 : decode cX2_readClause 10 = .ok (.bipush 58, 2) := by decide +kernel
theorem dX2_readClause_12 : decode cX2_readClause 12 = .ok (.invokevirtual 32, 3) := by decide +kernel
theorem dX2_readClause_15 : decode cX2_readClause 15 = .ok (.ifCond .ne 8, 3) := by decide +kernel
theorem dX2_readClause_18 : decode cX2_readClause 18 = .ok (.aload_n 0, 1) := by decide +kernel
theorem dX2_readClause_19 : decode cX2_readClause 19 = .ok (.invokevirtual 36, 3) := by decide +kernel
theorem dX2_readClause_22 : decode cX2_readClause 22 = .ok (.ireturn, 1) := by decide +kernel
theorem dX2_readClause_23 : decode cX2_readClause 23 = .ok (.aload_n 0, 1) := by decide +kernel
theorem dX2_readClause_24 : decode cX2_readClause 24 = .ok (.invokevirtual 40, 3) := by decide +kernel
theorem dX2_readClause_27 : decode cX2_readClause 27 = .ok (.istore_n 1, 1) := by decide +kernel
theorem dX2_readClause_28 : decode cX2_readClause 28 = .ok (.iload_n 1, 1) := by decide +kernel
theorem dX2_readClause_29 : decode cX2_readClause 29 = .ok (.bipush 33, 2) := by decide +kernel
theorem dX2_readClause_31 : decode cX2_readClause 31 = .ok (.if_icmp .eq 9, 3) := by decide +kernel
theorem dX2_readClause_34 : decode cX2_readClause 34 = .ok (.iload_n 1, 1) := by decide +kernel
theorem dX2_readClause_35 : decode cX2_readClause 35 = .ok (.bipush 40, 2) := by decide +kernel
theorem dX2_readClause_37 : decode cX2_readClause 37 = .ok (.if_icmp .ne 24, 3) := by decide +kernel
theorem dX2_readClause_40 : decode cX2_readClause 40 = .ok (.aload_n 0, 1) := by decide +kernel
theorem dX2_readClause_41 : decode cX2_readClause 41 = .ok (.iconst 0, 1) := by decide +kernel
theorem dX2_readClause_42 : decode cX2_readClause 42 = .ok (.invokevirtual 44, 3) := by decide +kernel
theorem dX2_readClause_45 : decode cX2_readClause 45 = .ok (.ifCond .eq 14, 3) := by decide +kernel
theorem dX2_readClause_48 : decode cX2_readClause 48 = .ok (.aload_n 0, 1) := by decide +kernel
theorem dX2_readClause_49 : decode cX2_readClause 49 = .ok (.invokevirtual 47, 3) := by decide +kernel
theorem dX2_readClause_52 : decode cX2_readClause 52 = .ok (.ifCond .eq 7, 3) := by decide +kernel
theorem dX2_readClause_55 : decode cX2_readClause 55 = .ok (.iconst 1, 1) := by decide +kernel
theorem dX2_readClause_56 : decode cX2_readClause 56 = .ok (.goto 4, 3) := by decide +kernel
theorem dX2_readClause_59 : decode cX2_readClause 59 = .ok (.iconst 0, 1) := by decide +kernel
theorem dX2_readClause_60 : decode cX2_readClause 60 = .ok (.ireturn, 1) := by decide +kernel
theorem dX2_readClause_61 : decode cX2_readClause 61 = .ok (.aload_n 0, 1) := by decide +kernel
theorem dX2_readClause_62 : decode cX2_readClause 62 = .ok (.iconst 0, 1) := by decide +kernel
theorem dX2_readClause_63 : decode cX2_readClause 63 = .ok (.invokevirtual 50, 3) := by decide +kernel
theorem dX2_readClause_66 : decode cX2_readClause 66 = .ok (.ifCond .ne 5, 3) := by decide +kernel
theorem dX2_readClause_69 : decode cX2_readClause 69 = .ok (.iconst 0, 1) := by decide +kernel
theorem dX2_readClause_70 : decode cX2_readClause 70 = .ok (.ireturn, 1) := by decide +kernel
theorem dX2_readClause_71 : decode cX2_readClause 71 = .ok (.aload_n 0, 1) := by decide +kernel
theorem dX2_readClause_72 : decode cX2_readClause 72 = .ok (.invokevirtual 40, 3) := by decide +kernel
theorem dX2_readClause_75 : decode cX2_readClause 75 = .ok (.invokestatic 53, 3) := by decide +kernel
theorem dX2_readClause_78 : decode cX2_readClause 78 = .ok (.ifCond .ne 10, 3) := by decide +kernel
theorem dX2_readClause_81 : decode cX2_readClause 81 = .ok (.aload_n 0, 1) := by decide +kernel
theorem dX2_readClause_82 : decode cX2_readClause 82 = .ok (.bipush (-59), 2) := by decide +kernel
theorem dX2_readClause_84 : decode cX2_readClause 84 = .ok (.invokevirtual 56, 3) := by decide +kernel
theorem dX2_readClause_87 : decode cX2_readClause 87 = .ok (.ireturn, 1) := by decide +kernel
theorem dX2_readClause_88 : decode cX2_readClause 88 = .ok (.aload_n 0, 1) := by decide +kernel
theorem dX2_readClause_89 : decode cX2_readClause 89 = .ok (.iconst 0, 1) := by decide +kernel
theorem dX2_readClause_90 : decode cX2_readClause 90 = .ok (.invokevirtual 59, 3) := by decide +kernel
theorem dX2_readClause_93 : decode cX2_readClause 93 = .ok (.ifCond .eq 22, 3) := by decide +kernel
theorem dX2_readClause_96 : decode cX2_readClause 96 = .ok (.aload_n 0, 1) := by decide +kernel
theorem dX2_readClause_97 : decode cX2_readClause 97 = .ok (.iconst 0, 1) := by decide +kernel
theorem dX2_readClause_98 : decode cX2_readClause 98 = .ok (.invokevirtual 62, 3) := by decide +kernel
theorem dX2_readClause_101 : decode cX2_readClause 101 = .ok (.ifCond .eq 14, 3) := by decide +kernel
theorem dX2_readClause_104 : decode cX2_readClause 104 = .ok (.aload_n 0, 1) := by decide +kernel
theorem dX2_readClause_105 : decode cX2_readClause 105 = .ok (.invokevirtual 47, 3) := by decide +kernel
theorem dX2_readClause_108 : decode cX2_readClause 108 = .ok (.ifCond .eq 7, 3) := by decide +kernel
theorem dX2_readClause_111 : decode cX2_readClause 111 = .ok (.iconst 1, 1) := by decide +kernel
theorem dX2_readClause_112 : decode cX2_readClause 112 = .ok (.goto 4, 3) := by decide +kernel
theorem dX2_readClause_115 : decode cX2_readClause 115 = .ok (.iconst 0, 1) := by decide +kernel
theorem dX2_readClause_116 : decode cX2_readClause 116 = .ok (.ireturn, 1) := by decide +kernel
theorem dX2_sumBehindCondition_0 : decode cX2_sumBehindCondition 0 = .ok (.aload_n 0, 1) := by decide +kernel
theorem dX2_sumBehindCondition_1 : decode cX2_sumBehindCondition 1 = .ok (.bipush 63, 2) := by decide +kernel
theorem dX2_sumBehindCondition_3 : decode cX2_sumBehindCondition 3 = .ok (.invokevirtual 32, 3) := by decide +kernel
theorem dX2_sumBehindCondition_6 : decode cX2_sumBehindCondition 6 = .ok (.ifCond .ne 8, 3) := by decide +kernel
theorem dX2_sumBehindCondition_9 : decode cX2_sumBehindCondition 9 = .ok (.aload_n 0, 1) := by decide +kernel
theorem dX2_sumBehindCondition_10 : decode cX2_sumBehindCondition 10 = .ok (.invokevirtual 36, 3) := by decide +kernel
theorem dX2_sumBehindCondition_13 : decode cX2_sumBehindCondition 13 = .ok (.ireturn, 1) := by decide +kernel
theorem dX2_sumBehindCondition_14 : decode cX2_sumBehindCondition 14 = .ok (.aload_n 0, 1) := by decide +kernel
theorem dX2_sumBehindCondition_15 : decode cX2_sumBehindCondition 15 = .ok (.bipush (-63), 2) := by decide +kernel
theorem dX2_sumBehindCondition_17 : decode cX2_sumBehindCondition 17 = .ok (.invokevirtual 56, 3) := by decide +kernel
theorem dX2_sumBehindCondition_20 : decode cX2_sumBehindCondition 20 = .ok (.ifCond .eq 24, 3) := by decide +kernel
theorem dX2_sumBehindCondition_23 : decode cX2_sumBehindCondition 23 = .ok (.aload_n 0, 1) := by decide +kernel
theorem dX2_sumBehindCondition_24 : decode cX2_sumBehindCondition 24 = .ok (.iconst 0, 1) := by decide +kernel
theorem dX2_sumBehindCondition_25 : decode cX2_sumBehindCondition 25 = .ok (.invokevirtual 50, 3) := by decide +kernel
theorem dX2_sumBehindCondition_28 : decode cX2_sumBehindCondition 28 = .ok (.ifCond .eq 16, 3) := by decide +kernel
theorem dX2_sumBehindCondition_31 : decode cX2_sumBehindCondition 31 = .ok (.aload_n 0, 1) := by decide +kernel
theorem dX2_sumBehindCondition_32 : decode cX2_sumBehindCondition 32 = .ok (.bipush (-59), 2) := by decide +kernel
theorem dX2_sumBehindCondition_34 : decode cX2_sumBehindCondition 34 = .ok (.invokevirtual 56, 3) := by decide +kernel
theorem dX2_sumBehindCondition_37 : decode cX2_sumBehindCondition 37 = .ok (.ifCond .eq 7, 3) := by decide +kernel
theorem dX2_sumBehindCondition_40 : decode cX2_sumBehindCondition 40 = .ok (.iconst 1, 1) := by decide +kernel
theorem dX2_sumBehindCondition_41 : decode cX2_sumBehindCondition 41 = .ok (.goto 4, 3) := by decide +kernel
theorem dX2_sumBehindCondition_44 : decode cX2_sumBehindCondition 44 = .ok (.iconst 0, 1) := by decide +kernel
theorem dX2_sumBehindCondition_45 : decode cX2_sumBehindCondition 45 = .ok (.ireturn, 1) := by decide +kernel
theorem dX2_condition_0 : decode cX2_condition 0 = .ok (.aload_n 0, 1) := by decide +kernel
theorem dX2_condition_1 : decode cX2_condition 1 = .ok (.iload_n 1, 1) := by decide +kernel
theorem dX2_condition_2 : decode cX2_condition 2 = .ok (.invokevirtual 65, 3) := by decide +kernel
theorem dX2_condition_5 : decode cX2_condition 5 = .ok (.ifCond .eq 15, 3) := by decide +kernel
theorem dX2_condition_8 : decode cX2_condition 8 = .ok (.aload_n 0, 1) := by decide +kernel
theorem dX2_condition_9 : decode cX2_condition 9 = .ok (.iload_n 1, 1) := by decide +kernel
theorem dX2_condition_10 : decode cX2_condition 10 = .ok (.invokevirtual 62, 3) := by decide +kernel
theorem dX2_condition_13 : decode cX2_condition 13 = .ok (.ifCond .eq 7, 3) := by decide +kernel
theorem dX2_condition_16 : decode cX2_condition 16 = .ok (.iconst 1, 1) := by decide +kernel
theorem dX2_condition_17 : decode cX2_condition 17 = .ok (.goto 4, 3) := by decide +kernel
theorem dX2_condition_20 : decode cX2_condition 20 = .ok (.iconst 0, 1) := by decide +kernel
theorem dX2_condition_21 : decode cX2_condition 21 = .ok (.ireturn, 1) := by decide +kernel
theorem dX2_moreUnits_0 : decode cX2_moreUnits 0 = .ok (.iconst 0, 1) := by decide +kernel
theorem dX2_moreUnits_1 : decode cX2_moreUnits 1 = .ok (.istore_n 2, 1) := by decide +kernel
theorem dX2_moreUnits_2 : decode cX2_moreUnits 2 = .ok (.iconst 0, 1) := by decide +kernel
theorem dX2_moreUnits_3 : decode cX2_moreUnits 3 = .ok (.istore_n 3, 1) := by decide +kernel
theorem dX2_moreUnits_4 : decode cX2_moreUnits 4 = .ok (.iload_n 3, 1) := by decide +kernel
theorem dX2_moreUnits_5 : decode cX2_moreUnits 5 = .ok (.sipush 160, 3) := by decide +kernel
theorem dX2_moreUnits_8 : decode cX2_moreUnits 8 = .ok (.if_icmp .gt 125, 3) := by decide +kernel
theorem dX2_moreUnits_11 : decode cX2_moreUnits 11 = .ok (.aload_n 0, 1) := by decide +kernel
theorem dX2_moreUnits_12 : decode cX2_moreUnits 12 = .ok (.invokevirtual 40, 3) := by decide +kernel
theorem dX2_moreUnits_15 : decode cX2_moreUnits 15 = .ok (.istore 4, 2) := by decide +kernel
theorem dX2_moreUnits_17 : decode cX2_moreUnits 17 = .ok (.iload 4, 2) := by decide +kernel
theorem dX2_moreUnits_19 : decode cX2_moreUnits 19 = .ok (.bipush 124, 2) := by decide +kernel
theorem dX2_moreUnits_21 : decode cX2_moreUnits 21 = .ok (.if_icmp .eq 29, 3) := by decide +kernel
theorem dX2_moreUnits_24 : decode cX2_moreUnits 24 = .ok (.iload 4, 2) := by decide +kernel
theorem dX2_moreUnits_26 : decode cX2_moreUnits 26 = .ok (.bipush 38, 2) := by decide +kernel
theorem dX2_moreUnits_28 : decode cX2_moreUnits 28 = .ok (.if_icmp .eq 22, 3) := by decide +kernel
theorem dX2_moreUnits_31 : decode cX2_moreUnits 31 = .ok (.iload_n 2, 1) := by decide +kernel
theorem dX2_moreUnits_32 : decode cX2_moreUnits 32 = .ok (.ifCond .eq 12, 3) := by decide +kernel
theorem dX2_moreUnits_35 : decode cX2_moreUnits 35 = .ok (.aload_n 0, 1) := by decide +kernel
theorem dX2_moreUnits_36 : decode cX2_moreUnits 36 = .ok (.bipush (-124), 2) := by decide +kernel
theorem dX2_moreUnits_38 : decode cX2_moreUnits 38 = .ok (.invokevirtual 56, 3) := by decide +kernel
theorem dX2_moreUnits_41 : decode cX2_moreUnits 41 = .ok (.ifCond .eq 7, 3) := by decide +kernel
theorem dX2_moreUnits_44 : decode cX2_moreUnits 44 = .ok (.iconst 1, 1) := by decide +kernel
theorem dX2_moreUnits_45 : decode cX2_moreUnits 45 = .ok (.goto 4, 3) := by decide +kernel
theorem dX2_moreUnits_48 : decode cX2_moreUnits 48 = .ok (.iconst 0, 1) := by decide +kernel
theorem dX2_moreUnits_49 : decode cX2_moreUnits 49 = .ok (.ireturn, 1) := by decide +kernel
theorem dX2_moreUnits_50 : decode cX2_moreUnits 50 = .ok (.iload 4, 2) := by decide +kernel
theorem dX2_moreUnits_52 : decode cX2_moreUnits 52 = .ok (.bipush 124, 2) := by decide +kernel
theorem dX2_moreUnits_54 : decode cX2_moreUnits 54 = .ok (.if_icmp .ne 7, 3) := by decide +kernel
theorem dX2_moreUnits_57 : decode cX2_moreUnits 57 = .ok (.iconst 1, 1) := by decide +kernel
theorem dX2_moreUnits_58 : decode cX2_moreUnits 58 = .ok (.goto 4, 3) := by decide +kernel
theorem dX2_moreUnits_61 : decode cX2_moreUnits 61 = .ok (.iconst 0, 1) := by decide +kernel
theorem dX2_moreUnits_62 : decode cX2_moreUnits 62 = .ok (.istore 5, 2) := by decide +kernel
theorem dX2_moreUnits_64 : decode cX2_moreUnits 64 = .ok (.iload 5, 2) := by decide +kernel
theorem dX2_moreUnits_66 : decode cX2_moreUnits 66 = .ok (.ifCond .eq 14, 3) := by decide +kernel
theorem dX2_moreUnits_69 : decode cX2_moreUnits 69 = .ok (.iload_n 2, 1) := by decide +kernel
theorem dX2_moreUnits_70 : decode cX2_moreUnits 70 = .ok (.ifCond .eq 10, 3) := by decide +kernel
theorem dX2_moreUnits_73 : decode cX2_moreUnits 73 = .ok (.aload_n 0, 1) := by decide +kernel
theorem dX2_moreUnits_74 : decode cX2_moreUnits 74 = .ok (.bipush (-124), 2) := by decide +kernel
theorem dX2_moreUnits_76 : decode cX2_moreUnits 76 = .ok (.invokevirtual 56, 3) := by decide +kernel
theorem dX2_moreUnits_79 : decode cX2_moreUnits 79 = .ok (.pop, 1) := by decide +kernel
theorem dX2_moreUnits_80 : decode cX2_moreUnits 80 = .ok (.iload 5, 2) := by decide +kernel
theorem dX2_moreUnits_82 : decode cX2_moreUnits 82 = .ok (.ifCond .ne 7, 3) := by decide +kernel
theorem dX2_moreUnits_85 : decode cX2_moreUnits 85 = .ok (.iload_n 2, 1) := by decide +kernel
theorem dX2_moreUnits_86 : decode cX2_moreUnits 86 = .ok (.ifCond .eq 7, 3) := by decide +kernel
theorem dX2_moreUnits_89 : decode cX2_moreUnits 89 = .ok (.iconst 1, 1) := by decide +kernel
theorem dX2_moreUnits_90 : decode cX2_moreUnits 90 = .ok (.goto 4, 3) := by decide +kernel
theorem dX2_moreUnits_93 : decode cX2_moreUnits 93 = .ok (.iconst 0, 1) := by decide +kernel
theorem dX2_moreUnits_94 : decode cX2_moreUnits 94 = .ok (.istore_n 2, 1) := by decide +kernel
theorem dX2_moreUnits_95 : decode cX2_moreUnits 95 = .ok (.aload_n 0, 1) := by decide +kernel
theorem dX2_moreUnits_96 : decode cX2_moreUnits 96 = .ok (.dup, 1) := by decide +kernel
theorem dX2_moreUnits_97 : decode cX2_moreUnits 97 = .ok (.getfield 68, 3) := by decide +kernel
theorem dX2_moreUnits_100 : decode cX2_moreUnits 100 = .ok (.iconst 1, 1) := by decide +kernel
theorem dX2_moreUnits_101 : decode cX2_moreUnits 101 = .ok (.iadd, 1) := by decide +kernel
theorem dX2_moreUnits_102 : decode cX2_moreUnits 102 = .ok (.putfield 68, 3) := by decide +kernel
theorem dX2_moreUnits_105 : decode cX2_moreUnits 105 = .ok (.aload_n 0, 1) := by decide +kernel
theorem dX2_moreUnits_106 : decode cX2_moreUnits 106 = .ok (.iload_n 1, 1) := by decide +kernel
theorem dX2_moreUnits_107 : decode cX2_moreUnits 107 = .ok (.invokevirtual 65, 3) := by decide +kernel
theorem dX2_moreUnits_110 : decode cX2_moreUnits 110 = .ok (.ifCond .ne 5, 3) := by decide +kernel
theorem dX2_moreUnits_113 : decode cX2_moreUnits 113 = .ok (.iconst 0, 1) := by decide +kernel
theorem dX2_moreUnits_114 : decode cX2_moreUnits 114 = .ok (.ireturn, 1) := by decide +kernel
theorem dX2_moreUnits_115 : decode cX2_moreUnits 115 = .ok (.iload 5, 2) := by decide +kernel
theorem dX2_moreUnits_117 : decode cX2_moreUnits 117 = .ok (.ifCond .ne 10, 3) := by decide +kernel
theorem dX2_moreUnits_120 : decode cX2_moreUnits 120 = .ok (.aload_n 0, 1) := by decide +kernel
theorem dX2_moreUnits_121 : decode cX2_moreUnits 121 = .ok (.bipush (-38), 2) := by decide +kernel
theorem dX2_moreUnits_123 : decode cX2_moreUnits 123 = .ok (.invokevirtual 56, 3) := by decide +kernel
theorem dX2_moreUnits_126 : decode cX2_moreUnits 126 = .ok (.pop, 1) := by decide +kernel
theorem dX2_moreUnits_127 : decode cX2_moreUnits 127 = .ok (.iinc 3 1, 3) := by decide +kernel
theorem dX2_moreUnits_130 : decode cX2_moreUnits 130 = .ok (.goto (-126), 3) := by decide +kernel
theorem dX2_moreUnits_133 : decode cX2_moreUnits 133 = .ok (.aload_n 0, 1) := by decide +kernel
theorem dX2_moreUnits_134 : decode cX2_moreUnits 134 = .ok (.invokevirtual 36, 3) := by decide +kernel
theorem dX2_moreUnits_137 : decode cX2_moreUnits 137 = .ok (.ireturn, 1) := by decide +kernel
theorem dX2_unit_0 : decode cX2_unit 0 = .ok (.aload_n 0, 1) := by decide +kernel
theorem dX2_unit_1 : decode cX2_unit 1 = .ok (.invokevirtual 40, 3) := by decide +kernel
theorem dX2_unit_4 : decode cX2_unit 4 = .ok (.istore_n 2, 1) := by decide +kernel
theorem dX2_unit_5 : decode cX2_unit 5 = .ok (.iload_n 2, 1) := by decide +kernel
theorem dX2_unit_6 : decode cX2_unit 6 = .ok (.bipush 33, 2) := by decide +kernel
theorem dX2_unit_8 : decode cX2_unit 8 = .ok (.if_icmp .eq 31, 3) := by decide +kernel
theorem dX2_unit_11 : decode cX2_unit 11 = .ok (.iload_n 2, 1) := by decide +kernel
theorem dX2_unit_12 : decode cX2_unit 12 = .ok (.bipush 40, 2) := by decide +kernel
theorem dX2_unit_14 : decode cX2_unit 14 = .ok (.if_icmp .eq 25, 3) := by decide +kernel
theorem dX2_unit_17 : decode cX2_unit 17 = .ok (.aload_n 0, 1) := by decide +kernel
theorem dX2_unit_18 : decode cX2_unit 18 = .ok (.iload_n 1, 1) := by decide +kernel
theorem dX2_unit_19 : decode cX2_unit 19 = .ok (.invokevirtual 50, 3) := by decide +kernel
theorem dX2_unit_22 : decode cX2_unit 22 = .ok (.ifCond .eq 15, 3) := by decide +kernel
theorem dX2_unit_25 : decode cX2_unit 25 = .ok (.aload_n 0, 1) := by decide +kernel
theorem dX2_unit_26 : decode cX2_unit 26 = .ok (.iload_n 1, 1) := by decide +kernel
theorem dX2_unit_27 : decode cX2_unit 27 = .ok (.invokevirtual 59, 3) := by decide +kernel
theorem dX2_unit_30 : decode cX2_unit 30 = .ok (.ifCond .eq 7, 3) := by decide +kernel
theorem dX2_unit_33 : decode cX2_unit 33 = .ok (.iconst 1, 1) := by decide +kernel
theorem dX2_unit_34 : decode cX2_unit 34 = .ok (.goto 4, 3) := by decide +kernel
theorem dX2_unit_37 : decode cX2_unit 37 = .ok (.iconst 0, 1) := by decide +kernel
theorem dX2_unit_38 : decode cX2_unit 38 = .ok (.ireturn, 1) := by decide +kernel
theorem dX2_unit_39 : decode cX2_unit 39 = .ok (.iload_n 1, 1) := by decide +kernel
theorem dX2_unit_40 : decode cX2_unit 40 = .ok (.bipush 6, 2) := by decide +kernel
theorem dX2_unit_42 : decode cX2_unit 42 = .ok (.if_icmp .lt 8, 3) := by decide +kernel
theorem dX2_unit_45 : decode cX2_unit 45 = .ok (.aload_n 0, 1) := by decide +kernel
theorem dX2_unit_46 : decode cX2_unit 46 = .ok (.invokevirtual 36, 3) := by decide +kernel
theorem dX2_unit_49 : decode cX2_unit 49 = .ok (.ireturn, 1) := by decide +kernel
theorem dX2_unit_50 : decode cX2_unit 50 = .ok (.aload_n 0, 1) := by decide +kernel
theorem dX2_unit_51 : decode cX2_unit 51 = .ok (.dup, 1) := by decide +kernel
theorem dX2_unit_52 : decode cX2_unit 52 = .ok (.getfield 68, 3) := by decide +kernel
theorem dX2_unit_55 : decode cX2_unit 55 = .ok (.iconst 1, 1) := by decide +kernel
theorem dX2_unit_56 : decode cX2_unit 56 = .ok (.iadd, 1) := by decide +kernel
theorem dX2_unit_57 : decode cX2_unit 57 = .ok (.putfield 68, 3) := by decide +kernel
theorem dX2_unit_60 : decode cX2_unit 60 = .ok (.iload_n 2, 1) := by decide +kernel
theorem dX2_unit_61 : decode cX2_unit 61 = .ok (.bipush 33, 2) := by decide +kernel
theorem dX2_unit_63 : decode cX2_unit 63 = .ok (.if_icmp .ne 11, 3) := by decide +kernel
theorem dX2_unit_66 : decode cX2_unit 66 = .ok (.aload_n 0, 1) := by decide +kernel
theorem dX2_unit_67 : decode cX2_unit 67 = .ok (.iload_n 1, 1) := by decide +kernel
theorem dX2_unit_68 : decode cX2_unit 68 = .ok (.iconst 1, 1) := by decide +kernel
theorem dX2_unit_69 : decode cX2_unit 69 = .ok (.iadd, 1) := by decide +kernel
theorem dX2_unit_70 : decode cX2_unit 70 = .ok (.invokevirtual 71, 3) := by decide +kernel
theorem dX2_unit_73 : decode cX2_unit 73 = .ok (.ireturn, 1) := by decide +kernel
theorem dX2_unit_74 : decode cX2_unit 74 = .ok (.aload_n 0, 1) := by decide +kernel
theorem dX2_unit_75 : decode cX2_unit 75 = .ok (.iload_n 1, 1) := by decide +kernel
theorem dX2_unit_76 : decode cX2_unit 76 = .ok (.iconst 1, 1) := by decide +kernel
theorem dX2_unit_77 : decode cX2_unit 77 = .ok (.iadd, 1) := by decide +kernel
theorem dX2_unit_78 : decode cX2_unit 78 = .ok (.invokevirtual 44, 3) := by decide +kernel
theorem dX2_unit_81 : decode cX2_unit 81 = .ok (.ifCond .eq 23, 3) := by decide +kernel
theorem dX2_unit_84 : decode cX2_unit 84 = .ok (.aload_n 0, 1) := by decide +kernel
theorem dX2_unit_85 : decode cX2_unit 85 = .ok (.bipush 41, 2) := by decide +kernel
theorem dX2_unit_87 : decode cX2_unit 87 = .ok (.invokevirtual 32, 3) := by decide +kernel
theorem dX2_unit_90 : decode cX2_unit 90 = .ok (.ifCond .ne 10, 3) := by decide +kernel
theorem dX2_unit_93 : decode cX2_unit 93 = .ok (.aload_n 0, 1) := by decide +kernel
theorem dX2_unit_94 : decode cX2_unit 94 = .ok (.invokevirtual 36, 3) := by decide +kernel
theorem dX2_unit_97 : decode cX2_unit 97 = .ok (.ifCond .eq 7, 3) := by decide +kernel
theorem dX2_unit_100 : decode cX2_unit 100 = .ok (.iconst 1, 1) := by decide +kernel
theorem dX2_unit_101 : decode cX2_unit 101 = .ok (.goto 4, 3) := by decide +kernel
theorem dX2_unit_104 : decode cX2_unit 104 = .ok (.iconst 0, 1) := by decide +kernel
theorem dX2_unit_105 : decode cX2_unit 105 = .ok (.ireturn, 1) := by decide +kernel
theorem dX2_negated_0 : decode cX2_negated 0 = .ok (.aload_n 0, 1) := by decide +kernel
theorem dX2_negated_1 : decode cX2_negated 1 = .ok (.iload_n 1, 1) := by decide +kernel
theorem dX2_negated_2 : decode cX2_negated 2 = .ok (.invokevirtual 65, 3) := by decide +kernel
theorem dX2_negated_5 : decode cX2_negated 5 = .ok (.ifCond .eq 16, 3) := by decide +kernel
theorem dX2_negated_8 : decode cX2_negated 8 = .ok (.aload_n 0, 1) := by decide +kernel
theorem dX2_negated_9 : decode cX2_negated 9 = .ok (.bipush (-33), 2) := by decide +kernel
theorem dX2_negated_11 : decode cX2_negated 11 = .ok (.invokevirtual 56, 3) := by decide +kernel
theorem dX2_negated_14 : decode cX2_negated 14 = .ok (.ifCond .eq 7, 3) := by decide +kernel
theorem dX2_negated_17 : decode cX2_negated 17 = .ok (.iconst 1, 1) := by decide +kernel
theorem dX2_negated_18 : decode cX2_negated 18 = .ok (.goto 4, 3) := by decide +kernel
theorem dX2_negated_21 : decode cX2_negated 21 = .ok (.iconst 0, 1) := by decide +kernel
theorem dX2_negated_22 : decode cX2_negated 22 = .ok (.ireturn, 1) := by decide +kernel
theorem dX2_comparison_0 : decode cX2_comparison 0 = .ok (.aload_n 0, 1) := by decide +kernel
theorem dX2_comparison_1 : decode cX2_comparison 1 = .ok (.invokevirtual 40, 3) := by decide +kernel
theorem dX2_comparison_4 : decode cX2_comparison 4 = .ok (.istore_n 2, 1) := by decide +kernel
theorem dX2_comparison_5 : decode cX2_comparison 5 = .ok (.iload_n 2, 1) := by decide +kernel
theorem dX2_comparison_6 : decode cX2_comparison 6 = .ok (.invokestatic 53, 3) := by decide +kernel
theorem dX2_comparison_9 : decode cX2_comparison 9 = .ok (.ifCond .ne 8, 3) := by decide +kernel
theorem dX2_comparison_12 : decode cX2_comparison 12 = .ok (.aload_n 0, 1) := by decide +kernel
theorem dX2_comparison_13 : decode cX2_comparison 13 = .ok (.invokevirtual 36, 3) := by decide +kernel
theorem dX2_comparison_16 : decode cX2_comparison 16 = .ok (.ireturn, 1) := by decide +kernel
theorem dX2_comparison_17 : decode cX2_comparison 17 = .ok (.aload_n 0, 1) := by decide +kernel
theorem dX2_comparison_18 : decode cX2_comparison 18 = .ok (.dup, 1) := by decide +kernel
theorem dX2_comparison_19 : decode cX2_comparison 19 = .ok (.getfield 68, 3) := by decide +kernel
theorem dX2_comparison_22 : decode cX2_comparison 22 = .ok (.iconst 1, 1) := by decide +kernel
theorem dX2_comparison_23 : decode cX2_comparison 23 = .ok (.iadd, 1) := by decide +kernel
theorem dX2_comparison_24 : decode cX2_comparison 24 = .ok (.putfield 68, 3) := by decide +kernel
theorem dX2_comparison_27 : decode cX2_comparison 27 = .ok (.aload_n 0, 1) := by decide +kernel
theorem dX2_comparison_28 : decode cX2_comparison 28 = .ok (.iload_n 1, 1) := by decide +kernel
theorem dX2_comparison_29 : decode cX2_comparison 29 = .ok (.invokevirtual 50, 3) := by decide +kernel
theorem dX2_comparison_32 : decode cX2_comparison 32 = .ok (.ifCond .eq 16, 3) := by decide +kernel
theorem dX2_comparison_35 : decode cX2_comparison 35 = .ok (.aload_n 0, 1) := by decide +kernel
theorem dX2_comparison_36 : decode cX2_comparison 36 = .ok (.iload_n 2, 1) := by decide +kernel
theorem dX2_comparison_37 : decode cX2_comparison 37 = .ok (.ineg, 1) := by decide +kernel
theorem dX2_comparison_38 : decode cX2_comparison 38 = .ok (.invokevirtual 56, 3) := by decide +kernel
theorem dX2_comparison_41 : decode cX2_comparison 41 = .ok (.ifCond .eq 7, 3) := by decide +kernel
theorem dX2_comparison_44 : decode cX2_comparison 44 = .ok (.iconst 1, 1) := by decide +kernel
theorem dX2_comparison_45 : decode cX2_comparison 45 = .ok (.goto 4, 3) := by decide +kernel
theorem dX2_comparison_48 : decode cX2_comparison 48 = .ok (.iconst 0, 1) := by decide +kernel
theorem dX2_comparison_49 : decode cX2_comparison 49 = .ok (.ireturn, 1) := by decide +kernel
theorem dX2_isComparison_0 : decode cX2_isComparison 0 = .ok (.iload_n 0, 1) := by decide +kernel
theorem dX2_isComparison_1 : decode cX2_isComparison 1 = .ok (.bipush 61, 2) := by decide +kernel
theorem dX2_isComparison_3 : decode cX2_isComparison 3 = .ok (.if_icmp .eq 15, 3) := by decide +kernel
theorem dX2_isComparison_6 : decode cX2_isComparison 6 = .ok (.iload_n 0, 1) := by decide +kernel
theorem dX2_isComparison_7 : decode cX2_isComparison 7 = .ok (.bipush 60, 2) := by decide +kernel
theorem dX2_isComparison_9 : decode cX2_isComparison 9 = .ok (.if_icmp .eq 9, 3) := by decide +kernel
theorem dX2_isComparison_12 : decode cX2_isComparison 12 = .ok (.iload_n 0, 1) := by decide +kernel
theorem dX2_isComparison_13 : decode cX2_isComparison 13 = .ok (.bipush 62, 2) := by decide +kernel
theorem dX2_isComparison_15 : decode cX2_isComparison 15 = .ok (.if_icmp .ne 7, 3) := by decide +kernel
theorem dX2_isComparison_18 : decode cX2_isComparison 18 = .ok (.iconst 1, 1) := by decide +kernel
theorem dX2_isComparison_19 : decode cX2_isComparison 19 = .ok (.goto 4, 3) := by decide +kernel
theorem dX2_isComparison_22 : decode cX2_isComparison 22 = .ok (.iconst 0, 1) := by decide +kernel
theorem dX2_isComparison_23 : decode cX2_isComparison 23 = .ok (.ireturn, 1) := by decide +kernel
theorem dX2_sum_0 : decode cX2_sum 0 = .ok (.iconst 0, 1) := by decide +kernel
theorem dX2_sum_1 : decode cX2_sum 1 = .ok (.istore_n 2, 1) := by decide +kernel
theorem dX2_sum_2 : decode cX2_sum 2 = .ok (.aload_n 0, 1) := by decide +kernel
theorem dX2_sum_3 : decode cX2_sum 3 = .ok (.iload_n 1, 1) := by decide +kernel
theorem dX2_sum_4 : decode cX2_sum 4 = .ok (.invokevirtual 74, 3) := by decide +kernel
theorem dX2_sum_7 : decode cX2_sum 7 = .ok (.ifCond .ne 5, 3) := by decide +kernel
theorem dX2_sum_10 : decode cX2_sum 10 = .ok (.iconst 0, 1) := by decide +kernel
theorem dX2_sum_11 : decode cX2_sum 11 = .ok (.ireturn, 1) := by decide +kernel
theorem dX2_sum_12 : decode cX2_sum 12 = .ok (.iconst 0, 1) := by decide +kernel
theorem dX2_sum_13 : decode cX2_sum 13 = .ok (.istore_n 3, 1) := by decide +kernel
theorem dX2_sum_14 : decode cX2_sum 14 = .ok (.iload_n 3, 1) := by decide +kernel
theorem dX2_sum_15 : decode cX2_sum 15 = .ok (.sipush 160, 3) := by decide +kernel
theorem dX2_sum_18 : decode cX2_sum 18 = .ok (.if_icmp .gt 135, 3) := by decide +kernel
theorem dX2_sum_21 : decode cX2_sum 21 = .ok (.aload_n 0, 1) := by decide +kernel
theorem dX2_sum_22 : decode cX2_sum 22 = .ok (.invokevirtual 40, 3) := by decide +kernel
theorem dX2_sum_25 : decode cX2_sum 25 = .ok (.istore 4, 2) := by decide +kernel
theorem dX2_sum_27 : decode cX2_sum 27 = .ok (.iload 4, 2) := by decide +kernel
theorem dX2_sum_29 : decode cX2_sum 29 = .ok (.bipush 43, 2) := by decide +kernel
theorem dX2_sum_31 : decode cX2_sum 31 = .ok (.if_icmp .eq 10, 3) := by decide +kernel
theorem dX2_sum_34 : decode cX2_sum 34 = .ok (.iload 4, 2) := by decide +kernel
theorem dX2_sum_36 : decode cX2_sum 36 = .ok (.bipush 45, 2) := by decide +kernel
theorem dX2_sum_38 : decode cX2_sum 38 = .ok (.if_icmp .ne 7, 3) := by decide +kernel
theorem dX2_sum_41 : decode cX2_sum 41 = .ok (.iconst 1, 1) := by decide +kernel
theorem dX2_sum_42 : decode cX2_sum 42 = .ok (.goto 4, 3) := by decide +kernel
theorem dX2_sum_45 : decode cX2_sum 45 = .ok (.iconst 0, 1) := by decide +kernel
theorem dX2_sum_46 : decode cX2_sum 46 = .ok (.istore 5, 2) := by decide +kernel
theorem dX2_sum_48 : decode cX2_sum 48 = .ok (.iload 5, 2) := by decide +kernel
theorem dX2_sum_50 : decode cX2_sum 50 = .ok (.ifCond .ne 36, 3) := by decide +kernel
theorem dX2_sum_53 : decode cX2_sum 53 = .ok (.iload 4, 2) := by decide +kernel
theorem dX2_sum_55 : decode cX2_sum 55 = .ok (.bipush 42, 2) := by decide +kernel
theorem dX2_sum_57 : decode cX2_sum 57 = .ok (.if_icmp .eq 29, 3) := by decide +kernel
theorem dX2_sum_60 : decode cX2_sum 60 = .ok (.iload 4, 2) := by decide +kernel
theorem dX2_sum_62 : decode cX2_sum 62 = .ok (.bipush 47, 2) := by decide +kernel
theorem dX2_sum_64 : decode cX2_sum 64 = .ok (.if_icmp .eq 22, 3) := by decide +kernel
theorem dX2_sum_67 : decode cX2_sum 67 = .ok (.iload_n 2, 1) := by decide +kernel
theorem dX2_sum_68 : decode cX2_sum 68 = .ok (.ifCond .eq 12, 3) := by decide +kernel
theorem dX2_sum_71 : decode cX2_sum 71 = .ok (.aload_n 0, 1) := by decide +kernel
theorem dX2_sum_72 : decode cX2_sum 72 = .ok (.iload_n 2, 1) := by decide +kernel
theorem dX2_sum_73 : decode cX2_sum 73 = .ok (.ineg, 1) := by decide +kernel
theorem dX2_sum_74 : decode cX2_sum 74 = .ok (.invokevirtual 56, 3) := by decide +kernel
theorem dX2_sum_77 : decode cX2_sum 77 = .ok (.ifCond .eq 7, 3) := by decide +kernel
theorem dX2_sum_80 : decode cX2_sum 80 = .ok (.iconst 1, 1) := by decide +kernel
theorem dX2_sum_81 : decode cX2_sum 81 = .ok (.goto 4, 3) := by decide +kernel
theorem dX2_sum_84 : decode cX2_sum 84 = .ok (.iconst 0, 1) := by decide +kernel
theorem dX2_sum_85 : decode cX2_sum 85 = .ok (.ireturn, 1) := by decide +kernel
theorem dX2_sum_86 : decode cX2_sum 86 = .ok (.iload 5, 2) := by decide +kernel
theorem dX2_sum_88 : decode cX2_sum 88 = .ok (.ifCond .eq 14, 3) := by decide +kernel
theorem dX2_sum_91 : decode cX2_sum 91 = .ok (.iload_n 2, 1) := by decide +kernel
theorem dX2_sum_92 : decode cX2_sum 92 = .ok (.ifCond .eq 10, 3) := by decide +kernel
theorem dX2_sum_95 : decode cX2_sum 95 = .ok (.aload_n 0, 1) := by decide +kernel
theorem dX2_sum_96 : decode cX2_sum 96 = .ok (.iload_n 2, 1) := by decide +kernel
theorem dX2_sum_97 : decode cX2_sum 97 = .ok (.ineg, 1) := by decide +kernel
theorem dX2_sum_98 : decode cX2_sum 98 = .ok (.invokevirtual 56, 3) := by decide +kernel
theorem dX2_sum_101 : decode cX2_sum 101 = .ok (.pop, 1) := by decide +kernel
theorem dX2_sum_102 : decode cX2_sum 102 = .ok (.iload 5, 2) := by decide +kernel
theorem dX2_sum_104 : decode cX2_sum 104 = .ok (.ifCond .eq 8, 3) := by decide +kernel
theorem dX2_sum_107 : decode cX2_sum 107 = .ok (.iload 4, 2) := by decide +kernel
theorem dX2_sum_109 : decode cX2_sum 109 = .ok (.goto 4, 3) := by decide +kernel
theorem dX2_sum_112 : decode cX2_sum 112 = .ok (.iload_n 2, 1) := by decide +kernel
theorem dX2_sum_113 : decode cX2_sum 113 = .ok (.istore_n 2, 1) := by decide +kernel
theorem dX2_sum_114 : decode cX2_sum 114 = .ok (.aload_n 0, 1) := by decide +kernel
theorem dX2_sum_115 : decode cX2_sum 115 = .ok (.dup, 1) := by decide +kernel
theorem dX2_sum_116 : decode cX2_sum 116 = .ok (.getfield 68, 3) := by decide +kernel
theorem dX2_sum_119 : decode cX2_sum 119 = .ok (.iconst 1, 1) := by decide +kernel
theorem dX2_sum_120 : decode cX2_sum 120 = .ok (.iadd, 1) := by decide +kernel
theorem dX2_sum_121 : decode cX2_sum 121 = .ok (.putfield 68, 3) := by decide +kernel
theorem dX2_sum_124 : decode cX2_sum 124 = .ok (.aload_n 0, 1) := by decide +kernel
theorem dX2_sum_125 : decode cX2_sum 125 = .ok (.iload_n 1, 1) := by decide +kernel
theorem dX2_sum_126 : decode cX2_sum 126 = .ok (.invokevirtual 74, 3) := by decide +kernel
theorem dX2_sum_129 : decode cX2_sum 129 = .ok (.ifCond .ne 5, 3) := by decide +kernel
theorem dX2_sum_132 : decode cX2_sum 132 = .ok (.iconst 0, 1) := by decide +kernel
theorem dX2_sum_133 : decode cX2_sum 133 = .ok (.ireturn, 1) := by decide +kernel
theorem dX2_sum_134 : decode cX2_sum 134 = .ok (.iload 5, 2) := by decide +kernel
theorem dX2_sum_136 : decode cX2_sum 136 = .ok (.ifCond .ne 11, 3) := by decide +kernel
theorem dX2_sum_139 : decode cX2_sum 139 = .ok (.aload_n 0, 1) := by decide +kernel
theorem dX2_sum_140 : decode cX2_sum 140 = .ok (.iload 4, 2) := by decide +kernel
theorem dX2_sum_142 : decode cX2_sum 142 = .ok (.ineg, 1) := by decide +kernel
theorem dX2_sum_143 : decode cX2_sum 143 = .ok (.invokevirtual 56, 3) := by decide +kernel
theorem dX2_sum_146 : decode cX2_sum 146 = .ok (.pop, 1) := by decide +kernel
theorem dX2_sum_147 : decode cX2_sum 147 = .ok (.iinc 3 1, 3) := by decide +kernel
theorem dX2_sum_150 : decode cX2_sum 150 = .ok (.goto (-136), 3) := by decide +kernel
theorem dX2_sum_153 : decode cX2_sum 153 = .ok (.aload_n 0, 1) := by decide +kernel
theorem dX2_sum_154 : decode cX2_sum 154 = .ok (.invokevirtual 36, 3) := by decide +kernel
theorem dX2_sum_157 : decode cX2_sum 157 = .ok (.ireturn, 1) := by decide +kernel
theorem dX2_atom_0 : decode cX2_atom 0 = .ok (.aload_n 0, 1) := by decide +kernel
theorem dX2_atom_1 : decode cX2_atom 1 = .ok (.invokevirtual 40, 3) := by decide +kernel
theorem dX2_atom_4 : decode cX2_atom 4 = .ok (.istore_n 2, 1) := by decide +kernel
theorem dX2_atom_5 : decode cX2_atom 5 = .ok (.iload_n 2, 1) := by decide +kernel
theorem dX2_atom_6 : decode cX2_atom 6 = .ok (.invokestatic 77, 3) := by decide +kernel
theorem dX2_atom_9 : decode cX2_atom 9 = .ok (.ifCond .eq 32, 3) := by decide +kernel
theorem dX2_atom_12 : decode cX2_atom 12 = .ok (.aload_n 0, 1) := by decide +kernel
theorem dX2_atom_13 : decode cX2_atom 13 = .ok (.iconst 4, 1) := by decide +kernel
theorem dX2_atom_14 : decode cX2_atom 14 = .ok (.iconst 0, 1) := by decide +kernel
theorem dX2_atom_15 : decode cX2_atom 15 = .ok (.sipush 9999, 3) := by decide +kernel
theorem dX2_atom_18 : decode cX2_atom 18 = .ok (.invokevirtual 80, 3) := by decide +kernel
theorem dX2_atom_21 : decode cX2_atom 21 = .ok (.istore_n 3, 1) := by decide +kernel
theorem dX2_atom_22 : decode cX2_atom 22 = .ok (.iload_n 3, 1) := by decide +kernel
theorem dX2_atom_23 : decode cX2_atom 23 = .ok (.iconst (-1), 1) := by decide +kernel
theorem dX2_atom_24 : decode cX2_atom 24 = .ok (.if_icmp .eq 15, 3) := by decide +kernel
theorem dX2_atom_27 : decode cX2_atom 27 = .ok (.aload_n 0, 1) := by decide +kernel
theorem dX2_atom_28 : decode cX2_atom 28 = .ok (.iload_n 3, 1) := by decide +kernel
theorem dX2_atom_29 : decode cX2_atom 29 = .ok (.invokevirtual 56, 3) := by decide +kernel
theorem dX2_atom_32 : decode cX2_atom 32 = .ok (.ifCond .eq 7, 3) := by decide +kernel
theorem dX2_atom_35 : decode cX2_atom 35 = .ok (.iconst 1, 1) := by decide +kernel
theorem dX2_atom_36 : decode cX2_atom 36 = .ok (.goto 4, 3) := by decide +kernel
theorem dX2_atom_39 : decode cX2_atom 39 = .ok (.iconst 0, 1) := by decide +kernel
theorem dX2_atom_40 : decode cX2_atom 40 = .ok (.ireturn, 1) := by decide +kernel
theorem dX2_atom_41 : decode cX2_atom 41 = .ok (.iload_n 2, 1) := by decide +kernel
theorem dX2_atom_42 : decode cX2_atom 42 = .ok (.bipush 100, 2) := by decide +kernel
theorem dX2_atom_44 : decode cX2_atom 44 = .ok (.if_icmp .eq 27, 3) := by decide +kernel
theorem dX2_atom_47 : decode cX2_atom 47 = .ok (.iload_n 2, 1) := by decide +kernel
theorem dX2_atom_48 : decode cX2_atom 48 = .ok (.bipush 119, 2) := by decide +kernel
theorem dX2_atom_50 : decode cX2_atom 50 = .ok (.if_icmp .eq 21, 3) := by decide +kernel
theorem dX2_atom_53 : decode cX2_atom 53 = .ok (.iload_n 2, 1) := by decide +kernel
theorem dX2_atom_54 : decode cX2_atom 54 = .ok (.bipush 109, 2) := by decide +kernel
theorem dX2_atom_56 : decode cX2_atom 56 = .ok (.if_icmp .eq 15, 3) := by decide +kernel
theorem dX2_atom_59 : decode cX2_atom 59 = .ok (.iload_n 2, 1) := by decide +kernel
theorem dX2_atom_60 : decode cX2_atom 60 = .ok (.bipush 110, 2) := by decide +kernel
theorem dX2_atom_62 : decode cX2_atom 62 = .ok (.if_icmp .eq 9, 3) := by decide +kernel
theorem dX2_atom_65 : decode cX2_atom 65 = .ok (.iload_n 2, 1) := by decide +kernel
theorem dX2_atom_66 : decode cX2_atom 66 = .ok (.bipush 111, 2) := by decide +kernel
theorem dX2_atom_68 : decode cX2_atom 68 = .ok (.if_icmp .ne 20, 3) := by decide +kernel
theorem dX2_atom_71 : decode cX2_atom 71 = .ok (.aload_n 0, 1) := by decide +kernel
theorem dX2_atom_72 : decode cX2_atom 72 = .ok (.dup, 1) := by decide +kernel
theorem dX2_atom_73 : decode cX2_atom 73 = .ok (.getfield 68, 3) := by decide +kernel
theorem dX2_atom_76 : decode cX2_atom 76 = .ok (.iconst 1, 1) := by decide +kernel
theorem dX2_atom_77 : decode cX2_atom 77 = .ok (.iadd, 1) := by decide +kernel
theorem dX2_atom_78 : decode cX2_atom 78 = .ok (.putfield 68, 3) := by decide +kernel
theorem dX2_atom_81 : decode cX2_atom 81 = .ok (.aload_n 0, 1) := by decide +kernel
theorem dX2_atom_82 : decode cX2_atom 82 = .ok (.iload_n 2, 1) := by decide +kernel
theorem dX2_atom_83 : decode cX2_atom 83 = .ok (.ineg, 1) := by decide +kernel
theorem dX2_atom_84 : decode cX2_atom 84 = .ok (.invokevirtual 56, 3) := by decide +kernel
theorem dX2_atom_87 : decode cX2_atom 87 = .ok (.ireturn, 1) := by decide +kernel
theorem dX2_atom_88 : decode cX2_atom 88 = .ok (.iload_n 2, 1) := by decide +kernel
theorem dX2_atom_89 : decode cX2_atom 89 = .ok (.bipush 91, 2) := by decide +kernel
theorem dX2_atom_91 : decode cX2_atom 91 = .ok (.if_icmp .ne 9, 3) := by decide +kernel
theorem dX2_atom_94 : decode cX2_atom 94 = .ok (.iload_n 1, 1) := by decide +kernel
theorem dX2_atom_95 : decode cX2_atom 95 = .ok (.bipush 6, 2) := by decide +kernel
theorem dX2_atom_97 : decode cX2_atom 97 = .ok (.if_icmp .lt 8, 3) := by decide +kernel
theorem dX2_atom_100 : decode cX2_atom 100 = .ok (.aload_n 0, 1) := by decide +kernel
theorem dX2_atom_101 : decode cX2_atom 101 = .ok (.invokevirtual 36, 3) := by decide +kernel
theorem dX2_atom_104 : decode cX2_atom 104 = .ok (.ireturn, 1) := by decide +kernel
theorem dX2_atom_105 : decode cX2_atom 105 = .ok (.aload_n 0, 1) := by decide +kernel
theorem dX2_atom_106 : decode cX2_atom 106 = .ok (.dup, 1) := by decide +kernel
theorem dX2_atom_107 : decode cX2_atom 107 = .ok (.getfield 68, 3) := by decide +kernel
theorem dX2_atom_110 : decode cX2_atom 110 = .ok (.iconst 1, 1) := by decide +kernel
theorem dX2_atom_111 : decode cX2_atom 111 = .ok (.iadd, 1) := by decide +kernel
theorem dX2_atom_112 : decode cX2_atom 112 = .ok (.putfield 68, 3) := by decide +kernel
theorem dX2_atom_115 : decode cX2_atom 115 = .ok (.aload_n 0, 1) := by decide +kernel
theorem dX2_atom_116 : decode cX2_atom 116 = .ok (.iload_n 1, 1) := by decide +kernel
theorem dX2_atom_117 : decode cX2_atom 117 = .ok (.iconst 1, 1) := by decide +kernel
theorem dX2_atom_118 : decode cX2_atom 118 = .ok (.iadd, 1) := by decide +kernel
theorem dX2_atom_119 : decode cX2_atom 119 = .ok (.invokevirtual 50, 3) := by decide +kernel
theorem dX2_atom_122 : decode cX2_atom 122 = .ok (.ifCond .eq 23, 3) := by decide +kernel
theorem dX2_atom_125 : decode cX2_atom 125 = .ok (.aload_n 0, 1) := by decide +kernel
theorem dX2_atom_126 : decode cX2_atom 126 = .ok (.bipush 93, 2) := by decide +kernel
theorem dX2_atom_128 : decode cX2_atom 128 = .ok (.invokevirtual 32, 3) := by decide +kernel
theorem dX2_atom_131 : decode cX2_atom 131 = .ok (.ifCond .ne 10, 3) := by decide +kernel
theorem dX2_atom_134 : decode cX2_atom 134 = .ok (.aload_n 0, 1) := by decide +kernel
theorem dX2_atom_135 : decode cX2_atom 135 = .ok (.invokevirtual 36, 3) := by decide +kernel
theorem dX2_atom_138 : decode cX2_atom 138 = .ok (.ifCond .eq 7, 3) := by decide +kernel
theorem dX2_atom_141 : decode cX2_atom 141 = .ok (.iconst 1, 1) := by decide +kernel
theorem dX2_atom_142 : decode cX2_atom 142 = .ok (.goto 4, 3) := by decide +kernel
theorem dX2_atom_145 : decode cX2_atom 145 = .ok (.iconst 0, 1) := by decide +kernel
theorem dX2_atom_146 : decode cX2_atom 146 = .ok (.ireturn, 1) := by decide +kernel
theorem dX3_init_0 : decode cX3_init 0 = .ok (.aload_n 0, 1) := by decide +kernel
theorem dX3_init_1 : decode cX3_init 1 = .ok (.invokespecial 3, 3) := by decide +kernel
theorem dX3_init_4 : decode cX3_init 4 = .ok (.aload_n 0, 1) := by decide +kernel
theorem dX3_init_5 : decode cX3_init 5 = .ok (.bipush 31, 2) := by decide +kernel
theorem dX3_init_7 : decode cX3_init 7 = .ok (.newarray .int, 2) := by decide +kernel
theorem dX3_init_9 : decode cX3_init 9 = .ok (.putfield 9, 3) := by decide +kernel
theorem dX3_init_12 : decode cX3_init 12 = .ok (.aload_n 0, 1) := by decide +kernel
theorem dX3_init_13 : decode cX3_init 13 = .ok (.bipush 31, 2) := by decide +kernel
theorem dX3_init_15 : decode cX3_init 15 = .ok (.newarray .int, 2) := by decide +kernel
theorem dX3_init_17 : decode cX3_init 17 = .ok (.putfield 15, 3) := by decide +kernel
theorem dX3_init_20 : decode cX3_init 20 = .ok (.aload_n 0, 1) := by decide +kernel
theorem dX3_init_21 : decode cX3_init 21 = .ok (.bipush 6, 2) := by decide +kernel
theorem dX3_init_23 : decode cX3_init 23 = .ok (.newarray .int, 2) := by decide +kernel
theorem dX3_init_25 : decode cX3_init 25 = .ok (.putfield 18, 3) := by decide +kernel
theorem dX3_init_28 : decode cX3_init 28 = .ok (.return_, 1) := by decide +kernel
theorem dX3_find_0 : decode cX3_find 0 = .ok (.aload_n 0, 1) := by decide +kernel
theorem dX3_find_1 : decode cX3_find 1 = .ok (.getfield 9, 3) := by decide +kernel
theorem dX3_find_4 : decode cX3_find 4 = .ok (.ldc 21, 2) := by decide +kernel
theorem dX3_find_6 : decode cX3_find 6 = .ok (.invokestatic 22, 3) := by decide +kernel
theorem dX3_find_9 : decode cX3_find 9 = .ok (.aload_n 0, 1) := by decide +kernel
theorem dX3_find_10 : decode cX3_find 10 = .ok (.getfield 9, 3) := by decide +kernel
theorem dX3_find_13 : decode cX3_find 13 = .ok (.iconst 0, 1) := by decide +kernel
theorem dX3_find_14 : decode cX3_find 14 = .ok (.iconst 0, 1) := by decide +kernel
theorem dX3_find_15 : decode cX3_find 15 = .ok (.iastore, 1) := by decide +kernel
theorem dX3_find_16 : decode cX3_find 16 = .ok (.aload_n 0, 1) := by decide +kernel
theorem dX3_find_17 : decode cX3_find 17 = .ok (.getfield 15, 3) := by decide +kernel
theorem dX3_find_20 : decode cX3_find 20 = .ok (.iconst 0, 1) := by decide +kernel
theorem dX3_find_21 : decode cX3_find 21 = .ok (.iconst 0, 1) := by decide +kernel
theorem dX3_find_22 : decode cX3_find 22 = .ok (.iastore, 1) := by decide +kernel
theorem dX3_find_23 : decode cX3_find 23 = .ok (.aload_n 0, 1) := by decide +kernel
theorem dX3_find_24 : decode cX3_find 24 = .ok (.ldc 21, 2) := by decide +kernel
theorem dX3_find_26 : decode cX3_find 26 = .ok (.putfield 28, 3) := by decide +kernel
theorem dX3_find_29 : decode cX3_find 29 = .ok (.aload_n 0, 1) := by decide +kernel
theorem dX3_find_30 : decode cX3_find 30 = .ok (.iconst 0, 1) := by decide +kernel
theorem dX3_find_31 : decode cX3_find 31 = .ok (.putfield 32, 3) := by decide +kernel
theorem dX3_find_34 : decode cX3_find 34 = .ok (.iconst 0, 1) := by decide +kernel
theorem dX3_find_35 : decode cX3_find 35 = .ok (.istore 4, 2) := by decide +kernel
theorem dX3_find_37 : decode cX3_find 37 = .ok (.iload 4, 2) := by decide +kernel
theorem dX3_find_39 : decode cX3_find 39 = .ok (.aload_n 2, 1) := by decide +kernel
theorem dX3_find_40 : decode cX3_find 40 = .ok (.getfield 35, 3) := by decide +kernel
theorem dX3_find_43 : decode cX3_find 43 = .ok (.if_icmp .ge 37, 3) := by decide +kernel
theorem dX3_find_46 : decode cX3_find 46 = .ok (.iload 4, 2) := by decide +kernel
theorem dX3_find_48 : decode cX3_find 48 = .ok (.bipush 30, 2) := by decide +kernel
theorem dX3_find_50 : decode cX3_find 50 = .ok (.if_icmp .ge 30, 3) := by decide +kernel
theorem dX3_find_53 : decode cX3_find 53 = .ok (.aload_n 0, 1) := by decide +kernel
theorem dX3_find_54 : decode cX3_find 54 = .ok (.getfield 9, 3) := by decide +kernel
theorem dX3_find_57 : decode cX3_find 57 = .ok (.iload 4, 2) := by decide +kernel
theorem dX3_find_59 : decode cX3_find 59 = .ok (.iaload, 1) := by decide +kernel
theorem dX3_find_60 : decode cX3_find 60 = .ok (.ldc 21, 2) := by decide +kernel
theorem dX3_find_62 : decode cX3_find 62 = .ok (.if_icmp .ge 12, 3) := by decide +kernel
theorem dX3_find_65 : decode cX3_find 65 = .ok (.aload_n 0, 1) := by decide +kernel
theorem dX3_find_66 : decode cX3_find 66 = .ok (.iload 4, 2) := by decide +kernel
theorem dX3_find_68 : decode cX3_find 68 = .ok (.aload_n 1, 1) := by decide +kernel
theorem dX3_find_69 : decode cX3_find 69 = .ok (.aload_n 2, 1) := by decide +kernel
theorem dX3_find_70 : decode cX3_find 70 = .ok (.iload_n 3, 1) := by decide +kernel
theorem dX3_find_71 : decode cX3_find 71 = .ok (.invokevirtual 40, 3) := by decide +kernel
theorem dX3_find_74 : decode cX3_find 74 = .ok (.iinc 4 1, 3) := by decide +kernel
theorem dX3_find_77 : decode cX3_find 77 = .ok (.goto (-40), 3) := by decide +kernel
theorem dX3_find_80 : decode cX3_find 80 = .ok (.aload_n 0, 1) := by decide +kernel
theorem dX3_find_81 : decode cX3_find 81 = .ok (.getfield 28, 3) := by decide +kernel
theorem dX3_find_84 : decode cX3_find 84 = .ok (.ldc 21, 2) := by decide +kernel
theorem dX3_find_86 : decode cX3_find 86 = .ok (.if_icmp .ge 7, 3) := by decide +kernel
theorem dX3_find_89 : decode cX3_find 89 = .ok (.iconst 1, 1) := by decide +kernel
theorem dX3_find_90 : decode cX3_find 90 = .ok (.goto 4, 3) := by decide +kernel
theorem dX3_find_93 : decode cX3_find 93 = .ok (.iconst 0, 1) := by decide +kernel
theorem dX3_find_94 : decode cX3_find 94 = .ok (.ireturn, 1) := by decide +kernel
theorem dX3_goOnFrom_0 : decode cX3_goOnFrom 0 = .ok (.aload_n 0, 1) := by decide +kernel
theorem dX3_goOnFrom_1 : decode cX3_goOnFrom 1 = .ok (.getfield 18, 3) := by decide +kernel
theorem dX3_goOnFrom_4 : decode cX3_goOnFrom 4 = .ok (.iconst 0, 1) := by decide +kernel
theorem dX3_goOnFrom_5 : decode cX3_goOnFrom 5 = .ok (.invokestatic 22, 3) := by decide +kernel
theorem dX3_goOnFrom_8 : decode cX3_goOnFrom 8 = .ok (.iload_n 1, 1) := by decide +kernel
theorem dX3_goOnFrom_9 : decode cX3_goOnFrom 9 = .ok (.istore 5, 2) := by decide +kernel
theorem dX3_goOnFrom_11 : decode cX3_goOnFrom 11 = .ok (.iload 5, 2) := by decide +kernel
theorem dX3_goOnFrom_13 : decode cX3_goOnFrom 13 = .ok (.aload_n 3, 1) := by decide +kernel
theorem dX3_goOnFrom_14 : decode cX3_goOnFrom 14 = .ok (.getfield 35, 3) := by decide +kernel
theorem dX3_goOnFrom_17 : decode cX3_goOnFrom 17 = .ok (.if_icmp .ge 85, 3) := by decide +kernel
theorem dX3_goOnFrom_20 : decode cX3_goOnFrom 20 = .ok (.iload 5, 2) := by decide +kernel
theorem dX3_goOnFrom_22 : decode cX3_goOnFrom 22 = .ok (.bipush 30, 2) := by decide +kernel
theorem dX3_goOnFrom_24 : decode cX3_goOnFrom 24 = .ok (.if_icmp .ge 78, 3) := by decide +kernel
theorem dX3_goOnFrom_27 : decode cX3_goOnFrom 27 = .ok (.aload_n 0, 1) := by decide +kernel
theorem dX3_goOnFrom_28 : decode cX3_goOnFrom 28 = .ok (.iload 5, 2) := by decide +kernel
theorem dX3_goOnFrom_30 : decode cX3_goOnFrom 30 = .ok (.aload_n 2, 1) := by decide +kernel
theorem dX3_goOnFrom_31 : decode cX3_goOnFrom 31 = .ok (.aload_n 3, 1) := by decide +kernel
theorem dX3_goOnFrom_32 : decode cX3_goOnFrom 32 = .ok (.invokevirtual 44, 3) := by decide +kernel
theorem dX3_goOnFrom_35 : decode cX3_goOnFrom 35 = .ok (.iload 4, 2) := by decide +kernel
theorem dX3_goOnFrom_37 : decode cX3_goOnFrom 37 = .ok (.if_icmp .le 4, 3) := by decide +kernel
theorem dX3_goOnFrom_40 : decode cX3_goOnFrom 40 = .ok (.return_, 1) := by decide +kernel
theorem dX3_goOnFrom_41 : decode cX3_goOnFrom 41 = .ok (.iload 5, 2) := by decide +kernel
theorem dX3_goOnFrom_43 : decode cX3_goOnFrom 43 = .ok (.aload_n 3, 1) := by decide +kernel
theorem dX3_goOnFrom_44 : decode cX3_goOnFrom 44 = .ok (.getfield 35, 3) := by decide +kernel
theorem dX3_goOnFrom_47 : decode cX3_goOnFrom 47 = .ok (.iconst 1, 1) := by decide +kernel
theorem dX3_goOnFrom_48 : decode cX3_goOnFrom 48 = .ok (.isub, 1) := by decide +kernel
theorem dX3_goOnFrom_49 : decode cX3_goOnFrom 49 = .ok (.if_icmp .ne 22, 3) := by decide +kernel
theorem dX3_goOnFrom_52 : decode cX3_goOnFrom 52 = .ok (.aload_n 0, 1) := by decide +kernel
theorem dX3_goOnFrom_53 : decode cX3_goOnFrom 53 = .ok (.aload_n 0, 1) := by decide +kernel
theorem dX3_goOnFrom_54 : decode cX3_goOnFrom 54 = .ok (.getfield 9, 3) := by decide +kernel
theorem dX3_goOnFrom_57 : decode cX3_goOnFrom 57 = .ok (.iload_n 1, 1) := by decide +kernel
theorem dX3_goOnFrom_58 : decode cX3_goOnFrom 58 = .ok (.iaload, 1) := by decide +kernel
theorem dX3_goOnFrom_59 : decode cX3_goOnFrom 59 = .ok (.aload_n 0, 1) := by decide +kernel
theorem dX3_goOnFrom_60 : decode cX3_goOnFrom 60 = .ok (.getfield 15, 3) := by decide +kernel
theorem dX3_goOnFrom_63 : decode cX3_goOnFrom 63 = .ok (.iload_n 1, 1) := by decide +kernel
theorem dX3_goOnFrom_64 : decode cX3_goOnFrom 64 = .ok (.iaload, 1) := by decide +kernel
theorem dX3_goOnFrom_65 : decode cX3_goOnFrom 65 = .ok (.invokevirtual 48, 3) := by decide +kernel
theorem dX3_goOnFrom_68 : decode cX3_goOnFrom 68 = .ok (.goto 28, 3) := by decide +kernel
theorem dX3_goOnFrom_71 : decode cX3_goOnFrom 71 = .ok (.aload_n 0, 1) := by decide +kernel
theorem dX3_goOnFrom_72 : decode cX3_goOnFrom 72 = .ok (.iload 5, 2) := by decide +kernel
theorem dX3_goOnFrom_74 : decode cX3_goOnFrom 74 = .ok (.aload_n 0, 1) := by decide +kernel
theorem dX3_goOnFrom_75 : decode cX3_goOnFrom 75 = .ok (.getfield 9, 3) := by decide +kernel
theorem dX3_goOnFrom_78 : decode cX3_goOnFrom 78 = .ok (.iload_n 1, 1) := by decide +kernel
theorem dX3_goOnFrom_79 : decode cX3_goOnFrom 79 = .ok (.iaload, 1) := by decide +kernel
theorem dX3_goOnFrom_80 : decode cX3_goOnFrom 80 = .ok (.iconst 1, 1) := by decide +kernel
theorem dX3_goOnFrom_81 : decode cX3_goOnFrom 81 = .ok (.iadd, 1) := by decide +kernel
theorem dX3_goOnFrom_82 : decode cX3_goOnFrom 82 = .ok (.aload_n 0, 1) := by decide +kernel
theorem dX3_goOnFrom_83 : decode cX3_goOnFrom 83 = .ok (.getfield 15, 3) := by decide +kernel
theorem dX3_goOnFrom_86 : decode cX3_goOnFrom 86 = .ok (.iload_n 1, 1) := by decide +kernel
theorem dX3_goOnFrom_87 : decode cX3_goOnFrom 87 = .ok (.iaload, 1) := by decide +kernel
theorem dX3_goOnFrom_88 : decode cX3_goOnFrom 88 = .ok (.iconst 1, 1) := by decide +kernel
theorem dX3_goOnFrom_89 : decode cX3_goOnFrom 89 = .ok (.iload 5, 2) := by decide +kernel
theorem dX3_goOnFrom_91 : decode cX3_goOnFrom 91 = .ok (.ishl, 1) := by decide +kernel
theorem dX3_goOnFrom_92 : decode cX3_goOnFrom 92 = .ok (.ior, 1) := by decide +kernel
theorem dX3_goOnFrom_93 : decode cX3_goOnFrom 93 = .ok (.invokevirtual 52, 3) := by decide +kernel
theorem dX3_goOnFrom_96 : decode cX3_goOnFrom 96 = .ok (.iinc 5 1, 3) := by decide +kernel
theorem dX3_goOnFrom_99 : decode cX3_goOnFrom 99 = .ok (.goto (-88), 3) := by decide +kernel
theorem dX3_goOnFrom_102 : decode cX3_goOnFrom 102 = .ok (.return_, 1) := by decide +kernel
theorem dX3_spreadBehind_0 : decode cX3_spreadBehind 0 = .ok (.iconst 0, 1) := by decide +kernel
theorem dX3_spreadBehind_1 : decode cX3_spreadBehind 1 = .ok (.istore 4, 2) := by decide +kernel
theorem dX3_spreadBehind_3 : decode cX3_spreadBehind 3 = .ok (.ldc 21, 2) := by decide +kernel
theorem dX3_spreadBehind_5 : decode cX3_spreadBehind 5 = .ok (.istore 5, 2) := by decide +kernel
theorem dX3_spreadBehind_7 : decode cX3_spreadBehind 7 = .ok (.iconst 0, 1) := by decide +kernel
theorem dX3_spreadBehind_8 : decode cX3_spreadBehind 8 = .ok (.istore 6, 2) := by decide +kernel
theorem dX3_spreadBehind_10 : decode cX3_spreadBehind 10 = .ok (.iload 6, 2) := by decide +kernel
theorem dX3_spreadBehind_12 : decode cX3_spreadBehind 12 = .ok (.aload_n 3, 1) := by decide +kernel
theorem dX3_spreadBehind_13 : decode cX3_spreadBehind 13 = .ok (.getfield 56, 3) := by decide +kernel
theorem dX3_spreadBehind_16 : decode cX3_spreadBehind 16 = .ok (.if_icmp .ge 62, 3) := by decide +kernel
theorem dX3_spreadBehind_19 : decode cX3_spreadBehind 19 = .ok (.aload_n 0, 1) := by decide +kernel
theorem dX3_spreadBehind_20 : decode cX3_spreadBehind 20 = .ok (.getfield 18, 3) := by decide +kernel
theorem dX3_spreadBehind_23 : decode cX3_spreadBehind 23 = .ok (.iload 6, 2) := by decide +kernel
theorem dX3_spreadBehind_25 : decode cX3_spreadBehind 25 = .ok (.dup2, 1) := by decide +kernel
theorem dX3_spreadBehind_26 : decode cX3_spreadBehind 26 = .ok (.iaload, 1) := by decide +kernel
theorem dX3_spreadBehind_27 : decode cX3_spreadBehind 27 = .ok (.aload_n 2, 1) := by decide +kernel
theorem dX3_spreadBehind_28 : decode cX3_spreadBehind 28 = .ok (.iload 6, 2) := by decide +kernel
theorem dX3_spreadBehind_30 : decode cX3_spreadBehind 30 = .ok (.iload_n 1, 1) := by decide +kernel
theorem dX3_spreadBehind_31 : decode cX3_spreadBehind 31 = .ok (.invokevirtual 59, 3) := by decide +kernel
theorem dX3_spreadBehind_34 : decode cX3_spreadBehind 34 = .ok (.aload_n 3, 1) := by decide +kernel
theorem dX3_spreadBehind_35 : decode cX3_spreadBehind 35 = .ok (.getfield 65, 3) := by decide +kernel
theorem dX3_spreadBehind_38 : decode cX3_spreadBehind 38 = .ok (.iload 6, 2) := by decide +kernel
theorem dX3_spreadBehind_40 : decode cX3_spreadBehind 40 = .ok (.iaload, 1) := by decide +kernel
theorem dX3_spreadBehind_41 : decode cX3_spreadBehind 41 = .ok (.iadd, 1) := by decide +kernel
theorem dX3_spreadBehind_42 : decode cX3_spreadBehind 42 = .ok (.iadd, 1) := by decide +kernel
theorem dX3_spreadBehind_43 : decode cX3_spreadBehind 43 = .ok (.iastore, 1) := by decide +kernel
theorem dX3_spreadBehind_44 : decode cX3_spreadBehind 44 = .ok (.iload 4, 2) := by decide +kernel
theorem dX3_spreadBehind_46 : decode cX3_spreadBehind 46 = .ok (.aload_n 0, 1) := by decide +kernel
theorem dX3_spreadBehind_47 : decode cX3_spreadBehind 47 = .ok (.getfield 18, 3) := by decide +kernel
theorem dX3_spreadBehind_50 : decode cX3_spreadBehind 50 = .ok (.iload 6, 2) := by decide +kernel
theorem dX3_spreadBehind_52 : decode cX3_spreadBehind 52 = .ok (.iaload, 1) := by decide +kernel
theorem dX3_spreadBehind_53 : decode cX3_spreadBehind 53 = .ok (.invokestatic 68, 3) := by decide +kernel
theorem dX3_spreadBehind_56 : decode cX3_spreadBehind 56 = .ok (.istore 4, 2) := by decide +kernel
theorem dX3_spreadBehind_58 : decode cX3_spreadBehind 58 = .ok (.iload 5, 2) := by decide +kernel
theorem dX3_spreadBehind_60 : decode cX3_spreadBehind 60 = .ok (.aload_n 0, 1) := by decide +kernel
theorem dX3_spreadBehind_61 : decode cX3_spreadBehind 61 = .ok (.getfield 18, 3) := by decide +kernel
theorem dX3_spreadBehind_64 : decode cX3_spreadBehind 64 = .ok (.iload 6, 2) := by decide +kernel
theorem dX3_spreadBehind_66 : decode cX3_spreadBehind 66 = .ok (.iaload, 1) := by decide +kernel
theorem dX3_spreadBehind_67 : decode cX3_spreadBehind 67 = .ok (.invokestatic 73, 3) := by decide +kernel
theorem dX3_spreadBehind_70 : decode cX3_spreadBehind 70 = .ok (.istore 5, 2) := by decide +kernel
theorem dX3_spreadBehind_72 : decode cX3_spreadBehind 72 = .ok (.iinc 6 1, 3) := by decide +kernel
theorem dX3_spreadBehind_75 : decode cX3_spreadBehind 75 = .ok (.goto (-65), 3) := by decide +kernel
theorem dX3_spreadBehind_78 : decode cX3_spreadBehind 78 = .ok (.iload 4, 2) := by decide +kernel
theorem dX3_spreadBehind_80 : decode cX3_spreadBehind 80 = .ok (.iload 5, 2) := by decide +kernel
theorem dX3_spreadBehind_82 : decode cX3_spreadBehind 82 = .ok (.isub, 1) := by decide +kernel
theorem dX3_spreadBehind_83 : decode cX3_spreadBehind 83 = .ok (.ireturn, 1) := by decide +kernel
theorem dX3_endBetter_0 : decode cX3_endBetter 0 = .ok (.iload_n 1, 1) := by decide +kernel
theorem dX3_endBetter_1 : decode cX3_endBetter 1 = .ok (.aload_n 0, 1) := by decide +kernel
theorem dX3_endBetter_2 : decode cX3_endBetter 2 = .ok (.getfield 28, 3) := by decide +kernel
theorem dX3_endBetter_5 : decode cX3_endBetter 5 = .ok (.if_icmp .lt 19, 3) := by decide +kernel
theorem dX3_endBetter_8 : decode cX3_endBetter 8 = .ok (.iload_n 1, 1) := by decide +kernel
theorem dX3_endBetter_9 : decode cX3_endBetter 9 = .ok (.aload_n 0, 1) := by decide +kernel
theorem dX3_endBetter_10 : decode cX3_endBetter 10 = .ok (.getfield 28, 3) := by decide +kernel
theorem dX3_endBetter_13 : decode cX3_endBetter 13 = .ok (.if_icmp .ne 21, 3) := by decide +kernel
theorem dX3_endBetter_16 : decode cX3_endBetter 16 = .ok (.iload_n 2, 1) := by decide +kernel
theorem dX3_endBetter_17 : decode cX3_endBetter 17 = .ok (.aload_n 0, 1) := by decide +kernel
theorem dX3_endBetter_18 : decode cX3_endBetter 18 = .ok (.getfield 32, 3) := by decide +kernel
theorem dX3_endBetter_21 : decode cX3_endBetter 21 = .ok (.if_icmp .ge 13, 3) := by decide +kernel
theorem dX3_endBetter_24 : decode cX3_endBetter 24 = .ok (.aload_n 0, 1) := by decide +kernel
theorem dX3_endBetter_25 : decode cX3_endBetter 25 = .ok (.iload_n 1, 1) := by decide +kernel
theorem dX3_endBetter_26 : decode cX3_endBetter 26 = .ok (.putfield 28, 3) := by decide +kernel
theorem dX3_endBetter_29 : decode cX3_endBetter 29 = .ok (.aload_n 0, 1) := by decide +kernel
theorem dX3_endBetter_30 : decode cX3_endBetter 30 = .ok (.iload_n 2, 1) := by decide +kernel
theorem dX3_endBetter_31 : decode cX3_endBetter 31 = .ok (.putfield 32, 3) := by decide +kernel
theorem dX3_endBetter_34 : decode cX3_endBetter 34 = .ok (.return_, 1) := by decide +kernel
theorem dX3_markBetter_0 : decode cX3_markBetter 0 = .ok (.iload_n 2, 1) := by decide +kernel
theorem dX3_markBetter_1 : decode cX3_markBetter 1 = .ok (.aload_n 0, 1) := by decide +kernel
theorem dX3_markBetter_2 : decode cX3_markBetter 2 = .ok (.getfield 9, 3) := by decide +kernel
theorem dX3_markBetter_5 : decode cX3_markBetter 5 = .ok (.iload_n 1, 1) := by decide +kernel
theorem dX3_markBetter_6 : decode cX3_markBetter 6 = .ok (.iconst 1, 1) := by decide +kernel
theorem dX3_markBetter_7 : decode cX3_markBetter 7 = .ok (.iadd, 1) := by decide +kernel
theorem dX3_markBetter_8 : decode cX3_markBetter 8 = .ok (.iaload, 1) := by decide +kernel
theorem dX3_markBetter_9 : decode cX3_markBetter 9 = .ok (.if_icmp .lt 27, 3) := by decide +kernel
theorem dX3_markBetter_12 : decode cX3_markBetter 12 = .ok (.iload_n 2, 1) := by decide +kernel
theorem dX3_markBetter_13 : decode cX3_markBetter 13 = .ok (.aload_n 0, 1) := by decide +kernel
theorem dX3_markBetter_14 : decode cX3_markBetter 14 = .ok (.getfield 9, 3) := by decide +kernel
theorem dX3_markBetter_17 : decode cX3_markBetter 17 = .ok (.iload_n 1, 1) := by decide +kernel
theorem dX3_markBetter_18 : decode cX3_markBetter 18 = .ok (.iconst 1, 1) := by decide +kernel
theorem dX3_markBetter_19 : decode cX3_markBetter 19 = .ok (.iadd, 1) := by decide +kernel
theorem dX3_markBetter_20 : decode cX3_markBetter 20 = .ok (.iaload, 1) := by decide +kernel
theorem dX3_markBetter_21 : decode cX3_markBetter 21 = .ok (.if_icmp .ne 33, 3) := by decide +kernel
theorem dX3_markBetter_24 : decode cX3_markBetter 24 = .ok (.iload_n 3, 1) := by decide +kernel
theorem dX3_markBetter_25 : decode cX3_markBetter 25 = .ok (.aload_n 0, 1) := by decide +kernel
theorem dX3_markBetter_26 : decode cX3_markBetter 26 = .ok (.getfield 15, 3) := by decide +kernel
theorem dX3_markBetter_29 : decode cX3_markBetter 29 = .ok (.iload_n 1, 1) := by decide +kernel
theorem dX3_markBetter_30 : decode cX3_markBetter 30 = .ok (.iconst 1, 1) := by decide +kernel
theorem dX3_markBetter_31 : decode cX3_markBetter 31 = .ok (.iadd, 1) := by decide +kernel
theorem dX3_markBetter_32 : decode cX3_markBetter 32 = .ok (.iaload, 1) := by decide +kernel
theorem dX3_markBetter_33 : decode cX3_markBetter 33 = .ok (.if_icmp .ge 21, 3) := by decide +kernel
theorem dX3_markBetter_36 : decode cX3_markBetter 36 = .ok (.aload_n 0, 1) := by decide +kernel
theorem dX3_markBetter_37 : decode cX3_markBetter 37 = .ok (.getfield 9, 3) := by decide +kernel
theorem dX3_markBetter_40 : decode cX3_markBetter 40 = .ok (.iload_n 1, 1) := by decide +kernel
theorem dX3_markBetter_41 : decode cX3_markBetter 41 = .ok (.iconst 1, 1) := by decide +kernel
theorem dX3_markBetter_42 : decode cX3_markBetter 42 = .ok (.iadd, 1) := by decide +kernel
theorem dX3_markBetter_43 : decode cX3_markBetter 43 = .ok (.iload_n 2, 1) := by decide +kernel
theorem dX3_markBetter_44 : decode cX3_markBetter 44 = .ok (.iastore, 1) := by decide +kernel
theorem dX3_markBetter_45 : decode cX3_markBetter 45 = .ok (.aload_n 0, 1) := by decide +kernel
theorem dX3_markBetter_46 : decode cX3_markBetter 46 = .ok (.getfield 15, 3) := by decide +kernel
theorem dX3_markBetter_49 : decode cX3_markBetter 49 = .ok (.iload_n 1, 1) := by decide +kernel
theorem dX3_markBetter_50 : decode cX3_markBetter 50 = .ok (.iconst 1, 1) := by decide +kernel
theorem dX3_markBetter_51 : decode cX3_markBetter 51 = .ok (.iadd, 1) := by decide +kernel
theorem dX3_markBetter_52 : decode cX3_markBetter 52 = .ok (.iload_n 3, 1) := by decide +kernel
theorem dX3_markBetter_53 : decode cX3_markBetter 53 = .ok (.iastore, 1) := by decide +kernel
theorem dX3_markBetter_54 : decode cX3_markBetter 54 = .ok (.return_, 1) := by decide +kernel
theorem dX4_init_0 : decode cX4_init 0 = .ok (.aload_n 0, 1) := by decide +kernel
theorem dX4_init_1 : decode cX4_init 1 = .ok (.invokespecial 3, 3) := by decide +kernel
theorem dX4_init_4 : decode cX4_init 4 = .ok (.aload_n 0, 1) := by decide +kernel
theorem dX4_init_5 : decode cX4_init 5 = .ok (.sipush 1206, 3) := by decide +kernel
theorem dX4_init_8 : decode cX4_init 8 = .ok (.newarray .int, 2) := by decide +kernel
theorem dX4_init_10 : decode cX4_init 10 = .ok (.putfield 11, 3) := by decide +kernel
theorem dX4_init_13 : decode cX4_init 13 = .ok (.aload_n 0, 1) := by decide +kernel
theorem dX4_init_14 : decode cX4_init 14 = .ok (.sipush 180, 3) := by decide +kernel
theorem dX4_init_17 : decode cX4_init 17 = .ok (.newarray .int, 2) := by decide +kernel
theorem dX4_init_19 : decode cX4_init 19 = .ok (.putfield 15, 3) := by decide +kernel
theorem dX4_init_22 : decode cX4_init 22 = .ok (.aload_n 0, 1) := by decide +kernel
theorem dX4_init_23 : decode cX4_init 23 = .ok (.bipush 6, 2) := by decide +kernel
theorem dX4_init_25 : decode cX4_init 25 = .ok (.newarray .int, 2) := by decide +kernel
theorem dX4_init_27 : decode cX4_init 27 = .ok (.putfield 18, 3) := by decide +kernel
theorem dX4_init_30 : decode cX4_init 30 = .ok (.aload_n 0, 1) := by decide +kernel
theorem dX4_init_31 : decode cX4_init 31 = .ok (.bipush 30, 2) := by decide +kernel
theorem dX4_init_33 : decode cX4_init 33 = .ok (.newarray .int, 2) := by decide +kernel
theorem dX4_init_35 : decode cX4_init 35 = .ok (.putfield 21, 3) := by decide +kernel
theorem dX4_init_38 : decode cX4_init 38 = .ok (.return_, 1) := by decide +kernel
theorem dX4_perform_0 : decode cX4_perform 0 = .ok (.aload_n 0, 1) := by decide +kernel
theorem dX4_perform_1 : decode cX4_perform 1 = .ok (.aload_n 1, 1) := by decide +kernel
theorem dX4_perform_2 : decode cX4_perform 2 = .ok (.invokevirtual 24, 3) := by decide +kernel
theorem dX4_perform_5 : decode cX4_perform 5 = .ok (.iconst 0, 1) := by decide +kernel
theorem dX4_perform_6 : decode cX4_perform 6 = .ok (.istore_n 3, 1) := by decide +kernel
theorem dX4_perform_7 : decode cX4_perform 7 = .ok (.iconst 0, 1) := by decide +kernel
theorem dX4_perform_8 : decode cX4_perform 8 = .ok (.istore 4, 2) := by decide +kernel
theorem dX4_perform_10 : decode cX4_perform 10 = .ok (.iload 4, 2) := by decide +kernel
theorem dX4_perform_12 : decode cX4_perform 12 = .ok (.aload_n 0, 1) := by decide +kernel
theorem dX4_perform_13 : decode cX4_perform 13 = .ok (.getfield 28, 3) := by decide +kernel
theorem dX4_perform_16 : decode cX4_perform 16 = .ok (.if_icmp .ge 52, 3) := by decide +kernel
theorem dX4_perform_19 : decode cX4_perform 19 = .ok (.iload 4, 2) := by decide +kernel
theorem dX4_perform_21 : decode cX4_perform 21 = .ok (.bipush 30, 2) := by decide +kernel
theorem dX4_perform_23 : decode cX4_perform 23 = .ok (.if_icmp .ge 45, 3) := by decide +kernel
theorem dX4_perform_26 : decode cX4_perform 26 = .ok (.iload 4, 2) := by decide +kernel
theorem dX4_perform_28 : decode cX4_perform 28 = .ok (.ifCond .le 10, 3) := by decide +kernel
theorem dX4_perform_31 : decode cX4_perform 31 = .ok (.aload_n 0, 1) := by decide +kernel
theorem dX4_perform_32 : decode cX4_perform 32 = .ok (.aload_n 1, 1) := by decide +kernel
theorem dX4_perform_33 : decode cX4_perform 33 = .ok (.iload 4, 2) := by decide +kernel
theorem dX4_perform_35 : decode cX4_perform 35 = .ok (.invokevirtual 32, 3) := by decide +kernel
theorem dX4_perform_38 : decode cX4_perform 38 = .ok (.aload_n 0, 1) := by decide +kernel
theorem dX4_perform_39 : decode cX4_perform 39 = .ok (.aload_n 1, 1) := by decide +kernel
theorem dX4_perform_40 : decode cX4_perform 40 = .ok (.iload 4, 2) := by decide +kernel
theorem dX4_perform_42 : decode cX4_perform 42 = .ok (.invokevirtual 36, 3) := by decide +kernel
theorem dX4_perform_45 : decode cX4_perform 45 = .ok (.istore 5, 2) := by decide +kernel
theorem dX4_perform_47 : decode cX4_perform 47 = .ok (.iload 5, 2) := by decide +kernel
theorem dX4_perform_49 : decode cX4_perform 49 = .ok (.iload_n 2, 1) := by decide +kernel
theorem dX4_perform_50 : decode cX4_perform 50 = .ok (.if_icmp .lt 5, 3) := by decide +kernel
theorem dX4_perform_53 : decode cX4_perform 53 = .ok (.iload_n 2, 1) := by decide +kernel
theorem dX4_perform_54 : decode cX4_perform 54 = .ok (.ireturn, 1) := by decide +kernel
theorem dX4_perform_55 : decode cX4_perform 55 = .ok (.iload_n 3, 1) := by decide +kernel
theorem dX4_perform_56 : decode cX4_perform 56 = .ok (.iload 5, 2) := by decide +kernel
theorem dX4_perform_58 : decode cX4_perform 58 = .ok (.invokestatic 40, 3) := by decide +kernel
theorem dX4_perform_61 : decode cX4_perform 61 = .ok (.istore_n 3, 1) := by decide +kernel
theorem dX4_perform_62 : decode cX4_perform 62 = .ok (.iinc 4 1, 3) := by decide +kernel
theorem dX4_perform_65 : decode cX4_perform 65 = .ok (.goto (-55), 3) := by decide +kernel
theorem dX4_perform_68 : decode cX4_perform 68 = .ok (.iload_n 3, 1) := by decide +kernel
theorem dX4_perform_69 : decode cX4_perform 69 = .ok (.ireturn, 1) := by decide +kernel
theorem dX4_open_0 : decode cX4_open 0 = .ok (.aload_n 0, 1) := by decide +kernel
theorem dX4_open_1 : decode cX4_open 1 = .ok (.aload_n 1, 1) := by decide +kernel
theorem dX4_open_2 : decode cX4_open 2 = .ok (.getfield 46, 3) := by decide +kernel
theorem dX4_open_5 : decode cX4_open 5 = .ok (.putfield 51, 3) := by decide +kernel
theorem dX4_open_8 : decode cX4_open 8 = .ok (.aload_n 0, 1) := by decide +kernel
theorem dX4_open_9 : decode cX4_open 9 = .ok (.aload_n 1, 1) := by decide +kernel
theorem dX4_open_10 : decode cX4_open 10 = .ok (.getfield 52, 3) := by decide +kernel
theorem dX4_open_13 : decode cX4_open 13 = .ok (.putfield 28, 3) := by decide +kernel
theorem dX4_open_16 : decode cX4_open 16 = .ok (.aload_n 0, 1) := by decide +kernel
theorem dX4_open_17 : decode cX4_open 17 = .ok (.aload_n 1, 1) := by decide +kernel
theorem dX4_open_18 : decode cX4_open 18 = .ok (.getfield 53, 3) := by decide +kernel
theorem dX4_open_21 : decode cX4_open 21 = .ok (.putfield 56, 3) := by decide +kernel
theorem dX4_open_24 : decode cX4_open 24 = .ok (.iconst 0, 1) := by decide +kernel
theorem dX4_open_25 : decode cX4_open 25 = .ok (.istore_n 2, 1) := by decide +kernel
theorem dX4_open_26 : decode cX4_open 26 = .ok (.iload_n 2, 1) := by decide +kernel
theorem dX4_open_27 : decode cX4_open 27 = .ok (.bipush 6, 2) := by decide +kernel
theorem dX4_open_29 : decode cX4_open 29 = .ok (.if_icmp .ge 28, 3) := by decide +kernel
theorem dX4_open_32 : decode cX4_open 32 = .ok (.aload_n 0, 1) := by decide +kernel
theorem dX4_open_33 : decode cX4_open 33 = .ok (.getfield 11, 3) := by decide +kernel
theorem dX4_open_36 : decode cX4_open 36 = .ok (.iload_n 2, 1) := by decide +kernel
theorem dX4_open_37 : decode cX4_open 37 = .ok (.aload_n 1, 1) := by decide +kernel
theorem dX4_open_38 : decode cX4_open 38 = .ok (.getfield 57, 3) := by decide +kernel
theorem dX4_open_41 : decode cX4_open 41 = .ok (.iload_n 2, 1) := by decide +kernel
theorem dX4_open_42 : decode cX4_open 42 = .ok (.iaload, 1) := by decide +kernel
theorem dX4_open_43 : decode cX4_open 43 = .ok (.iastore, 1) := by decide +kernel
theorem dX4_open_44 : decode cX4_open 44 = .ok (.aload_n 0, 1) := by decide +kernel
theorem dX4_open_45 : decode cX4_open 45 = .ok (.getfield 18, 3) := by decide +kernel
theorem dX4_open_48 : decode cX4_open 48 = .ok (.iload_n 2, 1) := by decide +kernel
theorem dX4_open_49 : decode cX4_open 49 = .ok (.iconst 0, 1) := by decide +kernel
theorem dX4_open_50 : decode cX4_open 50 = .ok (.iastore, 1) := by decide +kernel
theorem dX4_open_51 : decode cX4_open 51 = .ok (.iinc 2 1, 3) := by decide +kernel
theorem dX4_open_54 : decode cX4_open 54 = .ok (.goto (-28), 3) := by decide +kernel
theorem dX4_open_57 : decode cX4_open 57 = .ok (.return_, 1) := by decide +kernel
theorem dX4_goOn_0 : decode cX4_goOn 0 = .ok (.iload_n 2, 1) := by decide +kernel
theorem dX4_goOn_1 : decode cX4_goOn 1 = .ok (.bipush 6, 2) := by decide +kernel
theorem dX4_goOn_3 : decode cX4_goOn 3 = .ok (.imul, 1) := by decide +kernel
theorem dX4_goOn_4 : decode cX4_goOn 4 = .ok (.istore_n 3, 1) := by decide +kernel
theorem dX4_goOn_5 : decode cX4_goOn 5 = .ok (.iload_n 3, 1) := by decide +kernel
theorem dX4_goOn_6 : decode cX4_goOn 6 = .ok (.bipush 6, 2) := by decide +kernel
theorem dX4_goOn_8 : decode cX4_goOn 8 = .ok (.isub, 1) := by decide +kernel
theorem dX4_goOn_9 : decode cX4_goOn 9 = .ok (.istore 4, 2) := by decide +kernel
theorem dX4_goOn_11 : decode cX4_goOn 11 = .ok (.iload_n 2, 1) := by decide +kernel
theorem dX4_goOn_12 : decode cX4_goOn 12 = .ok (.iconst 1, 1) := by decide +kernel
theorem dX4_goOn_13 : decode cX4_goOn 13 = .ok (.isub, 1) := by decide +kernel
theorem dX4_goOn_14 : decode cX4_goOn 14 = .ok (.aload_n 1, 1) := by decide +kernel
theorem dX4_goOn_15 : decode cX4_goOn 15 = .ok (.getfield 58, 3) := by decide +kernel
theorem dX4_goOn_18 : decode cX4_goOn 18 = .ok (.isub, 1) := by decide +kernel
theorem dX4_goOn_19 : decode cX4_goOn 19 = .ok (.iconst 0, 1) := by decide +kernel
theorem dX4_goOn_20 : decode cX4_goOn 20 = .ok (.invokestatic 40, 3) := by decide +kernel
theorem dX4_goOn_23 : decode cX4_goOn 23 = .ok (.bipush 6, 2) := by decide +kernel
theorem dX4_goOn_25 : decode cX4_goOn 25 = .ok (.imul, 1) := by decide +kernel
theorem dX4_goOn_26 : decode cX4_goOn 26 = .ok (.istore 5, 2) := by decide +kernel
theorem dX4_goOn_28 : decode cX4_goOn 28 = .ok (.iconst 0, 1) := by decide +kernel
theorem dX4_goOn_29 : decode cX4_goOn 29 = .ok (.istore 6, 2) := by decide +kernel
theorem dX4_goOn_31 : decode cX4_goOn 31 = .ok (.iload 6, 2) := by decide +kernel
theorem dX4_goOn_33 : decode cX4_goOn 33 = .ok (.aload_n 0, 1) := by decide +kernel
theorem dX4_goOn_34 : decode cX4_goOn 34 = .ok (.getfield 51, 3) := by decide +kernel
theorem dX4_goOn_37 : decode cX4_goOn 37 = .ok (.if_icmp .ge 89, 3) := by decide +kernel
theorem dX4_goOn_40 : decode cX4_goOn 40 = .ok (.aload_n 0, 1) := by decide +kernel
theorem dX4_goOn_41 : decode cX4_goOn 41 = .ok (.getfield 11, 3) := by decide +kernel
theorem dX4_goOn_44 : decode cX4_goOn 44 = .ok (.iload 4, 2) := by decide +kernel
theorem dX4_goOn_46 : decode cX4_goOn 46 = .ok (.iload 6, 2) := by decide +kernel
theorem dX4_goOn_48 : decode cX4_goOn 48 = .ok (.iadd, 1) := by decide +kernel
theorem dX4_goOn_49 : decode cX4_goOn 49 = .ok (.iaload, 1) := by decide +kernel
theorem dX4_goOn_50 : decode cX4_goOn 50 = .ok (.istore 7, 2) := by decide +kernel
theorem dX4_goOn_52 : decode cX4_goOn 52 = .ok (.aload_n 1, 1) := by decide +kernel
theorem dX4_goOn_53 : decode cX4_goOn 53 = .ok (.getfield 61, 3) := by decide +kernel
theorem dX4_goOn_56 : decode cX4_goOn 56 = .ok (.iload 6, 2) := by decide +kernel
theorem dX4_goOn_58 : decode cX4_goOn 58 = .ok (.iaload, 1) := by decide +kernel
theorem dX4_goOn_59 : decode cX4_goOn 59 = .ok (.istore 8, 2) := by decide +kernel
theorem dX4_goOn_61 : decode cX4_goOn 61 = .ok (.iload 8, 2) := by decide +kernel
theorem dX4_goOn_63 : decode cX4_goOn 63 = .ok (.ifCond .lt 46, 3) := by decide +kernel
theorem dX4_goOn_66 : decode cX4_goOn 66 = .ok (.iload 8, 2) := by decide +kernel
theorem dX4_goOn_68 : decode cX4_goOn 68 = .ok (.bipush 6, 2) := by decide +kernel
theorem dX4_goOn_70 : decode cX4_goOn 70 = .ok (.if_icmp .ge 39, 3) := by decide +kernel
theorem dX4_goOn_73 : decode cX4_goOn 73 = .ok (.iload 7, 2) := by decide +kernel
theorem dX4_goOn_75 : decode cX4_goOn 75 = .ok (.aload_n 1, 1) := by decide +kernel
theorem dX4_goOn_76 : decode cX4_goOn 76 = .ok (.getfield 64, 3) := by decide +kernel
theorem dX4_goOn_79 : decode cX4_goOn 79 = .ok (.iload 6, 2) := by decide +kernel
theorem dX4_goOn_81 : decode cX4_goOn 81 = .ok (.iaload, 1) := by decide +kernel
theorem dX4_goOn_82 : decode cX4_goOn 82 = .ok (.aload_n 0, 1) := by decide +kernel
theorem dX4_goOn_83 : decode cX4_goOn 83 = .ok (.getfield 11, 3) := by decide +kernel
theorem dX4_goOn_86 : decode cX4_goOn 86 = .ok (.iload 5, 2) := by decide +kernel
theorem dX4_goOn_88 : decode cX4_goOn 88 = .ok (.iload 8, 2) := by decide +kernel
theorem dX4_goOn_90 : decode cX4_goOn 90 = .ok (.iadd, 1) := by decide +kernel
theorem dX4_goOn_91 : decode cX4_goOn 91 = .ok (.iaload, 1) := by decide +kernel
theorem dX4_goOn_92 : decode cX4_goOn 92 = .ok (.iload 7, 2) := by decide +kernel
theorem dX4_goOn_94 : decode cX4_goOn 94 = .ok (.isub, 1) := by decide +kernel
theorem dX4_goOn_95 : decode cX4_goOn 95 = .ok (.imul, 1) := by decide +kernel
theorem dX4_goOn_96 : decode cX4_goOn 96 = .ok (.bipush 10, 2) := by decide +kernel
theorem dX4_goOn_98 : decode cX4_goOn 98 = .ok (.idiv, 1) := by decide +kernel
theorem dX4_goOn_99 : decode cX4_goOn 99 = .ok (.iadd, 1) := by decide +kernel
theorem dX4_goOn_100 : decode cX4_goOn 100 = .ok (.iconst 1, 1) := by decide +kernel
