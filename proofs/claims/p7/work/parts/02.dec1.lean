theorem dX4_goOn_101 : decode cX4_goOn 101 = .ok (.sipush 199, 3) := by decide +kernel
theorem dX4_goOn_104 : decode cX4_goOn 104 = .ok (.invokestatic 67, 3) := by decide +kernel
theorem dX4_goOn_107 : decode cX4_goOn 107 = .ok (.istore 7, 2) := by decide +kernel
theorem dX4_goOn_109 : decode cX4_goOn 109 = .ok (.aload_n 0, 1) := by decide +kernel
theorem dX4_goOn_110 : decode cX4_goOn 110 = .ok (.getfield 11, 3) := by decide +kernel
theorem dX4_goOn_113 : decode cX4_goOn 113 = .ok (.iload_n 3, 1) := by decide +kernel
theorem dX4_goOn_114 : decode cX4_goOn 114 = .ok (.iload 6, 2) := by decide +kernel
theorem dX4_goOn_116 : decode cX4_goOn 116 = .ok (.iadd, 1) := by decide +kernel
theorem dX4_goOn_117 : decode cX4_goOn 117 = .ok (.iload 7, 2) := by decide +kernel
theorem dX4_goOn_119 : decode cX4_goOn 119 = .ok (.iastore, 1) := by decide +kernel
theorem dX4_goOn_120 : decode cX4_goOn 120 = .ok (.iinc 6 1, 3) := by decide +kernel
theorem dX4_goOn_123 : decode cX4_goOn 123 = .ok (.goto (-92), 3) := by decide +kernel
theorem dX4_goOn_126 : decode cX4_goOn 126 = .ok (.return_, 1) := by decide +kernel
theorem dX4_playBar_0 : decode cX4_playBar 0 = .ok (.iload_n 2, 1) := by decide +kernel
theorem dX4_playBar_1 : decode cX4_playBar 1 = .ok (.bipush 6, 2) := by decide +kernel
theorem dX4_playBar_3 : decode cX4_playBar 3 = .ok (.imul, 1) := by decide +kernel
theorem dX4_playBar_4 : decode cX4_playBar 4 = .ok (.istore_n 3, 1) := by decide +kernel
theorem dX4_playBar_5 : decode cX4_playBar 5 = .ok (.iconst 0, 1) := by decide +kernel
theorem dX4_playBar_6 : decode cX4_playBar 6 = .ok (.istore 4, 2) := by decide +kernel
theorem dX4_playBar_8 : decode cX4_playBar 8 = .ok (.ldc 71, 2) := by decide +kernel
theorem dX4_playBar_10 : decode cX4_playBar 10 = .ok (.istore 5, 2) := by decide +kernel
theorem dX4_playBar_12 : decode cX4_playBar 12 = .ok (.iconst 0, 1) := by decide +kernel
theorem dX4_playBar_13 : decode cX4_playBar 13 = .ok (.istore 6, 2) := by decide +kernel
theorem dX4_playBar_15 : decode cX4_playBar 15 = .ok (.iload 6, 2) := by decide +kernel
theorem dX4_playBar_17 : decode cX4_playBar 17 = .ok (.aload_n 0, 1) := by decide +kernel
theorem dX4_playBar_18 : decode cX4_playBar 18 = .ok (.getfield 51, 3) := by decide +kernel
theorem dX4_playBar_21 : decode cX4_playBar 21 = .ok (.if_icmp .ge 88, 3) := by decide +kernel
theorem dX4_playBar_24 : decode cX4_playBar 24 = .ok (.aload_n 0, 1) := by decide +kernel
theorem dX4_playBar_25 : decode cX4_playBar 25 = .ok (.getfield 18, 3) := by decide +kernel
theorem dX4_playBar_28 : decode cX4_playBar 28 = .ok (.iload 6, 2) := by decide +kernel
theorem dX4_playBar_30 : decode cX4_playBar 30 = .ok (.iaload, 1) := by decide +kernel
theorem dX4_playBar_31 : decode cX4_playBar 31 = .ok (.aload_n 0, 1) := by decide +kernel
theorem dX4_playBar_32 : decode cX4_playBar 32 = .ok (.getfield 11, 3) := by decide +kernel
theorem dX4_playBar_35 : decode cX4_playBar 35 = .ok (.iload_n 3, 1) := by decide +kernel
theorem dX4_playBar_36 : decode cX4_playBar 36 = .ok (.iload 6, 2) := by decide +kernel
theorem dX4_playBar_38 : decode cX4_playBar 38 = .ok (.iadd, 1) := by decide +kernel
theorem dX4_playBar_39 : decode cX4_playBar 39 = .ok (.iaload, 1) := by decide +kernel
theorem dX4_playBar_40 : decode cX4_playBar 40 = .ok (.iadd, 1) := by decide +kernel
theorem dX4_playBar_41 : decode cX4_playBar 41 = .ok (.aload_n 1, 1) := by decide +kernel
theorem dX4_playBar_42 : decode cX4_playBar 42 = .ok (.getfield 72, 3) := by decide +kernel
theorem dX4_playBar_45 : decode cX4_playBar 45 = .ok (.iload 6, 2) := by decide +kernel
theorem dX4_playBar_47 : decode cX4_playBar 47 = .ok (.iaload, 1) := by decide +kernel
theorem dX4_playBar_48 : decode cX4_playBar 48 = .ok (.iadd, 1) := by decide +kernel
theorem dX4_playBar_49 : decode cX4_playBar 49 = .ok (.istore 7, 2) := by decide +kernel
theorem dX4_playBar_51 : decode cX4_playBar 51 = .ok (.aload_n 0, 1) := by decide +kernel
theorem dX4_playBar_52 : decode cX4_playBar 52 = .ok (.getfield 15, 3) := by decide +kernel
theorem dX4_playBar_55 : decode cX4_playBar 55 = .ok (.iload_n 3, 1) := by decide +kernel
theorem dX4_playBar_56 : decode cX4_playBar 56 = .ok (.iload 6, 2) := by decide +kernel
theorem dX4_playBar_58 : decode cX4_playBar 58 = .ok (.iadd, 1) := by decide +kernel
theorem dX4_playBar_59 : decode cX4_playBar 59 = .ok (.iload 7, 2) := by decide +kernel
theorem dX4_playBar_61 : decode cX4_playBar 61 = .ok (.iastore, 1) := by decide +kernel
theorem dX4_playBar_62 : decode cX4_playBar 62 = .ok (.aload_n 0, 1) := by decide +kernel
theorem dX4_playBar_63 : decode cX4_playBar 63 = .ok (.getfield 18, 3) := by decide +kernel
theorem dX4_playBar_66 : decode cX4_playBar 66 = .ok (.iload 6, 2) := by decide +kernel
theorem dX4_playBar_68 : decode cX4_playBar 68 = .ok (.iload 7, 2) := by decide +kernel
theorem dX4_playBar_70 : decode cX4_playBar 70 = .ok (.iastore, 1) := by decide +kernel
theorem dX4_playBar_71 : decode cX4_playBar 71 = .ok (.iload 7, 2) := by decide +kernel
theorem dX4_playBar_73 : decode cX4_playBar 73 = .ok (.iload 4, 2) := by decide +kernel
theorem dX4_playBar_75 : decode cX4_playBar 75 = .ok (.if_icmp .le 8, 3) := by decide +kernel
theorem dX4_playBar_78 : decode cX4_playBar 78 = .ok (.iload 7, 2) := by decide +kernel
theorem dX4_playBar_80 : decode cX4_playBar 80 = .ok (.goto 5, 3) := by decide +kernel
theorem dX4_playBar_83 : decode cX4_playBar 83 = .ok (.iload 4, 2) := by decide +kernel
theorem dX4_playBar_85 : decode cX4_playBar 85 = .ok (.istore 4, 2) := by decide +kernel
theorem dX4_playBar_87 : decode cX4_playBar 87 = .ok (.iload 7, 2) := by decide +kernel
theorem dX4_playBar_89 : decode cX4_playBar 89 = .ok (.iload 5, 2) := by decide +kernel
theorem dX4_playBar_91 : decode cX4_playBar 91 = .ok (.if_icmp .ge 8, 3) := by decide +kernel
theorem dX4_playBar_94 : decode cX4_playBar 94 = .ok (.iload 7, 2) := by decide +kernel
theorem dX4_playBar_96 : decode cX4_playBar 96 = .ok (.goto 5, 3) := by decide +kernel
theorem dX4_playBar_99 : decode cX4_playBar 99 = .ok (.iload 5, 2) := by decide +kernel
theorem dX4_playBar_101 : decode cX4_playBar 101 = .ok (.istore 5, 2) := by decide +kernel
theorem dX4_playBar_103 : decode cX4_playBar 103 = .ok (.iinc 6 1, 3) := by decide +kernel
theorem dX4_playBar_106 : decode cX4_playBar 106 = .ok (.goto (-91), 3) := by decide +kernel
theorem dX4_playBar_109 : decode cX4_playBar 109 = .ok (.aload_n 1, 1) := by decide +kernel
theorem dX4_playBar_110 : decode cX4_playBar 110 = .ok (.iload_n 2, 1) := by decide +kernel
theorem dX4_playBar_111 : decode cX4_playBar 111 = .ok (.invokevirtual 75, 3) := by decide +kernel
theorem dX4_playBar_114 : decode cX4_playBar 114 = .ok (.ifCond .eq 12, 3) := by decide +kernel
theorem dX4_playBar_117 : decode cX4_playBar 117 = .ok (.aload_n 0, 1) := by decide +kernel
theorem dX4_playBar_118 : decode cX4_playBar 118 = .ok (.getfield 18, 3) := by decide +kernel
theorem dX4_playBar_121 : decode cX4_playBar 121 = .ok (.iload 4, 2) := by decide +kernel
theorem dX4_playBar_123 : decode cX4_playBar 123 = .ok (.invokestatic 79, 3) := by decide +kernel
theorem dX4_playBar_126 : decode cX4_playBar 126 = .ok (.aload_n 0, 1) := by decide +kernel
theorem dX4_playBar_127 : decode cX4_playBar 127 = .ok (.getfield 21, 3) := by decide +kernel
theorem dX4_playBar_130 : decode cX4_playBar 130 = .ok (.iload_n 2, 1) := by decide +kernel
theorem dX4_playBar_131 : decode cX4_playBar 131 = .ok (.iload 4, 2) := by decide +kernel
theorem dX4_playBar_133 : decode cX4_playBar 133 = .ok (.iload 5, 2) := by decide +kernel
theorem dX4_playBar_135 : decode cX4_playBar 135 = .ok (.isub, 1) := by decide +kernel
theorem dX4_playBar_136 : decode cX4_playBar 136 = .ok (.iastore, 1) := by decide +kernel
theorem dX4_playBar_137 : decode cX4_playBar 137 = .ok (.iload 4, 2) := by decide +kernel
theorem dX4_playBar_139 : decode cX4_playBar 139 = .ok (.iload 5, 2) := by decide +kernel
theorem dX4_playBar_141 : decode cX4_playBar 141 = .ok (.isub, 1) := by decide +kernel
theorem dX4_playBar_142 : decode cX4_playBar 142 = .ok (.ireturn, 1) := by decide +kernel
theorem dX4_beatIn_0 : decode cX4_beatIn 0 = .ok (.aload_n 0, 1) := by decide +kernel
theorem dX4_beatIn_1 : decode cX4_beatIn 1 = .ok (.getfield 11, 3) := by decide +kernel
theorem dX4_beatIn_4 : decode cX4_beatIn 4 = .ok (.iload_n 2, 1) := by decide +kernel
theorem dX4_beatIn_5 : decode cX4_beatIn 5 = .ok (.bipush 6, 2) := by decide +kernel
theorem dX4_beatIn_7 : decode cX4_beatIn 7 = .ok (.imul, 1) := by decide +kernel
theorem dX4_beatIn_8 : decode cX4_beatIn 8 = .ok (.iload_n 1, 1) := by decide +kernel
theorem dX4_beatIn_9 : decode cX4_beatIn 9 = .ok (.iadd, 1) := by decide +kernel
theorem dX4_beatIn_10 : decode cX4_beatIn 10 = .ok (.iaload, 1) := by decide +kernel
theorem dX4_beatIn_11 : decode cX4_beatIn 11 = .ok (.ireturn, 1) := by decide +kernel
theorem dX4_aheadOfWaiting_0 : decode cX4_aheadOfWaiting 0 = .ok (.aload_n 0, 1) := by decide +kernel
theorem dX4_aheadOfWaiting_1 : decode cX4_aheadOfWaiting 1 = .ok (.getfield 15, 3) := by decide +kernel
theorem dX4_aheadOfWaiting_4 : decode cX4_aheadOfWaiting 4 = .ok (.iload_n 2, 1) := by decide +kernel
theorem dX4_aheadOfWaiting_5 : decode cX4_aheadOfWaiting 5 = .ok (.bipush 6, 2) := by decide +kernel
theorem dX4_aheadOfWaiting_7 : decode cX4_aheadOfWaiting 7 = .ok (.imul, 1) := by decide +kernel
theorem dX4_aheadOfWaiting_8 : decode cX4_aheadOfWaiting 8 = .ok (.iload_n 1, 1) := by decide +kernel
theorem dX4_aheadOfWaiting_9 : decode cX4_aheadOfWaiting 9 = .ok (.iadd, 1) := by decide +kernel
theorem dX4_aheadOfWaiting_10 : decode cX4_aheadOfWaiting 10 = .ok (.iaload, 1) := by decide +kernel
theorem dX4_aheadOfWaiting_11 : decode cX4_aheadOfWaiting 11 = .ok (.ireturn, 1) := by decide +kernel
theorem dX4_behindWaiting_0 : decode cX4_behindWaiting 0 = .ok (.aload_n 0, 1) := by decide +kernel
theorem dX4_behindWaiting_1 : decode cX4_behindWaiting 1 = .ok (.getfield 56, 3) := by decide +kernel
theorem dX4_behindWaiting_4 : decode cX4_behindWaiting 4 = .ok (.iload_n 2, 1) := by decide +kernel
theorem dX4_behindWaiting_5 : decode cX4_behindWaiting 5 = .ok (.ishr, 1) := by decide +kernel
theorem dX4_behindWaiting_6 : decode cX4_behindWaiting 6 = .ok (.iconst 1, 1) := by decide +kernel
theorem dX4_behindWaiting_7 : decode cX4_behindWaiting 7 = .ok (.iand, 1) := by decide +kernel
theorem dX4_behindWaiting_8 : decode cX4_behindWaiting 8 = .ok (.ifCond .eq 11, 3) := by decide +kernel
theorem dX4_behindWaiting_11 : decode cX4_behindWaiting 11 = .ok (.aload_n 0, 1) := by decide +kernel
theorem dX4_behindWaiting_12 : decode cX4_behindWaiting 12 = .ok (.iload_n 2, 1) := by decide +kernel
theorem dX4_behindWaiting_13 : decode cX4_behindWaiting 13 = .ok (.invokevirtual 85, 3) := by decide +kernel
theorem dX4_behindWaiting_16 : decode cX4_behindWaiting 16 = .ok (.goto 9, 3) := by decide +kernel
theorem dX4_behindWaiting_19 : decode cX4_behindWaiting 19 = .ok (.aload_n 0, 1) := by decide +kernel
theorem dX4_behindWaiting_20 : decode cX4_behindWaiting 20 = .ok (.iload_n 1, 1) := by decide +kernel
theorem dX4_behindWaiting_21 : decode cX4_behindWaiting 21 = .ok (.iload_n 2, 1) := by decide +kernel
theorem dX4_behindWaiting_22 : decode cX4_behindWaiting 22 = .ok (.invokevirtual 89, 3) := by decide +kernel
theorem dX4_behindWaiting_25 : decode cX4_behindWaiting 25 = .ok (.ireturn, 1) := by decide +kernel
theorem dX4_greatestIn_0 : decode cX4_greatestIn 0 = .ok (.aload_n 0, 1) := by decide +kernel
theorem dX4_greatestIn_1 : decode cX4_greatestIn 1 = .ok (.aload_n 0, 1) := by decide +kernel
theorem dX4_greatestIn_2 : decode cX4_greatestIn 2 = .ok (.iload_n 1, 1) := by decide +kernel
theorem dX4_greatestIn_3 : decode cX4_greatestIn 3 = .ok (.invokevirtual 92, 3) := by decide +kernel
theorem dX4_greatestIn_6 : decode cX4_greatestIn 6 = .ok (.iload_n 1, 1) := by decide +kernel
theorem dX4_greatestIn_7 : decode cX4_greatestIn 7 = .ok (.invokevirtual 89, 3) := by decide +kernel
theorem dX4_greatestIn_10 : decode cX4_greatestIn 10 = .ok (.ireturn, 1) := by decide +kernel
theorem dX4_lastIn_0 : decode cX4_lastIn 0 = .ok (.iconst 0, 1) := by decide +kernel
theorem dX4_lastIn_1 : decode cX4_lastIn 1 = .ok (.istore_n 2, 1) := by decide +kernel
theorem dX4_lastIn_2 : decode cX4_lastIn 2 = .ok (.iconst 1, 1) := by decide +kernel
theorem dX4_lastIn_3 : decode cX4_lastIn 3 = .ok (.istore_n 3, 1) := by decide +kernel
theorem dX4_lastIn_4 : decode cX4_lastIn 4 = .ok (.iload_n 3, 1) := by decide +kernel
theorem dX4_lastIn_5 : decode cX4_lastIn 5 = .ok (.aload_n 0, 1) := by decide +kernel
theorem dX4_lastIn_6 : decode cX4_lastIn 6 = .ok (.getfield 51, 3) := by decide +kernel
theorem dX4_lastIn_9 : decode cX4_lastIn 9 = .ok (.if_icmp .ge 26, 3) := by decide +kernel
theorem dX4_lastIn_12 : decode cX4_lastIn 12 = .ok (.aload_n 0, 1) := by decide +kernel
theorem dX4_lastIn_13 : decode cX4_lastIn 13 = .ok (.iload_n 3, 1) := by decide +kernel
theorem dX4_lastIn_14 : decode cX4_lastIn 14 = .ok (.iload_n 1, 1) := by decide +kernel
theorem dX4_lastIn_15 : decode cX4_lastIn 15 = .ok (.invokevirtual 89, 3) := by decide +kernel
theorem dX4_lastIn_18 : decode cX4_lastIn 18 = .ok (.aload_n 0, 1) := by decide +kernel
theorem dX4_lastIn_19 : decode cX4_lastIn 19 = .ok (.iload_n 2, 1) := by decide +kernel
theorem dX4_lastIn_20 : decode cX4_lastIn 20 = .ok (.iload_n 1, 1) := by decide +kernel
theorem dX4_lastIn_21 : decode cX4_lastIn 21 = .ok (.invokevirtual 89, 3) := by decide +kernel
theorem dX4_lastIn_24 : decode cX4_lastIn 24 = .ok (.if_icmp .le 5, 3) := by decide +kernel
theorem dX4_lastIn_27 : decode cX4_lastIn 27 = .ok (.iload_n 3, 1) := by decide +kernel
theorem dX4_lastIn_28 : decode cX4_lastIn 28 = .ok (.istore_n 2, 1) := by decide +kernel
theorem dX4_lastIn_29 : decode cX4_lastIn 29 = .ok (.iinc 3 1, 3) := by decide +kernel
theorem dX4_lastIn_32 : decode cX4_lastIn 32 = .ok (.goto (-28), 3) := by decide +kernel
theorem dX4_lastIn_35 : decode cX4_lastIn 35 = .ok (.iload_n 2, 1) := by decide +kernel
theorem dX4_lastIn_36 : decode cX4_lastIn 36 = .ok (.ireturn, 1) := by decide +kernel
theorem dX4_isAloneLast_0 : decode cX4_isAloneLast 0 = .ok (.iconst 0, 1) := by decide +kernel
theorem dX4_isAloneLast_1 : decode cX4_isAloneLast 1 = .ok (.istore_n 3, 1) := by decide +kernel
theorem dX4_isAloneLast_2 : decode cX4_isAloneLast 2 = .ok (.iload_n 3, 1) := by decide +kernel
theorem dX4_isAloneLast_3 : decode cX4_isAloneLast 3 = .ok (.aload_n 0, 1) := by decide +kernel
theorem dX4_isAloneLast_4 : decode cX4_isAloneLast 4 = .ok (.getfield 51, 3) := by decide +kernel
theorem dX4_isAloneLast_7 : decode cX4_isAloneLast 7 = .ok (.if_icmp .ge 31, 3) := by decide +kernel
theorem dX4_isAloneLast_10 : decode cX4_isAloneLast 10 = .ok (.iload_n 3, 1) := by decide +kernel
theorem dX4_isAloneLast_11 : decode cX4_isAloneLast 11 = .ok (.iload_n 1, 1) := by decide +kernel
theorem dX4_isAloneLast_12 : decode cX4_isAloneLast 12 = .ok (.if_icmp .eq 20, 3) := by decide +kernel
theorem dX4_isAloneLast_15 : decode cX4_isAloneLast 15 = .ok (.aload_n 0, 1) := by decide +kernel
theorem dX4_isAloneLast_16 : decode cX4_isAloneLast 16 = .ok (.iload_n 3, 1) := by decide +kernel
theorem dX4_isAloneLast_17 : decode cX4_isAloneLast 17 = .ok (.iload_n 2, 1) := by decide +kernel
theorem dX4_isAloneLast_18 : decode cX4_isAloneLast 18 = .ok (.invokevirtual 89, 3) := by decide +kernel
theorem dX4_isAloneLast_21 : decode cX4_isAloneLast 21 = .ok (.aload_n 0, 1) := by decide +kernel
theorem dX4_isAloneLast_22 : decode cX4_isAloneLast 22 = .ok (.iload_n 1, 1) := by decide +kernel
theorem dX4_isAloneLast_23 : decode cX4_isAloneLast 23 = .ok (.iload_n 2, 1) := by decide +kernel
theorem dX4_isAloneLast_24 : decode cX4_isAloneLast 24 = .ok (.invokevirtual 89, 3) := by decide +kernel
theorem dX4_isAloneLast_27 : decode cX4_isAloneLast 27 = .ok (.if_icmp .lt 5, 3) := by decide +kernel
theorem dX4_isAloneLast_30 : decode cX4_isAloneLast 30 = .ok (.iconst 0, 1) := by decide +kernel
theorem dX4_isAloneLast_31 : decode cX4_isAloneLast 31 = .ok (.ireturn, 1) := by decide +kernel
theorem dX4_isAloneLast_32 : decode cX4_isAloneLast 32 = .ok (.iinc 3 1, 3) := by decide +kernel
theorem dX4_isAloneLast_35 : decode cX4_isAloneLast 35 = .ok (.goto (-33), 3) := by decide +kernel
theorem dX4_isAloneLast_38 : decode cX4_isAloneLast 38 = .ok (.iconst 1, 1) := by decide +kernel
theorem dX4_isAloneLast_39 : decode cX4_isAloneLast 39 = .ok (.ireturn, 1) := by decide +kernel
theorem dX4_firstSpreadAbove_0 : decode cX4_firstSpreadAbove 0 = .ok (.iconst 0, 1) := by decide +kernel
theorem dX4_firstSpreadAbove_1 : decode cX4_firstSpreadAbove 1 = .ok (.istore_n 2, 1) := by decide +kernel
theorem dX4_firstSpreadAbove_2 : decode cX4_firstSpreadAbove 2 = .ok (.iload_n 2, 1) := by decide +kernel
theorem dX4_firstSpreadAbove_3 : decode cX4_firstSpreadAbove 3 = .ok (.aload_n 0, 1) := by decide +kernel
theorem dX4_firstSpreadAbove_4 : decode cX4_firstSpreadAbove 4 = .ok (.getfield 28, 3) := by decide +kernel
theorem dX4_firstSpreadAbove_7 : decode cX4_firstSpreadAbove 7 = .ok (.if_icmp .ge 27, 3) := by decide +kernel
theorem dX4_firstSpreadAbove_10 : decode cX4_firstSpreadAbove 10 = .ok (.iload_n 2, 1) := by decide +kernel
theorem dX4_firstSpreadAbove_11 : decode cX4_firstSpreadAbove 11 = .ok (.bipush 30, 2) := by decide +kernel
theorem dX4_firstSpreadAbove_13 : decode cX4_firstSpreadAbove 13 = .ok (.if_icmp .ge 21, 3) := by decide +kernel
theorem dX4_firstSpreadAbove_16 : decode cX4_firstSpreadAbove 16 = .ok (.aload_n 0, 1) := by decide +kernel
theorem dX4_firstSpreadAbove_17 : decode cX4_firstSpreadAbove 17 = .ok (.getfield 21, 3) := by decide +kernel
theorem dX4_firstSpreadAbove_20 : decode cX4_firstSpreadAbove 20 = .ok (.iload_n 2, 1) := by decide +kernel
theorem dX4_firstSpreadAbove_21 : decode cX4_firstSpreadAbove 21 = .ok (.iaload, 1) := by decide +kernel
theorem dX4_firstSpreadAbove_22 : decode cX4_firstSpreadAbove 22 = .ok (.iload_n 1, 1) := by decide +kernel
theorem dX4_firstSpreadAbove_23 : decode cX4_firstSpreadAbove 23 = .ok (.if_icmp .le 5, 3) := by decide +kernel
theorem dX4_firstSpreadAbove_26 : decode cX4_firstSpreadAbove 26 = .ok (.iload_n 2, 1) := by decide +kernel
theorem dX4_firstSpreadAbove_27 : decode cX4_firstSpreadAbove 27 = .ok (.ireturn, 1) := by decide +kernel
theorem dX4_firstSpreadAbove_28 : decode cX4_firstSpreadAbove 28 = .ok (.iinc 2 1, 3) := by decide +kernel
theorem dX4_firstSpreadAbove_31 : decode cX4_firstSpreadAbove 31 = .ok (.goto (-29), 3) := by decide +kernel
theorem dX4_firstSpreadAbove_34 : decode cX4_firstSpreadAbove 34 = .ok (.iconst (-1), 1) := by decide +kernel
theorem dX4_firstSpreadAbove_35 : decode cX4_firstSpreadAbove 35 = .ok (.ireturn, 1) := by decide +kernel
theorem dX4_inPlace_0 : decode cX4_inPlace 0 = .ok (.iconst 0, 1) := by decide +kernel
theorem dX4_inPlace_1 : decode cX4_inPlace 1 = .ok (.istore_n 3, 1) := by decide +kernel
theorem dX4_inPlace_2 : decode cX4_inPlace 2 = .ok (.iload_n 3, 1) := by decide +kernel
theorem dX4_inPlace_3 : decode cX4_inPlace 3 = .ok (.aload_n 0, 1) := by decide +kernel
theorem dX4_inPlace_4 : decode cX4_inPlace 4 = .ok (.getfield 51, 3) := by decide +kernel
theorem dX4_inPlace_7 : decode cX4_inPlace 7 = .ok (.if_icmp .ge 21, 3) := by decide +kernel
theorem dX4_inPlace_10 : decode cX4_inPlace 10 = .ok (.aload_n 0, 1) := by decide +kernel
theorem dX4_inPlace_11 : decode cX4_inPlace 11 = .ok (.iload_n 1, 1) := by decide +kernel
theorem dX4_inPlace_12 : decode cX4_inPlace 12 = .ok (.iload_n 3, 1) := by decide +kernel
theorem dX4_inPlace_13 : decode cX4_inPlace 13 = .ok (.invokevirtual 95, 3) := by decide +kernel
theorem dX4_inPlace_16 : decode cX4_inPlace 16 = .ok (.iload_n 2, 1) := by decide +kernel
theorem dX4_inPlace_17 : decode cX4_inPlace 17 = .ok (.if_icmp .ne 5, 3) := by decide +kernel
theorem dX4_inPlace_20 : decode cX4_inPlace 20 = .ok (.iload_n 3, 1) := by decide +kernel
theorem dX4_inPlace_21 : decode cX4_inPlace 21 = .ok (.ireturn, 1) := by decide +kernel
theorem dX4_inPlace_22 : decode cX4_inPlace 22 = .ok (.iinc 3 1, 3) := by decide +kernel
theorem dX4_inPlace_25 : decode cX4_inPlace 25 = .ok (.goto (-23), 3) := by decide +kernel
theorem dX4_inPlace_28 : decode cX4_inPlace 28 = .ok (.iconst (-1), 1) := by decide +kernel
theorem dX4_inPlace_29 : decode cX4_inPlace 29 = .ok (.ireturn, 1) := by decide +kernel
theorem dX4_placeOf_0 : decode cX4_placeOf 0 = .ok (.aload_n 0, 1) := by decide +kernel
theorem dX4_placeOf_1 : decode cX4_placeOf 1 = .ok (.iload_n 2, 1) := by decide +kernel
theorem dX4_placeOf_2 : decode cX4_placeOf 2 = .ok (.iload_n 1, 1) := by decide +kernel
theorem dX4_placeOf_3 : decode cX4_placeOf 3 = .ok (.invokevirtual 89, 3) := by decide +kernel
theorem dX4_placeOf_6 : decode cX4_placeOf 6 = .ok (.istore_n 3, 1) := by decide +kernel
theorem dX4_placeOf_7 : decode cX4_placeOf 7 = .ok (.iconst 0, 1) := by decide +kernel
theorem dX4_placeOf_8 : decode cX4_placeOf 8 = .ok (.istore 4, 2) := by decide +kernel
theorem dX4_placeOf_10 : decode cX4_placeOf 10 = .ok (.iconst 0, 1) := by decide +kernel
theorem dX4_placeOf_11 : decode cX4_placeOf 11 = .ok (.istore 5, 2) := by decide +kernel
theorem dX4_placeOf_13 : decode cX4_placeOf 13 = .ok (.iload 5, 2) := by decide +kernel
theorem dX4_placeOf_15 : decode cX4_placeOf 15 = .ok (.aload_n 0, 1) := by decide +kernel
theorem dX4_placeOf_16 : decode cX4_placeOf 16 = .ok (.getfield 51, 3) := by decide +kernel
theorem dX4_placeOf_19 : decode cX4_placeOf 19 = .ok (.if_icmp .ge 39, 3) := by decide +kernel
theorem dX4_placeOf_22 : decode cX4_placeOf 22 = .ok (.aload_n 0, 1) := by decide +kernel
theorem dX4_placeOf_23 : decode cX4_placeOf 23 = .ok (.iload 5, 2) := by decide +kernel
theorem dX4_placeOf_25 : decode cX4_placeOf 25 = .ok (.iload_n 1, 1) := by decide +kernel
theorem dX4_placeOf_26 : decode cX4_placeOf 26 = .ok (.invokevirtual 89, 3) := by decide +kernel
theorem dX4_placeOf_29 : decode cX4_placeOf 29 = .ok (.istore 6, 2) := by decide +kernel
theorem dX4_placeOf_31 : decode cX4_placeOf 31 = .ok (.iload 6, 2) := by decide +kernel
theorem dX4_placeOf_33 : decode cX4_placeOf 33 = .ok (.iload_n 3, 1) := by decide +kernel
theorem dX4_placeOf_34 : decode cX4_placeOf 34 = .ok (.if_icmp .lt 15, 3) := by decide +kernel
theorem dX4_placeOf_37 : decode cX4_placeOf 37 = .ok (.iload 6, 2) := by decide +kernel
theorem dX4_placeOf_39 : decode cX4_placeOf 39 = .ok (.iload_n 3, 1) := by decide +kernel
theorem dX4_placeOf_40 : decode cX4_placeOf 40 = .ok (.if_icmp .ne 12, 3) := by decide +kernel
theorem dX4_placeOf_43 : decode cX4_placeOf 43 = .ok (.iload 5, 2) := by decide +kernel
theorem dX4_placeOf_45 : decode cX4_placeOf 45 = .ok (.iload_n 2, 1) := by decide +kernel
theorem dX4_placeOf_46 : decode cX4_placeOf 46 = .ok (.if_icmp .ge 6, 3) := by decide +kernel
theorem dX4_placeOf_49 : decode cX4_placeOf 49 = .ok (.iinc 4 1, 3) := by decide +kernel
theorem dX4_placeOf_52 : decode cX4_placeOf 52 = .ok (.iinc 5 1, 3) := by decide +kernel
theorem dX4_placeOf_55 : decode cX4_placeOf 55 = .ok (.goto (-42), 3) := by decide +kernel
theorem dX4_placeOf_58 : decode cX4_placeOf 58 = .ok (.iload 4, 2) := by decide +kernel
theorem dX4_placeOf_60 : decode cX4_placeOf 60 = .ok (.ireturn, 1) := by decide +kernel
theorem dX4_turns_0 : decode cX4_turns 0 = .ok (.iconst 0, 1) := by decide +kernel
theorem dX4_turns_1 : decode cX4_turns 1 = .ok (.istore_n 3, 1) := by decide +kernel
theorem dX4_turns_2 : decode cX4_turns 2 = .ok (.aload_n 0, 1) := by decide +kernel
theorem dX4_turns_3 : decode cX4_turns 3 = .ok (.iload_n 1, 1) := by decide +kernel
theorem dX4_turns_4 : decode cX4_turns 4 = .ok (.iload_n 2, 1) := by decide +kernel
theorem dX4_turns_5 : decode cX4_turns 5 = .ok (.iconst 0, 1) := by decide +kernel
theorem dX4_turns_6 : decode cX4_turns 6 = .ok (.invokevirtual 98, 3) := by decide +kernel
theorem dX4_turns_9 : decode cX4_turns 9 = .ok (.istore 4, 2) := by decide +kernel
theorem dX4_turns_11 : decode cX4_turns 11 = .ok (.iconst 1, 1) := by decide +kernel
theorem dX4_turns_12 : decode cX4_turns 12 = .ok (.istore 5, 2) := by decide +kernel
theorem dX4_turns_14 : decode cX4_turns 14 = .ok (.iload 5, 2) := by decide +kernel
theorem dX4_turns_16 : decode cX4_turns 16 = .ok (.aload_n 0, 1) := by decide +kernel
theorem dX4_turns_17 : decode cX4_turns 17 = .ok (.getfield 28, 3) := by decide +kernel
theorem dX4_turns_20 : decode cX4_turns 20 = .ok (.if_icmp .ge 45, 3) := by decide +kernel
theorem dX4_turns_23 : decode cX4_turns 23 = .ok (.iload 5, 2) := by decide +kernel
theorem dX4_turns_25 : decode cX4_turns 25 = .ok (.bipush 30, 2) := by decide +kernel
theorem dX4_turns_27 : decode cX4_turns 27 = .ok (.if_icmp .ge 38, 3) := by decide +kernel
theorem dX4_turns_30 : decode cX4_turns 30 = .ok (.aload_n 0, 1) := by decide +kernel
theorem dX4_turns_31 : decode cX4_turns 31 = .ok (.iload_n 1, 1) := by decide +kernel
theorem dX4_turns_32 : decode cX4_turns 32 = .ok (.iload_n 2, 1) := by decide +kernel
theorem dX4_turns_33 : decode cX4_turns 33 = .ok (.iload 5, 2) := by decide +kernel
theorem dX4_turns_35 : decode cX4_turns 35 = .ok (.invokevirtual 98, 3) := by decide +kernel
theorem dX4_turns_38 : decode cX4_turns 38 = .ok (.istore 6, 2) := by decide +kernel
theorem dX4_turns_40 : decode cX4_turns 40 = .ok (.iload 6, 2) := by decide +kernel
theorem dX4_turns_42 : decode cX4_turns 42 = .ok (.ifCond .eq 13, 3) := by decide +kernel
theorem dX4_turns_45 : decode cX4_turns 45 = .ok (.iload 6, 2) := by decide +kernel
theorem dX4_turns_47 : decode cX4_turns 47 = .ok (.iload 4, 2) := by decide +kernel
theorem dX4_turns_49 : decode cX4_turns 49 = .ok (.if_icmp .eq 6, 3) := by decide +kernel
theorem dX4_turns_52 : decode cX4_turns 52 = .ok (.iinc 3 1, 3) := by decide +kernel
theorem dX4_turns_55 : decode cX4_turns 55 = .ok (.iload 6, 2) := by decide +kernel
theorem dX4_turns_57 : decode cX4_turns 57 = .ok (.istore 4, 2) := by decide +kernel
theorem dX4_turns_59 : decode cX4_turns 59 = .ok (.iinc 5 1, 3) := by decide +kernel
theorem dX4_turns_62 : decode cX4_turns 62 = .ok (.goto (-48), 3) := by decide +kernel
theorem dX4_turns_65 : decode cX4_turns 65 = .ok (.iload_n 3, 1) := by decide +kernel
theorem dX4_turns_66 : decode cX4_turns 66 = .ok (.ireturn, 1) := by decide +kernel
theorem dX4_order_0 : decode cX4_order 0 = .ok (.aload_n 0, 1) := by decide +kernel
theorem dX4_order_1 : decode cX4_order 1 = .ok (.iload_n 1, 1) := by decide +kernel
theorem dX4_order_2 : decode cX4_order 2 = .ok (.iload_n 3, 1) := by decide +kernel
theorem dX4_order_3 : decode cX4_order 3 = .ok (.invokevirtual 89, 3) := by decide +kernel
theorem dX4_order_6 : decode cX4_order 6 = .ok (.aload_n 0, 1) := by decide +kernel
theorem dX4_order_7 : decode cX4_order 7 = .ok (.iload_n 2, 1) := by decide +kernel
theorem dX4_order_8 : decode cX4_order 8 = .ok (.iload_n 3, 1) := by decide +kernel
theorem dX4_order_9 : decode cX4_order 9 = .ok (.invokevirtual 89, 3) := by decide +kernel
theorem dX4_order_12 : decode cX4_order 12 = .ok (.invokestatic 101, 3) := by decide +kernel
theorem dX4_order_15 : decode cX4_order 15 = .ok (.ireturn, 1) := by decide +kernel
theorem dX4_innermost_0 : decode cX4_innermost 0 = .ok (.iconst 0, 1) := by decide +kernel
theorem dX4_innermost_1 : decode cX4_innermost 1 = .ok (.istore_n 1, 1) := by decide +kernel
theorem dX4_innermost_2 : decode cX4_innermost 2 = .ok (.ldc 71, 2) := by decide +kernel
theorem dX4_innermost_4 : decode cX4_innermost 4 = .ok (.istore_n 2, 1) := by decide +kernel
theorem dX4_innermost_5 : decode cX4_innermost 5 = .ok (.iconst 0, 1) := by decide +kernel
theorem dX4_innermost_6 : decode cX4_innermost 6 = .ok (.istore_n 3, 1) := by decide +kernel
theorem dX4_innermost_7 : decode cX4_innermost 7 = .ok (.iload_n 3, 1) := by decide +kernel
theorem dX4_innermost_8 : decode cX4_innermost 8 = .ok (.aload_n 0, 1) := by decide +kernel
theorem dX4_innermost_9 : decode cX4_innermost 9 = .ok (.getfield 51, 3) := by decide +kernel
theorem dX4_innermost_12 : decode cX4_innermost 12 = .ok (.if_icmp .ge 33, 3) := by decide +kernel
theorem dX4_innermost_15 : decode cX4_innermost 15 = .ok (.aload_n 0, 1) := by decide +kernel
theorem dX4_innermost_16 : decode cX4_innermost 16 = .ok (.iload_n 3, 1) := by decide +kernel
theorem dX4_innermost_17 : decode cX4_innermost 17 = .ok (.aload_n 0, 1) := by decide +kernel
theorem dX4_innermost_18 : decode cX4_innermost 18 = .ok (.getfield 28, 3) := by decide +kernel
theorem dX4_innermost_21 : decode cX4_innermost 21 = .ok (.iconst 1, 1) := by decide +kernel
theorem dX4_innermost_22 : decode cX4_innermost 22 = .ok (.isub, 1) := by decide +kernel
theorem dX4_innermost_23 : decode cX4_innermost 23 = .ok (.invokevirtual 106, 3) := by decide +kernel
theorem dX4_innermost_26 : decode cX4_innermost 26 = .ok (.istore 4, 2) := by decide +kernel
theorem dX4_innermost_28 : decode cX4_innermost 28 = .ok (.iload 4, 2) := by decide +kernel
theorem dX4_innermost_30 : decode cX4_innermost 30 = .ok (.iload_n 2, 1) := by decide +kernel
theorem dX4_innermost_31 : decode cX4_innermost 31 = .ok (.if_icmp .ge 8, 3) := by decide +kernel
theorem dX4_innermost_34 : decode cX4_innermost 34 = .ok (.iload 4, 2) := by decide +kernel
theorem dX4_innermost_36 : decode cX4_innermost 36 = .ok (.istore_n 2, 1) := by decide +kernel
theorem dX4_innermost_37 : decode cX4_innermost 37 = .ok (.iload_n 3, 1) := by decide +kernel
theorem dX4_innermost_38 : decode cX4_innermost 38 = .ok (.istore_n 1, 1) := by decide +kernel
theorem dX4_innermost_39 : decode cX4_innermost 39 = .ok (.iinc 3 1, 3) := by decide +kernel
theorem dX4_innermost_42 : decode cX4_innermost 42 = .ok (.goto (-35), 3) := by decide +kernel
theorem dX4_innermost_45 : decode cX4_innermost 45 = .ok (.iload_n 1, 1) := by decide +kernel
theorem dX4_innermost_46 : decode cX4_innermost 46 = .ok (.ireturn, 1) := by decide +kernel
theorem dX4_apartFromAll_0 : decode cX4_apartFromAll 0 = .ok (.iconst 0, 1) := by decide +kernel
theorem dX4_apartFromAll_1 : decode cX4_apartFromAll 1 = .ok (.istore_n 3, 1) := by decide +kernel
theorem dX4_apartFromAll_2 : decode cX4_apartFromAll 2 = .ok (.iconst 0, 1) := by decide +kernel
theorem dX4_apartFromAll_3 : decode cX4_apartFromAll 3 = .ok (.istore 4, 2) := by decide +kernel
theorem dX4_apartFromAll_5 : decode cX4_apartFromAll 5 = .ok (.iload 4, 2) := by decide +kernel
theorem dX4_apartFromAll_7 : decode cX4_apartFromAll 7 = .ok (.aload_n 0, 1) := by decide +kernel
theorem dX4_apartFromAll_8 : decode cX4_apartFromAll 8 = .ok (.getfield 51, 3) := by decide +kernel
theorem dX4_apartFromAll_11 : decode cX4_apartFromAll 11 = .ok (.if_icmp .ge 29, 3) := by decide +kernel
theorem dX4_apartFromAll_14 : decode cX4_apartFromAll 14 = .ok (.iload_n 3, 1) := by decide +kernel
theorem dX4_apartFromAll_15 : decode cX4_apartFromAll 15 = .ok (.aload_n 0, 1) := by decide +kernel
theorem dX4_apartFromAll_16 : decode cX4_apartFromAll 16 = .ok (.iload 4, 2) := by decide +kernel
theorem dX4_apartFromAll_18 : decode cX4_apartFromAll 18 = .ok (.iload_n 2, 1) := by decide +kernel
theorem dX4_apartFromAll_19 : decode cX4_apartFromAll 19 = .ok (.invokevirtual 89, 3) := by decide +kernel
theorem dX4_apartFromAll_22 : decode cX4_apartFromAll 22 = .ok (.aload_n 0, 1) := by decide +kernel
theorem dX4_apartFromAll_23 : decode cX4_apartFromAll 23 = .ok (.iload_n 1, 1) := by decide +kernel
theorem dX4_apartFromAll_24 : decode cX4_apartFromAll 24 = .ok (.iload_n 2, 1) := by decide +kernel
theorem dX4_apartFromAll_25 : decode cX4_apartFromAll 25 = .ok (.invokevirtual 89, 3) := by decide +kernel
theorem dX4_apartFromAll_28 : decode cX4_apartFromAll 28 = .ok (.isub, 1) := by decide +kernel
theorem dX4_apartFromAll_29 : decode cX4_apartFromAll 29 = .ok (.invokestatic 109, 3) := by decide +kernel
theorem dX4_apartFromAll_32 : decode cX4_apartFromAll 32 = .ok (.iadd, 1) := by decide +kernel
theorem dX4_apartFromAll_33 : decode cX4_apartFromAll 33 = .ok (.istore_n 3, 1) := by decide +kernel
theorem dX4_apartFromAll_34 : decode cX4_apartFromAll 34 = .ok (.iinc 4 1, 3) := by decide +kernel
theorem dX4_apartFromAll_37 : decode cX4_apartFromAll 37 = .ok (.goto (-32), 3) := by decide +kernel
theorem dX4_apartFromAll_40 : decode cX4_apartFromAll 40 = .ok (.iload_n 3, 1) := by decide +kernel
theorem dX4_apartFromAll_41 : decode cX4_apartFromAll 41 = .ok (.ireturn, 1) := by decide +kernel
theorem dX4_firstChange_0 : decode cX4_firstChange 0 = .ok (.iconst 1, 1) := by decide +kernel
theorem dX4_firstChange_1 : decode cX4_firstChange 1 = .ok (.istore_n 3, 1) := by decide +kernel
theorem dX4_firstChange_2 : decode cX4_firstChange 2 = .ok (.iload_n 3, 1) := by decide +kernel
theorem dX4_firstChange_3 : decode cX4_firstChange 3 = .ok (.aload_n 0, 1) := by decide +kernel
theorem dX4_firstChange_4 : decode cX4_firstChange 4 = .ok (.getfield 28, 3) := by decide +kernel
theorem dX4_firstChange_7 : decode cX4_firstChange 7 = .ok (.if_icmp .ge 39, 3) := by decide +kernel
theorem dX4_firstChange_10 : decode cX4_firstChange 10 = .ok (.iload_n 3, 1) := by decide +kernel
theorem dX4_firstChange_11 : decode cX4_firstChange 11 = .ok (.bipush 30, 2) := by decide +kernel
theorem dX4_firstChange_13 : decode cX4_firstChange 13 = .ok (.if_icmp .ge 33, 3) := by decide +kernel
theorem dX4_firstChange_16 : decode cX4_firstChange 16 = .ok (.aload_n 0, 1) := by decide +kernel
theorem dX4_firstChange_17 : decode cX4_firstChange 17 = .ok (.iload_n 1, 1) := by decide +kernel
theorem dX4_firstChange_18 : decode cX4_firstChange 18 = .ok (.iload_n 3, 1) := by decide +kernel
theorem dX4_firstChange_19 : decode cX4_firstChange 19 = .ok (.invokevirtual 112, 3) := by decide +kernel
theorem dX4_firstChange_22 : decode cX4_firstChange 22 = .ok (.aload_n 0, 1) := by decide +kernel
theorem dX4_firstChange_23 : decode cX4_firstChange 23 = .ok (.iload_n 1, 1) := by decide +kernel
theorem dX4_firstChange_24 : decode cX4_firstChange 24 = .ok (.iload_n 3, 1) := by decide +kernel
theorem dX4_firstChange_25 : decode cX4_firstChange 25 = .ok (.iconst 1, 1) := by decide +kernel
theorem dX4_firstChange_26 : decode cX4_firstChange 26 = .ok (.isub, 1) := by decide +kernel
theorem dX4_firstChange_27 : decode cX4_firstChange 27 = .ok (.invokevirtual 112, 3) := by decide +kernel
theorem dX4_firstChange_30 : decode cX4_firstChange 30 = .ok (.isub, 1) := by decide +kernel
theorem dX4_firstChange_31 : decode cX4_firstChange 31 = .ok (.invokestatic 109, 3) := by decide +kernel
theorem dX4_firstChange_34 : decode cX4_firstChange 34 = .ok (.iload_n 2, 1) := by decide +kernel
theorem dX4_firstChange_35 : decode cX4_firstChange 35 = .ok (.if_icmp .lt 5, 3) := by decide +kernel
theorem dX4_firstChange_38 : decode cX4_firstChange 38 = .ok (.iload_n 3, 1) := by decide +kernel
theorem dX4_firstChange_39 : decode cX4_firstChange 39 = .ok (.ireturn, 1) := by decide +kernel
theorem dX4_firstChange_40 : decode cX4_firstChange 40 = .ok (.iinc 3 1, 3) := by decide +kernel
theorem dX4_firstChange_43 : decode cX4_firstChange 43 = .ok (.goto (-41), 3) := by decide +kernel
theorem dX4_firstChange_46 : decode cX4_firstChange 46 = .ok (.iconst (-1), 1) := by decide +kernel
theorem dX4_firstChange_47 : decode cX4_firstChange 47 = .ok (.ireturn, 1) := by decide +kernel
theorem dX4_settles_0 : decode cX4_settles 0 = .ok (.aload_n 0, 1) := by decide +kernel
theorem dX4_settles_1 : decode cX4_settles 1 = .ok (.aload_n 1, 1) := by decide +kernel
theorem dX4_settles_2 : decode cX4_settles 2 = .ok (.invokevirtual 24, 3) := by decide +kernel
theorem dX4_settles_5 : decode cX4_settles 5 = .ok (.iconst 1, 1) := by decide +kernel
theorem dX4_settles_6 : decode cX4_settles 6 = .ok (.istore_n 2, 1) := by decide +kernel
theorem dX4_settles_7 : decode cX4_settles 7 = .ok (.iload_n 2, 1) := by decide +kernel
theorem dX4_settles_8 : decode cX4_settles 8 = .ok (.sipush 200, 3) := by decide +kernel
theorem dX4_settles_11 : decode cX4_settles 11 = .ok (.if_icmp .gt 51, 3) := by decide +kernel
theorem dX4_settles_14 : decode cX4_settles 14 = .ok (.aload_n 0, 1) := by decide +kernel
theorem dX4_settles_15 : decode cX4_settles 15 = .ok (.aload_n 1, 1) := by decide +kernel
theorem dX4_settles_16 : decode cX4_settles 16 = .ok (.iload_n 2, 1) := by decide +kernel
theorem dX4_settles_17 : decode cX4_settles 17 = .ok (.invokevirtual 32, 3) := by decide +kernel
theorem dX4_settles_20 : decode cX4_settles 20 = .ok (.iconst 0, 1) := by decide +kernel
theorem dX4_settles_21 : decode cX4_settles 21 = .ok (.istore_n 3, 1) := by decide +kernel
theorem dX4_settles_22 : decode cX4_settles 22 = .ok (.iload_n 3, 1) := by decide +kernel
theorem dX4_settles_23 : decode cX4_settles 23 = .ok (.iload_n 2, 1) := by decide +kernel
theorem dX4_settles_24 : decode cX4_settles 24 = .ok (.if_icmp .ge 32, 3) := by decide +kernel
theorem dX4_settles_27 : decode cX4_settles 27 = .ok (.aload_n 0, 1) := by decide +kernel
theorem dX4_settles_28 : decode cX4_settles 28 = .ok (.iload_n 2, 1) := by decide +kernel
theorem dX4_settles_29 : decode cX4_settles 29 = .ok (.iload_n 3, 1) := by decide +kernel
theorem dX4_settles_30 : decode cX4_settles 30 = .ok (.invokevirtual 115, 3) := by decide +kernel
theorem dX4_settles_33 : decode cX4_settles 33 = .ok (.ifCond .eq 17, 3) := by decide +kernel
theorem dX4_settles_36 : decode cX4_settles 36 = .ok (.aload_n 0, 1) := by decide +kernel
theorem dX4_settles_37 : decode cX4_settles 37 = .ok (.iload_n 3, 1) := by decide +kernel
theorem dX4_settles_38 : decode cX4_settles 38 = .ok (.putfield 119, 3) := by decide +kernel
theorem dX4_settles_41 : decode cX4_settles 41 = .ok (.aload_n 0, 1) := by decide +kernel
theorem dX4_settles_42 : decode cX4_settles 42 = .ok (.iload_n 2, 1) := by decide +kernel
theorem dX4_settles_43 : decode cX4_settles 43 = .ok (.iload_n 3, 1) := by decide +kernel
theorem dX4_settles_44 : decode cX4_settles 44 = .ok (.isub, 1) := by decide +kernel
theorem dX4_settles_45 : decode cX4_settles 45 = .ok (.putfield 122, 3) := by decide +kernel
theorem dX4_settles_48 : decode cX4_settles 48 = .ok (.iconst 1, 1) := by decide +kernel
theorem dX4_settles_49 : decode cX4_settles 49 = .ok (.ireturn, 1) := by decide +kernel
theorem dX4_settles_50 : decode cX4_settles 50 = .ok (.iinc 3 1, 3) := by decide +kernel
theorem dX4_settles_53 : decode cX4_settles 53 = .ok (.goto (-31), 3) := by decide +kernel
theorem dX4_settles_56 : decode cX4_settles 56 = .ok (.iinc 2 1, 3) := by decide +kernel
theorem dX4_settles_59 : decode cX4_settles 59 = .ok (.goto (-52), 3) := by decide +kernel
theorem dX4_settles_62 : decode cX4_settles 62 = .ok (.iconst 0, 1) := by decide +kernel
theorem dX4_settles_63 : decode cX4_settles 63 = .ok (.ireturn, 1) := by decide +kernel
theorem dX4_soundsLike_0 : decode cX4_soundsLike 0 = .ok (.iconst 0, 1) := by decide +kernel
theorem dX4_soundsLike_1 : decode cX4_soundsLike 1 = .ok (.istore_n 3, 1) := by decide +kernel
theorem dX4_soundsLike_2 : decode cX4_soundsLike 2 = .ok (.iload_n 3, 1) := by decide +kernel
theorem dX4_soundsLike_3 : decode cX4_soundsLike 3 = .ok (.iconst 3, 1) := by decide +kernel
theorem dX4_soundsLike_4 : decode cX4_soundsLike 4 = .ok (.if_icmp .gt 76, 3) := by decide +kernel
theorem dX4_soundsLike_7 : decode cX4_soundsLike 7 = .ok (.iload_n 1, 1) := by decide +kernel
theorem dX4_soundsLike_8 : decode cX4_soundsLike 8 = .ok (.iload_n 3, 1) := by decide +kernel
theorem dX4_soundsLike_9 : decode cX4_soundsLike 9 = .ok (.isub, 1) := by decide +kernel
theorem dX4_soundsLike_10 : decode cX4_soundsLike 10 = .ok (.iconst 0, 1) := by decide +kernel
theorem dX4_soundsLike_11 : decode cX4_soundsLike 11 = .ok (.invokestatic 40, 3) := by decide +kernel
theorem dX4_soundsLike_14 : decode cX4_soundsLike 14 = .ok (.bipush 6, 2) := by decide +kernel
theorem dX4_soundsLike_16 : decode cX4_soundsLike 16 = .ok (.imul, 1) := by decide +kernel
theorem dX4_soundsLike_17 : decode cX4_soundsLike 17 = .ok (.istore 4, 2) := by decide +kernel
theorem dX4_soundsLike_19 : decode cX4_soundsLike 19 = .ok (.iload_n 2, 1) := by decide +kernel
theorem dX4_soundsLike_20 : decode cX4_soundsLike 20 = .ok (.iload_n 3, 1) := by decide +kernel
theorem dX4_soundsLike_21 : decode cX4_soundsLike 21 = .ok (.isub, 1) := by decide +kernel
theorem dX4_soundsLike_22 : decode cX4_soundsLike 22 = .ok (.iconst 0, 1) := by decide +kernel
theorem dX4_soundsLike_23 : decode cX4_soundsLike 23 = .ok (.invokestatic 40, 3) := by decide +kernel
theorem dX4_soundsLike_26 : decode cX4_soundsLike 26 = .ok (.bipush 6, 2) := by decide +kernel
theorem dX4_soundsLike_28 : decode cX4_soundsLike 28 = .ok (.imul, 1) := by decide +kernel
theorem dX4_soundsLike_29 : decode cX4_soundsLike 29 = .ok (.istore 5, 2) := by decide +kernel
theorem dX4_soundsLike_31 : decode cX4_soundsLike 31 = .ok (.iconst 0, 1) := by decide +kernel
theorem dX4_soundsLike_32 : decode cX4_soundsLike 32 = .ok (.istore 6, 2) := by decide +kernel
theorem dX4_soundsLike_34 : decode cX4_soundsLike 34 = .ok (.iload 6, 2) := by decide +kernel
theorem dX4_soundsLike_36 : decode cX4_soundsLike 36 = .ok (.aload_n 0, 1) := by decide +kernel
theorem dX4_soundsLike_37 : decode cX4_soundsLike 37 = .ok (.getfield 51, 3) := by decide +kernel
theorem dX4_soundsLike_40 : decode cX4_soundsLike 40 = .ok (.if_icmp .ge 34, 3) := by decide +kernel
theorem dX4_soundsLike_43 : decode cX4_soundsLike 43 = .ok (.aload_n 0, 1) := by decide +kernel
theorem dX4_soundsLike_44 : decode cX4_soundsLike 44 = .ok (.getfield 11, 3) := by decide +kernel
theorem dX4_soundsLike_47 : decode cX4_soundsLike 47 = .ok (.iload 4, 2) := by decide +kernel
theorem dX4_soundsLike_49 : decode cX4_soundsLike 49 = .ok (.iload 6, 2) := by decide +kernel
theorem dX4_soundsLike_51 : decode cX4_soundsLike 51 = .ok (.iadd, 1) := by decide +kernel
theorem dX4_soundsLike_52 : decode cX4_soundsLike 52 = .ok (.iaload, 1) := by decide +kernel
theorem dX4_soundsLike_53 : decode cX4_soundsLike 53 = .ok (.aload_n 0, 1) := by decide +kernel
theorem dX4_soundsLike_54 : decode cX4_soundsLike 54 = .ok (.getfield 11, 3) := by decide +kernel
theorem dX4_soundsLike_57 : decode cX4_soundsLike 57 = .ok (.iload 5, 2) := by decide +kernel
theorem dX4_soundsLike_59 : decode cX4_soundsLike 59 = .ok (.iload 6, 2) := by decide +kernel
theorem dX4_soundsLike_61 : decode cX4_soundsLike 61 = .ok (.iadd, 1) := by decide +kernel
theorem dX4_soundsLike_62 : decode cX4_soundsLike 62 = .ok (.iaload, 1) := by decide +kernel
theorem dX4_soundsLike_63 : decode cX4_soundsLike 63 = .ok (.if_icmp .eq 5, 3) := by decide +kernel
theorem dX4_soundsLike_66 : decode cX4_soundsLike 66 = .ok (.iconst 0, 1) := by decide +kernel
theorem dX4_soundsLike_67 : decode cX4_soundsLike 67 = .ok (.ireturn, 1) := by decide +kernel
theorem dX4_soundsLike_68 : decode cX4_soundsLike 68 = .ok (.iinc 6 1, 3) := by decide +kernel
theorem dX4_soundsLike_71 : decode cX4_soundsLike 71 = .ok (.goto (-37), 3) := by decide +kernel
theorem dX4_soundsLike_74 : decode cX4_soundsLike 74 = .ok (.iinc 3 1, 3) := by decide +kernel
theorem dX4_soundsLike_77 : decode cX4_soundsLike 77 = .ok (.goto (-75), 3) := by decide +kernel
theorem dX4_soundsLike_80 : decode cX4_soundsLike 80 = .ok (.iconst 1, 1) := by decide +kernel
theorem dX4_soundsLike_81 : decode cX4_soundsLike 81 = .ok (.ireturn, 1) := by decide +kernel
theorem dX5_init_0 : decode cX5_init 0 = .ok (.aload_n 0, 1) := by decide +kernel
theorem dX5_init_1 : decode cX5_init 1 = .ok (.invokespecial 3, 3) := by decide +kernel
theorem dX5_init_4 : decode cX5_init 4 = .ok (.aload_n 0, 1) := by decide +kernel
theorem dX5_init_5 : decode cX5_init 5 = .ok (.aload_n 1, 1) := by decide +kernel
theorem dX5_init_6 : decode cX5_init 6 = .ok (.putfield 9, 3) := by decide +kernel
theorem dX5_init_9 : decode cX5_init 9 = .ok (.return_, 1) := by decide +kernel
theorem dX5_read_0 : decode cX5_read 0 = .ok (.aload_n 0, 1) := by decide +kernel
theorem dX5_read_1 : decode cX5_read 1 = .ok (.iconst 0, 1) := by decide +kernel
theorem dX5_read_2 : decode cX5_read 2 = .ok (.putfield 15, 3) := by decide +kernel
theorem dX5_read_5 : decode cX5_read 5 = .ok (.aload_n 0, 1) := by decide +kernel
theorem dX5_read_6 : decode cX5_read 6 = .ok (.iconst (-1), 1) := by decide +kernel
theorem dX5_read_7 : decode cX5_read 7 = .ok (.putfield 19, 3) := by decide +kernel
theorem dX5_read_10 : decode cX5_read 10 = .ok (.aload_n 0, 1) := by decide +kernel
theorem dX5_read_11 : decode cX5_read 11 = .ok (.invokevirtual 22, 3) := by decide +kernel
theorem dX5_read_14 : decode cX5_read 14 = .ok (.iconst 1, 1) := by decide +kernel
theorem dX5_read_15 : decode cX5_read 15 = .ok (.istore_n 1, 1) := by decide +kernel
theorem dX5_read_16 : decode cX5_read 16 = .ok (.iconst 0, 1) := by decide +kernel
theorem dX5_read_17 : decode cX5_read 17 = .ok (.istore_n 2, 1) := by decide +kernel
theorem dX5_read_18 : decode cX5_read 18 = .ok (.iload_n 1, 1) := by decide +kernel
theorem dX5_read_19 : decode cX5_read 19 = .ok (.ifCond .eq 36, 3) := by decide +kernel
theorem dX5_read_22 : decode cX5_read 22 = .ok (.iload_n 2, 1) := by decide +kernel
theorem dX5_read_23 : decode cX5_read 23 = .ok (.sipush 160, 3) := by decide +kernel
theorem dX5_read_26 : decode cX5_read 26 = .ok (.if_icmp .gt 29, 3) := by decide +kernel
theorem dX5_read_29 : decode cX5_read 29 = .ok (.aload_n 0, 1) := by decide +kernel
theorem dX5_read_30 : decode cX5_read 30 = .ok (.invokevirtual 27, 3) := by decide +kernel
theorem dX5_read_33 : decode cX5_read 33 = .ok (.ifCond .eq 14, 3) := by decide +kernel
theorem dX5_read_36 : decode cX5_read 36 = .ok (.aload_n 0, 1) := by decide +kernel
theorem dX5_read_37 : decode cX5_read 37 = .ok (.invokevirtual 31, 3) := by decide +kernel
theorem dX5_read_40 : decode cX5_read 40 = .ok (.ifCond .eq 7, 3) := by decide +kernel
theorem dX5_read_43 : decode cX5_read 43 = .ok (.iconst 1, 1) := by decide +kernel
theorem dX5_read_44 : decode cX5_read 44 = .ok (.goto 4, 3) := by decide +kernel
theorem dX5_read_47 : decode cX5_read 47 = .ok (.iconst 0, 1) := by decide +kernel
theorem dX5_read_48 : decode cX5_read 48 = .ok (.istore_n 1, 1) := by decide +kernel
theorem dX5_read_49 : decode cX5_read 49 = .ok (.iinc 2 1, 3) := by decide +kernel
theorem dX5_read_52 : decode cX5_read 52 = .ok (.goto (-34), 3) := by decide +kernel
theorem dX5_read_55 : decode cX5_read 55 = .ok (.aload_n 0, 1) := by decide +kernel
theorem dX5_read_56 : decode cX5_read 56 = .ok (.getfield 19, 3) := by decide +kernel
theorem dX5_read_59 : decode cX5_read 59 = .ok (.iconst (-1), 1) := by decide +kernel
theorem dX5_read_60 : decode cX5_read 60 = .ok (.if_icmp .ne 21, 3) := by decide +kernel
theorem dX5_read_63 : decode cX5_read 63 = .ok (.aload_n 0, 1) := by decide +kernel
theorem dX5_read_64 : decode cX5_read 64 = .ok (.invokevirtual 34, 3) := by decide +kernel
theorem dX5_read_67 : decode cX5_read 67 = .ok (.ifCond .ne 14, 3) := by decide +kernel
theorem dX5_read_70 : decode cX5_read 70 = .ok (.aload_n 0, 1) := by decide +kernel
theorem dX5_read_71 : decode cX5_read 71 = .ok (.aload_n 0, 1) := by decide +kernel
theorem dX5_read_72 : decode cX5_read 72 = .ok (.getfield 9, 3) := by decide +kernel
theorem dX5_read_75 : decode cX5_read 75 = .ok (.getfield 37, 3) := by decide +kernel
theorem dX5_read_78 : decode cX5_read 78 = .ok (.putfield 19, 3) := by decide +kernel
theorem dX5_read_81 : decode cX5_read 81 = .ok (.aload_n 0, 1) := by decide +kernel
theorem dX5_read_82 : decode cX5_read 82 = .ok (.getfield 19, 3) := by decide +kernel
theorem dX5_read_85 : decode cX5_read 85 = .ok (.ireturn, 1) := by decide +kernel
theorem dX5_nextClause_0 : decode cX5_nextClause 0 = .ok (.aload_n 0, 1) := by decide +kernel
theorem dX5_nextClause_1 : decode cX5_nextClause 1 = .ok (.invokevirtual 40, 3) := by decide +kernel
theorem dX5_nextClause_4 : decode cX5_nextClause 4 = .ok (.ifCond .ne 5, 3) := by decide +kernel
theorem dX5_nextClause_7 : decode cX5_nextClause 7 = .ok (.iconst 0, 1) := by decide +kernel
theorem dX5_nextClause_8 : decode cX5_nextClause 8 = .ok (.ireturn, 1) := by decide +kernel
theorem dX5_nextClause_9 : decode cX5_nextClause 9 = .ok (.aload_n 0, 1) := by decide +kernel
theorem dX5_nextClause_10 : decode cX5_nextClause 10 = .ok (.bipush 59, 2) := by decide +kernel
theorem dX5_nextClause_12 : decode cX5_nextClause 12 = .ok (.invokevirtual 44, 3) := by decide +kernel
theorem dX5_nextClause_15 : decode cX5_nextClause 15 = .ok (.ifCond .ne 10, 3) := by decide +kernel
theorem dX5_nextClause_18 : decode cX5_nextClause 18 = .ok (.aload_n 0, 1) := by decide +kernel
theorem dX5_nextClause_19 : decode cX5_nextClause 19 = .ok (.invokevirtual 48, 3) := by decide +kernel
theorem dX5_nextClause_22 : decode cX5_nextClause 22 = .ok (.ifCond .eq 7, 3) := by decide +kernel
theorem dX5_nextClause_25 : decode cX5_nextClause 25 = .ok (.iconst 1, 1) := by decide +kernel
theorem dX5_nextClause_26 : decode cX5_nextClause 26 = .ok (.goto 4, 3) := by decide +kernel
theorem dX5_nextClause_29 : decode cX5_nextClause 29 = .ok (.iconst 0, 1) := by decide +kernel
theorem dX5_nextClause_30 : decode cX5_nextClause 30 = .ok (.ireturn, 1) := by decide +kernel
theorem dX5_peek_0 : decode cX5_peek 0 = .ok (.aload_n 0, 1) := by decide +kernel
theorem dX5_peek_1 : decode cX5_peek 1 = .ok (.getfield 15, 3) := by decide +kernel
theorem dX5_peek_4 : decode cX5_peek 4 = .ok (.aload_n 0, 1) := by decide +kernel
theorem dX5_peek_5 : decode cX5_peek 5 = .ok (.getfield 9, 3) := by decide +kernel
theorem dX5_peek_8 : decode cX5_peek 8 = .ok (.getfield 37, 3) := by decide +kernel
theorem dX5_peek_11 : decode cX5_peek 11 = .ok (.if_icmp .ge 43, 3) := by decide +kernel
theorem dX5_peek_14 : decode cX5_peek 14 = .ok (.aload_n 0, 1) := by decide +kernel
theorem dX5_peek_15 : decode cX5_peek 15 = .ok (.getfield 15, 3) := by decide +kernel
theorem dX5_peek_18 : decode cX5_peek 18 = .ok (.sipush 160, 3) := by decide +kernel
theorem dX5_peek_21 : decode cX5_peek 21 = .ok (.if_icmp .ge 33, 3) := by decide +kernel
theorem dX5_peek_24 : decode cX5_peek 24 = .ok (.aload_n 0, 1) := by decide +kernel
theorem dX5_peek_25 : decode cX5_peek 25 = .ok (.getfield 9, 3) := by decide +kernel
theorem dX5_peek_28 : decode cX5_peek 28 = .ok (.getfield 51, 3) := by decide +kernel
theorem dX5_peek_31 : decode cX5_peek 31 = .ok (.aload_n 0, 1) := by decide +kernel
theorem dX5_peek_32 : decode cX5_peek 32 = .ok (.getfield 15, 3) := by decide +kernel
theorem dX5_peek_35 : decode cX5_peek 35 = .ok (.iaload, 1) := by decide +kernel
theorem dX5_peek_36 : decode cX5_peek 36 = .ok (.bipush 32, 2) := by decide +kernel
theorem dX5_peek_38 : decode cX5_peek 38 = .ok (.if_icmp .ne 16, 3) := by decide +kernel
theorem dX5_peek_41 : decode cX5_peek 41 = .ok (.aload_n 0, 1) := by decide +kernel
theorem dX5_peek_42 : decode cX5_peek 42 = .ok (.dup, 1) := by decide +kernel
theorem dX5_peek_43 : decode cX5_peek 43 = .ok (.getfield 15, 3) := by decide +kernel
theorem dX5_peek_46 : decode cX5_peek 46 = .ok (.iconst 1, 1) := by decide +kernel
theorem dX5_peek_47 : decode cX5_peek 47 = .ok (.iadd, 1) := by decide +kernel
theorem dX5_peek_48 : decode cX5_peek 48 = .ok (.putfield 15, 3) := by decide +kernel
theorem dX5_peek_51 : decode cX5_peek 51 = .ok (.goto (-51), 3) := by decide +kernel
theorem dX5_peek_54 : decode cX5_peek 54 = .ok (.aload_n 0, 1) := by decide +kernel
theorem dX5_peek_55 : decode cX5_peek 55 = .ok (.getfield 15, 3) := by decide +kernel
theorem dX5_peek_58 : decode cX5_peek 58 = .ok (.aload_n 0, 1) := by decide +kernel
theorem dX5_peek_59 : decode cX5_peek 59 = .ok (.getfield 9, 3) := by decide +kernel
theorem dX5_peek_62 : decode cX5_peek 62 = .ok (.getfield 37, 3) := by decide +kernel
theorem dX5_peek_65 : decode cX5_peek 65 = .ok (.if_icmp .ge 28, 3) := by decide +kernel
theorem dX5_peek_68 : decode cX5_peek 68 = .ok (.aload_n 0, 1) := by decide +kernel
theorem dX5_peek_69 : decode cX5_peek 69 = .ok (.getfield 15, 3) := by decide +kernel
theorem dX5_peek_72 : decode cX5_peek 72 = .ok (.sipush 160, 3) := by decide +kernel
theorem dX5_peek_75 : decode cX5_peek 75 = .ok (.if_icmp .ge 18, 3) := by decide +kernel
theorem dX5_peek_78 : decode cX5_peek 78 = .ok (.aload_n 0, 1) := by decide +kernel
theorem dX5_peek_79 : decode cX5_peek 79 = .ok (.getfield 9, 3) := by decide +kernel
theorem dX5_peek_82 : decode cX5_peek 82 = .ok (.getfield 51, 3) := by decide +kernel
theorem dX5_peek_85 : decode cX5_peek 85 = .ok (.aload_n 0, 1) := by decide +kernel
theorem dX5_peek_86 : decode cX5_peek 86 = .ok (.getfield 15, 3) := by decide +kernel
theorem dX5_peek_89 : decode cX5_peek 89 = .ok (.iaload, 1) := by decide +kernel
theorem dX5_peek_90 : decode cX5_peek 90 = .ok (.goto 4, 3) := by decide +kernel
theorem dX5_peek_93 : decode cX5_peek 93 = .ok (.iconst 0, 1) := by decide +kernel
theorem dX5_peek_94 : decode cX5_peek 94 = .ok (.ireturn, 1) := by decide +kernel
theorem dX5_take_0 : decode cX5_take 0 = .ok (.aload_n 0, 1) := by decide +kernel
theorem dX5_take_1 : decode cX5_take 1 = .ok (.invokevirtual 40, 3) := by decide +kernel
theorem dX5_take_4 : decode cX5_take 4 = .ok (.iload_n 1, 1) := by decide +kernel
theorem dX5_take_5 : decode cX5_take 5 = .ok (.if_icmp .eq 5, 3) := by decide +kernel
theorem dX5_take_8 : decode cX5_take 8 = .ok (.iconst 0, 1) := by decide +kernel
theorem dX5_take_9 : decode cX5_take 9 = .ok (.ireturn, 1) := by decide +kernel
theorem dX5_take_10 : decode cX5_take 10 = .ok (.aload_n 0, 1) := by decide +kernel
theorem dX5_take_11 : decode cX5_take 11 = .ok (.dup, 1) := by decide +kernel
theorem dX5_take_12 : decode cX5_take 12 = .ok (.getfield 15, 3) := by decide +kernel
theorem dX5_take_15 : decode cX5_take 15 = .ok (.iconst 1, 1) := by decide +kernel
theorem dX5_take_16 : decode cX5_take 16 = .ok (.iadd, 1) := by decide +kernel
theorem dX5_take_17 : decode cX5_take 17 = .ok (.putfield 15, 3) := by decide +kernel
theorem dX5_take_20 : decode cX5_take 20 = .ok (.iconst 1, 1) := by decide +kernel
theorem dX5_take_21 : decode cX5_take 21 = .ok (.ireturn, 1) := by decide +kernel
theorem dX5_fail_0 : decode cX5_fail 0 = .ok (.aload_n 0, 1) := by decide +kernel
theorem dX5_fail_1 : decode cX5_fail 1 = .ok (.aload_n 0, 1) := by decide +kernel
theorem dX5_fail_2 : decode cX5_fail 2 = .ok (.getfield 15, 3) := by decide +kernel
theorem dX5_fail_5 : decode cX5_fail 5 = .ok (.putfield 19, 3) := by decide +kernel
theorem dX5_fail_8 : decode cX5_fail 8 = .ok (.iconst 0, 1) := by decide +kernel
theorem dX5_fail_9 : decode cX5_fail 9 = .ok (.ireturn, 1) := by decide +kernel
theorem dX5_readNumber_0 : decode cX5_readNumber 0 = .ok (.aload_n 0, 1) := by decide +kernel
theorem dX5_readNumber_1 : decode cX5_readNumber 1 = .ok (.invokevirtual 40, 3) := by decide +kernel
theorem dX5_readNumber_4 : decode cX5_readNumber 4 = .ok (.invokestatic 55, 3) := by decide +kernel
theorem dX5_readNumber_7 : decode cX5_readNumber 7 = .ok (.ifCond .ne 10, 3) := by decide +kernel
theorem dX5_readNumber_10 : decode cX5_readNumber 10 = .ok (.aload_n 0, 1) := by decide +kernel
theorem dX5_readNumber_11 : decode cX5_readNumber 11 = .ok (.invokevirtual 48, 3) := by decide +kernel
theorem dX5_readNumber_14 : decode cX5_readNumber 14 = .ok (.pop, 1) := by decide +kernel
theorem dX5_readNumber_15 : decode cX5_readNumber 15 = .ok (.iconst (-1), 1) := by decide +kernel
theorem dX5_readNumber_16 : decode cX5_readNumber 16 = .ok (.ireturn, 1) := by decide +kernel
theorem dX5_readNumber_17 : decode cX5_readNumber 17 = .ok (.iconst 0, 1) := by decide +kernel
theorem dX5_readNumber_18 : decode cX5_readNumber 18 = .ok (.istore 4, 2) := by decide +kernel
theorem dX5_readNumber_20 : decode cX5_readNumber 20 = .ok (.aload_n 0, 1) := by decide +kernel
theorem dX5_readNumber_21 : decode cX5_readNumber 21 = .ok (.getfield 15, 3) := by decide +kernel
theorem dX5_readNumber_24 : decode cX5_readNumber 24 = .ok (.istore 5, 2) := by decide +kernel
theorem dX5_readNumber_26 : decode cX5_readNumber 26 = .ok (.aload_n 0, 1) := by decide +kernel
theorem dX5_readNumber_27 : decode cX5_readNumber 27 = .ok (.getfield 15, 3) := by decide +kernel
theorem dX5_readNumber_30 : decode cX5_readNumber 30 = .ok (.aload_n 0, 1) := by decide +kernel
theorem dX5_readNumber_31 : decode cX5_readNumber 31 = .ok (.getfield 9, 3) := by decide +kernel
theorem dX5_readNumber_34 : decode cX5_readNumber 34 = .ok (.getfield 37, 3) := by decide +kernel
theorem dX5_readNumber_37 : decode cX5_readNumber 37 = .ok (.if_icmp .ge 85, 3) := by decide +kernel
theorem dX5_readNumber_40 : decode cX5_readNumber 40 = .ok (.aload_n 0, 1) := by decide +kernel
theorem dX5_readNumber_41 : decode cX5_readNumber 41 = .ok (.getfield 15, 3) := by decide +kernel
theorem dX5_readNumber_44 : decode cX5_readNumber 44 = .ok (.sipush 160, 3) := by decide +kernel
theorem dX5_readNumber_47 : decode cX5_readNumber 47 = .ok (.if_icmp .ge 75, 3) := by decide +kernel
theorem dX5_readNumber_50 : decode cX5_readNumber 50 = .ok (.aload_n 0, 1) := by decide +kernel
theorem dX5_readNumber_51 : decode cX5_readNumber 51 = .ok (.getfield 9, 3) := by decide +kernel
theorem dX5_readNumber_54 : decode cX5_readNumber 54 = .ok (.getfield 51, 3) := by decide +kernel
theorem dX5_readNumber_57 : decode cX5_readNumber 57 = .ok (.aload_n 0, 1) := by decide +kernel
theorem dX5_readNumber_58 : decode cX5_readNumber 58 = .ok (.getfield 15, 3) := by decide +kernel
theorem dX5_readNumber_61 : decode cX5_readNumber 61 = .ok (.iaload, 1) := by decide +kernel
theorem dX5_readNumber_62 : decode cX5_readNumber 62 = .ok (.invokestatic 55, 3) := by decide +kernel
theorem dX5_readNumber_65 : decode cX5_readNumber 65 = .ok (.ifCond .eq 57, 3) := by decide +kernel
theorem dX5_readNumber_68 : decode cX5_readNumber 68 = .ok (.aload_n 0, 1) := by decide +kernel
theorem dX5_readNumber_69 : decode cX5_readNumber 69 = .ok (.getfield 15, 3) := by decide +kernel
theorem dX5_readNumber_72 : decode cX5_readNumber 72 = .ok (.iload 5, 2) := by decide +kernel
theorem dX5_readNumber_74 : decode cX5_readNumber 74 = .ok (.isub, 1) := by decide +kernel
theorem dX5_readNumber_75 : decode cX5_readNumber 75 = .ok (.iload_n 1, 1) := by decide +kernel
theorem dX5_readNumber_76 : decode cX5_readNumber 76 = .ok (.if_icmp .lt 10, 3) := by decide +kernel
theorem dX5_readNumber_79 : decode cX5_readNumber 79 = .ok (.aload_n 0, 1) := by decide +kernel
theorem dX5_readNumber_80 : decode cX5_readNumber 80 = .ok (.invokevirtual 48, 3) := by decide +kernel
theorem dX5_readNumber_83 : decode cX5_readNumber 83 = .ok (.pop, 1) := by decide +kernel
theorem dX5_readNumber_84 : decode cX5_readNumber 84 = .ok (.iconst (-1), 1) := by decide +kernel
theorem dX5_readNumber_85 : decode cX5_readNumber 85 = .ok (.ireturn, 1) := by decide +kernel
theorem dX5_readNumber_86 : decode cX5_readNumber 86 = .ok (.iload 4, 2) := by decide +kernel
theorem dX5_readNumber_88 : decode cX5_readNumber 88 = .ok (.bipush 10, 2) := by decide +kernel
theorem dX5_readNumber_90 : decode cX5_readNumber 90 = .ok (.imul, 1) := by decide +kernel
theorem dX5_readNumber_91 : decode cX5_readNumber 91 = .ok (.aload_n 0, 1) := by decide +kernel
theorem dX5_readNumber_92 : decode cX5_readNumber 92 = .ok (.getfield 9, 3) := by decide +kernel
theorem dX5_readNumber_95 : decode cX5_readNumber 95 = .ok (.getfield 51, 3) := by decide +kernel
theorem dX5_readNumber_98 : decode cX5_readNumber 98 = .ok (.aload_n 0, 1) := by decide +kernel
theorem dX5_readNumber_99 : decode cX5_readNumber 99 = .ok (.getfield 15, 3) := by decide +kernel
theorem dX5_readNumber_102 : decode cX5_readNumber 102 = .ok (.iaload, 1) := by decide +kernel
theorem dX5_readNumber_103 : decode cX5_readNumber 103 = .ok (.iadd, 1) := by decide +kernel
theorem dX5_readNumber_104 : decode cX5_readNumber 104 = .ok (.bipush 48, 2) := by decide +kernel
theorem dX5_readNumber_106 : decode cX5_readNumber 106 = .ok (.isub, 1) := by decide +kernel
theorem dX5_readNumber_107 : decode cX5_readNumber 107 = .ok (.istore 4, 2) := by decide +kernel
theorem dX5_readNumber_109 : decode cX5_readNumber 109 = .ok (.aload_n 0, 1) := by decide +kernel
theorem dX5_readNumber_110 : decode cX5_readNumber 110 = .ok (.dup, 1) := by decide +kernel
theorem dX5_readNumber_111 : decode cX5_readNumber 111 = .ok (.getfield 15, 3) := by decide +kernel
theorem dX5_readNumber_114 : decode cX5_readNumber 114 = .ok (.iconst 1, 1) := by decide +kernel
theorem dX5_readNumber_115 : decode cX5_readNumber 115 = .ok (.iadd, 1) := by decide +kernel
theorem dX5_readNumber_116 : decode cX5_readNumber 116 = .ok (.putfield 15, 3) := by decide +kernel
theorem dX5_readNumber_119 : decode cX5_readNumber 119 = .ok (.goto (-93), 3) := by decide +kernel
theorem dX5_readNumber_122 : decode cX5_readNumber 122 = .ok (.iload 4, 2) := by decide +kernel
theorem dX5_readNumber_124 : decode cX5_readNumber 124 = .ok (.iload_n 2, 1) := by decide +kernel
theorem dX5_readNumber_125 : decode cX5_readNumber 125 = .ok (.if_icmp .lt 9, 3) := by decide +kernel
theorem dX5_readNumber_128 : decode cX5_readNumber 128 = .ok (.iload 4, 2) := by decide +kernel
theorem dX5_readNumber_130 : decode cX5_readNumber 130 = .ok (.iload_n 3, 1) := by decide +kernel
theorem dX5_readNumber_131 : decode cX5_readNumber 131 = .ok (.if_icmp .le 15, 3) := by decide +kernel
theorem dX5_readNumber_134 : decode cX5_readNumber 134 = .ok (.aload_n 0, 1) := by decide +kernel
theorem dX5_readNumber_135 : decode cX5_readNumber 135 = .ok (.aload_n 0, 1) := by decide +kernel
theorem dX5_readNumber_136 : decode cX5_readNumber 136 = .ok (.getfield 15, 3) := by decide +kernel
theorem dX5_readNumber_139 : decode cX5_readNumber 139 = .ok (.iconst 1, 1) := by decide +kernel
theorem dX5_readNumber_140 : decode cX5_readNumber 140 = .ok (.isub, 1) := by decide +kernel
theorem dX5_readNumber_141 : decode cX5_readNumber 141 = .ok (.putfield 19, 3) := by decide +kernel
theorem dX5_readNumber_144 : decode cX5_readNumber 144 = .ok (.iconst (-1), 1) := by decide +kernel
theorem dX5_readNumber_145 : decode cX5_readNumber 145 = .ok (.ireturn, 1) := by decide +kernel
theorem dX5_readNumber_146 : decode cX5_readNumber 146 = .ok (.iload 4, 2) := by decide +kernel
theorem dX5_readNumber_148 : decode cX5_readNumber 148 = .ok (.ireturn, 1) := by decide +kernel
theorem dX5_isDigit_0 : decode cX5_isDigit 0 = .ok (.iload_n 0, 1) := by decide +kernel
theorem dX5_isDigit_1 : decode cX5_isDigit 1 = .ok (.bipush 48, 2) := by decide +kernel
theorem dX5_isDigit_3 : decode cX5_isDigit 3 = .ok (.if_icmp .lt 13, 3) := by decide +kernel
theorem dX5_isDigit_6 : decode cX5_isDigit 6 = .ok (.iload_n 0, 1) := by decide +kernel
theorem dX5_isDigit_7 : decode cX5_isDigit 7 = .ok (.bipush 57, 2) := by decide +kernel
theorem dX5_isDigit_9 : decode cX5_isDigit 9 = .ok (.if_icmp .gt 7, 3) := by decide +kernel
theorem dX5_isDigit_12 : decode cX5_isDigit 12 = .ok (.iconst 1, 1) := by decide +kernel
theorem dX5_isDigit_13 : decode cX5_isDigit 13 = .ok (.goto 4, 3) := by decide +kernel
theorem dX5_isDigit_16 : decode cX5_isDigit 16 = .ok (.iconst 0, 1) := by decide +kernel
theorem dX5_isDigit_17 : decode cX5_isDigit 17 = .ok (.ireturn, 1) := by decide +kernel
theorem dX6_init_0 : decode cX6_init 0 = .ok (.aload_n 0, 1) := by decide +kernel
theorem dX6_init_1 : decode cX6_init 1 = .ok (.invokespecial 3, 3) := by decide +kernel
theorem dX6_init_4 : decode cX6_init 4 = .ok (.aload_n 0, 1) := by decide +kernel
theorem dX6_init_5 : decode cX6_init 5 = .ok (.bipush 9, 2) := by decide +kernel
theorem dX6_init_7 : decode cX6_init 7 = .ok (.putfield 9, 3) := by decide +kernel
theorem dX6_init_10 : decode cX6_init 10 = .ok (.aload_n 0, 1) := by decide +kernel
theorem dX6_init_11 : decode cX6_init 11 = .ok (.bipush 6, 2) := by decide +kernel
theorem dX6_init_13 : decode cX6_init 13 = .ok (.newarray .int, 2) := by decide +kernel
theorem dX6_init_15 : decode cX6_init 15 = .ok (.putfield 15, 3) := by decide +kernel
theorem dX6_init_18 : decode cX6_init 18 = .ok (.aload_n 0, 1) := by decide +kernel
theorem dX6_init_19 : decode cX6_init 19 = .ok (.bipush 6, 2) := by decide +kernel
theorem dX6_init_21 : decode cX6_init 21 = .ok (.newarray .int, 2) := by decide +kernel
theorem dX6_init_23 : decode cX6_init 23 = .ok (.putfield 19, 3) := by decide +kernel
theorem dX6_init_26 : decode cX6_init 26 = .ok (.aload_n 0, 1) := by decide +kernel
theorem dX6_init_27 : decode cX6_init 27 = .ok (.bipush 6, 2) := by decide +kernel
theorem dX6_init_29 : decode cX6_init 29 = .ok (.newarray .int, 2) := by decide +kernel
theorem dX6_init_31 : decode cX6_init 31 = .ok (.putfield 22, 3) := by decide +kernel
theorem dX6_init_34 : decode cX6_init 34 = .ok (.aload_n 0, 1) := by decide +kernel
theorem dX6_init_35 : decode cX6_init 35 = .ok (.bipush 6, 2) := by decide +kernel
theorem dX6_init_37 : decode cX6_init 37 = .ok (.newarray .int, 2) := by decide +kernel
theorem dX6_init_39 : decode cX6_init 39 = .ok (.putfield 25, 3) := by decide +kernel
theorem dX6_init_42 : decode cX6_init 42 = .ok (.return_, 1) := by decide +kernel
theorem dX6_open_0 : decode cX6_open 0 = .ok (.aload_n 0, 1) := by decide +kernel
theorem dX6_open_1 : decode cX6_open 1 = .ok (.aload_n 1, 1) := by decide +kernel
theorem dX6_open_2 : decode cX6_open 2 = .ok (.getfield 28, 3) := by decide +kernel
theorem dX6_open_5 : decode cX6_open 5 = .ok (.putfield 33, 3) := by decide +kernel
theorem dX6_open_8 : decode cX6_open 8 = .ok (.aload_n 0, 1) := by decide +kernel
theorem dX6_open_9 : decode cX6_open 9 = .ok (.iconst 0, 1) := by decide +kernel
theorem dX6_open_10 : decode cX6_open 10 = .ok (.putfield 34, 3) := by decide +kernel
theorem dX6_open_13 : decode cX6_open 13 = .ok (.aload_n 1, 1) := by decide +kernel
theorem dX6_open_14 : decode cX6_open 14 = .ok (.getfield 37, 3) := by decide +kernel
theorem dX6_open_17 : decode cX6_open 17 = .ok (.iconst 0, 1) := by decide +kernel
theorem dX6_open_18 : decode cX6_open 18 = .ok (.aload_n 0, 1) := by decide +kernel
theorem dX6_open_19 : decode cX6_open 19 = .ok (.getfield 15, 3) := by decide +kernel
theorem dX6_open_22 : decode cX6_open 22 = .ok (.iconst 0, 1) := by decide +kernel
theorem dX6_open_23 : decode cX6_open 23 = .ok (.bipush 6, 2) := by decide +kernel
theorem dX6_open_25 : decode cX6_open 25 = .ok (.invokestatic 38, 3) := by decide +kernel
theorem dX6_open_28 : decode cX6_open 28 = .ok (.aload_n 1, 1) := by decide +kernel
theorem dX6_open_29 : decode cX6_open 29 = .ok (.getfield 44, 3) := by decide +kernel
theorem dX6_open_32 : decode cX6_open 32 = .ok (.iconst 0, 1) := by decide +kernel
theorem dX6_open_33 : decode cX6_open 33 = .ok (.aload_n 0, 1) := by decide +kernel
theorem dX6_open_34 : decode cX6_open 34 = .ok (.getfield 19, 3) := by decide +kernel
theorem dX6_open_37 : decode cX6_open 37 = .ok (.iconst 0, 1) := by decide +kernel
theorem dX6_open_38 : decode cX6_open 38 = .ok (.bipush 6, 2) := by decide +kernel
theorem dX6_open_40 : decode cX6_open 40 = .ok (.invokestatic 38, 3) := by decide +kernel
theorem dX6_open_43 : decode cX6_open 43 = .ok (.aload_n 1, 1) := by decide +kernel
theorem dX6_open_44 : decode cX6_open 44 = .ok (.getfield 45, 3) := by decide +kernel
theorem dX6_open_47 : decode cX6_open 47 = .ok (.iconst 0, 1) := by decide +kernel
theorem dX6_open_48 : decode cX6_open 48 = .ok (.aload_n 0, 1) := by decide +kernel
theorem dX6_open_49 : decode cX6_open 49 = .ok (.getfield 22, 3) := by decide +kernel
theorem dX6_open_52 : decode cX6_open 52 = .ok (.iconst 0, 1) := by decide +kernel
theorem dX6_open_53 : decode cX6_open 53 = .ok (.bipush 6, 2) := by decide +kernel
theorem dX6_open_55 : decode cX6_open 55 = .ok (.invokestatic 38, 3) := by decide +kernel
theorem dX6_open_58 : decode cX6_open 58 = .ok (.aload_n 0, 1) := by decide +kernel
theorem dX6_open_59 : decode cX6_open 59 = .ok (.getfield 25, 3) := by decide +kernel
theorem dX6_open_62 : decode cX6_open 62 = .ok (.iconst 0, 1) := by decide +kernel
theorem dX6_open_63 : decode cX6_open 63 = .ok (.invokestatic 46, 3) := by decide +kernel
theorem dX6_open_66 : decode cX6_open 66 = .ok (.return_, 1) := by decide +kernel
theorem dX6_copyFrom_0 : decode cX6_copyFrom 0 = .ok (.aload_n 0, 1) := by decide +kernel
theorem dX6_copyFrom_1 : decode cX6_copyFrom 1 = .ok (.aload_n 1, 1) := by decide +kernel
theorem dX6_copyFrom_2 : decode cX6_copyFrom 2 = .ok (.getfield 33, 3) := by decide +kernel
theorem dX6_copyFrom_5 : decode cX6_copyFrom 5 = .ok (.putfield 33, 3) := by decide +kernel
theorem dX6_copyFrom_8 : decode cX6_copyFrom 8 = .ok (.aload_n 0, 1) := by decide +kernel
theorem dX6_copyFrom_9 : decode cX6_copyFrom 9 = .ok (.aload_n 1, 1) := by decide +kernel
theorem dX6_copyFrom_10 : decode cX6_copyFrom 10 = .ok (.getfield 9, 3) := by decide +kernel
theorem dX6_copyFrom_13 : decode cX6_copyFrom 13 = .ok (.putfield 9, 3) := by decide +kernel
theorem dX6_copyFrom_16 : decode cX6_copyFrom 16 = .ok (.aload_n 0, 1) := by decide +kernel
theorem dX6_copyFrom_17 : decode cX6_copyFrom 17 = .ok (.aload_n 1, 1) := by decide +kernel
theorem dX6_copyFrom_18 : decode cX6_copyFrom 18 = .ok (.getfield 52, 3) := by decide +kernel
theorem dX6_copyFrom_21 : decode cX6_copyFrom 21 = .ok (.putfield 52, 3) := by decide +kernel
theorem dX6_copyFrom_24 : decode cX6_copyFrom 24 = .ok (.aload_n 0, 1) := by decide +kernel
theorem dX6_copyFrom_25 : decode cX6_copyFrom 25 = .ok (.aload_n 1, 1) := by decide +kernel
theorem dX6_copyFrom_26 : decode cX6_copyFrom 26 = .ok (.getfield 34, 3) := by decide +kernel
theorem dX6_copyFrom_29 : decode cX6_copyFrom 29 = .ok (.putfield 34, 3) := by decide +kernel
theorem dX6_copyFrom_32 : decode cX6_copyFrom 32 = .ok (.aload_n 1, 1) := by decide +kernel
theorem dX6_copyFrom_33 : decode cX6_copyFrom 33 = .ok (.getfield 15, 3) := by decide +kernel
theorem dX6_copyFrom_36 : decode cX6_copyFrom 36 = .ok (.iconst 0, 1) := by decide +kernel
theorem dX6_copyFrom_37 : decode cX6_copyFrom 37 = .ok (.aload_n 0, 1) := by decide +kernel
theorem dX6_copyFrom_38 : decode cX6_copyFrom 38 = .ok (.getfield 15, 3) := by decide +kernel
theorem dX6_copyFrom_41 : decode cX6_copyFrom 41 = .ok (.iconst 0, 1) := by decide +kernel
theorem dX6_copyFrom_42 : decode cX6_copyFrom 42 = .ok (.bipush 6, 2) := by decide +kernel
theorem dX6_copyFrom_44 : decode cX6_copyFrom 44 = .ok (.invokestatic 38, 3) := by decide +kernel
theorem dX6_copyFrom_47 : decode cX6_copyFrom 47 = .ok (.aload_n 1, 1) := by decide +kernel
theorem dX6_copyFrom_48 : decode cX6_copyFrom 48 = .ok (.getfield 19, 3) := by decide +kernel
theorem dX6_copyFrom_51 : decode cX6_copyFrom 51 = .ok (.iconst 0, 1) := by decide +kernel
theorem dX6_copyFrom_52 : decode cX6_copyFrom 52 = .ok (.aload_n 0, 1) := by decide +kernel
theorem dX6_copyFrom_53 : decode cX6_copyFrom 53 = .ok (.getfield 19, 3) := by decide +kernel
theorem dX6_copyFrom_56 : decode cX6_copyFrom 56 = .ok (.iconst 0, 1) := by decide +kernel
theorem dX6_copyFrom_57 : decode cX6_copyFrom 57 = .ok (.bipush 6, 2) := by decide +kernel
theorem dX6_copyFrom_59 : decode cX6_copyFrom 59 = .ok (.invokestatic 38, 3) := by decide +kernel
theorem dX6_copyFrom_62 : decode cX6_copyFrom 62 = .ok (.aload_n 1, 1) := by decide +kernel
theorem dX6_copyFrom_63 : decode cX6_copyFrom 63 = .ok (.getfield 22, 3) := by decide +kernel
theorem dX6_copyFrom_66 : decode cX6_copyFrom 66 = .ok (.iconst 0, 1) := by decide +kernel
theorem dX6_copyFrom_67 : decode cX6_copyFrom 67 = .ok (.aload_n 0, 1) := by decide +kernel
theorem dX6_copyFrom_68 : decode cX6_copyFrom 68 = .ok (.getfield 22, 3) := by decide +kernel
theorem dX6_copyFrom_71 : decode cX6_copyFrom 71 = .ok (.iconst 0, 1) := by decide +kernel
theorem dX6_copyFrom_72 : decode cX6_copyFrom 72 = .ok (.bipush 6, 2) := by decide +kernel
theorem dX6_copyFrom_74 : decode cX6_copyFrom 74 = .ok (.invokestatic 38, 3) := by decide +kernel
theorem dX6_copyFrom_77 : decode cX6_copyFrom 77 = .ok (.aload_n 1, 1) := by decide +kernel
theorem dX6_copyFrom_78 : decode cX6_copyFrom 78 = .ok (.getfield 25, 3) := by decide +kernel
theorem dX6_copyFrom_81 : decode cX6_copyFrom 81 = .ok (.iconst 0, 1) := by decide +kernel
theorem dX6_copyFrom_82 : decode cX6_copyFrom 82 = .ok (.aload_n 0, 1) := by decide +kernel
theorem dX6_copyFrom_83 : decode cX6_copyFrom 83 = .ok (.getfield 25, 3) := by decide +kernel
theorem dX6_copyFrom_86 : decode cX6_copyFrom 86 = .ok (.iconst 0, 1) := by decide +kernel
theorem dX6_copyFrom_87 : decode cX6_copyFrom 87 = .ok (.bipush 6, 2) := by decide +kernel
theorem dX6_copyFrom_89 : decode cX6_copyFrom 89 = .ok (.invokestatic 38, 3) := by decide +kernel
theorem dX6_copyFrom_92 : decode cX6_copyFrom 92 = .ok (.return_, 1) := by decide +kernel
theorem dX6_isMarked_0 : decode cX6_isMarked 0 = .ok (.aload_n 0, 1) := by decide +kernel
theorem dX6_isMarked_1 : decode cX6_isMarked 1 = .ok (.getfield 34, 3) := by decide +kernel
theorem dX6_isMarked_4 : decode cX6_isMarked 4 = .ok (.iload_n 1, 1) := by decide +kernel
theorem dX6_isMarked_5 : decode cX6_isMarked 5 = .ok (.ishr, 1) := by decide +kernel
theorem dX6_isMarked_6 : decode cX6_isMarked 6 = .ok (.iconst 1, 1) := by decide +kernel
theorem dX6_isMarked_7 : decode cX6_isMarked 7 = .ok (.iand, 1) := by decide +kernel
theorem dX6_isMarked_8 : decode cX6_isMarked 8 = .ok (.ifCond .eq 7, 3) := by decide +kernel
theorem dX6_isMarked_11 : decode cX6_isMarked 11 = .ok (.iconst 1, 1) := by decide +kernel
theorem dX6_isMarked_12 : decode cX6_isMarked 12 = .ok (.goto 4, 3) := by decide +kernel
theorem dX6_isMarked_15 : decode cX6_isMarked 15 = .ok (.iconst 0, 1) := by decide +kernel
theorem dX6_isMarked_16 : decode cX6_isMarked 16 = .ok (.ireturn, 1) := by decide +kernel
theorem dX6_aheadOf_0 : decode cX6_aheadOf 0 = .ok (.iload_n 1, 1) := by decide +kernel
theorem dX6_aheadOf_1 : decode cX6_aheadOf 1 = .ok (.istore_n 3, 1) := by decide +kernel
theorem dX6_aheadOf_2 : decode cX6_aheadOf 2 = .ok (.iconst 0, 1) := by decide +kernel
theorem dX6_aheadOf_3 : decode cX6_aheadOf 3 = .ok (.istore 4, 2) := by decide +kernel
theorem dX6_aheadOf_5 : decode cX6_aheadOf 5 = .ok (.iload 4, 2) := by decide +kernel
theorem dX6_aheadOf_7 : decode cX6_aheadOf 7 = .ok (.iload_n 2, 1) := by decide +kernel
theorem dX6_aheadOf_8 : decode cX6_aheadOf 8 = .ok (.if_icmp .ge 26, 3) := by decide +kernel
theorem dX6_aheadOf_11 : decode cX6_aheadOf 11 = .ok (.iload_n 3, 1) := by decide +kernel
theorem dX6_aheadOf_12 : decode cX6_aheadOf 12 = .ok (.ifCond .lt 22, 3) := by decide +kernel
theorem dX6_aheadOf_15 : decode cX6_aheadOf 15 = .ok (.iload_n 3, 1) := by decide +kernel
theorem dX6_aheadOf_16 : decode cX6_aheadOf 16 = .ok (.bipush 6, 2) := by decide +kernel
theorem dX6_aheadOf_18 : decode cX6_aheadOf 18 = .ok (.if_icmp .ge 16, 3) := by decide +kernel
theorem dX6_aheadOf_21 : decode cX6_aheadOf 21 = .ok (.aload_n 0, 1) := by decide +kernel
theorem dX6_aheadOf_22 : decode cX6_aheadOf 22 = .ok (.getfield 19, 3) := by decide +kernel
theorem dX6_aheadOf_25 : decode cX6_aheadOf 25 = .ok (.iload_n 3, 1) := by decide +kernel
theorem dX6_aheadOf_26 : decode cX6_aheadOf 26 = .ok (.iaload, 1) := by decide +kernel
theorem dX6_aheadOf_27 : decode cX6_aheadOf 27 = .ok (.istore_n 3, 1) := by decide +kernel
theorem dX6_aheadOf_28 : decode cX6_aheadOf 28 = .ok (.iinc 4 1, 3) := by decide +kernel
theorem dX6_aheadOf_31 : decode cX6_aheadOf 31 = .ok (.goto (-26), 3) := by decide +kernel
theorem dX6_aheadOf_34 : decode cX6_aheadOf 34 = .ok (.iload_n 3, 1) := by decide +kernel
theorem dX6_aheadOf_35 : decode cX6_aheadOf 35 = .ok (.ireturn, 1) := by decide +kernel
theorem dX7_init_0 : decode cX7_init 0 = .ok (.aload_n 0, 1) := by decide +kernel
theorem dX7_init_1 : decode cX7_init 1 = .ok (.invokespecial 1, 3) := by decide +kernel
theorem dX7_init_4 : decode cX7_init 4 = .ok (.aload_n 0, 1) := by decide +kernel
theorem dX7_init_5 : decode cX7_init 5 = .ok (.sipush 160, 3) := by decide +kernel
theorem dX7_init_8 : decode cX7_init 8 = .ok (.newarray .int, 2) := by decide +kernel
theorem dX7_init_10 : decode cX7_init 10 = .ok (.putfield 9, 3) := by decide +kernel
theorem dX7_init_13 : decode cX7_init 13 = .ok (.return_, 1) := by decide +kernel
theorem dX7_bytesIn_0 : decode cX7_bytesIn 0 = .ok (.iconst 0, 1) := by decide +kernel
theorem dX7_bytesIn_1 : decode cX7_bytesIn 1 = .ok (.istore_n 1, 1) := by decide +kernel
theorem dX7_bytesIn_2 : decode cX7_bytesIn 2 = .ok (.bipush 24, 2) := by decide +kernel
theorem dX7_bytesIn_4 : decode cX7_bytesIn 4 = .ok (.istore_n 2, 1) := by decide +kernel
theorem dX7_bytesIn_5 : decode cX7_bytesIn 5 = .ok (.iload_n 2, 1) := by decide +kernel
theorem dX7_bytesIn_6 : decode cX7_bytesIn 6 = .ok (.ifCond .lt 22, 3) := by decide +kernel
theorem dX7_bytesIn_9 : decode cX7_bytesIn 9 = .ok (.iload_n 0, 1) := by decide +kernel
theorem dX7_bytesIn_10 : decode cX7_bytesIn 10 = .ok (.iload_n 2, 1) := by decide +kernel
theorem dX7_bytesIn_11 : decode cX7_bytesIn 11 = .ok (.iushr, 1) := by decide +kernel
theorem dX7_bytesIn_12 : decode cX7_bytesIn 12 = .ok (.sipush 255, 3) := by decide +kernel
theorem dX7_bytesIn_15 : decode cX7_bytesIn 15 = .ok (.iand, 1) := by decide +kernel
theorem dX7_bytesIn_16 : decode cX7_bytesIn 16 = .ok (.ifCond .eq 6, 3) := by decide +kernel
theorem dX7_bytesIn_19 : decode cX7_bytesIn 19 = .ok (.iinc 1 1, 3) := by decide +kernel
theorem dX7_bytesIn_22 : decode cX7_bytesIn 22 = .ok (.iinc 2 (-8), 3) := by decide +kernel
theorem dX7_bytesIn_25 : decode cX7_bytesIn 25 = .ok (.goto (-20), 3) := by decide +kernel
theorem dX7_bytesIn_28 : decode cX7_bytesIn 28 = .ok (.iload_n 1, 1) := by decide +kernel
theorem dX7_bytesIn_29 : decode cX7_bytesIn 29 = .ok (.ireturn, 1) := by decide +kernel
theorem dX7_push_0 : decode cX7_push 0 = .ok (.bipush 24, 2) := by decide +kernel
theorem dX7_push_2 : decode cX7_push 2 = .ok (.istore_n 2, 1) := by decide +kernel
theorem dX7_push_3 : decode cX7_push 3 = .ok (.iload_n 2, 1) := by decide +kernel
theorem dX7_push_4 : decode cX7_push 4 = .ok (.ifCond .lt 51, 3) := by decide +kernel
theorem dX7_push_7 : decode cX7_push 7 = .ok (.iload_n 1, 1) := by decide +kernel
theorem dX7_push_8 : decode cX7_push 8 = .ok (.iload_n 2, 1) := by decide +kernel
theorem dX7_push_9 : decode cX7_push 9 = .ok (.iushr, 1) := by decide +kernel
theorem dX7_push_10 : decode cX7_push 10 = .ok (.sipush 255, 3) := by decide +kernel
theorem dX7_push_13 : decode cX7_push 13 = .ok (.iand, 1) := by decide +kernel
theorem dX7_push_14 : decode cX7_push 14 = .ok (.istore_n 3, 1) := by decide +kernel
theorem dX7_push_15 : decode cX7_push 15 = .ok (.iload_n 3, 1) := by decide +kernel
theorem dX7_push_16 : decode cX7_push 16 = .ok (.ifCond .eq 33, 3) := by decide +kernel
theorem dX7_push_19 : decode cX7_push 19 = .ok (.aload_n 0, 1) := by decide +kernel
theorem dX7_push_20 : decode cX7_push 20 = .ok (.getfield 13, 3) := by decide +kernel
theorem dX7_push_23 : decode cX7_push 23 = .ok (.sipush 160, 3) := by decide +kernel
theorem dX7_push_26 : decode cX7_push 26 = .ok (.if_icmp .ge 23, 3) := by decide +kernel
theorem dX7_push_29 : decode cX7_push 29 = .ok (.aload_n 0, 1) := by decide +kernel
theorem dX7_push_30 : decode cX7_push 30 = .ok (.getfield 9, 3) := by decide +kernel
theorem dX7_push_33 : decode cX7_push 33 = .ok (.aload_n 0, 1) := by decide +kernel
theorem dX7_push_34 : decode cX7_push 34 = .ok (.getfield 13, 3) := by decide +kernel
theorem dX7_push_37 : decode cX7_push 37 = .ok (.iload_n 3, 1) := by decide +kernel
theorem dX7_push_38 : decode cX7_push 38 = .ok (.iastore, 1) := by decide +kernel
theorem dX7_push_39 : decode cX7_push 39 = .ok (.aload_n 0, 1) := by decide +kernel
theorem dX7_push_40 : decode cX7_push 40 = .ok (.dup, 1) := by decide +kernel
theorem dX7_push_41 : decode cX7_push 41 = .ok (.getfield 13, 3) := by decide +kernel
theorem dX7_push_44 : decode cX7_push 44 = .ok (.iconst 1, 1) := by decide +kernel
theorem dX7_push_45 : decode cX7_push 45 = .ok (.iadd, 1) := by decide +kernel
theorem dX7_push_46 : decode cX7_push 46 = .ok (.putfield 13, 3) := by decide +kernel
theorem dX7_push_49 : decode cX7_push 49 = .ok (.iinc 2 (-8), 3) := by decide +kernel
theorem dX7_push_52 : decode cX7_push 52 = .ok (.goto (-49), 3) := by decide +kernel
theorem dX7_push_55 : decode cX7_push 55 = .ok (.return_, 1) := by decide +kernel
theorem dX8_init_0 : decode cX8_init 0 = .ok (.aload_n 0, 1) := by decide +kernel
theorem dX8_init_1 : decode cX8_init 1 = .ok (.invokespecial 3, 3) := by decide +kernel
theorem dX8_init_4 : decode cX8_init 4 = .ok (.aload_n 0, 1) := by decide +kernel
theorem dX8_init_5 : decode cX8_init 5 = .ok (.bipush 60, 2) := by decide +kernel
theorem dX8_init_7 : decode cX8_init 7 = .ok (.putfield 9, 3) := by decide +kernel
theorem dX8_init_10 : decode cX8_init 10 = .ok (.aload_n 0, 1) := by decide +kernel
theorem dX8_init_11 : decode cX8_init 11 = .ok (.bipush 6, 2) := by decide +kernel
theorem dX8_init_13 : decode cX8_init 13 = .ok (.newarray .int, 2) := by decide +kernel
theorem dX8_init_15 : decode cX8_init 15 = .ok (.putfield 15, 3) := by decide +kernel
theorem dX8_init_18 : decode cX8_init 18 = .ok (.aload_n 0, 1) := by decide +kernel
theorem dX8_init_19 : decode cX8_init 19 = .ok (.bipush 6, 2) := by decide +kernel
theorem dX8_init_21 : decode cX8_init 21 = .ok (.newarray .int, 2) := by decide +kernel
theorem dX8_init_23 : decode cX8_init 23 = .ok (.putfield 19, 3) := by decide +kernel
theorem dX8_init_26 : decode cX8_init 26 = .ok (.aload_n 0, 1) := by decide +kernel
theorem dX8_init_27 : decode cX8_init 27 = .ok (.bipush 6, 2) := by decide +kernel
theorem dX8_init_29 : decode cX8_init 29 = .ok (.newarray .int, 2) := by decide +kernel
theorem dX8_init_31 : decode cX8_init 31 = .ok (.putfield 22, 3) := by decide +kernel
theorem dX8_init_34 : decode cX8_init 34 = .ok (.aload_n 0, 1) := by decide +kernel
theorem dX8_init_35 : decode cX8_init 35 = .ok (.bipush 6, 2) := by decide +kernel
theorem dX8_init_37 : decode cX8_init 37 = .ok (.newarray .int, 2) := by decide +kernel
theorem dX8_init_39 : decode cX8_init 39 = .ok (.putfield 25, 3) := by decide +kernel
theorem dX8_init_42 : decode cX8_init 42 = .ok (.aload_n 0, 1) := by decide +kernel
theorem dX8_init_43 : decode cX8_init 43 = .ok (.bipush 6, 2) := by decide +kernel
theorem dX8_init_45 : decode cX8_init 45 = .ok (.newarray .int, 2) := by decide +kernel
theorem dX8_init_47 : decode cX8_init 47 = .ok (.putfield 28, 3) := by decide +kernel
theorem dX8_init_50 : decode cX8_init 50 = .ok (.return_, 1) := by decide +kernel
theorem dX8_clear_0 : decode cX8_clear 0 = .ok (.aload_n 0, 1) := by decide +kernel
theorem dX8_clear_1 : decode cX8_clear 1 = .ok (.iconst 0, 1) := by decide +kernel
theorem dX8_clear_2 : decode cX8_clear 2 = .ok (.putfield 31, 3) := by decide +kernel
theorem dX8_clear_5 : decode cX8_clear 5 = .ok (.aload_n 0, 1) := by decide +kernel
theorem dX8_clear_6 : decode cX8_clear 6 = .ok (.bipush 60, 2) := by decide +kernel
theorem dX8_clear_8 : decode cX8_clear 8 = .ok (.putfield 9, 3) := by decide +kernel
theorem dX8_clear_11 : decode cX8_clear 11 = .ok (.return_, 1) := by decide +kernel
theorem dX8_addPlayer_0 : decode cX8_addPlayer 0 = .ok (.aload_n 0, 1) := by decide +kernel
theorem dX8_addPlayer_1 : decode cX8_addPlayer 1 = .ok (.getfield 31, 3) := by decide +kernel
theorem dX8_addPlayer_4 : decode cX8_addPlayer 4 = .ok (.bipush 6, 2) := by decide +kernel
theorem dX8_addPlayer_6 : decode cX8_addPlayer 6 = .ok (.if_icmp .ge 64, 3) := by decide +kernel
theorem dX8_addPlayer_9 : decode cX8_addPlayer 9 = .ok (.aload_n 0, 1) := by decide +kernel
theorem dX8_addPlayer_10 : decode cX8_addPlayer 10 = .ok (.getfield 15, 3) := by decide +kernel
theorem dX8_addPlayer_13 : decode cX8_addPlayer 13 = .ok (.aload_n 0, 1) := by decide +kernel
theorem dX8_addPlayer_14 : decode cX8_addPlayer 14 = .ok (.getfield 31, 3) := by decide +kernel
theorem dX8_addPlayer_17 : decode cX8_addPlayer 17 = .ok (.bipush 60, 2) := by decide +kernel
theorem dX8_addPlayer_19 : decode cX8_addPlayer 19 = .ok (.iastore, 1) := by decide +kernel
theorem dX8_addPlayer_20 : decode cX8_addPlayer 20 = .ok (.aload_n 0, 1) := by decide +kernel
theorem dX8_addPlayer_21 : decode cX8_addPlayer 21 = .ok (.getfield 19, 3) := by decide +kernel
theorem dX8_addPlayer_24 : decode cX8_addPlayer 24 = .ok (.aload_n 0, 1) := by decide +kernel
theorem dX8_addPlayer_25 : decode cX8_addPlayer 25 = .ok (.getfield 31, 3) := by decide +kernel
theorem dX8_addPlayer_28 : decode cX8_addPlayer 28 = .ok (.iconst 0, 1) := by decide +kernel
theorem dX8_addPlayer_29 : decode cX8_addPlayer 29 = .ok (.iastore, 1) := by decide +kernel
theorem dX8_addPlayer_30 : decode cX8_addPlayer 30 = .ok (.aload_n 0, 1) := by decide +kernel
theorem dX8_addPlayer_31 : decode cX8_addPlayer 31 = .ok (.getfield 22, 3) := by decide +kernel
theorem dX8_addPlayer_34 : decode cX8_addPlayer 34 = .ok (.aload_n 0, 1) := by decide +kernel
theorem dX8_addPlayer_35 : decode cX8_addPlayer 35 = .ok (.getfield 31, 3) := by decide +kernel
theorem dX8_addPlayer_38 : decode cX8_addPlayer 38 = .ok (.iconst 0, 1) := by decide +kernel
theorem dX8_addPlayer_39 : decode cX8_addPlayer 39 = .ok (.iastore, 1) := by decide +kernel
theorem dX8_addPlayer_40 : decode cX8_addPlayer 40 = .ok (.aload_n 0, 1) := by decide +kernel
theorem dX8_addPlayer_41 : decode cX8_addPlayer 41 = .ok (.getfield 25, 3) := by decide +kernel
theorem dX8_addPlayer_44 : decode cX8_addPlayer 44 = .ok (.aload_n 0, 1) := by decide +kernel
theorem dX8_addPlayer_45 : decode cX8_addPlayer 45 = .ok (.getfield 31, 3) := by decide +kernel
theorem dX8_addPlayer_48 : decode cX8_addPlayer 48 = .ok (.iconst (-1), 1) := by decide +kernel
theorem dX8_addPlayer_49 : decode cX8_addPlayer 49 = .ok (.iastore, 1) := by decide +kernel
theorem dX8_addPlayer_50 : decode cX8_addPlayer 50 = .ok (.aload_n 0, 1) := by decide +kernel
theorem dX8_addPlayer_51 : decode cX8_addPlayer 51 = .ok (.getfield 28, 3) := by decide +kernel
theorem dX8_addPlayer_54 : decode cX8_addPlayer 54 = .ok (.aload_n 0, 1) := by decide +kernel
theorem dX8_addPlayer_55 : decode cX8_addPlayer 55 = .ok (.getfield 31, 3) := by decide +kernel
theorem dX8_addPlayer_58 : decode cX8_addPlayer 58 = .ok (.iconst 5, 1) := by decide +kernel
theorem dX8_addPlayer_59 : decode cX8_addPlayer 59 = .ok (.iastore, 1) := by decide +kernel
theorem dX8_addPlayer_60 : decode cX8_addPlayer 60 = .ok (.aload_n 0, 1) := by decide +kernel
theorem dX8_addPlayer_61 : decode cX8_addPlayer 61 = .ok (.dup, 1) := by decide +kernel
theorem dX8_addPlayer_62 : decode cX8_addPlayer 62 = .ok (.getfield 31, 3) := by decide +kernel
theorem dX8_addPlayer_65 : decode cX8_addPlayer 65 = .ok (.iconst 1, 1) := by decide +kernel
theorem dX8_addPlayer_66 : decode cX8_addPlayer 66 = .ok (.iadd, 1) := by decide +kernel
theorem dX8_addPlayer_67 : decode cX8_addPlayer 67 = .ok (.putfield 31, 3) := by decide +kernel
theorem dX8_addPlayer_70 : decode cX8_addPlayer 70 = .ok (.return_, 1) := by decide +kernel
theorem dX8_put_0 : decode cX8_put 0 = .ok (.iload_n 2, 1) := by decide +kernel
theorem dX8_put_1 : decode cX8_put 1 = .ok (.tableswitch 71 0 3 #[31, 41, 51, 61], 31) := by decide +kernel
theorem dX8_put_32 : decode cX8_put 32 = .ok (.aload_n 0, 1) := by decide +kernel
theorem dX8_put_33 : decode cX8_put 33 = .ok (.getfield 15, 3) := by decide +kernel
theorem dX8_put_36 : decode cX8_put 36 = .ok (.iload_n 1, 1) := by decide +kernel
theorem dX8_put_37 : decode cX8_put 37 = .ok (.iload_n 3, 1) := by decide +kernel
theorem dX8_put_38 : decode cX8_put 38 = .ok (.iastore, 1) := by decide +kernel
theorem dX8_put_39 : decode cX8_put 39 = .ok (.goto 40, 3) := by decide +kernel
theorem dX8_put_42 : decode cX8_put 42 = .ok (.aload_n 0, 1) := by decide +kernel
theorem dX8_put_43 : decode cX8_put 43 = .ok (.getfield 19, 3) := by decide +kernel
theorem dX8_put_46 : decode cX8_put 46 = .ok (.iload_n 1, 1) := by decide +kernel
theorem dX8_put_47 : decode cX8_put 47 = .ok (.iload_n 3, 1) := by decide +kernel
theorem dX8_put_48 : decode cX8_put 48 = .ok (.iastore, 1) := by decide +kernel
theorem dX8_put_49 : decode cX8_put 49 = .ok (.goto 30, 3) := by decide +kernel
theorem dX8_put_52 : decode cX8_put 52 = .ok (.aload_n 0, 1) := by decide +kernel
theorem dX8_put_53 : decode cX8_put 53 = .ok (.getfield 22, 3) := by decide +kernel
theorem dX8_put_56 : decode cX8_put 56 = .ok (.iload_n 1, 1) := by decide +kernel
theorem dX8_put_57 : decode cX8_put 57 = .ok (.iload_n 3, 1) := by decide +kernel
theorem dX8_put_58 : decode cX8_put 58 = .ok (.iastore, 1) := by decide +kernel
theorem dX8_put_59 : decode cX8_put 59 = .ok (.goto 20, 3) := by decide +kernel
theorem dX8_put_62 : decode cX8_put 62 = .ok (.aload_n 0, 1) := by decide +kernel
theorem dX8_put_63 : decode cX8_put 63 = .ok (.getfield 25, 3) := by decide +kernel
theorem dX8_put_66 : decode cX8_put 66 = .ok (.iload_n 1, 1) := by decide +kernel
theorem dX8_put_67 : decode cX8_put 67 = .ok (.iload_n 3, 1) := by decide +kernel
theorem dX8_put_68 : decode cX8_put 68 = .ok (.iastore, 1) := by decide +kernel
theorem dX8_put_69 : decode cX8_put 69 = .ok (.goto 10, 3) := by decide +kernel
theorem dX8_put_72 : decode cX8_put 72 = .ok (.aload_n 0, 1) := by decide +kernel
theorem dX8_put_73 : decode cX8_put 73 = .ok (.getfield 28, 3) := by decide +kernel
theorem dX8_put_76 : decode cX8_put 76 = .ok (.iload_n 1, 1) := by decide +kernel
theorem dX8_put_77 : decode cX8_put 77 = .ok (.iload_n 3, 1) := by decide +kernel
theorem dX8_put_78 : decode cX8_put 78 = .ok (.iastore, 1) := by decide +kernel
theorem dX8_put_79 : decode cX8_put 79 = .ok (.return_, 1) := by decide +kernel
theorem dX8_copyFrom_0 : decode cX8_copyFrom 0 = .ok (.aload_n 0, 1) := by decide +kernel
theorem dX8_copyFrom_1 : decode cX8_copyFrom 1 = .ok (.aload_n 1, 1) := by decide +kernel
theorem dX8_copyFrom_2 : decode cX8_copyFrom 2 = .ok (.getfield 31, 3) := by decide +kernel
theorem dX8_copyFrom_5 : decode cX8_copyFrom 5 = .ok (.putfield 31, 3) := by decide +kernel
theorem dX8_copyFrom_8 : decode cX8_copyFrom 8 = .ok (.aload_n 0, 1) := by decide +kernel
theorem dX8_copyFrom_9 : decode cX8_copyFrom 9 = .ok (.aload_n 1, 1) := by decide +kernel
theorem dX8_copyFrom_10 : decode cX8_copyFrom 10 = .ok (.getfield 9, 3) := by decide +kernel
theorem dX8_copyFrom_13 : decode cX8_copyFrom 13 = .ok (.putfield 9, 3) := by decide +kernel
theorem dX8_copyFrom_16 : decode cX8_copyFrom 16 = .ok (.aload_n 1, 1) := by decide +kernel
theorem dX8_copyFrom_17 : decode cX8_copyFrom 17 = .ok (.getfield 15, 3) := by decide +kernel
theorem dX8_copyFrom_20 : decode cX8_copyFrom 20 = .ok (.iconst 0, 1) := by decide +kernel
theorem dX8_copyFrom_21 : decode cX8_copyFrom 21 = .ok (.aload_n 0, 1) := by decide +kernel
theorem dX8_copyFrom_22 : decode cX8_copyFrom 22 = .ok (.getfield 15, 3) := by decide +kernel
theorem dX8_copyFrom_25 : decode cX8_copyFrom 25 = .ok (.iconst 0, 1) := by decide +kernel
theorem dX8_copyFrom_26 : decode cX8_copyFrom 26 = .ok (.bipush 6, 2) := by decide +kernel
theorem dX8_copyFrom_28 : decode cX8_copyFrom 28 = .ok (.invokestatic 34, 3) := by decide +kernel
theorem dX8_copyFrom_31 : decode cX8_copyFrom 31 = .ok (.aload_n 1, 1) := by decide +kernel
theorem dX8_copyFrom_32 : decode cX8_copyFrom 32 = .ok (.getfield 19, 3) := by decide +kernel
theorem dX8_copyFrom_35 : decode cX8_copyFrom 35 = .ok (.iconst 0, 1) := by decide +kernel
theorem dX8_copyFrom_36 : decode cX8_copyFrom 36 = .ok (.aload_n 0, 1) := by decide +kernel
theorem dX8_copyFrom_37 : decode cX8_copyFrom 37 = .ok (.getfield 19, 3) := by decide +kernel
theorem dX8_copyFrom_40 : decode cX8_copyFrom 40 = .ok (.iconst 0, 1) := by decide +kernel
theorem dX8_copyFrom_41 : decode cX8_copyFrom 41 = .ok (.bipush 6, 2) := by decide +kernel
theorem dX8_copyFrom_43 : decode cX8_copyFrom 43 = .ok (.invokestatic 34, 3) := by decide +kernel
theorem dX8_copyFrom_46 : decode cX8_copyFrom 46 = .ok (.aload_n 1, 1) := by decide +kernel
theorem dX8_copyFrom_47 : decode cX8_copyFrom 47 = .ok (.getfield 22, 3) := by decide +kernel
theorem dX8_copyFrom_50 : decode cX8_copyFrom 50 = .ok (.iconst 0, 1) := by decide +kernel
theorem dX8_copyFrom_51 : decode cX8_copyFrom 51 = .ok (.aload_n 0, 1) := by decide +kernel
theorem dX8_copyFrom_52 : decode cX8_copyFrom 52 = .ok (.getfield 22, 3) := by decide +kernel
theorem dX8_copyFrom_55 : decode cX8_copyFrom 55 = .ok (.iconst 0, 1) := by decide +kernel
theorem dX8_copyFrom_56 : decode cX8_copyFrom 56 = .ok (.bipush 6, 2) := by decide +kernel
theorem dX8_copyFrom_58 : decode cX8_copyFrom 58 = .ok (.invokestatic 34, 3) := by decide +kernel
theorem dX8_copyFrom_61 : decode cX8_copyFrom 61 = .ok (.aload_n 1, 1) := by decide +kernel
theorem dX8_copyFrom_62 : decode cX8_copyFrom 62 = .ok (.getfield 25, 3) := by decide +kernel
theorem dX8_copyFrom_65 : decode cX8_copyFrom 65 = .ok (.iconst 0, 1) := by decide +kernel
theorem dX8_copyFrom_66 : decode cX8_copyFrom 66 = .ok (.aload_n 0, 1) := by decide +kernel
theorem dX8_copyFrom_67 : decode cX8_copyFrom 67 = .ok (.getfield 25, 3) := by decide +kernel
theorem dX8_copyFrom_70 : decode cX8_copyFrom 70 = .ok (.iconst 0, 1) := by decide +kernel
theorem dX8_copyFrom_71 : decode cX8_copyFrom 71 = .ok (.bipush 6, 2) := by decide +kernel
theorem dX8_copyFrom_73 : decode cX8_copyFrom 73 = .ok (.invokestatic 34, 3) := by decide +kernel
theorem dX8_copyFrom_76 : decode cX8_copyFrom 76 = .ok (.aload_n 1, 1) := by decide +kernel
theorem dX8_copyFrom_77 : decode cX8_copyFrom 77 = .ok (.getfield 28, 3) := by decide +kernel
theorem dX8_copyFrom_80 : decode cX8_copyFrom 80 = .ok (.iconst 0, 1) := by decide +kernel
theorem dX8_copyFrom_81 : decode cX8_copyFrom 81 = .ok (.aload_n 0, 1) := by decide +kernel
theorem dX8_copyFrom_82 : decode cX8_copyFrom 82 = .ok (.getfield 28, 3) := by decide +kernel
theorem dX8_copyFrom_85 : decode cX8_copyFrom 85 = .ok (.iconst 0, 1) := by decide +kernel
theorem dX8_copyFrom_86 : decode cX8_copyFrom 86 = .ok (.bipush 6, 2) := by decide +kernel
theorem dX8_copyFrom_88 : decode cX8_copyFrom 88 = .ok (.invokestatic 34, 3) := by decide +kernel
theorem dX8_copyFrom_91 : decode cX8_copyFrom 91 = .ok (.return_, 1) := by decide +kernel
theorem dX8_drifted_0 : decode cX8_drifted 0 = .ok (.aload_n 0, 1) := by decide +kernel
theorem dX8_drifted_1 : decode cX8_drifted 1 = .ok (.getfield 19, 3) := by decide +kernel
theorem dX8_drifted_4 : decode cX8_drifted 4 = .ok (.iload_n 1, 1) := by decide +kernel
theorem dX8_drifted_5 : decode cX8_drifted 5 = .ok (.iaload, 1) := by decide +kernel
theorem dX8_drifted_6 : decode cX8_drifted 6 = .ok (.aload_n 0, 1) := by decide +kernel
theorem dX8_drifted_7 : decode cX8_drifted 7 = .ok (.getfield 22, 3) := by decide +kernel
theorem dX8_drifted_10 : decode cX8_drifted 10 = .ok (.iload_n 1, 1) := by decide +kernel
theorem dX8_drifted_11 : decode cX8_drifted 11 = .ok (.iaload, 1) := by decide +kernel
theorem dX8_drifted_12 : decode cX8_drifted 12 = .ok (.iconst 2, 1) := by decide +kernel
theorem dX8_drifted_13 : decode cX8_drifted 13 = .ok (.if_icmp .ge 7, 3) := by decide +kernel
theorem dX8_drifted_16 : decode cX8_drifted 16 = .ok (.iload_n 3, 1) := by decide +kernel
theorem dX8_drifted_17 : decode cX8_drifted 17 = .ok (.goto 5, 3) := by decide +kernel
theorem dX8_drifted_20 : decode cX8_drifted 20 = .ok (.iload 4, 2) := by decide +kernel
theorem dX8_drifted_22 : decode cX8_drifted 22 = .ok (.imul, 1) := by decide +kernel
theorem dX8_drifted_23 : decode cX8_drifted 23 = .ok (.istore 5, 2) := by decide +kernel
theorem dX8_drifted_25 : decode cX8_drifted 25 = .ok (.aload_n 0, 1) := by decide +kernel
theorem dX8_drifted_26 : decode cX8_drifted 26 = .ok (.getfield 22, 3) := by decide +kernel
theorem dX8_drifted_29 : decode cX8_drifted 29 = .ok (.iload_n 1, 1) := by decide +kernel
theorem dX8_drifted_30 : decode cX8_drifted 30 = .ok (.iaload, 1) := by decide +kernel
theorem dX8_drifted_31 : decode cX8_drifted 31 = .ok (.iconst 2, 1) := by decide +kernel
theorem dX8_drifted_32 : decode cX8_drifted 32 = .ok (.irem, 1) := by decide +kernel
theorem dX8_drifted_33 : decode cX8_drifted 33 = .ok (.ifCond .ne 10, 3) := by decide +kernel
theorem dX8_drifted_36 : decode cX8_drifted 36 = .ok (.iload_n 2, 1) := by decide +kernel
theorem dX8_drifted_37 : decode cX8_drifted 37 = .ok (.iload 5, 2) := by decide +kernel
theorem dX8_drifted_39 : decode cX8_drifted 39 = .ok (.iadd, 1) := by decide +kernel
theorem dX8_drifted_40 : decode cX8_drifted 40 = .ok (.goto 7, 3) := by decide +kernel
theorem dX8_drifted_43 : decode cX8_drifted 43 = .ok (.iload_n 2, 1) := by decide +kernel
theorem dX8_drifted_44 : decode cX8_drifted 44 = .ok (.iload 5, 2) := by decide +kernel
theorem dX8_drifted_46 : decode cX8_drifted 46 = .ok (.isub, 1) := by decide +kernel
theorem dX8_drifted_47 : decode cX8_drifted 47 = .ok (.iconst 1, 1) := by decide +kernel
theorem dX8_drifted_48 : decode cX8_drifted 48 = .ok (.sipush 199, 3) := by decide +kernel
theorem dX8_drifted_51 : decode cX8_drifted 51 = .ok (.invokestatic 40, 3) := by decide +kernel
theorem dX8_drifted_54 : decode cX8_drifted 54 = .ok (.ireturn, 1) := by decide +kernel
theorem dX8_goThroughDay_0 : decode cX8_goThroughDay 0 = .ok (.iconst 0, 1) := by decide +kernel
theorem dX8_goThroughDay_1 : decode cX8_goThroughDay 1 = .ok (.istore 4, 2) := by decide +kernel
theorem dX8_goThroughDay_3 : decode cX8_goThroughDay 3 = .ok (.iload 4, 2) := by decide +kernel
theorem dX8_goThroughDay_5 : decode cX8_goThroughDay 5 = .ok (.aload_n 0, 1) := by decide +kernel
theorem dX8_goThroughDay_6 : decode cX8_goThroughDay 6 = .ok (.getfield 31, 3) := by decide +kernel
theorem dX8_goThroughDay_9 : decode cX8_goThroughDay 9 = .ok (.if_icmp .ge 45, 3) := by decide +kernel
theorem dX8_goThroughDay_12 : decode cX8_goThroughDay 12 = .ok (.iload 4, 2) := by decide +kernel
theorem dX8_goThroughDay_14 : decode cX8_goThroughDay 14 = .ok (.aload_n 1, 1) := by decide +kernel
theorem dX8_goThroughDay_15 : decode cX8_goThroughDay 15 = .ok (.arraylength, 1) := by decide +kernel
theorem dX8_goThroughDay_16 : decode cX8_goThroughDay 16 = .ok (.if_icmp .ge 38, 3) := by decide +kernel
theorem dX8_goThroughDay_19 : decode cX8_goThroughDay 19 = .ok (.aload_n 1, 1) := by decide +kernel
theorem dX8_goThroughDay_20 : decode cX8_goThroughDay 20 = .ok (.iload 4, 2) := by decide +kernel
theorem dX8_goThroughDay_22 : decode cX8_goThroughDay 22 = .ok (.iload 4, 2) := by decide +kernel
theorem dX8_goThroughDay_24 : decode cX8_goThroughDay 24 = .ok (.iload_n 2, 1) := by decide +kernel
theorem dX8_goThroughDay_25 : decode cX8_goThroughDay 25 = .ok (.if_icmp .ne 10, 3) := by decide +kernel
theorem dX8_goThroughDay_28 : decode cX8_goThroughDay 28 = .ok (.aload_n 0, 1) := by decide +kernel
theorem dX8_goThroughDay_29 : decode cX8_goThroughDay 29 = .ok (.getfield 9, 3) := by decide +kernel
theorem dX8_goThroughDay_32 : decode cX8_goThroughDay 32 = .ok (.goto 15, 3) := by decide +kernel
theorem dX8_goThroughDay_35 : decode cX8_goThroughDay 35 = .ok (.aload_n 0, 1) := by decide +kernel
theorem dX8_goThroughDay_36 : decode cX8_goThroughDay 36 = .ok (.iload 4, 2) := by decide +kernel
theorem dX8_goThroughDay_38 : decode cX8_goThroughDay 38 = .ok (.aload_n 1, 1) := by decide +kernel
theorem dX8_goThroughDay_39 : decode cX8_goThroughDay 39 = .ok (.iload 4, 2) := by decide +kernel
theorem dX8_goThroughDay_41 : decode cX8_goThroughDay 41 = .ok (.iaload, 1) := by decide +kernel
theorem dX8_goThroughDay_42 : decode cX8_goThroughDay 42 = .ok (.iconst 1, 1) := by decide +kernel
theorem dX8_goThroughDay_43 : decode cX8_goThroughDay 43 = .ok (.iload_n 3, 1) := by decide +kernel
theorem dX8_goThroughDay_44 : decode cX8_goThroughDay 44 = .ok (.invokevirtual 44, 3) := by decide +kernel
theorem dX8_goThroughDay_47 : decode cX8_goThroughDay 47 = .ok (.iastore, 1) := by decide +kernel
theorem dX8_goThroughDay_48 : decode cX8_goThroughDay 48 = .ok (.iinc 4 1, 3) := by decide +kernel
theorem dX8_goThroughDay_51 : decode cX8_goThroughDay 51 = .ok (.goto (-48), 3) := by decide +kernel
theorem dX8_goThroughDay_54 : decode cX8_goThroughDay 54 = .ok (.return_, 1) := by decide +kernel
theorem dX9_init_0 : decode cX9_init 0 = .ok (.aload_n 0, 1) := by decide +kernel
theorem dX9_init_1 : decode cX9_init 1 = .ok (.aload_n 1, 1) := by decide +kernel
theorem dX9_init_2 : decode cX9_init 2 = .ok (.invokespecial 3, 3) := by decide +kernel
theorem dX9_init_5 : decode cX9_init 5 = .ok (.aload_n 0, 1) := by decide +kernel
theorem dX9_init_6 : decode cX9_init 6 = .ok (.new 9, 3) := by decide +kernel
theorem dX9_init_9 : decode cX9_init 9 = .ok (.dup, 1) := by decide +kernel
theorem dX9_init_10 : decode cX9_init 10 = .ok (.invokespecial 11, 3) := by decide +kernel
theorem dX9_init_13 : decode cX9_init 13 = .ok (.putfield 14, 3) := by decide +kernel
theorem dX9_init_16 : decode cX9_init 16 = .ok (.return_, 1) := by decide +kernel
theorem dX9_clear_0 : decode cX9_clear 0 = .ok (.aload_n 0, 1) := by decide +kernel
theorem dX9_clear_1 : decode cX9_clear 1 = .ok (.getfield 14, 3) := by decide +kernel
theorem dX9_clear_4 : decode cX9_clear 4 = .ok (.invokevirtual 20, 3) := by decide +kernel
theorem dX9_clear_7 : decode cX9_clear 7 = .ok (.aload_n 0, 1) := by decide +kernel
theorem dX9_clear_8 : decode cX9_clear 8 = .ok (.iconst 0, 1) := by decide +kernel
theorem dX9_clear_9 : decode cX9_clear 9 = .ok (.putfield 23, 3) := by decide +kernel
theorem dX9_clear_12 : decode cX9_clear 12 = .ok (.return_, 1) := by decide +kernel
theorem dX9_readClause_0 : decode cX9_readClause 0 = .ok (.aload_n 0, 1) := by decide +kernel
theorem dX9_readClause_1 : decode cX9_readClause 1 = .ok (.invokevirtual 27, 3) := by decide +kernel
theorem dX9_readClause_4 : decode cX9_readClause 4 = .ok (.istore_n 1, 1) := by decide +kernel
theorem dX9_readClause_5 : decode cX9_readClause 5 = .ok (.iload_n 1, 1) := by decide +kernel
theorem dX9_readClause_6 : decode cX9_readClause 6 = .ok (.bipush 112, 2) := by decide +kernel
theorem dX9_readClause_8 : decode cX9_readClause 8 = .ok (.if_icmp .ne 38, 3) := by decide +kernel
theorem dX9_readClause_11 : decode cX9_readClause 11 = .ok (.aload_n 0, 1) := by decide +kernel
theorem dX9_readClause_12 : decode cX9_readClause 12 = .ok (.getfield 14, 3) := by decide +kernel
theorem dX9_readClause_15 : decode cX9_readClause 15 = .ok (.getfield 31, 3) := by decide +kernel
theorem dX9_readClause_18 : decode cX9_readClause 18 = .ok (.bipush 6, 2) := by decide +kernel
theorem dX9_readClause_20 : decode cX9_readClause 20 = .ok (.if_icmp .ge 26, 3) := by decide +kernel
theorem dX9_readClause_23 : decode cX9_readClause 23 = .ok (.aload_n 0, 1) := by decide +kernel
theorem dX9_readClause_24 : decode cX9_readClause 24 = .ok (.dup, 1) := by decide +kernel
theorem dX9_readClause_25 : decode cX9_readClause 25 = .ok (.getfield 35, 3) := by decide +kernel
theorem dX9_readClause_28 : decode cX9_readClause 28 = .ok (.iconst 1, 1) := by decide +kernel
theorem dX9_readClause_29 : decode cX9_readClause 29 = .ok (.iadd, 1) := by decide +kernel
theorem dX9_readClause_30 : decode cX9_readClause 30 = .ok (.putfield 35, 3) := by decide +kernel
theorem dX9_readClause_33 : decode cX9_readClause 33 = .ok (.aload_n 0, 1) := by decide +kernel
theorem dX9_readClause_34 : decode cX9_readClause 34 = .ok (.getfield 14, 3) := by decide +kernel
theorem dX9_readClause_37 : decode cX9_readClause 37 = .ok (.invokevirtual 38, 3) := by decide +kernel
theorem dX9_readClause_40 : decode cX9_readClause 40 = .ok (.aload_n 0, 1) := by decide +kernel
theorem dX9_readClause_41 : decode cX9_readClause 41 = .ok (.iconst 1, 1) := by decide +kernel
theorem dX9_readClause_42 : decode cX9_readClause 42 = .ok (.invokevirtual 41, 3) := by decide +kernel
theorem dX9_readClause_45 : decode cX9_readClause 45 = .ok (.ireturn, 1) := by decide +kernel
theorem dX9_readClause_46 : decode cX9_readClause 46 = .ok (.iload_n 1, 1) := by decide +kernel
theorem dX9_readClause_47 : decode cX9_readClause 47 = .ok (.bipush 109, 2) := by decide +kernel
theorem dX9_readClause_49 : decode cX9_readClause 49 = .ok (.if_icmp .ne 31, 3) := by decide +kernel
theorem dX9_readClause_52 : decode cX9_readClause 52 = .ok (.aload_n 0, 1) := by decide +kernel
theorem dX9_readClause_53 : decode cX9_readClause 53 = .ok (.getfield 23, 3) := by decide +kernel
theorem dX9_readClause_56 : decode cX9_readClause 56 = .ok (.ifCond .ne 24, 3) := by decide +kernel
theorem dX9_readClause_59 : decode cX9_readClause 59 = .ok (.aload_n 0, 1) := by decide +kernel
theorem dX9_readClause_60 : decode cX9_readClause 60 = .ok (.dup, 1) := by decide +kernel
theorem dX9_readClause_61 : decode cX9_readClause 61 = .ok (.getfield 35, 3) := by decide +kernel
theorem dX9_readClause_64 : decode cX9_readClause 64 = .ok (.iconst 1, 1) := by decide +kernel
theorem dX9_readClause_65 : decode cX9_readClause 65 = .ok (.iadd, 1) := by decide +kernel
theorem dX9_readClause_66 : decode cX9_readClause 66 = .ok (.putfield 35, 3) := by decide +kernel
theorem dX9_readClause_69 : decode cX9_readClause 69 = .ok (.aload_n 0, 1) := by decide +kernel
theorem dX9_readClause_70 : decode cX9_readClause 70 = .ok (.iconst 1, 1) := by decide +kernel
theorem dX9_readClause_71 : decode cX9_readClause 71 = .ok (.putfield 23, 3) := by decide +kernel
theorem dX9_readClause_74 : decode cX9_readClause 74 = .ok (.aload_n 0, 1) := by decide +kernel
theorem dX9_readClause_75 : decode cX9_readClause 75 = .ok (.iconst 0, 1) := by decide +kernel
theorem dX9_readClause_76 : decode cX9_readClause 76 = .ok (.invokevirtual 41, 3) := by decide +kernel
theorem dX9_readClause_79 : decode cX9_readClause 79 = .ok (.ireturn, 1) := by decide +kernel
theorem dX9_readClause_80 : decode cX9_readClause 80 = .ok (.aload_n 0, 1) := by decide +kernel
theorem dX9_readClause_81 : decode cX9_readClause 81 = .ok (.invokevirtual 45, 3) := by decide +kernel
theorem dX9_readClause_84 : decode cX9_readClause 84 = .ok (.ireturn, 1) := by decide +kernel
theorem dX9_readItems_0 : decode cX9_readItems 0 = .ok (.iconst 0, 1) := by decide +kernel
theorem dX9_readItems_1 : decode cX9_readItems 1 = .ok (.istore_n 2, 1) := by decide +kernel
theorem dX9_readItems_2 : decode cX9_readItems 2 = .ok (.iconst 0, 1) := by decide +kernel
theorem dX9_readItems_3 : decode cX9_readItems 3 = .ok (.istore_n 3, 1) := by decide +kernel
theorem dX9_readItems_4 : decode cX9_readItems 4 = .ok (.iload_n 3, 1) := by decide +kernel
theorem dX9_readItems_5 : decode cX9_readItems 5 = .ok (.iconst 5, 1) := by decide +kernel
theorem dX9_readItems_6 : decode cX9_readItems 6 = .ok (.if_icmp .gt 102, 3) := by decide +kernel
theorem dX9_readItems_9 : decode cX9_readItems 9 = .ok (.aload_n 0, 1) := by decide +kernel
theorem dX9_readItems_10 : decode cX9_readItems 10 = .ok (.invokevirtual 27, 3) := by decide +kernel
theorem dX9_readItems_13 : decode cX9_readItems 13 = .ok (.invokestatic 49, 3) := by decide +kernel
theorem dX9_readItems_16 : decode cX9_readItems 16 = .ok (.istore 4, 2) := by decide +kernel
theorem dX9_readItems_18 : decode cX9_readItems 18 = .ok (.iload 4, 2) := by decide +kernel
theorem dX9_readItems_20 : decode cX9_readItems 20 = .ok (.iconst (-1), 1) := by decide +kernel
theorem dX9_readItems_21 : decode cX9_readItems 21 = .ok (.if_icmp .ne 5, 3) := by decide +kernel
theorem dX9_readItems_24 : decode cX9_readItems 24 = .ok (.iconst 1, 1) := by decide +kernel
theorem dX9_readItems_25 : decode cX9_readItems 25 = .ok (.ireturn, 1) := by decide +kernel
theorem dX9_readItems_26 : decode cX9_readItems 26 = .ok (.iload_n 1, 1) := by decide +kernel
theorem dX9_readItems_27 : decode cX9_readItems 27 = .ok (.ifCond .ne 8, 3) := by decide +kernel
theorem dX9_readItems_30 : decode cX9_readItems 30 = .ok (.iload 4, 2) := by decide +kernel
theorem dX9_readItems_32 : decode cX9_readItems 32 = .ok (.ifCond .ne 12, 3) := by decide +kernel
theorem dX9_readItems_35 : decode cX9_readItems 35 = .ok (.iload_n 2, 1) := by decide +kernel
theorem dX9_readItems_36 : decode cX9_readItems 36 = .ok (.iload 4, 2) := by decide +kernel
theorem dX9_readItems_38 : decode cX9_readItems 38 = .ok (.ishr, 1) := by decide +kernel
theorem dX9_readItems_39 : decode cX9_readItems 39 = .ok (.iconst 1, 1) := by decide +kernel
theorem dX9_readItems_40 : decode cX9_readItems 40 = .ok (.iand, 1) := by decide +kernel
theorem dX9_readItems_41 : decode cX9_readItems 41 = .ok (.ifCond .eq 8, 3) := by decide +kernel
theorem dX9_readItems_44 : decode cX9_readItems 44 = .ok (.aload_n 0, 1) := by decide +kernel
theorem dX9_readItems_45 : decode cX9_readItems 45 = .ok (.invokevirtual 45, 3) := by decide +kernel
theorem dX9_readItems_48 : decode cX9_readItems 48 = .ok (.ireturn, 1) := by decide +kernel
theorem dX9_readItems_49 : decode cX9_readItems 49 = .ok (.iload_n 2, 1) := by decide +kernel
theorem dX9_readItems_50 : decode cX9_readItems 50 = .ok (.iconst 1, 1) := by decide +kernel
theorem dX9_readItems_51 : decode cX9_readItems 51 = .ok (.iload 4, 2) := by decide +kernel
theorem dX9_readItems_53 : decode cX9_readItems 53 = .ok (.ishl, 1) := by decide +kernel
theorem dX9_readItems_54 : decode cX9_readItems 54 = .ok (.ior, 1) := by decide +kernel
theorem dX9_readItems_55 : decode cX9_readItems 55 = .ok (.istore_n 2, 1) := by decide +kernel
theorem dX9_readItems_56 : decode cX9_readItems 56 = .ok (.aload_n 0, 1) := by decide +kernel
theorem dX9_readItems_57 : decode cX9_readItems 57 = .ok (.dup, 1) := by decide +kernel
theorem dX9_readItems_58 : decode cX9_readItems 58 = .ok (.getfield 35, 3) := by decide +kernel
theorem dX9_readItems_61 : decode cX9_readItems 61 = .ok (.iconst 1, 1) := by decide +kernel
theorem dX9_readItems_62 : decode cX9_readItems 62 = .ok (.iadd, 1) := by decide +kernel
theorem dX9_readItems_63 : decode cX9_readItems 63 = .ok (.putfield 35, 3) := by decide +kernel
theorem dX9_readItems_66 : decode cX9_readItems 66 = .ok (.aload_n 0, 1) := by decide +kernel
theorem dX9_readItems_67 : decode cX9_readItems 67 = .ok (.iconst 2, 1) := by decide +kernel
theorem dX9_readItems_68 : decode cX9_readItems 68 = .ok (.getstatic 53, 3) := by decide +kernel
theorem dX9_readItems_71 : decode cX9_readItems 71 = .ok (.iload 4, 2) := by decide +kernel
theorem dX9_readItems_73 : decode cX9_readItems 73 = .ok (.iaload, 1) := by decide +kernel
theorem dX9_readItems_74 : decode cX9_readItems 74 = .ok (.getstatic 57, 3) := by decide +kernel
theorem dX9_readItems_77 : decode cX9_readItems 77 = .ok (.iload 4, 2) := by decide +kernel
theorem dX9_readItems_79 : decode cX9_readItems 79 = .ok (.iaload, 1) := by decide +kernel
theorem dX9_readItems_80 : decode cX9_readItems 80 = .ok (.invokevirtual 60, 3) := by decide +kernel
theorem dX9_readItems_83 : decode cX9_readItems 83 = .ok (.istore 5, 2) := by decide +kernel
theorem dX9_readItems_85 : decode cX9_readItems 85 = .ok (.iload 5, 2) := by decide +kernel
theorem dX9_readItems_87 : decode cX9_readItems 87 = .ok (.iconst (-1), 1) := by decide +kernel
theorem dX9_readItems_88 : decode cX9_readItems 88 = .ok (.if_icmp .ne 5, 3) := by decide +kernel
theorem dX9_readItems_91 : decode cX9_readItems 91 = .ok (.iconst 0, 1) := by decide +kernel
theorem dX9_readItems_92 : decode cX9_readItems 92 = .ok (.ireturn, 1) := by decide +kernel
theorem dX9_readItems_93 : decode cX9_readItems 93 = .ok (.aload_n 0, 1) := by decide +kernel
theorem dX9_readItems_94 : decode cX9_readItems 94 = .ok (.iload_n 1, 1) := by decide +kernel
theorem dX9_readItems_95 : decode cX9_readItems 95 = .ok (.iload 4, 2) := by decide +kernel
theorem dX9_readItems_97 : decode cX9_readItems 97 = .ok (.iload 5, 2) := by decide +kernel
theorem dX9_readItems_99 : decode cX9_readItems 99 = .ok (.invokevirtual 64, 3) := by decide +kernel
theorem dX9_readItems_102 : decode cX9_readItems 102 = .ok (.iinc 3 1, 3) := by decide +kernel
theorem dX9_readItems_105 : decode cX9_readItems 105 = .ok (.goto (-101), 3) := by decide +kernel
theorem dX9_readItems_108 : decode cX9_readItems 108 = .ok (.aload_n 0, 1) := by decide +kernel
theorem dX9_readItems_109 : decode cX9_readItems 109 = .ok (.invokevirtual 45, 3) := by decide +kernel
theorem dX9_readItems_112 : decode cX9_readItems 112 = .ok (.ireturn, 1) := by decide +kernel
theorem dX9_itemOf_0 : decode cX9_itemOf 0 = .ok (.iload_n 0, 1) := by decide +kernel
theorem dX9_itemOf_1 : decode cX9_itemOf 1 = .ok (.tableswitch 65 98 107 #[55, 65, 57, 65, 61, 65, 63, 65, 65, 59], 55) := by decide +kernel
theorem dX9_itemOf_56 : decode cX9_itemOf 56 = .ok (.iconst 0, 1) := by decide +kernel
theorem dX9_itemOf_57 : decode cX9_itemOf 57 = .ok (.ireturn, 1) := by decide +kernel
theorem dX9_itemOf_58 : decode cX9_itemOf 58 = .ok (.iconst 1, 1) := by decide +kernel
theorem dX9_itemOf_59 : decode cX9_itemOf 59 = .ok (.ireturn, 1) := by decide +kernel
theorem dX9_itemOf_60 : decode cX9_itemOf 60 = .ok (.iconst 2, 1) := by decide +kernel
theorem dX9_itemOf_61 : decode cX9_itemOf 61 = .ok (.ireturn, 1) := by decide +kernel
theorem dX9_itemOf_62 : decode cX9_itemOf 62 = .ok (.iconst 3, 1) := by decide +kernel
theorem dX9_itemOf_63 : decode cX9_itemOf 63 = .ok (.ireturn, 1) := by decide +kernel
theorem dX9_itemOf_64 : decode cX9_itemOf 64 = .ok (.iconst 4, 1) := by decide +kernel
theorem dX9_itemOf_65 : decode cX9_itemOf 65 = .ok (.ireturn, 1) := by decide +kernel
theorem dX9_itemOf_66 : decode cX9_itemOf 66 = .ok (.iconst (-1), 1) := by decide +kernel
theorem dX9_itemOf_67 : decode cX9_itemOf 67 = .ok (.ireturn, 1) := by decide +kernel
theorem dX9_keep_0 : decode cX9_keep 0 = .ok (.aload_n 0, 1) := by decide +kernel
theorem dX9_keep_1 : decode cX9_keep 1 = .ok (.getfield 14, 3) := by decide +kernel
theorem dX9_keep_4 : decode cX9_keep 4 = .ok (.getfield 31, 3) := by decide +kernel
theorem dX9_keep_7 : decode cX9_keep 7 = .ok (.iconst 1, 1) := by decide +kernel
theorem dX9_keep_8 : decode cX9_keep 8 = .ok (.isub, 1) := by decide +kernel
theorem dX9_keep_9 : decode cX9_keep 9 = .ok (.istore 4, 2) := by decide +kernel
theorem dX9_keep_11 : decode cX9_keep 11 = .ok (.iload_n 1, 1) := by decide +kernel
theorem dX9_keep_12 : decode cX9_keep 12 = .ok (.ifCond .ne 14, 3) := by decide +kernel
theorem dX9_keep_15 : decode cX9_keep 15 = .ok (.aload_n 0, 1) := by decide +kernel
theorem dX9_keep_16 : decode cX9_keep 16 = .ok (.getfield 14, 3) := by decide +kernel
theorem dX9_keep_19 : decode cX9_keep 19 = .ok (.iload_n 3, 1) := by decide +kernel
theorem dX9_keep_20 : decode cX9_keep 20 = .ok (.putfield 68, 3) := by decide +kernel
theorem dX9_keep_23 : decode cX9_keep 23 = .ok (.goto 19, 3) := by decide +kernel
theorem dX9_keep_26 : decode cX9_keep 26 = .ok (.iload 4, 2) := by decide +kernel
theorem dX9_keep_28 : decode cX9_keep 28 = .ok (.ifCond .lt 14, 3) := by decide +kernel
theorem dX9_keep_31 : decode cX9_keep 31 = .ok (.aload_n 0, 1) := by decide +kernel
theorem dX9_keep_32 : decode cX9_keep 32 = .ok (.getfield 14, 3) := by decide +kernel
theorem dX9_keep_35 : decode cX9_keep 35 = .ok (.iload 4, 2) := by decide +kernel
theorem dX9_keep_37 : decode cX9_keep 37 = .ok (.iload_n 2, 1) := by decide +kernel
theorem dX9_keep_38 : decode cX9_keep 38 = .ok (.iload_n 3, 1) := by decide +kernel
theorem dX9_keep_39 : decode cX9_keep 39 = .ok (.invokevirtual 71, 3) := by decide +kernel
theorem dX9_keep_42 : decode cX9_keep 42 = .ok (.return_, 1) := by decide +kernel
theorem dX9_isWhole_0 : decode cX9_isWhole 0 = .ok (.iconst 0, 1) := by decide +kernel
theorem dX9_isWhole_1 : decode cX9_isWhole 1 = .ok (.istore_n 1, 1) := by decide +kernel
theorem dX9_isWhole_2 : decode cX9_isWhole 2 = .ok (.iload_n 1, 1) := by decide +kernel
theorem dX9_isWhole_3 : decode cX9_isWhole 3 = .ok (.aload_n 0, 1) := by decide +kernel
theorem dX9_isWhole_4 : decode cX9_isWhole 4 = .ok (.getfield 14, 3) := by decide +kernel
theorem dX9_isWhole_7 : decode cX9_isWhole 7 = .ok (.getfield 31, 3) := by decide +kernel
theorem dX9_isWhole_10 : decode cX9_isWhole 10 = .ok (.if_icmp .ge 43, 3) := by decide +kernel
theorem dX9_isWhole_13 : decode cX9_isWhole 13 = .ok (.aload_n 0, 1) := by decide +kernel
theorem dX9_isWhole_14 : decode cX9_isWhole 14 = .ok (.getfield 14, 3) := by decide +kernel
theorem dX9_isWhole_17 : decode cX9_isWhole 17 = .ok (.getfield 75, 3) := by decide +kernel
theorem dX9_isWhole_20 : decode cX9_isWhole 20 = .ok (.iload_n 1, 1) := by decide +kernel
theorem dX9_isWhole_21 : decode cX9_isWhole 21 = .ok (.iaload, 1) := by decide +kernel
theorem dX9_isWhole_22 : decode cX9_isWhole 22 = .ok (.iload_n 1, 1) := by decide +kernel
theorem dX9_isWhole_23 : decode cX9_isWhole 23 = .ok (.if_icmp .eq 22, 3) := by decide +kernel
theorem dX9_isWhole_26 : decode cX9_isWhole 26 = .ok (.aload_n 0, 1) := by decide +kernel
theorem dX9_isWhole_27 : decode cX9_isWhole 27 = .ok (.getfield 14, 3) := by decide +kernel
theorem dX9_isWhole_30 : decode cX9_isWhole 30 = .ok (.getfield 75, 3) := by decide +kernel
theorem dX9_isWhole_33 : decode cX9_isWhole 33 = .ok (.iload_n 1, 1) := by decide +kernel
theorem dX9_isWhole_34 : decode cX9_isWhole 34 = .ok (.iaload, 1) := by decide +kernel
theorem dX9_isWhole_35 : decode cX9_isWhole 35 = .ok (.aload_n 0, 1) := by decide +kernel
theorem dX9_isWhole_36 : decode cX9_isWhole 36 = .ok (.getfield 14, 3) := by decide +kernel
theorem dX9_isWhole_39 : decode cX9_isWhole 39 = .ok (.getfield 31, 3) := by decide +kernel
theorem dX9_isWhole_42 : decode cX9_isWhole 42 = .ok (.if_icmp .lt 5, 3) := by decide +kernel
theorem dX9_isWhole_45 : decode cX9_isWhole 45 = .ok (.iconst 0, 1) := by decide +kernel
theorem dX9_isWhole_46 : decode cX9_isWhole 46 = .ok (.ireturn, 1) := by decide +kernel
theorem dX9_isWhole_47 : decode cX9_isWhole 47 = .ok (.iinc 1 1, 3) := by decide +kernel
theorem dX9_isWhole_50 : decode cX9_isWhole 50 = .ok (.goto (-48), 3) := by decide +kernel
theorem dX9_isWhole_53 : decode cX9_isWhole 53 = .ok (.aload_n 0, 1) := by decide +kernel
theorem dX9_isWhole_54 : decode cX9_isWhole 54 = .ok (.getfield 14, 3) := by decide +kernel
theorem dX9_isWhole_57 : decode cX9_isWhole 57 = .ok (.getfield 31, 3) := by decide +kernel
theorem dX9_isWhole_60 : decode cX9_isWhole 60 = .ok (.ifCond .le 7, 3) := by decide +kernel
theorem dX9_isWhole_63 : decode cX9_isWhole 63 = .ok (.iconst 1, 1) := by decide +kernel
theorem dX9_isWhole_64 : decode cX9_isWhole 64 = .ok (.goto 4, 3) := by decide +kernel
theorem dX9_isWhole_67 : decode cX9_isWhole 67 = .ok (.iconst 0, 1) := by decide +kernel
theorem dX9_isWhole_68 : decode cX9_isWhole 68 = .ok (.ireturn, 1) := by decide +kernel
theorem dX10_init_0 : decode cX10_init 0 = .ok (.aload_n 0, 1) := by decide +kernel
theorem dX10_init_1 : decode cX10_init 1 = .ok (.invokespecial 3, 3) := by decide +kernel
theorem dX10_init_4 : decode cX10_init 4 = .ok (.aload_n 0, 1) := by decide +kernel
theorem dX10_init_5 : decode cX10_init 5 = .ok (.bipush 6, 2) := by decide +kernel
theorem dX10_init_7 : decode cX10_init 7 = .ok (.newarray .int, 2) := by decide +kernel
theorem dX10_init_9 : decode cX10_init 9 = .ok (.putfield 9, 3) := by decide +kernel
