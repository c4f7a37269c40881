theorem d_Mod_gap_1 : decode b_Mod_gap 1 = .ok (.ifCond .ge 7, 3) := by decide +kernel
theorem d_Mod_gap_4 : decode b_Mod_gap 4 = .ok (.iconst (-1), 1) := by decide +kernel
theorem d_Mod_gap_5 : decode b_Mod_gap 5 = .ok (.goto 9, 3) := by decide +kernel
theorem d_Mod_gap_8 : decode b_Mod_gap 8 = .ok (.aload_n 0, 1) := by decide +kernel
theorem d_Mod_gap_9 : decode b_Mod_gap 9 = .ok (.iload_n 1, 1) := by decide +kernel
theorem d_Mod_gap_10 : decode b_Mod_gap 10 = .ok (.iload_n 2, 1) := by decide +kernel
theorem d_Mod_gap_11 : decode b_Mod_gap 11 = .ok (.invokevirtual 160, 3) := by decide +kernel
theorem d_Mod_gap_14 : decode b_Mod_gap 14 = .ok (.istore_n 3, 1) := by decide +kernel
theorem d_Mod_gap_15 : decode b_Mod_gap 15 = .ok (.iload_n 3, 1) := by decide +kernel
theorem d_Mod_gap_16 : decode b_Mod_gap 16 = .ok (.ifCond .lt 21, 3) := by decide +kernel
theorem d_Mod_gap_19 : decode b_Mod_gap 19 = .ok (.aload_n 0, 1) := by decide +kernel
theorem d_Mod_gap_20 : decode b_Mod_gap 20 = .ok (.getfield 67, 3) := by decide +kernel
theorem d_Mod_gap_23 : decode b_Mod_gap 23 = .ok (.iload_n 3, 1) := by decide +kernel
theorem d_Mod_gap_24 : decode b_Mod_gap 24 = .ok (.baload, 1) := by decide +kernel
theorem d_Mod_gap_25 : decode b_Mod_gap 25 = .ok (.ifCond .ne 12, 3) := by decide +kernel
theorem d_Mod_gap_28 : decode b_Mod_gap 28 = .ok (.aload_n 0, 1) := by decide +kernel
theorem d_Mod_gap_29 : decode b_Mod_gap 29 = .ok (.getfield 73, 3) := by decide +kernel
theorem d_Mod_gap_32 : decode b_Mod_gap 32 = .ok (.iload_n 3, 1) := by decide +kernel
theorem d_Mod_gap_33 : decode b_Mod_gap 33 = .ok (.iaload, 1) := by decide +kernel
theorem d_Mod_gap_34 : decode b_Mod_gap 34 = .ok (.ifCond .le 5, 3) := by decide +kernel
theorem d_Mod_gap_37 : decode b_Mod_gap 37 = .ok (.iconst 0, 1) := by decide +kernel
theorem d_Mod_gap_38 : decode b_Mod_gap 38 = .ok (.ireturn, 1) := by decide +kernel
theorem d_Mod_gap_39 : decode b_Mod_gap 39 = .ok (.aload_n 0, 1) := by decide +kernel
theorem d_Mod_gap_40 : decode b_Mod_gap 40 = .ok (.dup, 1) := by decide +kernel
theorem d_Mod_gap_41 : decode b_Mod_gap 41 = .ok (.getfield 167, 3) := by decide +kernel
theorem d_Mod_gap_44 : decode b_Mod_gap 44 = .ok (.iconst 1, 1) := by decide +kernel
theorem d_Mod_gap_45 : decode b_Mod_gap 45 = .ok (.iadd, 1) := by decide +kernel
theorem d_Mod_gap_46 : decode b_Mod_gap 46 = .ok (.putfield 167, 3) := by decide +kernel
theorem d_Mod_gap_49 : decode b_Mod_gap 49 = .ok (.aload_n 0, 1) := by decide +kernel
theorem d_Mod_gap_50 : decode b_Mod_gap 50 = .ok (.getfield 73, 3) := by decide +kernel
theorem d_Mod_gap_53 : decode b_Mod_gap 53 = .ok (.iload_n 3, 1) := by decide +kernel
theorem d_Mod_gap_54 : decode b_Mod_gap 54 = .ok (.aload_n 0, 1) := by decide +kernel
theorem d_Mod_gap_55 : decode b_Mod_gap 55 = .ok (.getfield 167, 3) := by decide +kernel
theorem d_Mod_gap_58 : decode b_Mod_gap 58 = .ok (.iastore, 1) := by decide +kernel
theorem d_Mod_gap_59 : decode b_Mod_gap 59 = .ok (.iconst 1, 1) := by decide +kernel
theorem d_Mod_gap_60 : decode b_Mod_gap 60 = .ok (.ireturn, 1) := by decide +kernel
theorem d_Mod_count_0 : decode b_Mod_count 0 = .ok (.aload_n 0, 1) := by decide +kernel
theorem d_Mod_count_1 : decode b_Mod_count 1 = .ok (.iload_n 1, 1) := by decide +kernel
theorem d_Mod_count_2 : decode b_Mod_count 2 = .ok (.invokevirtual 144, 3) := by decide +kernel
theorem d_Mod_count_5 : decode b_Mod_count 5 = .ok (.ifCond .eq 12, 3) := by decide +kernel
theorem d_Mod_count_8 : decode b_Mod_count 8 = .ok (.iload_n 2, 1) := by decide +kernel
theorem d_Mod_count_9 : decode b_Mod_count 9 = .ok (.ifCond .lt 8, 3) := by decide +kernel
theorem d_Mod_count_12 : decode b_Mod_count 12 = .ok (.iload_n 2, 1) := by decide +kernel
theorem d_Mod_count_13 : decode b_Mod_count 13 = .ok (.iconst 5, 1) := by decide +kernel
theorem d_Mod_count_14 : decode b_Mod_count 14 = .ok (.if_icmp .le 6, 3) := by decide +kernel
theorem d_Mod_count_17 : decode b_Mod_count 17 = .ok (.bipush (-2), 2) := by decide +kernel
theorem d_Mod_count_19 : decode b_Mod_count 19 = .ok (.ireturn, 1) := by decide +kernel
theorem d_Mod_count_20 : decode b_Mod_count 20 = .ok (.iconst 0, 1) := by decide +kernel
theorem d_Mod_count_21 : decode b_Mod_count 21 = .ok (.istore_n 3, 1) := by decide +kernel
theorem d_Mod_count_22 : decode b_Mod_count 22 = .ok (.iconst 0, 1) := by decide +kernel
theorem d_Mod_count_23 : decode b_Mod_count 23 = .ok (.istore 4, 2) := by decide +kernel
theorem d_Mod_count_25 : decode b_Mod_count 25 = .ok (.iload 4, 2) := by decide +kernel
theorem d_Mod_count_27 : decode b_Mod_count 27 = .ok (.sipush 280, 3) := by decide +kernel
theorem d_Mod_count_30 : decode b_Mod_count 30 = .ok (.if_icmp .ge 74, 3) := by decide +kernel
theorem d_Mod_count_33 : decode b_Mod_count 33 = .ok (.aload_n 0, 1) := by decide +kernel
theorem d_Mod_count_34 : decode b_Mod_count 34 = .ok (.getfield 49, 3) := by decide +kernel
theorem d_Mod_count_37 : decode b_Mod_count 37 = .ok (.iload 4, 2) := by decide +kernel
theorem d_Mod_count_39 : decode b_Mod_count 39 = .ok (.iaload, 1) := by decide +kernel
theorem d_Mod_count_40 : decode b_Mod_count 40 = .ok (.iload_n 1, 1) := by decide +kernel
theorem d_Mod_count_41 : decode b_Mod_count 41 = .ok (.if_icmp .ne 41, 3) := by decide +kernel
theorem d_Mod_count_44 : decode b_Mod_count 44 = .ok (.iload_n 2, 1) := by decide +kernel
theorem d_Mod_count_45 : decode b_Mod_count 45 = .ok (.ifCond .eq 33, 3) := by decide +kernel
theorem d_Mod_count_48 : decode b_Mod_count 48 = .ok (.iload_n 2, 1) := by decide +kernel
theorem d_Mod_count_49 : decode b_Mod_count 49 = .ok (.iconst 1, 1) := by decide +kernel
theorem d_Mod_count_50 : decode b_Mod_count 50 = .ok (.if_icmp .ne 13, 3) := by decide +kernel
theorem d_Mod_count_53 : decode b_Mod_count 53 = .ok (.aload_n 0, 1) := by decide +kernel
theorem d_Mod_count_54 : decode b_Mod_count 54 = .ok (.getfield 67, 3) := by decide +kernel
theorem d_Mod_count_57 : decode b_Mod_count 57 = .ok (.iload 4, 2) := by decide +kernel
theorem d_Mod_count_59 : decode b_Mod_count 59 = .ok (.baload, 1) := by decide +kernel
theorem d_Mod_count_60 : decode b_Mod_count 60 = .ok (.ifCond .ne 18, 3) := by decide +kernel
theorem d_Mod_count_63 : decode b_Mod_count 63 = .ok (.iload_n 2, 1) := by decide +kernel
theorem d_Mod_count_64 : decode b_Mod_count 64 = .ok (.iconst 5, 1) := by decide +kernel
theorem d_Mod_count_65 : decode b_Mod_count 65 = .ok (.if_icmp .ne 17, 3) := by decide +kernel
theorem d_Mod_count_68 : decode b_Mod_count 68 = .ok (.aload_n 0, 1) := by decide +kernel
theorem d_Mod_count_69 : decode b_Mod_count 69 = .ok (.getfield 73, 3) := by decide +kernel
theorem d_Mod_count_72 : decode b_Mod_count 72 = .ok (.iload 4, 2) := by decide +kernel
theorem d_Mod_count_74 : decode b_Mod_count 74 = .ok (.iaload, 1) := by decide +kernel
theorem d_Mod_count_75 : decode b_Mod_count 75 = .ok (.ifCond .le 7, 3) := by decide +kernel
theorem d_Mod_count_78 : decode b_Mod_count 78 = .ok (.iconst 1, 1) := by decide +kernel
theorem d_Mod_count_79 : decode b_Mod_count 79 = .ok (.goto 4, 3) := by decide +kernel
theorem d_Mod_count_82 : decode b_Mod_count 82 = .ok (.iconst 0, 1) := by decide +kernel
theorem d_Mod_count_83 : decode b_Mod_count 83 = .ok (.istore 5, 2) := by decide +kernel
theorem d_Mod_count_85 : decode b_Mod_count 85 = .ok (.iload_n 3, 1) := by decide +kernel
theorem d_Mod_count_86 : decode b_Mod_count 86 = .ok (.iload 5, 2) := by decide +kernel
theorem d_Mod_count_88 : decode b_Mod_count 88 = .ok (.ifCond .eq 7, 3) := by decide +kernel
theorem d_Mod_count_91 : decode b_Mod_count 91 = .ok (.iconst 1, 1) := by decide +kernel
theorem d_Mod_count_92 : decode b_Mod_count 92 = .ok (.goto 4, 3) := by decide +kernel
theorem d_Mod_count_95 : decode b_Mod_count 95 = .ok (.iconst 0, 1) := by decide +kernel
theorem d_Mod_count_96 : decode b_Mod_count 96 = .ok (.iadd, 1) := by decide +kernel
theorem d_Mod_count_97 : decode b_Mod_count 97 = .ok (.istore_n 3, 1) := by decide +kernel
theorem d_Mod_count_98 : decode b_Mod_count 98 = .ok (.iinc 4 1, 3) := by decide +kernel
theorem d_Mod_count_101 : decode b_Mod_count 101 = .ok (.goto (-76), 3) := by decide +kernel
theorem d_Mod_count_104 : decode b_Mod_count 104 = .ok (.iload_n 2, 1) := by decide +kernel
theorem d_Mod_count_105 : decode b_Mod_count 105 = .ok (.iconst 2, 1) := by decide +kernel
theorem d_Mod_count_106 : decode b_Mod_count 106 = .ok (.if_icmp .ne 12, 3) := by decide +kernel
theorem d_Mod_count_109 : decode b_Mod_count 109 = .ok (.aload_n 0, 1) := by decide +kernel
theorem d_Mod_count_110 : decode b_Mod_count 110 = .ok (.getfield 31, 3) := by decide +kernel
theorem d_Mod_count_113 : decode b_Mod_count 113 = .ok (.iload_n 1, 1) := by decide +kernel
theorem d_Mod_count_114 : decode b_Mod_count 114 = .ok (.iaload, 1) := by decide +kernel
theorem d_Mod_count_115 : decode b_Mod_count 115 = .ok (.goto 32, 3) := by decide +kernel
theorem d_Mod_count_118 : decode b_Mod_count 118 = .ok (.iload_n 2, 1) := by decide +kernel
theorem d_Mod_count_119 : decode b_Mod_count 119 = .ok (.iconst 3, 1) := by decide +kernel
theorem d_Mod_count_120 : decode b_Mod_count 120 = .ok (.if_icmp .ne 12, 3) := by decide +kernel
theorem d_Mod_count_123 : decode b_Mod_count 123 = .ok (.aload_n 0, 1) := by decide +kernel
theorem d_Mod_count_124 : decode b_Mod_count 124 = .ok (.getfield 37, 3) := by decide +kernel
theorem d_Mod_count_127 : decode b_Mod_count 127 = .ok (.iload_n 1, 1) := by decide +kernel
theorem d_Mod_count_128 : decode b_Mod_count 128 = .ok (.iaload, 1) := by decide +kernel
theorem d_Mod_count_129 : decode b_Mod_count 129 = .ok (.goto 18, 3) := by decide +kernel
theorem d_Mod_count_132 : decode b_Mod_count 132 = .ok (.iload_n 2, 1) := by decide +kernel
theorem d_Mod_count_133 : decode b_Mod_count 133 = .ok (.iconst 4, 1) := by decide +kernel
theorem d_Mod_count_134 : decode b_Mod_count 134 = .ok (.if_icmp .ne 12, 3) := by decide +kernel
theorem d_Mod_count_137 : decode b_Mod_count 137 = .ok (.aload_n 0, 1) := by decide +kernel
theorem d_Mod_count_138 : decode b_Mod_count 138 = .ok (.getfield 34, 3) := by decide +kernel
theorem d_Mod_count_141 : decode b_Mod_count 141 = .ok (.iload_n 1, 1) := by decide +kernel
theorem d_Mod_count_142 : decode b_Mod_count 142 = .ok (.iaload, 1) := by decide +kernel
theorem d_Mod_count_143 : decode b_Mod_count 143 = .ok (.goto 4, 3) := by decide +kernel
theorem d_Mod_count_146 : decode b_Mod_count 146 = .ok (.iload_n 3, 1) := by decide +kernel
theorem d_Mod_count_147 : decode b_Mod_count 147 = .ok (.ireturn, 1) := by decide +kernel
theorem d_Mod_play_0 : decode b_Mod_play 0 = .ok (.aload_n 0, 1) := by decide +kernel
theorem d_Mod_play_1 : decode b_Mod_play 1 = .ok (.iload_n 1, 1) := by decide +kernel
theorem d_Mod_play_2 : decode b_Mod_play 2 = .ok (.invokevirtual 144, 3) := by decide +kernel
theorem d_Mod_play_5 : decode b_Mod_play 5 = .ok (.ifCond .eq 15, 3) := by decide +kernel
theorem d_Mod_play_8 : decode b_Mod_play 8 = .ok (.iload 4, 2) := by decide +kernel
theorem d_Mod_play_10 : decode b_Mod_play 10 = .ok (.ifCond .lt 10, 3) := by decide +kernel
theorem d_Mod_play_13 : decode b_Mod_play 13 = .ok (.iload 4, 2) := by decide +kernel
theorem d_Mod_play_15 : decode b_Mod_play 15 = .ok (.bipush 9, 2) := by decide +kernel
theorem d_Mod_play_17 : decode b_Mod_play 17 = .ok (.if_icmp .le 6, 3) := by decide +kernel
theorem d_Mod_play_20 : decode b_Mod_play 20 = .ok (.bipush (-2), 2) := by decide +kernel
theorem d_Mod_play_22 : decode b_Mod_play 22 = .ok (.ireturn, 1) := by decide +kernel
theorem d_Mod_play_23 : decode b_Mod_play 23 = .ok (.iconst 0, 1) := by decide +kernel
theorem d_Mod_play_24 : decode b_Mod_play 24 = .ok (.istore 5, 2) := by decide +kernel
theorem d_Mod_play_26 : decode b_Mod_play 26 = .ok (.iload 5, 2) := by decide +kernel
theorem d_Mod_play_28 : decode b_Mod_play 28 = .ok (.iconst 4, 1) := by decide +kernel
theorem d_Mod_play_29 : decode b_Mod_play 29 = .ok (.if_icmp .ge 84, 3) := by decide +kernel
theorem d_Mod_play_32 : decode b_Mod_play 32 = .ok (.aload_n 0, 1) := by decide +kernel
theorem d_Mod_play_33 : decode b_Mod_play 33 = .ok (.getfield 79, 3) := by decide +kernel
theorem d_Mod_play_36 : decode b_Mod_play 36 = .ok (.iload 5, 2) := by decide +kernel
theorem d_Mod_play_38 : decode b_Mod_play 38 = .ok (.iaload, 1) := by decide +kernel
theorem d_Mod_play_39 : decode b_Mod_play 39 = .ok (.ifCond .ge 68, 3) := by decide +kernel
theorem d_Mod_play_42 : decode b_Mod_play 42 = .ok (.aload_n 0, 1) := by decide +kernel
theorem d_Mod_play_43 : decode b_Mod_play 43 = .ok (.dup, 1) := by decide +kernel
theorem d_Mod_play_44 : decode b_Mod_play 44 = .ok (.getfield 170, 3) := by decide +kernel
theorem d_Mod_play_47 : decode b_Mod_play 47 = .ok (.iconst 1, 1) := by decide +kernel
theorem d_Mod_play_48 : decode b_Mod_play 48 = .ok (.iadd, 1) := by decide +kernel
theorem d_Mod_play_49 : decode b_Mod_play 49 = .ok (.putfield 170, 3) := by decide +kernel
theorem d_Mod_play_52 : decode b_Mod_play 52 = .ok (.aload_n 0, 1) := by decide +kernel
theorem d_Mod_play_53 : decode b_Mod_play 53 = .ok (.getfield 79, 3) := by decide +kernel
theorem d_Mod_play_56 : decode b_Mod_play 56 = .ok (.iload 5, 2) := by decide +kernel
theorem d_Mod_play_58 : decode b_Mod_play 58 = .ok (.iload_n 1, 1) := by decide +kernel
theorem d_Mod_play_59 : decode b_Mod_play 59 = .ok (.iastore, 1) := by decide +kernel
theorem d_Mod_play_60 : decode b_Mod_play 60 = .ok (.aload_n 0, 1) := by decide +kernel
theorem d_Mod_play_61 : decode b_Mod_play 61 = .ok (.getfield 82, 3) := by decide +kernel
theorem d_Mod_play_64 : decode b_Mod_play 64 = .ok (.iload 5, 2) := by decide +kernel
theorem d_Mod_play_66 : decode b_Mod_play 66 = .ok (.iload_n 2, 1) := by decide +kernel
theorem d_Mod_play_67 : decode b_Mod_play 67 = .ok (.iastore, 1) := by decide +kernel
theorem d_Mod_play_68 : decode b_Mod_play 68 = .ok (.aload_n 0, 1) := by decide +kernel
theorem d_Mod_play_69 : decode b_Mod_play 69 = .ok (.getfield 85, 3) := by decide +kernel
theorem d_Mod_play_72 : decode b_Mod_play 72 = .ok (.iload 5, 2) := by decide +kernel
theorem d_Mod_play_74 : decode b_Mod_play 74 = .ok (.iload_n 3, 1) := by decide +kernel
theorem d_Mod_play_75 : decode b_Mod_play 75 = .ok (.iastore, 1) := by decide +kernel
theorem d_Mod_play_76 : decode b_Mod_play 76 = .ok (.aload_n 0, 1) := by decide +kernel
theorem d_Mod_play_77 : decode b_Mod_play 77 = .ok (.getfield 88, 3) := by decide +kernel
theorem d_Mod_play_80 : decode b_Mod_play 80 = .ok (.iload 5, 2) := by decide +kernel
theorem d_Mod_play_82 : decode b_Mod_play 82 = .ok (.iload 4, 2) := by decide +kernel
theorem d_Mod_play_84 : decode b_Mod_play 84 = .ok (.iastore, 1) := by decide +kernel
theorem d_Mod_play_85 : decode b_Mod_play 85 = .ok (.aload_n 0, 1) := by decide +kernel
theorem d_Mod_play_86 : decode b_Mod_play 86 = .ok (.getfield 91, 3) := by decide +kernel
theorem d_Mod_play_89 : decode b_Mod_play 89 = .ok (.iload 5, 2) := by decide +kernel
theorem d_Mod_play_91 : decode b_Mod_play 91 = .ok (.iconst (-1), 1) := by decide +kernel
theorem d_Mod_play_92 : decode b_Mod_play 92 = .ok (.iastore, 1) := by decide +kernel
theorem d_Mod_play_93 : decode b_Mod_play 93 = .ok (.aload_n 0, 1) := by decide +kernel
theorem d_Mod_play_94 : decode b_Mod_play 94 = .ok (.getfield 94, 3) := by decide +kernel
theorem d_Mod_play_97 : decode b_Mod_play 97 = .ok (.iload 5, 2) := by decide +kernel
theorem d_Mod_play_99 : decode b_Mod_play 99 = .ok (.aload_n 0, 1) := by decide +kernel
theorem d_Mod_play_100 : decode b_Mod_play 100 = .ok (.getfield 170, 3) := by decide +kernel
theorem d_Mod_play_103 : decode b_Mod_play 103 = .ok (.iastore, 1) := by decide +kernel
theorem d_Mod_play_104 : decode b_Mod_play 104 = .ok (.iload 5, 2) := by decide +kernel
theorem d_Mod_play_106 : decode b_Mod_play 106 = .ok (.ireturn, 1) := by decide +kernel
theorem d_Mod_play_107 : decode b_Mod_play 107 = .ok (.iinc 5 1, 3) := by decide +kernel
theorem d_Mod_play_110 : decode b_Mod_play 110 = .ok (.goto (-84), 3) := by decide +kernel
theorem d_Mod_play_113 : decode b_Mod_play 113 = .ok (.bipush (-4), 2) := by decide +kernel
theorem d_Mod_play_115 : decode b_Mod_play 115 = .ok (.ireturn, 1) := by decide +kernel
theorem d_Mod_stop_0 : decode b_Mod_stop 0 = .ok (.iload_n 1, 1) := by decide +kernel
theorem d_Mod_stop_1 : decode b_Mod_stop 1 = .ok (.ifCond .lt 17, 3) := by decide +kernel
theorem d_Mod_stop_4 : decode b_Mod_stop 4 = .ok (.iload_n 1, 1) := by decide +kernel
theorem d_Mod_stop_5 : decode b_Mod_stop 5 = .ok (.iconst 3, 1) := by decide +kernel
theorem d_Mod_stop_6 : decode b_Mod_stop 6 = .ok (.if_icmp .gt 12, 3) := by decide +kernel
theorem d_Mod_stop_9 : decode b_Mod_stop 9 = .ok (.aload_n 0, 1) := by decide +kernel
theorem d_Mod_stop_10 : decode b_Mod_stop 10 = .ok (.getfield 79, 3) := by decide +kernel
theorem d_Mod_stop_13 : decode b_Mod_stop 13 = .ok (.iload_n 1, 1) := by decide +kernel
theorem d_Mod_stop_14 : decode b_Mod_stop 14 = .ok (.iaload, 1) := by decide +kernel
theorem d_Mod_stop_15 : decode b_Mod_stop 15 = .ok (.ifCond .ge 5, 3) := by decide +kernel
theorem d_Mod_stop_18 : decode b_Mod_stop 18 = .ok (.iconst 0, 1) := by decide +kernel
theorem d_Mod_stop_19 : decode b_Mod_stop 19 = .ok (.ireturn, 1) := by decide +kernel
theorem d_Mod_stop_20 : decode b_Mod_stop 20 = .ok (.aload_n 0, 1) := by decide +kernel
theorem d_Mod_stop_21 : decode b_Mod_stop 21 = .ok (.getfield 79, 3) := by decide +kernel
theorem d_Mod_stop_24 : decode b_Mod_stop 24 = .ok (.iload_n 1, 1) := by decide +kernel
theorem d_Mod_stop_25 : decode b_Mod_stop 25 = .ok (.iconst (-1), 1) := by decide +kernel
theorem d_Mod_stop_26 : decode b_Mod_stop 26 = .ok (.iastore, 1) := by decide +kernel
theorem d_Mod_stop_27 : decode b_Mod_stop 27 = .ok (.iconst 1, 1) := by decide +kernel
theorem d_Mod_stop_28 : decode b_Mod_stop 28 = .ok (.ireturn, 1) := by decide +kernel
theorem d_Mod_frame_0 : decode b_Mod_frame 0 = .ok (.iconst (-1), 1) := by decide +kernel
theorem d_Mod_frame_1 : decode b_Mod_frame 1 = .ok (.istore_n 1, 1) := by decide +kernel
theorem d_Mod_frame_2 : decode b_Mod_frame 2 = .ok (.iconst 0, 1) := by decide +kernel
theorem d_Mod_frame_3 : decode b_Mod_frame 3 = .ok (.istore_n 2, 1) := by decide +kernel
theorem d_Mod_frame_4 : decode b_Mod_frame 4 = .ok (.iload_n 2, 1) := by decide +kernel
theorem d_Mod_frame_5 : decode b_Mod_frame 5 = .ok (.iconst 4, 1) := by decide +kernel
theorem d_Mod_frame_6 : decode b_Mod_frame 6 = .ok (.if_icmp .ge 111, 3) := by decide +kernel
theorem d_Mod_frame_9 : decode b_Mod_frame 9 = .ok (.aload_n 0, 1) := by decide +kernel
theorem d_Mod_frame_10 : decode b_Mod_frame 10 = .ok (.getfield 79, 3) := by decide +kernel
theorem d_Mod_frame_13 : decode b_Mod_frame 13 = .ok (.iload_n 2, 1) := by decide +kernel
theorem d_Mod_frame_14 : decode b_Mod_frame 14 = .ok (.iaload, 1) := by decide +kernel
theorem d_Mod_frame_15 : decode b_Mod_frame 15 = .ok (.ifCond .lt 15, 3) := by decide +kernel
theorem d_Mod_frame_18 : decode b_Mod_frame 18 = .ok (.aload_n 0, 1) := by decide +kernel
theorem d_Mod_frame_19 : decode b_Mod_frame 19 = .ok (.iload_n 2, 1) := by decide +kernel
theorem d_Mod_frame_20 : decode b_Mod_frame 20 = .ok (.invokevirtual 176, 3) := by decide +kernel
theorem d_Mod_frame_23 : decode b_Mod_frame 23 = .ok (.ifCond .lt 7, 3) := by decide +kernel
theorem d_Mod_frame_26 : decode b_Mod_frame 26 = .ok (.iconst 1, 1) := by decide +kernel
theorem d_Mod_frame_27 : decode b_Mod_frame 27 = .ok (.goto 4, 3) := by decide +kernel
theorem d_Mod_frame_30 : decode b_Mod_frame 30 = .ok (.iconst 0, 1) := by decide +kernel
theorem d_Mod_frame_31 : decode b_Mod_frame 31 = .ok (.istore_n 3, 1) := by decide +kernel
theorem d_Mod_frame_32 : decode b_Mod_frame 32 = .ok (.iload_n 1, 1) := by decide +kernel
theorem d_Mod_frame_33 : decode b_Mod_frame 33 = .ok (.ifCond .lt 56, 3) := by decide +kernel
theorem d_Mod_frame_36 : decode b_Mod_frame 36 = .ok (.iload_n 3, 1) := by decide +kernel
theorem d_Mod_frame_37 : decode b_Mod_frame 37 = .ok (.ifCond .eq 52, 3) := by decide +kernel
theorem d_Mod_frame_40 : decode b_Mod_frame 40 = .ok (.aload_n 0, 1) := by decide +kernel
theorem d_Mod_frame_41 : decode b_Mod_frame 41 = .ok (.getfield 88, 3) := by decide +kernel
theorem d_Mod_frame_44 : decode b_Mod_frame 44 = .ok (.iload_n 2, 1) := by decide +kernel
theorem d_Mod_frame_45 : decode b_Mod_frame 45 = .ok (.iaload, 1) := by decide +kernel
theorem d_Mod_frame_46 : decode b_Mod_frame 46 = .ok (.aload_n 0, 1) := by decide +kernel
theorem d_Mod_frame_47 : decode b_Mod_frame 47 = .ok (.getfield 88, 3) := by decide +kernel
theorem d_Mod_frame_50 : decode b_Mod_frame 50 = .ok (.iload_n 1, 1) := by decide +kernel
theorem d_Mod_frame_51 : decode b_Mod_frame 51 = .ok (.iaload, 1) := by decide +kernel
theorem d_Mod_frame_52 : decode b_Mod_frame 52 = .ok (.if_icmp .lt 33, 3) := by decide +kernel
theorem d_Mod_frame_55 : decode b_Mod_frame 55 = .ok (.aload_n 0, 1) := by decide +kernel
theorem d_Mod_frame_56 : decode b_Mod_frame 56 = .ok (.getfield 88, 3) := by decide +kernel
theorem d_Mod_frame_59 : decode b_Mod_frame 59 = .ok (.iload_n 2, 1) := by decide +kernel
theorem d_Mod_frame_60 : decode b_Mod_frame 60 = .ok (.iaload, 1) := by decide +kernel
theorem d_Mod_frame_61 : decode b_Mod_frame 61 = .ok (.aload_n 0, 1) := by decide +kernel
theorem d_Mod_frame_62 : decode b_Mod_frame 62 = .ok (.getfield 88, 3) := by decide +kernel
theorem d_Mod_frame_65 : decode b_Mod_frame 65 = .ok (.iload_n 1, 1) := by decide +kernel
theorem d_Mod_frame_66 : decode b_Mod_frame 66 = .ok (.iaload, 1) := by decide +kernel
theorem d_Mod_frame_67 : decode b_Mod_frame 67 = .ok (.if_icmp .ne 22, 3) := by decide +kernel
theorem d_Mod_frame_70 : decode b_Mod_frame 70 = .ok (.aload_n 0, 1) := by decide +kernel
theorem d_Mod_frame_71 : decode b_Mod_frame 71 = .ok (.getfield 94, 3) := by decide +kernel
theorem d_Mod_frame_74 : decode b_Mod_frame 74 = .ok (.iload_n 2, 1) := by decide +kernel
theorem d_Mod_frame_75 : decode b_Mod_frame 75 = .ok (.iaload, 1) := by decide +kernel
theorem d_Mod_frame_76 : decode b_Mod_frame 76 = .ok (.aload_n 0, 1) := by decide +kernel
theorem d_Mod_frame_77 : decode b_Mod_frame 77 = .ok (.getfield 94, 3) := by decide +kernel
theorem d_Mod_frame_80 : decode b_Mod_frame 80 = .ok (.iload_n 1, 1) := by decide +kernel
theorem d_Mod_frame_81 : decode b_Mod_frame 81 = .ok (.iaload, 1) := by decide +kernel
theorem d_Mod_frame_82 : decode b_Mod_frame 82 = .ok (.if_icmp .ge 7, 3) := by decide +kernel
theorem d_Mod_frame_85 : decode b_Mod_frame 85 = .ok (.iconst 1, 1) := by decide +kernel
theorem d_Mod_frame_86 : decode b_Mod_frame 86 = .ok (.goto 4, 3) := by decide +kernel
theorem d_Mod_frame_89 : decode b_Mod_frame 89 = .ok (.iconst 0, 1) := by decide +kernel
theorem d_Mod_frame_90 : decode b_Mod_frame 90 = .ok (.istore 4, 2) := by decide +kernel
theorem d_Mod_frame_92 : decode b_Mod_frame 92 = .ok (.iload_n 3, 1) := by decide +kernel
theorem d_Mod_frame_93 : decode b_Mod_frame 93 = .ok (.ifCond .eq 16, 3) := by decide +kernel
theorem d_Mod_frame_96 : decode b_Mod_frame 96 = .ok (.iload_n 1, 1) := by decide +kernel
theorem d_Mod_frame_97 : decode b_Mod_frame 97 = .ok (.ifCond .lt 8, 3) := by decide +kernel
theorem d_Mod_frame_100 : decode b_Mod_frame 100 = .ok (.iload 4, 2) := by decide +kernel
theorem d_Mod_frame_102 : decode b_Mod_frame 102 = .ok (.ifCond .eq 7, 3) := by decide +kernel
theorem d_Mod_frame_105 : decode b_Mod_frame 105 = .ok (.iload_n 2, 1) := by decide +kernel
theorem d_Mod_frame_106 : decode b_Mod_frame 106 = .ok (.goto 4, 3) := by decide +kernel
theorem d_Mod_frame_109 : decode b_Mod_frame 109 = .ok (.iload_n 1, 1) := by decide +kernel
theorem d_Mod_frame_110 : decode b_Mod_frame 110 = .ok (.istore_n 1, 1) := by decide +kernel
theorem d_Mod_frame_111 : decode b_Mod_frame 111 = .ok (.iinc 2 1, 3) := by decide +kernel
theorem d_Mod_frame_114 : decode b_Mod_frame 114 = .ok (.goto (-110), 3) := by decide +kernel
theorem d_Mod_frame_117 : decode b_Mod_frame 117 = .ok (.iload_n 1, 1) := by decide +kernel
theorem d_Mod_frame_118 : decode b_Mod_frame 118 = .ok (.ifCond .ge 5, 3) := by decide +kernel
theorem d_Mod_frame_121 : decode b_Mod_frame 121 = .ok (.iconst (-1), 1) := by decide +kernel
theorem d_Mod_frame_122 : decode b_Mod_frame 122 = .ok (.ireturn, 1) := by decide +kernel
theorem d_Mod_frame_123 : decode b_Mod_frame 123 = .ok (.aload_n 0, 1) := by decide +kernel
theorem d_Mod_frame_124 : decode b_Mod_frame 124 = .ok (.iload_n 1, 1) := by decide +kernel
theorem d_Mod_frame_125 : decode b_Mod_frame 125 = .ok (.invokevirtual 176, 3) := by decide +kernel
theorem d_Mod_frame_128 : decode b_Mod_frame 128 = .ok (.istore_n 2, 1) := by decide +kernel
theorem d_Mod_frame_129 : decode b_Mod_frame 129 = .ok (.aload_n 0, 1) := by decide +kernel
theorem d_Mod_frame_130 : decode b_Mod_frame 130 = .ok (.getfield 73, 3) := by decide +kernel
theorem d_Mod_frame_133 : decode b_Mod_frame 133 = .ok (.iload_n 2, 1) := by decide +kernel
theorem d_Mod_frame_134 : decode b_Mod_frame 134 = .ok (.iconst 0, 1) := by decide +kernel
theorem d_Mod_frame_135 : decode b_Mod_frame 135 = .ok (.iastore, 1) := by decide +kernel
theorem d_Mod_frame_136 : decode b_Mod_frame 136 = .ok (.aload_n 0, 1) := by decide +kernel
theorem d_Mod_frame_137 : decode b_Mod_frame 137 = .ok (.getfield 91, 3) := by decide +kernel
theorem d_Mod_frame_140 : decode b_Mod_frame 140 = .ok (.iload_n 1, 1) := by decide +kernel
theorem d_Mod_frame_141 : decode b_Mod_frame 141 = .ok (.aload_n 0, 1) := by decide +kernel
theorem d_Mod_frame_142 : decode b_Mod_frame 142 = .ok (.getfield 52, 3) := by decide +kernel
theorem d_Mod_frame_145 : decode b_Mod_frame 145 = .ok (.iload_n 2, 1) := by decide +kernel
theorem d_Mod_frame_146 : decode b_Mod_frame 146 = .ok (.iaload, 1) := by decide +kernel
theorem d_Mod_frame_147 : decode b_Mod_frame 147 = .ok (.iastore, 1) := by decide +kernel
theorem d_Mod_frame_148 : decode b_Mod_frame 148 = .ok (.aload_n 0, 1) := by decide +kernel
theorem d_Mod_frame_149 : decode b_Mod_frame 149 = .ok (.getfield 103, 3) := by decide +kernel
theorem d_Mod_frame_152 : decode b_Mod_frame 152 = .ok (.iconst 0, 1) := by decide +kernel
theorem d_Mod_frame_153 : decode b_Mod_frame 153 = .ok (.aload_n 0, 1) := by decide +kernel
theorem d_Mod_frame_154 : decode b_Mod_frame 154 = .ok (.getfield 49, 3) := by decide +kernel
theorem d_Mod_frame_157 : decode b_Mod_frame 157 = .ok (.iload_n 2, 1) := by decide +kernel
theorem d_Mod_frame_158 : decode b_Mod_frame 158 = .ok (.iaload, 1) := by decide +kernel
theorem d_Mod_frame_159 : decode b_Mod_frame 159 = .ok (.iastore, 1) := by decide +kernel
theorem d_Mod_frame_160 : decode b_Mod_frame 160 = .ok (.iconst 0, 1) := by decide +kernel
theorem d_Mod_frame_161 : decode b_Mod_frame 161 = .ok (.istore_n 3, 1) := by decide +kernel
theorem d_Mod_frame_162 : decode b_Mod_frame 162 = .ok (.iload_n 3, 1) := by decide +kernel
theorem d_Mod_frame_163 : decode b_Mod_frame 163 = .ok (.iconst 4, 1) := by decide +kernel
theorem d_Mod_frame_164 : decode b_Mod_frame 164 = .ok (.if_icmp .ge 34, 3) := by decide +kernel
theorem d_Mod_frame_167 : decode b_Mod_frame 167 = .ok (.aload_n 0, 1) := by decide +kernel
theorem d_Mod_frame_168 : decode b_Mod_frame 168 = .ok (.getfield 103, 3) := by decide +kernel
theorem d_Mod_frame_171 : decode b_Mod_frame 171 = .ok (.iconst 1, 1) := by decide +kernel
theorem d_Mod_frame_172 : decode b_Mod_frame 172 = .ok (.iload_n 3, 1) := by decide +kernel
theorem d_Mod_frame_173 : decode b_Mod_frame 173 = .ok (.iadd, 1) := by decide +kernel
theorem d_Mod_frame_174 : decode b_Mod_frame 174 = .ok (.aload_n 0, 1) := by decide +kernel
theorem d_Mod_frame_175 : decode b_Mod_frame 175 = .ok (.getfield 52, 3) := by decide +kernel
theorem d_Mod_frame_178 : decode b_Mod_frame 178 = .ok (.iload_n 2, 1) := by decide +kernel
theorem d_Mod_frame_179 : decode b_Mod_frame 179 = .ok (.iaload, 1) := by decide +kernel
theorem d_Mod_frame_180 : decode b_Mod_frame 180 = .ok (.bipush 8, 2) := by decide +kernel
theorem d_Mod_frame_182 : decode b_Mod_frame 182 = .ok (.iconst 3, 1) := by decide +kernel
theorem d_Mod_frame_183 : decode b_Mod_frame 183 = .ok (.iload_n 3, 1) := by decide +kernel
theorem d_Mod_frame_184 : decode b_Mod_frame 184 = .ok (.isub, 1) := by decide +kernel
theorem d_Mod_frame_185 : decode b_Mod_frame 185 = .ok (.imul, 1) := by decide +kernel
theorem d_Mod_frame_186 : decode b_Mod_frame 186 = .ok (.ishr, 1) := by decide +kernel
theorem d_Mod_frame_187 : decode b_Mod_frame 187 = .ok (.sipush 255, 3) := by decide +kernel
theorem d_Mod_frame_190 : decode b_Mod_frame 190 = .ok (.iand, 1) := by decide +kernel
theorem d_Mod_frame_191 : decode b_Mod_frame 191 = .ok (.iastore, 1) := by decide +kernel
theorem d_Mod_frame_192 : decode b_Mod_frame 192 = .ok (.iinc 3 1, 3) := by decide +kernel
theorem d_Mod_frame_195 : decode b_Mod_frame 195 = .ok (.goto (-33), 3) := by decide +kernel
theorem d_Mod_frame_198 : decode b_Mod_frame 198 = .ok (.iconst 0, 1) := by decide +kernel
theorem d_Mod_frame_199 : decode b_Mod_frame 199 = .ok (.istore_n 3, 1) := by decide +kernel
theorem d_Mod_frame_200 : decode b_Mod_frame 200 = .ok (.iload_n 3, 1) := by decide +kernel
theorem d_Mod_frame_201 : decode b_Mod_frame 201 = .ok (.bipush 6, 2) := by decide +kernel
theorem d_Mod_frame_203 : decode b_Mod_frame 203 = .ok (.aload_n 0, 1) := by decide +kernel
theorem d_Mod_frame_204 : decode b_Mod_frame 204 = .ok (.getfield 61, 3) := by decide +kernel
theorem d_Mod_frame_207 : decode b_Mod_frame 207 = .ok (.iload_n 2, 1) := by decide +kernel
theorem d_Mod_frame_208 : decode b_Mod_frame 208 = .ok (.iaload, 1) := by decide +kernel
theorem d_Mod_frame_209 : decode b_Mod_frame 209 = .ok (.iadd, 1) := by decide +kernel
theorem d_Mod_frame_210 : decode b_Mod_frame 210 = .ok (.if_icmp .ge 23, 3) := by decide +kernel
theorem d_Mod_frame_213 : decode b_Mod_frame 213 = .ok (.aload_n 0, 1) := by decide +kernel
theorem d_Mod_frame_214 : decode b_Mod_frame 214 = .ok (.getfield 103, 3) := by decide +kernel
theorem d_Mod_frame_217 : decode b_Mod_frame 217 = .ok (.iconst 5, 1) := by decide +kernel
theorem d_Mod_frame_218 : decode b_Mod_frame 218 = .ok (.iload_n 3, 1) := by decide +kernel
theorem d_Mod_frame_219 : decode b_Mod_frame 219 = .ok (.iadd, 1) := by decide +kernel
theorem d_Mod_frame_220 : decode b_Mod_frame 220 = .ok (.aload_n 0, 1) := by decide +kernel
theorem d_Mod_frame_221 : decode b_Mod_frame 221 = .ok (.iload_n 2, 1) := by decide +kernel
theorem d_Mod_frame_222 : decode b_Mod_frame 222 = .ok (.iload_n 3, 1) := by decide +kernel
theorem d_Mod_frame_223 : decode b_Mod_frame 223 = .ok (.invokevirtual 164, 3) := by decide +kernel
theorem d_Mod_frame_226 : decode b_Mod_frame 226 = .ok (.iastore, 1) := by decide +kernel
theorem d_Mod_frame_227 : decode b_Mod_frame 227 = .ok (.iinc 3 1, 3) := by decide +kernel
theorem d_Mod_frame_230 : decode b_Mod_frame 230 = .ok (.goto (-30), 3) := by decide +kernel
theorem d_Mod_frame_233 : decode b_Mod_frame 233 = .ok (.aload_n 0, 1) := by decide +kernel
theorem d_Mod_frame_234 : decode b_Mod_frame 234 = .ok (.bipush 11, 2) := by decide +kernel
theorem d_Mod_frame_236 : decode b_Mod_frame 236 = .ok (.aload_n 0, 1) := by decide +kernel
theorem d_Mod_frame_237 : decode b_Mod_frame 237 = .ok (.getfield 61, 3) := by decide +kernel
theorem d_Mod_frame_240 : decode b_Mod_frame 240 = .ok (.iload_n 2, 1) := by decide +kernel
theorem d_Mod_frame_241 : decode b_Mod_frame 241 = .ok (.iaload, 1) := by decide +kernel
theorem d_Mod_frame_242 : decode b_Mod_frame 242 = .ok (.iadd, 1) := by decide +kernel
theorem d_Mod_frame_243 : decode b_Mod_frame 243 = .ok (.putfield 100, 3) := by decide +kernel
theorem d_Mod_frame_246 : decode b_Mod_frame 246 = .ok (.aload_n 0, 1) := by decide +kernel
theorem d_Mod_frame_247 : decode b_Mod_frame 247 = .ok (.getfield 100, 3) := by decide +kernel
theorem d_Mod_frame_250 : decode b_Mod_frame 250 = .ok (.ireturn, 1) := by decide +kernel
theorem d_Mod_chosen_0 : decode b_Mod_chosen 0 = .ok (.iconst (-1), 1) := by decide +kernel
theorem d_Mod_chosen_1 : decode b_Mod_chosen 1 = .ok (.istore_n 2, 1) := by decide +kernel
theorem d_Mod_chosen_2 : decode b_Mod_chosen 2 = .ok (.iconst (-1), 1) := by decide +kernel
theorem d_Mod_chosen_3 : decode b_Mod_chosen 3 = .ok (.istore_n 3, 1) := by decide +kernel
theorem d_Mod_chosen_4 : decode b_Mod_chosen 4 = .ok (.iconst (-1), 1) := by decide +kernel
theorem d_Mod_chosen_5 : decode b_Mod_chosen 5 = .ok (.istore 4, 2) := by decide +kernel
theorem d_Mod_chosen_7 : decode b_Mod_chosen 7 = .ok (.iconst 0, 1) := by decide +kernel
theorem d_Mod_chosen_8 : decode b_Mod_chosen 8 = .ok (.istore 5, 2) := by decide +kernel
theorem d_Mod_chosen_10 : decode b_Mod_chosen 10 = .ok (.iload 5, 2) := by decide +kernel
theorem d_Mod_chosen_12 : decode b_Mod_chosen 12 = .ok (.sipush 280, 3) := by decide +kernel
theorem d_Mod_chosen_15 : decode b_Mod_chosen 15 = .ok (.if_icmp .ge 144, 3) := by decide +kernel
theorem d_Mod_chosen_18 : decode b_Mod_chosen 18 = .ok (.aload_n 0, 1) := by decide +kernel
theorem d_Mod_chosen_19 : decode b_Mod_chosen 19 = .ok (.iload 5, 2) := by decide +kernel
theorem d_Mod_chosen_21 : decode b_Mod_chosen 21 = .ok (.iload_n 1, 1) := by decide +kernel
theorem d_Mod_chosen_22 : decode b_Mod_chosen 22 = .ok (.invokevirtual 173, 3) := by decide +kernel
theorem d_Mod_chosen_25 : decode b_Mod_chosen 25 = .ok (.istore 6, 2) := by decide +kernel
theorem d_Mod_chosen_27 : decode b_Mod_chosen 27 = .ok (.iload 6, 2) := by decide +kernel
theorem d_Mod_chosen_29 : decode b_Mod_chosen 29 = .ok (.ifCond .eq 38, 3) := by decide +kernel
theorem d_Mod_chosen_32 : decode b_Mod_chosen 32 = .ok (.aload_n 0, 1) := by decide +kernel
theorem d_Mod_chosen_33 : decode b_Mod_chosen 33 = .ok (.getfield 73, 3) := by decide +kernel
theorem d_Mod_chosen_36 : decode b_Mod_chosen 36 = .ok (.iload 5, 2) := by decide +kernel
theorem d_Mod_chosen_38 : decode b_Mod_chosen 38 = .ok (.iaload, 1) := by decide +kernel
theorem d_Mod_chosen_39 : decode b_Mod_chosen 39 = .ok (.ifCond .le 28, 3) := by decide +kernel
theorem d_Mod_chosen_42 : decode b_Mod_chosen 42 = .ok (.iload_n 2, 1) := by decide +kernel
theorem d_Mod_chosen_43 : decode b_Mod_chosen 43 = .ok (.ifCond .lt 19, 3) := by decide +kernel
theorem d_Mod_chosen_46 : decode b_Mod_chosen 46 = .ok (.aload_n 0, 1) := by decide +kernel
theorem d_Mod_chosen_47 : decode b_Mod_chosen 47 = .ok (.getfield 73, 3) := by decide +kernel
theorem d_Mod_chosen_50 : decode b_Mod_chosen 50 = .ok (.iload 5, 2) := by decide +kernel
theorem d_Mod_chosen_52 : decode b_Mod_chosen 52 = .ok (.iaload, 1) := by decide +kernel
theorem d_Mod_chosen_53 : decode b_Mod_chosen 53 = .ok (.aload_n 0, 1) := by decide +kernel
theorem d_Mod_chosen_54 : decode b_Mod_chosen 54 = .ok (.getfield 73, 3) := by decide +kernel
theorem d_Mod_chosen_57 : decode b_Mod_chosen 57 = .ok (.iload_n 2, 1) := by decide +kernel
theorem d_Mod_chosen_58 : decode b_Mod_chosen 58 = .ok (.iaload, 1) := by decide +kernel
theorem d_Mod_chosen_59 : decode b_Mod_chosen 59 = .ok (.if_icmp .ge 8, 3) := by decide +kernel
theorem d_Mod_chosen_62 : decode b_Mod_chosen 62 = .ok (.iload 5, 2) := by decide +kernel
theorem d_Mod_chosen_64 : decode b_Mod_chosen 64 = .ok (.goto 4, 3) := by decide +kernel
theorem d_Mod_chosen_67 : decode b_Mod_chosen 67 = .ok (.iload_n 2, 1) := by decide +kernel
theorem d_Mod_chosen_68 : decode b_Mod_chosen 68 = .ok (.istore_n 2, 1) := by decide +kernel
theorem d_Mod_chosen_69 : decode b_Mod_chosen 69 = .ok (.iload 6, 2) := by decide +kernel
theorem d_Mod_chosen_71 : decode b_Mod_chosen 71 = .ok (.ifCond .eq 30, 3) := by decide +kernel
theorem d_Mod_chosen_74 : decode b_Mod_chosen 74 = .ok (.iload 4, 2) := by decide +kernel
theorem d_Mod_chosen_76 : decode b_Mod_chosen 76 = .ok (.ifCond .lt 20, 3) := by decide +kernel
theorem d_Mod_chosen_79 : decode b_Mod_chosen 79 = .ok (.aload_n 0, 1) := by decide +kernel
theorem d_Mod_chosen_80 : decode b_Mod_chosen 80 = .ok (.getfield 52, 3) := by decide +kernel
theorem d_Mod_chosen_83 : decode b_Mod_chosen 83 = .ok (.iload 5, 2) := by decide +kernel
theorem d_Mod_chosen_85 : decode b_Mod_chosen 85 = .ok (.iaload, 1) := by decide +kernel
theorem d_Mod_chosen_86 : decode b_Mod_chosen 86 = .ok (.aload_n 0, 1) := by decide +kernel
theorem d_Mod_chosen_87 : decode b_Mod_chosen 87 = .ok (.getfield 52, 3) := by decide +kernel
theorem d_Mod_chosen_90 : decode b_Mod_chosen 90 = .ok (.iload 4, 2) := by decide +kernel
theorem d_Mod_chosen_92 : decode b_Mod_chosen 92 = .ok (.iaload, 1) := by decide +kernel
theorem d_Mod_chosen_93 : decode b_Mod_chosen 93 = .ok (.if_icmp .ge 8, 3) := by decide +kernel
theorem d_Mod_chosen_96 : decode b_Mod_chosen 96 = .ok (.iload 5, 2) := by decide +kernel
theorem d_Mod_chosen_98 : decode b_Mod_chosen 98 = .ok (.goto 5, 3) := by decide +kernel
theorem d_Mod_chosen_101 : decode b_Mod_chosen 101 = .ok (.iload 4, 2) := by decide +kernel
theorem d_Mod_chosen_103 : decode b_Mod_chosen 103 = .ok (.istore 4, 2) := by decide +kernel
theorem d_Mod_chosen_105 : decode b_Mod_chosen 105 = .ok (.iload 6, 2) := by decide +kernel
theorem d_Mod_chosen_107 : decode b_Mod_chosen 107 = .ok (.ifCond .eq 44, 3) := by decide +kernel
theorem d_Mod_chosen_110 : decode b_Mod_chosen 110 = .ok (.aload_n 0, 1) := by decide +kernel
theorem d_Mod_chosen_111 : decode b_Mod_chosen 111 = .ok (.getfield 52, 3) := by decide +kernel
theorem d_Mod_chosen_114 : decode b_Mod_chosen 114 = .ok (.iload 5, 2) := by decide +kernel
theorem d_Mod_chosen_116 : decode b_Mod_chosen 116 = .ok (.iaload, 1) := by decide +kernel
theorem d_Mod_chosen_117 : decode b_Mod_chosen 117 = .ok (.aload_n 0, 1) := by decide +kernel
theorem d_Mod_chosen_118 : decode b_Mod_chosen 118 = .ok (.getfield 91, 3) := by decide +kernel
theorem d_Mod_chosen_121 : decode b_Mod_chosen 121 = .ok (.iload_n 1, 1) := by decide +kernel
theorem d_Mod_chosen_122 : decode b_Mod_chosen 122 = .ok (.iaload, 1) := by decide +kernel
theorem d_Mod_chosen_123 : decode b_Mod_chosen 123 = .ok (.if_icmp .le 28, 3) := by decide +kernel
theorem d_Mod_chosen_126 : decode b_Mod_chosen 126 = .ok (.iload_n 3, 1) := by decide +kernel
theorem d_Mod_chosen_127 : decode b_Mod_chosen 127 = .ok (.ifCond .lt 19, 3) := by decide +kernel
theorem d_Mod_chosen_130 : decode b_Mod_chosen 130 = .ok (.aload_n 0, 1) := by decide +kernel
theorem d_Mod_chosen_131 : decode b_Mod_chosen 131 = .ok (.getfield 52, 3) := by decide +kernel
theorem d_Mod_chosen_134 : decode b_Mod_chosen 134 = .ok (.iload 5, 2) := by decide +kernel
theorem d_Mod_chosen_136 : decode b_Mod_chosen 136 = .ok (.iaload, 1) := by decide +kernel
theorem d_Mod_chosen_137 : decode b_Mod_chosen 137 = .ok (.aload_n 0, 1) := by decide +kernel
theorem d_Mod_chosen_138 : decode b_Mod_chosen 138 = .ok (.getfield 52, 3) := by decide +kernel
theorem d_Mod_chosen_141 : decode b_Mod_chosen 141 = .ok (.iload_n 3, 1) := by decide +kernel
theorem d_Mod_chosen_142 : decode b_Mod_chosen 142 = .ok (.iaload, 1) := by decide +kernel
theorem d_Mod_chosen_143 : decode b_Mod_chosen 143 = .ok (.if_icmp .ge 8, 3) := by decide +kernel
theorem d_Mod_chosen_146 : decode b_Mod_chosen 146 = .ok (.iload 5, 2) := by decide +kernel
theorem d_Mod_chosen_148 : decode b_Mod_chosen 148 = .ok (.goto 4, 3) := by decide +kernel
theorem d_Mod_chosen_151 : decode b_Mod_chosen 151 = .ok (.iload_n 3, 1) := by decide +kernel
theorem d_Mod_chosen_152 : decode b_Mod_chosen 152 = .ok (.istore_n 3, 1) := by decide +kernel
theorem d_Mod_chosen_153 : decode b_Mod_chosen 153 = .ok (.iinc 5 1, 3) := by decide +kernel
theorem d_Mod_chosen_156 : decode b_Mod_chosen 156 = .ok (.goto (-146), 3) := by decide +kernel
theorem d_Mod_chosen_159 : decode b_Mod_chosen 159 = .ok (.iload_n 2, 1) := by decide +kernel
theorem d_Mod_chosen_160 : decode b_Mod_chosen 160 = .ok (.ifCond .lt 7, 3) := by decide +kernel
theorem d_Mod_chosen_163 : decode b_Mod_chosen 163 = .ok (.iload_n 2, 1) := by decide +kernel
theorem d_Mod_chosen_164 : decode b_Mod_chosen 164 = .ok (.goto 13, 3) := by decide +kernel
theorem d_Mod_chosen_167 : decode b_Mod_chosen 167 = .ok (.iload_n 3, 1) := by decide +kernel
theorem d_Mod_chosen_168 : decode b_Mod_chosen 168 = .ok (.ifCond .lt 7, 3) := by decide +kernel
theorem d_Mod_chosen_171 : decode b_Mod_chosen 171 = .ok (.iload_n 3, 1) := by decide +kernel
theorem d_Mod_chosen_172 : decode b_Mod_chosen 172 = .ok (.goto 5, 3) := by decide +kernel
theorem d_Mod_chosen_175 : decode b_Mod_chosen 175 = .ok (.iload 4, 2) := by decide +kernel
theorem d_Mod_chosen_177 : decode b_Mod_chosen 177 = .ok (.ireturn, 1) := by decide +kernel
theorem d_Mod_isIn_0 : decode b_Mod_isIn 0 = .ok (.aload_n 0, 1) := by decide +kernel
theorem d_Mod_isIn_1 : decode b_Mod_isIn 1 = .ok (.getfield 49, 3) := by decide +kernel
theorem d_Mod_isIn_4 : decode b_Mod_isIn 4 = .ok (.iload_n 1, 1) := by decide +kernel
theorem d_Mod_isIn_5 : decode b_Mod_isIn 5 = .ok (.iaload, 1) := by decide +kernel
theorem d_Mod_isIn_6 : decode b_Mod_isIn 6 = .ok (.ifCond .lt 61, 3) := by decide +kernel
theorem d_Mod_isIn_9 : decode b_Mod_isIn 9 = .ok (.aload_n 0, 1) := by decide +kernel
theorem d_Mod_isIn_10 : decode b_Mod_isIn 10 = .ok (.getfield 49, 3) := by decide +kernel
theorem d_Mod_isIn_13 : decode b_Mod_isIn 13 = .ok (.iload_n 1, 1) := by decide +kernel
theorem d_Mod_isIn_14 : decode b_Mod_isIn 14 = .ok (.iaload, 1) := by decide +kernel
theorem d_Mod_isIn_15 : decode b_Mod_isIn 15 = .ok (.aload_n 0, 1) := by decide +kernel
theorem d_Mod_isIn_16 : decode b_Mod_isIn 16 = .ok (.getfield 79, 3) := by decide +kernel
theorem d_Mod_isIn_19 : decode b_Mod_isIn 19 = .ok (.iload_n 2, 1) := by decide +kernel
theorem d_Mod_isIn_20 : decode b_Mod_isIn 20 = .ok (.iaload, 1) := by decide +kernel
theorem d_Mod_isIn_21 : decode b_Mod_isIn 21 = .ok (.if_icmp .ne 46, 3) := by decide +kernel
theorem d_Mod_isIn_24 : decode b_Mod_isIn 24 = .ok (.aload_n 0, 1) := by decide +kernel
theorem d_Mod_isIn_25 : decode b_Mod_isIn 25 = .ok (.getfield 67, 3) := by decide +kernel
theorem d_Mod_isIn_28 : decode b_Mod_isIn 28 = .ok (.iload_n 1, 1) := by decide +kernel
theorem d_Mod_isIn_29 : decode b_Mod_isIn 29 = .ok (.baload, 1) := by decide +kernel
theorem d_Mod_isIn_30 : decode b_Mod_isIn 30 = .ok (.ifCond .ne 37, 3) := by decide +kernel
theorem d_Mod_isIn_33 : decode b_Mod_isIn 33 = .ok (.aload_n 0, 1) := by decide +kernel
theorem d_Mod_isIn_34 : decode b_Mod_isIn 34 = .ok (.getfield 58, 3) := by decide +kernel
theorem d_Mod_isIn_37 : decode b_Mod_isIn 37 = .ok (.iload_n 1, 1) := by decide +kernel
theorem d_Mod_isIn_38 : decode b_Mod_isIn 38 = .ok (.iaload, 1) := by decide +kernel
theorem d_Mod_isIn_39 : decode b_Mod_isIn 39 = .ok (.aload_n 0, 1) := by decide +kernel
theorem d_Mod_isIn_40 : decode b_Mod_isIn 40 = .ok (.getfield 82, 3) := by decide +kernel
theorem d_Mod_isIn_43 : decode b_Mod_isIn 43 = .ok (.iload_n 2, 1) := by decide +kernel
theorem d_Mod_isIn_44 : decode b_Mod_isIn 44 = .ok (.iaload, 1) := by decide +kernel
theorem d_Mod_isIn_45 : decode b_Mod_isIn 45 = .ok (.if_icmp .lt 22, 3) := by decide +kernel
theorem d_Mod_isIn_48 : decode b_Mod_isIn 48 = .ok (.aload_n 0, 1) := by decide +kernel
theorem d_Mod_isIn_49 : decode b_Mod_isIn 49 = .ok (.getfield 58, 3) := by decide +kernel
theorem d_Mod_isIn_52 : decode b_Mod_isIn 52 = .ok (.iload_n 1, 1) := by decide +kernel
theorem d_Mod_isIn_53 : decode b_Mod_isIn 53 = .ok (.iaload, 1) := by decide +kernel
theorem d_Mod_isIn_54 : decode b_Mod_isIn 54 = .ok (.aload_n 0, 1) := by decide +kernel
theorem d_Mod_isIn_55 : decode b_Mod_isIn 55 = .ok (.getfield 85, 3) := by decide +kernel
theorem d_Mod_isIn_58 : decode b_Mod_isIn 58 = .ok (.iload_n 2, 1) := by decide +kernel
theorem d_Mod_isIn_59 : decode b_Mod_isIn 59 = .ok (.iaload, 1) := by decide +kernel
theorem d_Mod_isIn_60 : decode b_Mod_isIn 60 = .ok (.if_icmp .gt 7, 3) := by decide +kernel
theorem d_Mod_isIn_63 : decode b_Mod_isIn 63 = .ok (.iconst 1, 1) := by decide +kernel
theorem d_Mod_isIn_64 : decode b_Mod_isIn 64 = .ok (.goto 4, 3) := by decide +kernel
theorem d_Mod_isIn_67 : decode b_Mod_isIn 67 = .ok (.iconst 0, 1) := by decide +kernel
theorem d_Mod_isIn_68 : decode b_Mod_isIn 68 = .ok (.ireturn, 1) := by decide +kernel
theorem d_Mod_frameByte_0 : decode b_Mod_frameByte 0 = .ok (.iload_n 1, 1) := by decide +kernel
theorem d_Mod_frameByte_1 : decode b_Mod_frameByte 1 = .ok (.ifCond .lt 20, 3) := by decide +kernel
theorem d_Mod_frameByte_4 : decode b_Mod_frameByte 4 = .ok (.iload_n 1, 1) := by decide +kernel
theorem d_Mod_frameByte_5 : decode b_Mod_frameByte 5 = .ok (.aload_n 0, 1) := by decide +kernel
theorem d_Mod_frameByte_6 : decode b_Mod_frameByte 6 = .ok (.getfield 100, 3) := by decide +kernel
theorem d_Mod_frameByte_9 : decode b_Mod_frameByte 9 = .ok (.if_icmp .ge 12, 3) := by decide +kernel
theorem d_Mod_frameByte_12 : decode b_Mod_frameByte 12 = .ok (.aload_n 0, 1) := by decide +kernel
theorem d_Mod_frameByte_13 : decode b_Mod_frameByte 13 = .ok (.getfield 103, 3) := by decide +kernel
theorem d_Mod_frameByte_16 : decode b_Mod_frameByte 16 = .ok (.iload_n 1, 1) := by decide +kernel
theorem d_Mod_frameByte_17 : decode b_Mod_frameByte 17 = .ok (.iaload, 1) := by decide +kernel
theorem d_Mod_frameByte_18 : decode b_Mod_frameByte 18 = .ok (.goto 4, 3) := by decide +kernel
theorem d_Mod_frameByte_21 : decode b_Mod_frameByte 21 = .ok (.iconst (-1), 1) := by decide +kernel
theorem d_Mod_frameByte_22 : decode b_Mod_frameByte 22 = .ok (.ireturn, 1) := by decide +kernel
theorem d_Mod_checkpoint_0 : decode b_Mod_checkpoint 0 = .ok (.iload_n 1, 1) := by decide +kernel
theorem d_Mod_checkpoint_1 : decode b_Mod_checkpoint 1 = .ok (.ifCond .ge 6, 3) := by decide +kernel
theorem d_Mod_checkpoint_4 : decode b_Mod_checkpoint 4 = .ok (.bipush (-2), 2) := by decide +kernel
theorem d_Mod_checkpoint_6 : decode b_Mod_checkpoint 6 = .ok (.ireturn, 1) := by decide +kernel
theorem d_Mod_checkpoint_7 : decode b_Mod_checkpoint 7 = .ok (.bipush 6, 2) := by decide +kernel
theorem d_Mod_checkpoint_9 : decode b_Mod_checkpoint 9 = .ok (.istore_n 2, 1) := by decide +kernel
theorem d_Mod_checkpoint_10 : decode b_Mod_checkpoint 10 = .ok (.iconst 0, 1) := by decide +kernel
theorem d_Mod_checkpoint_11 : decode b_Mod_checkpoint 11 = .ok (.istore_n 3, 1) := by decide +kernel
theorem d_Mod_checkpoint_12 : decode b_Mod_checkpoint 12 = .ok (.iload_n 3, 1) := by decide +kernel
theorem d_Mod_checkpoint_13 : decode b_Mod_checkpoint 13 = .ok (.sipush 280, 3) := by decide +kernel
theorem d_Mod_checkpoint_16 : decode b_Mod_checkpoint 16 = .ok (.if_icmp .ge 25, 3) := by decide +kernel
theorem d_Mod_checkpoint_19 : decode b_Mod_checkpoint 19 = .ok (.iload_n 2, 1) := by decide +kernel
theorem d_Mod_checkpoint_20 : decode b_Mod_checkpoint 20 = .ok (.aload_n 0, 1) := by decide +kernel
theorem d_Mod_checkpoint_21 : decode b_Mod_checkpoint 21 = .ok (.iload_n 3, 1) := by decide +kernel
theorem d_Mod_checkpoint_22 : decode b_Mod_checkpoint 22 = .ok (.invokevirtual 179, 3) := by decide +kernel
theorem d_Mod_checkpoint_25 : decode b_Mod_checkpoint 25 = .ok (.ifCond .eq 7, 3) := by decide +kernel
theorem d_Mod_checkpoint_28 : decode b_Mod_checkpoint 28 = .ok (.iconst 2, 1) := by decide +kernel
theorem d_Mod_checkpoint_29 : decode b_Mod_checkpoint 29 = .ok (.goto 4, 3) := by decide +kernel
theorem d_Mod_checkpoint_32 : decode b_Mod_checkpoint 32 = .ok (.iconst 0, 1) := by decide +kernel
theorem d_Mod_checkpoint_33 : decode b_Mod_checkpoint 33 = .ok (.iadd, 1) := by decide +kernel
theorem d_Mod_checkpoint_34 : decode b_Mod_checkpoint 34 = .ok (.istore_n 2, 1) := by decide +kernel
theorem d_Mod_checkpoint_35 : decode b_Mod_checkpoint 35 = .ok (.iinc 3 1, 3) := by decide +kernel
theorem d_Mod_checkpoint_38 : decode b_Mod_checkpoint 38 = .ok (.goto (-26), 3) := by decide +kernel
theorem d_Mod_checkpoint_41 : decode b_Mod_checkpoint 41 = .ok (.iload_n 1, 1) := by decide +kernel
theorem d_Mod_checkpoint_42 : decode b_Mod_checkpoint 42 = .ok (.iload_n 2, 1) := by decide +kernel
theorem d_Mod_checkpoint_43 : decode b_Mod_checkpoint 43 = .ok (.if_icmp .lt 7, 3) := by decide +kernel
theorem d_Mod_checkpoint_46 : decode b_Mod_checkpoint 46 = .ok (.aload_n 0, 1) := by decide +kernel
theorem d_Mod_checkpoint_47 : decode b_Mod_checkpoint 47 = .ok (.invokevirtual 137, 3) := by decide +kernel
theorem d_Mod_checkpoint_50 : decode b_Mod_checkpoint 50 = .ok (.iload_n 2, 1) := by decide +kernel
theorem d_Mod_checkpoint_51 : decode b_Mod_checkpoint 51 = .ok (.ireturn, 1) := by decide +kernel
theorem d_Mod_beginsRun_0 : decode b_Mod_beginsRun 0 = .ok (.aload_n 0, 1) := by decide +kernel
theorem d_Mod_beginsRun_1 : decode b_Mod_beginsRun 1 = .ok (.getfield 49, 3) := by decide +kernel
theorem d_Mod_beginsRun_4 : decode b_Mod_beginsRun 4 = .ok (.iload_n 1, 1) := by decide +kernel
theorem d_Mod_beginsRun_5 : decode b_Mod_beginsRun 5 = .ok (.iaload, 1) := by decide +kernel
theorem d_Mod_beginsRun_6 : decode b_Mod_beginsRun 6 = .ok (.ifCond .lt 12, 3) := by decide +kernel
theorem d_Mod_beginsRun_9 : decode b_Mod_beginsRun 9 = .ok (.aload_n 0, 1) := by decide +kernel
theorem d_Mod_beginsRun_10 : decode b_Mod_beginsRun 10 = .ok (.getfield 67, 3) := by decide +kernel
theorem d_Mod_beginsRun_13 : decode b_Mod_beginsRun 13 = .ok (.iload_n 1, 1) := by decide +kernel
theorem d_Mod_beginsRun_14 : decode b_Mod_beginsRun 14 = .ok (.baload, 1) := by decide +kernel
theorem d_Mod_beginsRun_15 : decode b_Mod_beginsRun 15 = .ok (.ifCond .ne 5, 3) := by decide +kernel
theorem d_Mod_beginsRun_18 : decode b_Mod_beginsRun 18 = .ok (.iconst 0, 1) := by decide +kernel
theorem d_Mod_beginsRun_19 : decode b_Mod_beginsRun 19 = .ok (.ireturn, 1) := by decide +kernel
theorem d_Mod_beginsRun_20 : decode b_Mod_beginsRun 20 = .ok (.aload_n 0, 1) := by decide +kernel
theorem d_Mod_beginsRun_21 : decode b_Mod_beginsRun 21 = .ok (.aload_n 0, 1) := by decide +kernel
theorem d_Mod_beginsRun_22 : decode b_Mod_beginsRun 22 = .ok (.getfield 49, 3) := by decide +kernel
theorem d_Mod_beginsRun_25 : decode b_Mod_beginsRun 25 = .ok (.iload_n 1, 1) := by decide +kernel
theorem d_Mod_beginsRun_26 : decode b_Mod_beginsRun 26 = .ok (.iaload, 1) := by decide +kernel
theorem d_Mod_beginsRun_27 : decode b_Mod_beginsRun 27 = .ok (.aload_n 0, 1) := by decide +kernel
theorem d_Mod_beginsRun_28 : decode b_Mod_beginsRun 28 = .ok (.getfield 52, 3) := by decide +kernel
theorem d_Mod_beginsRun_31 : decode b_Mod_beginsRun 31 = .ok (.iload_n 1, 1) := by decide +kernel
theorem d_Mod_beginsRun_32 : decode b_Mod_beginsRun 32 = .ok (.iaload, 1) := by decide +kernel
theorem d_Mod_beginsRun_33 : decode b_Mod_beginsRun 33 = .ok (.iconst 1, 1) := by decide +kernel
theorem d_Mod_beginsRun_34 : decode b_Mod_beginsRun 34 = .ok (.isub, 1) := by decide +kernel
theorem d_Mod_beginsRun_35 : decode b_Mod_beginsRun 35 = .ok (.invokevirtual 160, 3) := by decide +kernel
theorem d_Mod_beginsRun_38 : decode b_Mod_beginsRun 38 = .ok (.istore_n 2, 1) := by decide +kernel
theorem d_Mod_beginsRun_39 : decode b_Mod_beginsRun 39 = .ok (.iload_n 2, 1) := by decide +kernel
theorem d_Mod_beginsRun_40 : decode b_Mod_beginsRun 40 = .ok (.ifCond .lt 12, 3) := by decide +kernel
theorem d_Mod_beginsRun_43 : decode b_Mod_beginsRun 43 = .ok (.aload_n 0, 1) := by decide +kernel
theorem d_Mod_beginsRun_44 : decode b_Mod_beginsRun 44 = .ok (.getfield 67, 3) := by decide +kernel
theorem d_Mod_beginsRun_47 : decode b_Mod_beginsRun 47 = .ok (.iload_n 2, 1) := by decide +kernel
theorem d_Mod_beginsRun_48 : decode b_Mod_beginsRun 48 = .ok (.baload, 1) := by decide +kernel
theorem d_Mod_beginsRun_49 : decode b_Mod_beginsRun 49 = .ok (.ifCond .ne 7, 3) := by decide +kernel
theorem d_Mod_beginsRun_52 : decode b_Mod_beginsRun 52 = .ok (.iconst 1, 1) := by decide +kernel
theorem d_Mod_beginsRun_53 : decode b_Mod_beginsRun 53 = .ok (.goto 4, 3) := by decide +kernel
theorem d_Mod_beginsRun_56 : decode b_Mod_beginsRun 56 = .ok (.iconst 0, 1) := by decide +kernel
theorem d_Mod_beginsRun_57 : decode b_Mod_beginsRun 57 = .ok (.ireturn, 1) := by decide +kernel
theorem d_Mod_reset_0 : decode b_Mod_reset 0 = .ok (.iconst 0, 1) := by decide +kernel
theorem d_Mod_reset_1 : decode b_Mod_reset 1 = .ok (.istore_n 1, 1) := by decide +kernel
theorem d_Mod_reset_2 : decode b_Mod_reset 2 = .ok (.iload_n 1, 1) := by decide +kernel
theorem d_Mod_reset_3 : decode b_Mod_reset 3 = .ok (.sipush 280, 3) := by decide +kernel
theorem d_Mod_reset_6 : decode b_Mod_reset 6 = .ok (.if_icmp .ge 28, 3) := by decide +kernel
theorem d_Mod_reset_9 : decode b_Mod_reset 9 = .ok (.aload_n 0, 1) := by decide +kernel
theorem d_Mod_reset_10 : decode b_Mod_reset 10 = .ok (.getfield 67, 3) := by decide +kernel
theorem d_Mod_reset_13 : decode b_Mod_reset 13 = .ok (.iload_n 1, 1) := by decide +kernel
theorem d_Mod_reset_14 : decode b_Mod_reset 14 = .ok (.aload_n 0, 1) := by decide +kernel
theorem d_Mod_reset_15 : decode b_Mod_reset 15 = .ok (.getfield 70, 3) := by decide +kernel
theorem d_Mod_reset_18 : decode b_Mod_reset 18 = .ok (.iload_n 1, 1) := by decide +kernel
theorem d_Mod_reset_19 : decode b_Mod_reset 19 = .ok (.baload, 1) := by decide +kernel
theorem d_Mod_reset_20 : decode b_Mod_reset 20 = .ok (.bastore, 1) := by decide +kernel
theorem d_Mod_reset_21 : decode b_Mod_reset 21 = .ok (.aload_n 0, 1) := by decide +kernel
theorem d_Mod_reset_22 : decode b_Mod_reset 22 = .ok (.getfield 73, 3) := by decide +kernel
theorem d_Mod_reset_25 : decode b_Mod_reset 25 = .ok (.iload_n 1, 1) := by decide +kernel
theorem d_Mod_reset_26 : decode b_Mod_reset 26 = .ok (.iconst 0, 1) := by decide +kernel
theorem d_Mod_reset_27 : decode b_Mod_reset 27 = .ok (.iastore, 1) := by decide +kernel
theorem d_Mod_reset_28 : decode b_Mod_reset 28 = .ok (.iinc 1 1, 3) := by decide +kernel
theorem d_Mod_reset_31 : decode b_Mod_reset 31 = .ok (.goto (-29), 3) := by decide +kernel
theorem d_Mod_reset_34 : decode b_Mod_reset 34 = .ok (.iconst 0, 1) := by decide +kernel
theorem d_Mod_reset_35 : decode b_Mod_reset 35 = .ok (.istore_n 1, 1) := by decide +kernel
theorem d_Mod_reset_36 : decode b_Mod_reset 36 = .ok (.iload_n 1, 1) := by decide +kernel
theorem d_Mod_reset_37 : decode b_Mod_reset 37 = .ok (.iconst 4, 1) := by decide +kernel
theorem d_Mod_reset_38 : decode b_Mod_reset 38 = .ok (.if_icmp .ge 47, 3) := by decide +kernel
theorem d_Mod_reset_41 : decode b_Mod_reset 41 = .ok (.aload_n 0, 1) := by decide +kernel
theorem d_Mod_reset_42 : decode b_Mod_reset 42 = .ok (.iload_n 1, 1) := by decide +kernel
theorem d_Mod_reset_43 : decode b_Mod_reset 43 = .ok (.aload_n 0, 1) := by decide +kernel
theorem d_Mod_reset_44 : decode b_Mod_reset 44 = .ok (.iload_n 1, 1) := by decide +kernel
theorem d_Mod_reset_45 : decode b_Mod_reset 45 = .ok (.invokevirtual 182, 3) := by decide +kernel
theorem d_Mod_reset_48 : decode b_Mod_reset 48 = .ok (.invokevirtual 160, 3) := by decide +kernel
theorem d_Mod_reset_51 : decode b_Mod_reset 51 = .ok (.istore_n 2, 1) := by decide +kernel
theorem d_Mod_reset_52 : decode b_Mod_reset 52 = .ok (.aload_n 0, 1) := by decide +kernel
theorem d_Mod_reset_53 : decode b_Mod_reset 53 = .ok (.getfield 34, 3) := by decide +kernel
theorem d_Mod_reset_56 : decode b_Mod_reset 56 = .ok (.iload_n 1, 1) := by decide +kernel
theorem d_Mod_reset_57 : decode b_Mod_reset 57 = .ok (.iload_n 2, 1) := by decide +kernel
theorem d_Mod_reset_58 : decode b_Mod_reset 58 = .ok (.ifCond .ge 7, 3) := by decide +kernel
theorem d_Mod_reset_61 : decode b_Mod_reset 61 = .ok (.iconst 0, 1) := by decide +kernel
theorem d_Mod_reset_62 : decode b_Mod_reset 62 = .ok (.goto 9, 3) := by decide +kernel
theorem d_Mod_reset_65 : decode b_Mod_reset 65 = .ok (.aload_n 0, 1) := by decide +kernel
theorem d_Mod_reset_66 : decode b_Mod_reset 66 = .ok (.getfield 58, 3) := by decide +kernel
theorem d_Mod_reset_69 : decode b_Mod_reset 69 = .ok (.iload_n 2, 1) := by decide +kernel
theorem d_Mod_reset_70 : decode b_Mod_reset 70 = .ok (.iaload, 1) := by decide +kernel
theorem d_Mod_reset_71 : decode b_Mod_reset 71 = .ok (.iastore, 1) := by decide +kernel
theorem d_Mod_reset_72 : decode b_Mod_reset 72 = .ok (.aload_n 0, 1) := by decide +kernel
theorem d_Mod_reset_73 : decode b_Mod_reset 73 = .ok (.getfield 79, 3) := by decide +kernel
theorem d_Mod_reset_76 : decode b_Mod_reset 76 = .ok (.iload_n 1, 1) := by decide +kernel
theorem d_Mod_reset_77 : decode b_Mod_reset 77 = .ok (.iconst (-1), 1) := by decide +kernel
theorem d_Mod_reset_78 : decode b_Mod_reset 78 = .ok (.iastore, 1) := by decide +kernel
theorem d_Mod_reset_79 : decode b_Mod_reset 79 = .ok (.iinc 1 1, 3) := by decide +kernel
theorem d_Mod_reset_82 : decode b_Mod_reset 82 = .ok (.goto (-46), 3) := by decide +kernel
theorem d_Mod_reset_85 : decode b_Mod_reset 85 = .ok (.aload_n 0, 1) := by decide +kernel
theorem d_Mod_reset_86 : decode b_Mod_reset 86 = .ok (.iconst (-1), 1) := by decide +kernel
theorem d_Mod_reset_87 : decode b_Mod_reset 87 = .ok (.putfield 100, 3) := by decide +kernel
theorem d_Mod_reset_90 : decode b_Mod_reset 90 = .ok (.aload_n 0, 1) := by decide +kernel
theorem d_Mod_reset_91 : decode b_Mod_reset 91 = .ok (.iconst 0, 1) := by decide +kernel
theorem d_Mod_reset_92 : decode b_Mod_reset 92 = .ok (.putfield 121, 3) := by decide +kernel
theorem d_Mod_reset_95 : decode b_Mod_reset 95 = .ok (.return_, 1) := by decide +kernel
theorem d_Mod_latest_0 : decode b_Mod_latest 0 = .ok (.iconst (-1), 1) := by decide +kernel
theorem d_Mod_latest_1 : decode b_Mod_latest 1 = .ok (.istore_n 2, 1) := by decide +kernel
theorem d_Mod_latest_2 : decode b_Mod_latest 2 = .ok (.iconst 0, 1) := by decide +kernel
theorem d_Mod_latest_3 : decode b_Mod_latest 3 = .ok (.istore_n 3, 1) := by decide +kernel
theorem d_Mod_latest_4 : decode b_Mod_latest 4 = .ok (.iload_n 3, 1) := by decide +kernel
theorem d_Mod_latest_5 : decode b_Mod_latest 5 = .ok (.sipush 280, 3) := by decide +kernel
theorem d_Mod_latest_8 : decode b_Mod_latest 8 = .ok (.if_icmp .ge 40, 3) := by decide +kernel
theorem d_Mod_latest_11 : decode b_Mod_latest 11 = .ok (.aload_n 0, 1) := by decide +kernel
theorem d_Mod_latest_12 : decode b_Mod_latest 12 = .ok (.getfield 49, 3) := by decide +kernel
theorem d_Mod_latest_15 : decode b_Mod_latest 15 = .ok (.iload_n 3, 1) := by decide +kernel
theorem d_Mod_latest_16 : decode b_Mod_latest 16 = .ok (.iaload, 1) := by decide +kernel
theorem d_Mod_latest_17 : decode b_Mod_latest 17 = .ok (.iload_n 1, 1) := by decide +kernel
theorem d_Mod_latest_18 : decode b_Mod_latest 18 = .ok (.if_icmp .ne 22, 3) := by decide +kernel
theorem d_Mod_latest_21 : decode b_Mod_latest 21 = .ok (.aload_n 0, 1) := by decide +kernel
theorem d_Mod_latest_22 : decode b_Mod_latest 22 = .ok (.getfield 52, 3) := by decide +kernel
theorem d_Mod_latest_25 : decode b_Mod_latest 25 = .ok (.iload_n 3, 1) := by decide +kernel
theorem d_Mod_latest_26 : decode b_Mod_latest 26 = .ok (.iaload, 1) := by decide +kernel
theorem d_Mod_latest_27 : decode b_Mod_latest 27 = .ok (.iload_n 2, 1) := by decide +kernel
theorem d_Mod_latest_28 : decode b_Mod_latest 28 = .ok (.if_icmp .le 12, 3) := by decide +kernel
theorem d_Mod_latest_31 : decode b_Mod_latest 31 = .ok (.aload_n 0, 1) := by decide +kernel
theorem d_Mod_latest_32 : decode b_Mod_latest 32 = .ok (.getfield 52, 3) := by decide +kernel
theorem d_Mod_latest_35 : decode b_Mod_latest 35 = .ok (.iload_n 3, 1) := by decide +kernel
theorem d_Mod_latest_36 : decode b_Mod_latest 36 = .ok (.iaload, 1) := by decide +kernel
theorem d_Mod_latest_37 : decode b_Mod_latest 37 = .ok (.goto 4, 3) := by decide +kernel
theorem d_Mod_latest_40 : decode b_Mod_latest 40 = .ok (.iload_n 2, 1) := by decide +kernel
theorem d_Mod_latest_41 : decode b_Mod_latest 41 = .ok (.istore_n 2, 1) := by decide +kernel
theorem d_Mod_latest_42 : decode b_Mod_latest 42 = .ok (.iinc 3 1, 3) := by decide +kernel
theorem d_Mod_latest_45 : decode b_Mod_latest 45 = .ok (.goto (-41), 3) := by decide +kernel
theorem d_Mod_latest_48 : decode b_Mod_latest 48 = .ok (.iload_n 2, 1) := by decide +kernel
theorem d_Mod_latest_49 : decode b_Mod_latest 49 = .ok (.ireturn, 1) := by decide +kernel
theorem d_Mod_told_0 : decode b_Mod_told 0 = .ok (.iconst 0, 1) := by decide +kernel
theorem d_Mod_told_1 : decode b_Mod_told 1 = .ok (.istore_n 2, 1) := by decide +kernel
theorem d_Mod_told_2 : decode b_Mod_told 2 = .ok (.iload_n 1, 1) := by decide +kernel
theorem d_Mod_told_3 : decode b_Mod_told 3 = .ok (.tableswitch 133 0 4 #[33, 38, 43, 76, 97], 33) := by decide +kernel
theorem d_Mod_told_36 : decode b_Mod_told 36 = .ok (.aload_n 0, 1) := by decide +kernel
theorem d_Mod_told_37 : decode b_Mod_told 37 = .ok (.getfield 124, 3) := by decide +kernel
theorem d_Mod_told_40 : decode b_Mod_told 40 = .ok (.ireturn, 1) := by decide +kernel
theorem d_Mod_told_41 : decode b_Mod_told 41 = .ok (.aload_n 0, 1) := by decide +kernel
theorem d_Mod_told_42 : decode b_Mod_told 42 = .ok (.getfield 127, 3) := by decide +kernel
theorem d_Mod_told_45 : decode b_Mod_told 45 = .ok (.ireturn, 1) := by decide +kernel
theorem d_Mod_told_46 : decode b_Mod_told 46 = .ok (.iconst 0, 1) := by decide +kernel
theorem d_Mod_told_47 : decode b_Mod_told 47 = .ok (.istore_n 3, 1) := by decide +kernel
theorem d_Mod_told_48 : decode b_Mod_told 48 = .ok (.iload_n 3, 1) := by decide +kernel
theorem d_Mod_told_49 : decode b_Mod_told 49 = .ok (.bipush 40, 2) := by decide +kernel
theorem d_Mod_told_51 : decode b_Mod_told 51 = .ok (.if_icmp .ge 26, 3) := by decide +kernel
theorem d_Mod_told_54 : decode b_Mod_told 54 = .ok (.iload_n 2, 1) := by decide +kernel
theorem d_Mod_told_55 : decode b_Mod_told 55 = .ok (.aload_n 0, 1) := by decide +kernel
theorem d_Mod_told_56 : decode b_Mod_told 56 = .ok (.getfield 46, 3) := by decide +kernel
theorem d_Mod_told_59 : decode b_Mod_told 59 = .ok (.iload_n 3, 1) := by decide +kernel
theorem d_Mod_told_60 : decode b_Mod_told 60 = .ok (.baload, 1) := by decide +kernel
theorem d_Mod_told_61 : decode b_Mod_told 61 = .ok (.ifCond .eq 7, 3) := by decide +kernel
theorem d_Mod_told_64 : decode b_Mod_told 64 = .ok (.iconst 0, 1) := by decide +kernel
theorem d_Mod_told_65 : decode b_Mod_told 65 = .ok (.goto 4, 3) := by decide +kernel
theorem d_Mod_told_68 : decode b_Mod_told 68 = .ok (.iconst 1, 1) := by decide +kernel
theorem d_Mod_told_69 : decode b_Mod_told 69 = .ok (.iadd, 1) := by decide +kernel
theorem d_Mod_told_70 : decode b_Mod_told 70 = .ok (.istore_n 2, 1) := by decide +kernel
theorem d_Mod_told_71 : decode b_Mod_told 71 = .ok (.iinc 3 1, 3) := by decide +kernel
theorem d_Mod_told_74 : decode b_Mod_told 74 = .ok (.goto (-26), 3) := by decide +kernel
theorem d_Mod_told_77 : decode b_Mod_told 77 = .ok (.iload_n 2, 1) := by decide +kernel
theorem d_Mod_told_78 : decode b_Mod_told 78 = .ok (.ireturn, 1) := by decide +kernel
theorem d_Mod_told_79 : decode b_Mod_told 79 = .ok (.aload_n 0, 1) := by decide +kernel
theorem d_Mod_told_80 : decode b_Mod_told 80 = .ok (.getfield 13, 3) := by decide +kernel
theorem d_Mod_told_83 : decode b_Mod_told 83 = .ok (.ifCond .lt 8, 3) := by decide +kernel
theorem d_Mod_told_86 : decode b_Mod_told 86 = .ok (.bipush 8, 2) := by decide +kernel
theorem d_Mod_told_88 : decode b_Mod_told 88 = .ok (.goto 11, 3) := by decide +kernel
theorem d_Mod_told_91 : decode b_Mod_told 91 = .ok (.aload_n 0, 1) := by decide +kernel
theorem d_Mod_told_92 : decode b_Mod_told 92 = .ok (.getfield 110, 3) := by decide +kernel
theorem d_Mod_told_95 : decode b_Mod_told 95 = .ok (.i2l, 1) := by decide +kernel
theorem d_Mod_told_96 : decode b_Mod_told 96 = .ok (.invokestatic 117, 3) := by decide +kernel
theorem d_Mod_told_99 : decode b_Mod_told 99 = .ok (.ireturn, 1) := by decide +kernel
theorem d_Mod_told_100 : decode b_Mod_told 100 = .ok (.iconst 0, 1) := by decide +kernel
theorem d_Mod_told_101 : decode b_Mod_told 101 = .ok (.istore_n 3, 1) := by decide +kernel
theorem d_Mod_told_102 : decode b_Mod_told 102 = .ok (.iload_n 3, 1) := by decide +kernel
theorem d_Mod_told_103 : decode b_Mod_told 103 = .ok (.sipush 768, 3) := by decide +kernel
