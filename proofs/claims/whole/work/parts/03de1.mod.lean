theorem d_Mod_free_90 : decode b_Mod_free 90 = .ok (.getfield 49, 3) := by decide +kernel
theorem d_Mod_free_93 : decode b_Mod_free 93 = .ok (.iload_n 3, 1) := by decide +kernel
theorem d_Mod_free_94 : decode b_Mod_free 94 = .ok (.iaload, 1) := by decide +kernel
theorem d_Mod_free_95 : decode b_Mod_free 95 = .ok (.iload_n 1, 1) := by decide +kernel
theorem d_Mod_free_96 : decode b_Mod_free 96 = .ok (.if_icmp .ne 17, 3) := by decide +kernel
theorem d_Mod_free_99 : decode b_Mod_free 99 = .ok (.aload_n 0, 1) := by decide +kernel
theorem d_Mod_free_100 : decode b_Mod_free 100 = .ok (.getfield 64, 3) := by decide +kernel
theorem d_Mod_free_103 : decode b_Mod_free 103 = .ok (.iload_n 3, 1) := by decide +kernel
theorem d_Mod_free_104 : decode b_Mod_free 104 = .ok (.iaload, 1) := by decide +kernel
theorem d_Mod_free_105 : decode b_Mod_free 105 = .ok (.iload_n 2, 1) := by decide +kernel
theorem d_Mod_free_106 : decode b_Mod_free 106 = .ok (.if_icmp .ne 7, 3) := by decide +kernel
theorem d_Mod_free_109 : decode b_Mod_free 109 = .ok (.iconst (-1), 1) := by decide +kernel
theorem d_Mod_free_110 : decode b_Mod_free 110 = .ok (.goto 9, 3) := by decide +kernel
theorem d_Mod_free_113 : decode b_Mod_free 113 = .ok (.aload_n 0, 1) := by decide +kernel
theorem d_Mod_free_114 : decode b_Mod_free 114 = .ok (.getfield 49, 3) := by decide +kernel
theorem d_Mod_free_117 : decode b_Mod_free 117 = .ok (.iload_n 3, 1) := by decide +kernel
theorem d_Mod_free_118 : decode b_Mod_free 118 = .ok (.iaload, 1) := by decide +kernel
theorem d_Mod_free_119 : decode b_Mod_free 119 = .ok (.iastore, 1) := by decide +kernel
theorem d_Mod_free_120 : decode b_Mod_free 120 = .ok (.iinc 3 1, 3) := by decide +kernel
theorem d_Mod_free_123 : decode b_Mod_free 123 = .ok (.goto (-46), 3) := by decide +kernel
theorem d_Mod_free_126 : decode b_Mod_free 126 = .ok (.return_, 1) := by decide +kernel
theorem d_Mod_write_0 : decode b_Mod_write 0 = .ok (.iload_n 1, 1) := by decide +kernel
theorem d_Mod_write_1 : decode b_Mod_write 1 = .ok (.iconst 5, 1) := by decide +kernel
theorem d_Mod_write_2 : decode b_Mod_write 2 = .ok (.idiv, 1) := by decide +kernel
theorem d_Mod_write_3 : decode b_Mod_write 3 = .ok (.istore_n 3, 1) := by decide +kernel
theorem d_Mod_write_4 : decode b_Mod_write 4 = .ok (.aload_n 0, 1) := by decide +kernel
theorem d_Mod_write_5 : decode b_Mod_write 5 = .ok (.getfield 7, 3) := by decide +kernel
theorem d_Mod_write_8 : decode b_Mod_write 8 = .ok (.sipush 128, 3) := by decide +kernel
theorem d_Mod_write_11 : decode b_Mod_write 11 = .ok (.iload_n 1, 1) := by decide +kernel
theorem d_Mod_write_12 : decode b_Mod_write 12 = .ok (.invokestatic 106, 3) := by decide +kernel
theorem d_Mod_write_15 : decode b_Mod_write 15 = .ok (.imul, 1) := by decide +kernel
theorem d_Mod_write_16 : decode b_Mod_write 16 = .ok (.bipush 16, 2) := by decide +kernel
theorem d_Mod_write_18 : decode b_Mod_write 18 = .ok (.iload_n 3, 1) := by decide +kernel
theorem d_Mod_write_19 : decode b_Mod_write 19 = .ok (.imul, 1) := by decide +kernel
theorem d_Mod_write_20 : decode b_Mod_write 20 = .ok (.iadd, 1) := by decide +kernel
theorem d_Mod_write_21 : decode b_Mod_write 21 = .ok (.iload_n 2, 1) := by decide +kernel
theorem d_Mod_write_22 : decode b_Mod_write 22 = .ok (.iadd, 1) := by decide +kernel
theorem d_Mod_write_23 : decode b_Mod_write 23 = .ok (.lconst 0, 1) := by decide +kernel
theorem d_Mod_write_24 : decode b_Mod_write 24 = .ok (.lastore, 1) := by decide +kernel
theorem d_Mod_write_25 : decode b_Mod_write 25 = .ok (.aload_n 0, 1) := by decide +kernel
theorem d_Mod_write_26 : decode b_Mod_write 26 = .ok (.getfield 7, 3) := by decide +kernel
theorem d_Mod_write_29 : decode b_Mod_write 29 = .ok (.sipush 128, 3) := by decide +kernel
theorem d_Mod_write_32 : decode b_Mod_write 32 = .ok (.iload_n 3, 1) := by decide +kernel
theorem d_Mod_write_33 : decode b_Mod_write 33 = .ok (.bipush 6, 2) := by decide +kernel
theorem d_Mod_write_35 : decode b_Mod_write 35 = .ok (.irem, 1) := by decide +kernel
theorem d_Mod_write_36 : decode b_Mod_write 36 = .ok (.imul, 1) := by decide +kernel
theorem d_Mod_write_37 : decode b_Mod_write 37 = .ok (.bipush 16, 2) := by decide +kernel
theorem d_Mod_write_39 : decode b_Mod_write 39 = .ok (.iload_n 3, 1) := by decide +kernel
theorem d_Mod_write_40 : decode b_Mod_write 40 = .ok (.imul, 1) := by decide +kernel
theorem d_Mod_write_41 : decode b_Mod_write 41 = .ok (.iadd, 1) := by decide +kernel
theorem d_Mod_write_42 : decode b_Mod_write 42 = .ok (.iload_n 2, 1) := by decide +kernel
theorem d_Mod_write_43 : decode b_Mod_write 43 = .ok (.iadd, 1) := by decide +kernel
theorem d_Mod_write_44 : decode b_Mod_write 44 = .ok (.lconst 0, 1) := by decide +kernel
theorem d_Mod_write_45 : decode b_Mod_write 45 = .ok (.lastore, 1) := by decide +kernel
theorem d_Mod_write_46 : decode b_Mod_write 46 = .ok (.return_, 1) := by decide +kernel
theorem d_Mod_moduleOf_0 : decode b_Mod_moduleOf 0 = .ok (.iload_n 0, 1) := by decide +kernel
theorem d_Mod_moduleOf_1 : decode b_Mod_moduleOf 1 = .ok (.iconst 5, 1) := by decide +kernel
theorem d_Mod_moduleOf_2 : decode b_Mod_moduleOf 2 = .ok (.idiv, 1) := by decide +kernel
theorem d_Mod_moduleOf_3 : decode b_Mod_moduleOf 3 = .ok (.bipush 6, 2) := by decide +kernel
theorem d_Mod_moduleOf_5 : decode b_Mod_moduleOf 5 = .ok (.irem, 1) := by decide +kernel
theorem d_Mod_moduleOf_6 : decode b_Mod_moduleOf 6 = .ok (.istore_n 1, 1) := by decide +kernel
theorem d_Mod_moduleOf_7 : decode b_Mod_moduleOf 7 = .ok (.iload_n 0, 1) := by decide +kernel
theorem d_Mod_moduleOf_8 : decode b_Mod_moduleOf 8 = .ok (.iconst 5, 1) := by decide +kernel
theorem d_Mod_moduleOf_9 : decode b_Mod_moduleOf 9 = .ok (.irem, 1) := by decide +kernel
theorem d_Mod_moduleOf_10 : decode b_Mod_moduleOf 10 = .ok (.iload_n 1, 1) := by decide +kernel
theorem d_Mod_moduleOf_11 : decode b_Mod_moduleOf 11 = .ok (.if_icmp .ge 9, 3) := by decide +kernel
theorem d_Mod_moduleOf_14 : decode b_Mod_moduleOf 14 = .ok (.iload_n 0, 1) := by decide +kernel
theorem d_Mod_moduleOf_15 : decode b_Mod_moduleOf 15 = .ok (.iconst 5, 1) := by decide +kernel
theorem d_Mod_moduleOf_16 : decode b_Mod_moduleOf 16 = .ok (.irem, 1) := by decide +kernel
theorem d_Mod_moduleOf_17 : decode b_Mod_moduleOf 17 = .ok (.goto 8, 3) := by decide +kernel
theorem d_Mod_moduleOf_20 : decode b_Mod_moduleOf 20 = .ok (.iload_n 0, 1) := by decide +kernel
theorem d_Mod_moduleOf_21 : decode b_Mod_moduleOf 21 = .ok (.iconst 5, 1) := by decide +kernel
theorem d_Mod_moduleOf_22 : decode b_Mod_moduleOf 22 = .ok (.irem, 1) := by decide +kernel
theorem d_Mod_moduleOf_23 : decode b_Mod_moduleOf 23 = .ok (.iconst 1, 1) := by decide +kernel
theorem d_Mod_moduleOf_24 : decode b_Mod_moduleOf 24 = .ok (.iadd, 1) := by decide +kernel
theorem d_Mod_moduleOf_25 : decode b_Mod_moduleOf 25 = .ok (.ireturn, 1) := by decide +kernel
theorem d_Mod_put_0 : decode b_Mod_put 0 = .ok (.iload_n 1, 1) := by decide +kernel
theorem d_Mod_put_1 : decode b_Mod_put 1 = .ok (.ifCond .lt 9, 3) := by decide +kernel
theorem d_Mod_put_4 : decode b_Mod_put 4 = .ok (.iload_n 1, 1) := by decide +kernel
theorem d_Mod_put_5 : decode b_Mod_put 5 = .ok (.bipush 59, 2) := by decide +kernel
theorem d_Mod_put_7 : decode b_Mod_put 7 = .ok (.if_icmp .le 5, 3) := by decide +kernel
theorem d_Mod_put_10 : decode b_Mod_put 10 = .ok (.iconst 0, 1) := by decide +kernel
theorem d_Mod_put_11 : decode b_Mod_put 11 = .ok (.ireturn, 1) := by decide +kernel
theorem d_Mod_put_12 : decode b_Mod_put 12 = .ok (.iconst 0, 1) := by decide +kernel
theorem d_Mod_put_13 : decode b_Mod_put 13 = .ok (.istore 4, 2) := by decide +kernel
theorem d_Mod_put_15 : decode b_Mod_put 15 = .ok (.iload 4, 2) := by decide +kernel
theorem d_Mod_put_17 : decode b_Mod_put 17 = .ok (.bipush 8, 2) := by decide +kernel
theorem d_Mod_put_19 : decode b_Mod_put 19 = .ok (.if_icmp .ge 39, 3) := by decide +kernel
theorem d_Mod_put_22 : decode b_Mod_put 22 = .ok (.iload_n 1, 1) := by decide +kernel
theorem d_Mod_put_23 : decode b_Mod_put 23 = .ok (.iload 4, 2) := by decide +kernel
theorem d_Mod_put_25 : decode b_Mod_put 25 = .ok (.iadd, 1) := by decide +kernel
theorem d_Mod_put_26 : decode b_Mod_put 26 = .ok (.bipush 60, 2) := by decide +kernel
theorem d_Mod_put_28 : decode b_Mod_put 28 = .ok (.if_icmp .ge 30, 3) := by decide +kernel
theorem d_Mod_put_31 : decode b_Mod_put 31 = .ok (.aload_n 0, 1) := by decide +kernel
theorem d_Mod_put_32 : decode b_Mod_put 32 = .ok (.getfield 97, 3) := by decide +kernel
theorem d_Mod_put_35 : decode b_Mod_put 35 = .ok (.iload_n 1, 1) := by decide +kernel
theorem d_Mod_put_36 : decode b_Mod_put 36 = .ok (.iload 4, 2) := by decide +kernel
theorem d_Mod_put_38 : decode b_Mod_put 38 = .ok (.iadd, 1) := by decide +kernel
theorem d_Mod_put_39 : decode b_Mod_put 39 = .ok (.lload_n 2, 1) := by decide +kernel
theorem d_Mod_put_40 : decode b_Mod_put 40 = .ok (.bipush 8, 2) := by decide +kernel
theorem d_Mod_put_42 : decode b_Mod_put 42 = .ok (.iload 4, 2) := by decide +kernel
theorem d_Mod_put_44 : decode b_Mod_put 44 = .ok (.imul, 1) := by decide +kernel
theorem d_Mod_put_45 : decode b_Mod_put 45 = .ok (.lshr, 1) := by decide +kernel
theorem d_Mod_put_46 : decode b_Mod_put 46 = .ok (.ldc2_w 152, 3) := by decide +kernel
theorem d_Mod_put_49 : decode b_Mod_put 49 = .ok (.land, 1) := by decide +kernel
theorem d_Mod_put_50 : decode b_Mod_put 50 = .ok (.l2i, 1) := by decide +kernel
theorem d_Mod_put_51 : decode b_Mod_put 51 = .ok (.iastore, 1) := by decide +kernel
theorem d_Mod_put_52 : decode b_Mod_put 52 = .ok (.iinc 4 1, 3) := by decide +kernel
theorem d_Mod_put_55 : decode b_Mod_put 55 = .ok (.goto (-40), 3) := by decide +kernel
theorem d_Mod_put_58 : decode b_Mod_put 58 = .ok (.iconst 1, 1) := by decide +kernel
theorem d_Mod_put_59 : decode b_Mod_put 59 = .ok (.ireturn, 1) := by decide +kernel
theorem d_Mod_record_0 : decode b_Mod_record 0 = .ok (.aload_n 0, 1) := by decide +kernel
theorem d_Mod_record_1 : decode b_Mod_record 1 = .ok (.iload_n 1, 1) := by decide +kernel
theorem d_Mod_record_2 : decode b_Mod_record 2 = .ok (.invokevirtual 144, 3) := by decide +kernel
theorem d_Mod_record_5 : decode b_Mod_record 5 = .ok (.ifCond .eq 36, 3) := by decide +kernel
theorem d_Mod_record_8 : decode b_Mod_record 8 = .ok (.iload_n 2, 1) := by decide +kernel
theorem d_Mod_record_9 : decode b_Mod_record 9 = .ok (.ifCond .lt 32, 3) := by decide +kernel
theorem d_Mod_record_12 : decode b_Mod_record 12 = .ok (.iload_n 2, 1) := by decide +kernel
theorem d_Mod_record_13 : decode b_Mod_record 13 = .ok (.sipush 255, 3) := by decide +kernel
theorem d_Mod_record_16 : decode b_Mod_record 16 = .ok (.if_icmp .gt 25, 3) := by decide +kernel
theorem d_Mod_record_19 : decode b_Mod_record 19 = .ok (.iload 4, 2) := by decide +kernel
theorem d_Mod_record_21 : decode b_Mod_record 21 = .ok (.ifCond .lt 20, 3) := by decide +kernel
theorem d_Mod_record_24 : decode b_Mod_record 24 = .ok (.iload 4, 2) := by decide +kernel
theorem d_Mod_record_26 : decode b_Mod_record 26 = .ok (.bipush 60, 2) := by decide +kernel
theorem d_Mod_record_28 : decode b_Mod_record 28 = .ok (.if_icmp .gt 13, 3) := by decide +kernel
theorem d_Mod_record_31 : decode b_Mod_record 31 = .ok (.iload_n 3, 1) := by decide +kernel
theorem d_Mod_record_32 : decode b_Mod_record 32 = .ok (.aload_n 0, 1) := by decide +kernel
theorem d_Mod_record_33 : decode b_Mod_record 33 = .ok (.getfield 34, 3) := by decide +kernel
theorem d_Mod_record_36 : decode b_Mod_record 36 = .ok (.iload_n 1, 1) := by decide +kernel
theorem d_Mod_record_37 : decode b_Mod_record 37 = .ok (.iaload, 1) := by decide +kernel
theorem d_Mod_record_38 : decode b_Mod_record 38 = .ok (.if_icmp .ge 6, 3) := by decide +kernel
theorem d_Mod_record_41 : decode b_Mod_record 41 = .ok (.bipush (-2), 2) := by decide +kernel
theorem d_Mod_record_43 : decode b_Mod_record 43 = .ok (.ireturn, 1) := by decide +kernel
theorem d_Mod_record_44 : decode b_Mod_record 44 = .ok (.iconst 2, 1) := by decide +kernel
theorem d_Mod_record_45 : decode b_Mod_record 45 = .ok (.iload 4, 2) := by decide +kernel
theorem d_Mod_record_47 : decode b_Mod_record 47 = .ok (.iconst 3, 1) := by decide +kernel
theorem d_Mod_record_48 : decode b_Mod_record 48 = .ok (.iadd, 1) := by decide +kernel
theorem d_Mod_record_49 : decode b_Mod_record 49 = .ok (.iconst 4, 1) := by decide +kernel
theorem d_Mod_record_50 : decode b_Mod_record 50 = .ok (.idiv, 1) := by decide +kernel
theorem d_Mod_record_51 : decode b_Mod_record 51 = .ok (.iadd, 1) := by decide +kernel
theorem d_Mod_record_52 : decode b_Mod_record 52 = .ok (.istore 5, 2) := by decide +kernel
theorem d_Mod_record_54 : decode b_Mod_record 54 = .ok (.iload 5, 2) := by decide +kernel
theorem d_Mod_record_56 : decode b_Mod_record 56 = .ok (.bipush 16, 2) := by decide +kernel
theorem d_Mod_record_58 : decode b_Mod_record 58 = .ok (.aload_n 0, 1) := by decide +kernel
theorem d_Mod_record_59 : decode b_Mod_record 59 = .ok (.getfield 40, 3) := by decide +kernel
theorem d_Mod_record_62 : decode b_Mod_record 62 = .ok (.iload_n 1, 1) := by decide +kernel
theorem d_Mod_record_63 : decode b_Mod_record 63 = .ok (.iaload, 1) := by decide +kernel
theorem d_Mod_record_64 : decode b_Mod_record 64 = .ok (.isub, 1) := by decide +kernel
theorem d_Mod_record_65 : decode b_Mod_record 65 = .ok (.isub, 1) := by decide +kernel
theorem d_Mod_record_66 : decode b_Mod_record 66 = .ok (.bipush 12, 2) := by decide +kernel
theorem d_Mod_record_68 : decode b_Mod_record 68 = .ok (.iadd, 1) := by decide +kernel
theorem d_Mod_record_69 : decode b_Mod_record 69 = .ok (.bipush 13, 2) := by decide +kernel
theorem d_Mod_record_71 : decode b_Mod_record 71 = .ok (.idiv, 1) := by decide +kernel
theorem d_Mod_record_72 : decode b_Mod_record 72 = .ok (.istore 6, 2) := by decide +kernel
theorem d_Mod_record_74 : decode b_Mod_record 74 = .ok (.aload_n 0, 1) := by decide +kernel
theorem d_Mod_record_75 : decode b_Mod_record 75 = .ok (.getfield 24, 3) := by decide +kernel
theorem d_Mod_record_78 : decode b_Mod_record 78 = .ok (.iload_n 1, 1) := by decide +kernel
theorem d_Mod_record_79 : decode b_Mod_record 79 = .ok (.baload, 1) := by decide +kernel
theorem d_Mod_record_80 : decode b_Mod_record 80 = .ok (.ifCond .ne 33, 3) := by decide +kernel
theorem d_Mod_record_83 : decode b_Mod_record 83 = .ok (.aload_n 0, 1) := by decide +kernel
theorem d_Mod_record_84 : decode b_Mod_record 84 = .ok (.getfield 37, 3) := by decide +kernel
theorem d_Mod_record_87 : decode b_Mod_record 87 = .ok (.iload_n 1, 1) := by decide +kernel
theorem d_Mod_record_88 : decode b_Mod_record 88 = .ok (.iaload, 1) := by decide +kernel
theorem d_Mod_record_89 : decode b_Mod_record 89 = .ok (.iload 6, 2) := by decide +kernel
theorem d_Mod_record_91 : decode b_Mod_record 91 = .ok (.ifCond .le 8, 3) := by decide +kernel
theorem d_Mod_record_94 : decode b_Mod_record 94 = .ok (.iload 6, 2) := by decide +kernel
theorem d_Mod_record_96 : decode b_Mod_record 96 = .ok (.goto 4, 3) := by decide +kernel
theorem d_Mod_record_99 : decode b_Mod_record 99 = .ok (.iconst 0, 1) := by decide +kernel
theorem d_Mod_record_100 : decode b_Mod_record 100 = .ok (.iadd, 1) := by decide +kernel
theorem d_Mod_record_101 : decode b_Mod_record 101 = .ok (.aload_n 0, 1) := by decide +kernel
theorem d_Mod_record_102 : decode b_Mod_record 102 = .ok (.getfield 27, 3) := by decide +kernel
theorem d_Mod_record_105 : decode b_Mod_record 105 = .ok (.iload_n 1, 1) := by decide +kernel
theorem d_Mod_record_106 : decode b_Mod_record 106 = .ok (.iaload, 1) := by decide +kernel
theorem d_Mod_record_107 : decode b_Mod_record 107 = .ok (.if_icmp .le 6, 3) := by decide +kernel
theorem d_Mod_record_110 : decode b_Mod_record 110 = .ok (.bipush (-4), 2) := by decide +kernel
theorem d_Mod_record_112 : decode b_Mod_record 112 = .ok (.ireturn, 1) := by decide +kernel
theorem d_Mod_record_113 : decode b_Mod_record 113 = .ok (.iconst 0, 1) := by decide +kernel
theorem d_Mod_record_114 : decode b_Mod_record 114 = .ok (.istore 7, 2) := by decide +kernel
theorem d_Mod_record_116 : decode b_Mod_record 116 = .ok (.aload_n 0, 1) := by decide +kernel
theorem d_Mod_record_117 : decode b_Mod_record 117 = .ok (.getfield 49, 3) := by decide +kernel
theorem d_Mod_record_120 : decode b_Mod_record 120 = .ok (.iload 7, 2) := by decide +kernel
theorem d_Mod_record_122 : decode b_Mod_record 122 = .ok (.iaload, 1) := by decide +kernel
theorem d_Mod_record_123 : decode b_Mod_record 123 = .ok (.ifCond .lt 9, 3) := by decide +kernel
theorem d_Mod_record_126 : decode b_Mod_record 126 = .ok (.iinc 7 1, 3) := by decide +kernel
theorem d_Mod_record_129 : decode b_Mod_record 129 = .ok (.goto (-13), 3) := by decide +kernel
theorem d_Mod_record_132 : decode b_Mod_record 132 = .ok (.iconst 0, 1) := by decide +kernel
theorem d_Mod_record_133 : decode b_Mod_record 133 = .ok (.istore 8, 2) := by decide +kernel
theorem d_Mod_record_135 : decode b_Mod_record 135 = .ok (.iload 8, 2) := by decide +kernel
theorem d_Mod_record_137 : decode b_Mod_record 137 = .ok (.iload 5, 2) := by decide +kernel
theorem d_Mod_record_139 : decode b_Mod_record 139 = .ok (.if_icmp .ge 91, 3) := by decide +kernel
theorem d_Mod_record_142 : decode b_Mod_record 142 = .ok (.aload_n 0, 1) := by decide +kernel
theorem d_Mod_record_143 : decode b_Mod_record 143 = .ok (.getfield 40, 3) := by decide +kernel
theorem d_Mod_record_146 : decode b_Mod_record 146 = .ok (.iload_n 1, 1) := by decide +kernel
theorem d_Mod_record_147 : decode b_Mod_record 147 = .ok (.iaload, 1) := by decide +kernel
theorem d_Mod_record_148 : decode b_Mod_record 148 = .ok (.bipush 16, 2) := by decide +kernel
theorem d_Mod_record_150 : decode b_Mod_record 150 = .ok (.if_icmp .ne 8, 3) := by decide +kernel
theorem d_Mod_record_153 : decode b_Mod_record 153 = .ok (.aload_n 0, 1) := by decide +kernel
theorem d_Mod_record_154 : decode b_Mod_record 154 = .ok (.iload_n 1, 1) := by decide +kernel
theorem d_Mod_record_155 : decode b_Mod_record 155 = .ok (.invokevirtual 154, 3) := by decide +kernel
theorem d_Mod_record_158 : decode b_Mod_record 158 = .ok (.aload_n 0, 1) := by decide +kernel
theorem d_Mod_record_159 : decode b_Mod_record 159 = .ok (.getfield 43, 3) := by decide +kernel
theorem d_Mod_record_162 : decode b_Mod_record 162 = .ok (.bipush 40, 2) := by decide +kernel
theorem d_Mod_record_164 : decode b_Mod_record 164 = .ok (.iload_n 1, 1) := by decide +kernel
theorem d_Mod_record_165 : decode b_Mod_record 165 = .ok (.imul, 1) := by decide +kernel
theorem d_Mod_record_166 : decode b_Mod_record 166 = .ok (.aload_n 0, 1) := by decide +kernel
theorem d_Mod_record_167 : decode b_Mod_record 167 = .ok (.getfield 37, 3) := by decide +kernel
theorem d_Mod_record_170 : decode b_Mod_record 170 = .ok (.iload_n 1, 1) := by decide +kernel
theorem d_Mod_record_171 : decode b_Mod_record 171 = .ok (.iaload, 1) := by decide +kernel
theorem d_Mod_record_172 : decode b_Mod_record 172 = .ok (.iadd, 1) := by decide +kernel
theorem d_Mod_record_173 : decode b_Mod_record 173 = .ok (.iconst 1, 1) := by decide +kernel
theorem d_Mod_record_174 : decode b_Mod_record 174 = .ok (.isub, 1) := by decide +kernel
theorem d_Mod_record_175 : decode b_Mod_record 175 = .ok (.iaload, 1) := by decide +kernel
theorem d_Mod_record_176 : decode b_Mod_record 176 = .ok (.istore 9, 2) := by decide +kernel
theorem d_Mod_record_178 : decode b_Mod_record 178 = .ok (.aload_n 0, 1) := by decide +kernel
theorem d_Mod_record_179 : decode b_Mod_record 179 = .ok (.getfield 64, 3) := by decide +kernel
theorem d_Mod_record_182 : decode b_Mod_record 182 = .ok (.iload 7, 2) := by decide +kernel
theorem d_Mod_record_184 : decode b_Mod_record 184 = .ok (.iload 8, 2) := by decide +kernel
theorem d_Mod_record_186 : decode b_Mod_record 186 = .ok (.ifCond .ne 8, 3) := by decide +kernel
theorem d_Mod_record_189 : decode b_Mod_record 189 = .ok (.iload 9, 2) := by decide +kernel
theorem d_Mod_record_191 : decode b_Mod_record 191 = .ok (.goto 10, 3) := by decide +kernel
theorem d_Mod_record_194 : decode b_Mod_record 194 = .ok (.aload_n 0, 1) := by decide +kernel
theorem d_Mod_record_195 : decode b_Mod_record 195 = .ok (.getfield 64, 3) := by decide +kernel
theorem d_Mod_record_198 : decode b_Mod_record 198 = .ok (.iload 7, 2) := by decide +kernel
theorem d_Mod_record_200 : decode b_Mod_record 200 = .ok (.iaload, 1) := by decide +kernel
theorem d_Mod_record_201 : decode b_Mod_record 201 = .ok (.iastore, 1) := by decide +kernel
theorem d_Mod_record_202 : decode b_Mod_record 202 = .ok (.aload_n 0, 1) := by decide +kernel
theorem d_Mod_record_203 : decode b_Mod_record 203 = .ok (.iload 9, 2) := by decide +kernel
theorem d_Mod_record_205 : decode b_Mod_record 205 = .ok (.aload_n 0, 1) := by decide +kernel
theorem d_Mod_record_206 : decode b_Mod_record 206 = .ok (.getfield 40, 3) := by decide +kernel
theorem d_Mod_record_209 : decode b_Mod_record 209 = .ok (.iload_n 1, 1) := by decide +kernel
theorem d_Mod_record_210 : decode b_Mod_record 210 = .ok (.iaload, 1) := by decide +kernel
theorem d_Mod_record_211 : decode b_Mod_record 211 = .ok (.invokevirtual 140, 3) := by decide +kernel
theorem d_Mod_record_214 : decode b_Mod_record 214 = .ok (.aload_n 0, 1) := by decide +kernel
theorem d_Mod_record_215 : decode b_Mod_record 215 = .ok (.getfield 40, 3) := by decide +kernel
theorem d_Mod_record_218 : decode b_Mod_record 218 = .ok (.iload_n 1, 1) := by decide +kernel
theorem d_Mod_record_219 : decode b_Mod_record 219 = .ok (.dup2, 1) := by decide +kernel
theorem d_Mod_record_220 : decode b_Mod_record 220 = .ok (.iaload, 1) := by decide +kernel
theorem d_Mod_record_221 : decode b_Mod_record 221 = .ok (.iconst 1, 1) := by decide +kernel
theorem d_Mod_record_222 : decode b_Mod_record 222 = .ok (.iadd, 1) := by decide +kernel
theorem d_Mod_record_223 : decode b_Mod_record 223 = .ok (.iastore, 1) := by decide +kernel
theorem d_Mod_record_224 : decode b_Mod_record 224 = .ok (.iinc 8 1, 3) := by decide +kernel
theorem d_Mod_record_227 : decode b_Mod_record 227 = .ok (.goto (-92), 3) := by decide +kernel
theorem d_Mod_record_230 : decode b_Mod_record 230 = .ok (.aload_n 0, 1) := by decide +kernel
theorem d_Mod_record_231 : decode b_Mod_record 231 = .ok (.getfield 49, 3) := by decide +kernel
theorem d_Mod_record_234 : decode b_Mod_record 234 = .ok (.iload 7, 2) := by decide +kernel
theorem d_Mod_record_236 : decode b_Mod_record 236 = .ok (.iload_n 1, 1) := by decide +kernel
theorem d_Mod_record_237 : decode b_Mod_record 237 = .ok (.iastore, 1) := by decide +kernel
theorem d_Mod_record_238 : decode b_Mod_record 238 = .ok (.aload_n 0, 1) := by decide +kernel
theorem d_Mod_record_239 : decode b_Mod_record 239 = .ok (.getfield 52, 3) := by decide +kernel
theorem d_Mod_record_242 : decode b_Mod_record 242 = .ok (.iload 7, 2) := by decide +kernel
theorem d_Mod_record_244 : decode b_Mod_record 244 = .ok (.aload_n 0, 1) := by decide +kernel
theorem d_Mod_record_245 : decode b_Mod_record 245 = .ok (.getfield 31, 3) := by decide +kernel
theorem d_Mod_record_248 : decode b_Mod_record 248 = .ok (.iload_n 1, 1) := by decide +kernel
theorem d_Mod_record_249 : decode b_Mod_record 249 = .ok (.iaload, 1) := by decide +kernel
theorem d_Mod_record_250 : decode b_Mod_record 250 = .ok (.iastore, 1) := by decide +kernel
theorem d_Mod_record_251 : decode b_Mod_record 251 = .ok (.aload_n 0, 1) := by decide +kernel
theorem d_Mod_record_252 : decode b_Mod_record 252 = .ok (.getfield 55, 3) := by decide +kernel
theorem d_Mod_record_255 : decode b_Mod_record 255 = .ok (.iload 7, 2) := by decide +kernel
theorem d_Mod_record_257 : decode b_Mod_record 257 = .ok (.iload_n 2, 1) := by decide +kernel
theorem d_Mod_record_258 : decode b_Mod_record 258 = .ok (.iastore, 1) := by decide +kernel
theorem d_Mod_record_259 : decode b_Mod_record 259 = .ok (.aload_n 0, 1) := by decide +kernel
theorem d_Mod_record_260 : decode b_Mod_record 260 = .ok (.getfield 58, 3) := by decide +kernel
theorem d_Mod_record_263 : decode b_Mod_record 263 = .ok (.iload 7, 2) := by decide +kernel
theorem d_Mod_record_265 : decode b_Mod_record 265 = .ok (.iload_n 3, 1) := by decide +kernel
theorem d_Mod_record_266 : decode b_Mod_record 266 = .ok (.iastore, 1) := by decide +kernel
theorem d_Mod_record_267 : decode b_Mod_record 267 = .ok (.aload_n 0, 1) := by decide +kernel
theorem d_Mod_record_268 : decode b_Mod_record 268 = .ok (.getfield 61, 3) := by decide +kernel
theorem d_Mod_record_271 : decode b_Mod_record 271 = .ok (.iload 7, 2) := by decide +kernel
theorem d_Mod_record_273 : decode b_Mod_record 273 = .ok (.iload 4, 2) := by decide +kernel
theorem d_Mod_record_275 : decode b_Mod_record 275 = .ok (.iastore, 1) := by decide +kernel
theorem d_Mod_record_276 : decode b_Mod_record 276 = .ok (.aload_n 0, 1) := by decide +kernel
theorem d_Mod_record_277 : decode b_Mod_record 277 = .ok (.getfield 67, 3) := by decide +kernel
theorem d_Mod_record_280 : decode b_Mod_record 280 = .ok (.iload 7, 2) := by decide +kernel
theorem d_Mod_record_282 : decode b_Mod_record 282 = .ok (.iconst 0, 1) := by decide +kernel
theorem d_Mod_record_283 : decode b_Mod_record 283 = .ok (.bastore, 1) := by decide +kernel
theorem d_Mod_record_284 : decode b_Mod_record 284 = .ok (.aload_n 0, 1) := by decide +kernel
theorem d_Mod_record_285 : decode b_Mod_record 285 = .ok (.getfield 70, 3) := by decide +kernel
theorem d_Mod_record_288 : decode b_Mod_record 288 = .ok (.iload 7, 2) := by decide +kernel
theorem d_Mod_record_290 : decode b_Mod_record 290 = .ok (.iconst 0, 1) := by decide +kernel
theorem d_Mod_record_291 : decode b_Mod_record 291 = .ok (.bastore, 1) := by decide +kernel
theorem d_Mod_record_292 : decode b_Mod_record 292 = .ok (.aload_n 0, 1) := by decide +kernel
theorem d_Mod_record_293 : decode b_Mod_record 293 = .ok (.getfield 73, 3) := by decide +kernel
theorem d_Mod_record_296 : decode b_Mod_record 296 = .ok (.iload 7, 2) := by decide +kernel
theorem d_Mod_record_298 : decode b_Mod_record 298 = .ok (.iconst 0, 1) := by decide +kernel
theorem d_Mod_record_299 : decode b_Mod_record 299 = .ok (.iastore, 1) := by decide +kernel
theorem d_Mod_record_300 : decode b_Mod_record 300 = .ok (.iconst 0, 1) := by decide +kernel
theorem d_Mod_record_301 : decode b_Mod_record 301 = .ok (.istore 8, 2) := by decide +kernel
theorem d_Mod_record_303 : decode b_Mod_record 303 = .ok (.iload 8, 2) := by decide +kernel
theorem d_Mod_record_305 : decode b_Mod_record 305 = .ok (.bipush 8, 2) := by decide +kernel
theorem d_Mod_record_307 : decode b_Mod_record 307 = .ok (.if_icmp .ge 23, 3) := by decide +kernel
theorem d_Mod_record_310 : decode b_Mod_record 310 = .ok (.aload_n 0, 1) := by decide +kernel
theorem d_Mod_record_311 : decode b_Mod_record 311 = .ok (.getfield 76, 3) := by decide +kernel
theorem d_Mod_record_314 : decode b_Mod_record 314 = .ok (.bipush 8, 2) := by decide +kernel
theorem d_Mod_record_316 : decode b_Mod_record 316 = .ok (.iload 7, 2) := by decide +kernel
theorem d_Mod_record_318 : decode b_Mod_record 318 = .ok (.imul, 1) := by decide +kernel
theorem d_Mod_record_319 : decode b_Mod_record 319 = .ok (.iload 8, 2) := by decide +kernel
theorem d_Mod_record_321 : decode b_Mod_record 321 = .ok (.iadd, 1) := by decide +kernel
theorem d_Mod_record_322 : decode b_Mod_record 322 = .ok (.lconst 0, 1) := by decide +kernel
theorem d_Mod_record_323 : decode b_Mod_record 323 = .ok (.lastore, 1) := by decide +kernel
theorem d_Mod_record_324 : decode b_Mod_record 324 = .ok (.iinc 8 1, 3) := by decide +kernel
theorem d_Mod_record_327 : decode b_Mod_record 327 = .ok (.goto (-24), 3) := by decide +kernel
theorem d_Mod_record_330 : decode b_Mod_record 330 = .ok (.iconst 0, 1) := by decide +kernel
theorem d_Mod_record_331 : decode b_Mod_record 331 = .ok (.istore 8, 2) := by decide +kernel
theorem d_Mod_record_333 : decode b_Mod_record 333 = .ok (.iload 8, 2) := by decide +kernel
theorem d_Mod_record_335 : decode b_Mod_record 335 = .ok (.iload 4, 2) := by decide +kernel
theorem d_Mod_record_337 : decode b_Mod_record 337 = .ok (.if_icmp .ge 45, 3) := by decide +kernel
theorem d_Mod_record_340 : decode b_Mod_record 340 = .ok (.aload_n 0, 1) := by decide +kernel
theorem d_Mod_record_341 : decode b_Mod_record 341 = .ok (.getfield 76, 3) := by decide +kernel
theorem d_Mod_record_344 : decode b_Mod_record 344 = .ok (.bipush 8, 2) := by decide +kernel
theorem d_Mod_record_346 : decode b_Mod_record 346 = .ok (.iload 7, 2) := by decide +kernel
theorem d_Mod_record_348 : decode b_Mod_record 348 = .ok (.imul, 1) := by decide +kernel
theorem d_Mod_record_349 : decode b_Mod_record 349 = .ok (.iload 8, 2) := by decide +kernel
theorem d_Mod_record_351 : decode b_Mod_record 351 = .ok (.bipush 8, 2) := by decide +kernel
theorem d_Mod_record_353 : decode b_Mod_record 353 = .ok (.idiv, 1) := by decide +kernel
theorem d_Mod_record_354 : decode b_Mod_record 354 = .ok (.iadd, 1) := by decide +kernel
theorem d_Mod_record_355 : decode b_Mod_record 355 = .ok (.dup2, 1) := by decide +kernel
theorem d_Mod_record_356 : decode b_Mod_record 356 = .ok (.laload, 1) := by decide +kernel
theorem d_Mod_record_357 : decode b_Mod_record 357 = .ok (.aload_n 0, 1) := by decide +kernel
theorem d_Mod_record_358 : decode b_Mod_record 358 = .ok (.getfield 97, 3) := by decide +kernel
theorem d_Mod_record_361 : decode b_Mod_record 361 = .ok (.iload 8, 2) := by decide +kernel
theorem d_Mod_record_363 : decode b_Mod_record 363 = .ok (.iaload, 1) := by decide +kernel
theorem d_Mod_record_364 : decode b_Mod_record 364 = .ok (.i2l, 1) := by decide +kernel
theorem d_Mod_record_365 : decode b_Mod_record 365 = .ok (.bipush 8, 2) := by decide +kernel
theorem d_Mod_record_367 : decode b_Mod_record 367 = .ok (.iload 8, 2) := by decide +kernel
theorem d_Mod_record_369 : decode b_Mod_record 369 = .ok (.bipush 8, 2) := by decide +kernel
theorem d_Mod_record_371 : decode b_Mod_record 371 = .ok (.irem, 1) := by decide +kernel
theorem d_Mod_record_372 : decode b_Mod_record 372 = .ok (.imul, 1) := by decide +kernel
theorem d_Mod_record_373 : decode b_Mod_record 373 = .ok (.lshl, 1) := by decide +kernel
theorem d_Mod_record_374 : decode b_Mod_record 374 = .ok (.lor, 1) := by decide +kernel
theorem d_Mod_record_375 : decode b_Mod_record 375 = .ok (.lastore, 1) := by decide +kernel
theorem d_Mod_record_376 : decode b_Mod_record 376 = .ok (.iinc 8 1, 3) := by decide +kernel
theorem d_Mod_record_379 : decode b_Mod_record 379 = .ok (.goto (-46), 3) := by decide +kernel
theorem d_Mod_record_382 : decode b_Mod_record 382 = .ok (.aload_n 0, 1) := by decide +kernel
theorem d_Mod_record_383 : decode b_Mod_record 383 = .ok (.getfield 31, 3) := by decide +kernel
theorem d_Mod_record_386 : decode b_Mod_record 386 = .ok (.iload_n 1, 1) := by decide +kernel
theorem d_Mod_record_387 : decode b_Mod_record 387 = .ok (.dup2, 1) := by decide +kernel
theorem d_Mod_record_388 : decode b_Mod_record 388 = .ok (.iaload, 1) := by decide +kernel
theorem d_Mod_record_389 : decode b_Mod_record 389 = .ok (.iconst 1, 1) := by decide +kernel
theorem d_Mod_record_390 : decode b_Mod_record 390 = .ok (.iadd, 1) := by decide +kernel
theorem d_Mod_record_391 : decode b_Mod_record 391 = .ok (.iastore, 1) := by decide +kernel
theorem d_Mod_record_392 : decode b_Mod_record 392 = .ok (.aload_n 0, 1) := by decide +kernel
theorem d_Mod_record_393 : decode b_Mod_record 393 = .ok (.getfield 34, 3) := by decide +kernel
theorem d_Mod_record_396 : decode b_Mod_record 396 = .ok (.iload_n 1, 1) := by decide +kernel
theorem d_Mod_record_397 : decode b_Mod_record 397 = .ok (.iload_n 3, 1) := by decide +kernel
theorem d_Mod_record_398 : decode b_Mod_record 398 = .ok (.iastore, 1) := by decide +kernel
theorem d_Mod_record_399 : decode b_Mod_record 399 = .ok (.aload_n 0, 1) := by decide +kernel
theorem d_Mod_record_400 : decode b_Mod_record 400 = .ok (.iload_n 1, 1) := by decide +kernel
theorem d_Mod_record_401 : decode b_Mod_record 401 = .ok (.invokevirtual 157, 3) := by decide +kernel
theorem d_Mod_record_404 : decode b_Mod_record 404 = .ok (.aload_n 0, 1) := by decide +kernel
theorem d_Mod_record_405 : decode b_Mod_record 405 = .ok (.getfield 31, 3) := by decide +kernel
theorem d_Mod_record_408 : decode b_Mod_record 408 = .ok (.iload_n 1, 1) := by decide +kernel
theorem d_Mod_record_409 : decode b_Mod_record 409 = .ok (.iaload, 1) := by decide +kernel
theorem d_Mod_record_410 : decode b_Mod_record 410 = .ok (.iconst 1, 1) := by decide +kernel
theorem d_Mod_record_411 : decode b_Mod_record 411 = .ok (.isub, 1) := by decide +kernel
theorem d_Mod_record_412 : decode b_Mod_record 412 = .ok (.ireturn, 1) := by decide +kernel
theorem d_Mod_open_0 : decode b_Mod_open 0 = .ok (.aload_n 0, 1) := by decide +kernel
theorem d_Mod_open_1 : decode b_Mod_open 1 = .ok (.getfield 37, 3) := by decide +kernel
theorem d_Mod_open_4 : decode b_Mod_open 4 = .ok (.iload_n 1, 1) := by decide +kernel
theorem d_Mod_open_5 : decode b_Mod_open 5 = .ok (.iaload, 1) := by decide +kernel
theorem d_Mod_open_6 : decode b_Mod_open 6 = .ok (.aload_n 0, 1) := by decide +kernel
theorem d_Mod_open_7 : decode b_Mod_open 7 = .ok (.getfield 27, 3) := by decide +kernel
theorem d_Mod_open_10 : decode b_Mod_open 10 = .ok (.iload_n 1, 1) := by decide +kernel
theorem d_Mod_open_11 : decode b_Mod_open 11 = .ok (.iaload, 1) := by decide +kernel
theorem d_Mod_open_12 : decode b_Mod_open 12 = .ok (.if_icmp .ne 8, 3) := by decide +kernel
theorem d_Mod_open_15 : decode b_Mod_open 15 = .ok (.aload_n 0, 1) := by decide +kernel
theorem d_Mod_open_16 : decode b_Mod_open 16 = .ok (.iload_n 1, 1) := by decide +kernel
theorem d_Mod_open_17 : decode b_Mod_open 17 = .ok (.invokevirtual 148, 3) := by decide +kernel
theorem d_Mod_open_20 : decode b_Mod_open 20 = .ok (.iconst 0, 1) := by decide +kernel
theorem d_Mod_open_21 : decode b_Mod_open 21 = .ok (.istore_n 2, 1) := by decide +kernel
theorem d_Mod_open_22 : decode b_Mod_open 22 = .ok (.aload_n 0, 1) := by decide +kernel
theorem d_Mod_open_23 : decode b_Mod_open 23 = .ok (.getfield 46, 3) := by decide +kernel
theorem d_Mod_open_26 : decode b_Mod_open 26 = .ok (.iload_n 2, 1) := by decide +kernel
theorem d_Mod_open_27 : decode b_Mod_open 27 = .ok (.baload, 1) := by decide +kernel
theorem d_Mod_open_28 : decode b_Mod_open 28 = .ok (.ifCond .eq 9, 3) := by decide +kernel
theorem d_Mod_open_31 : decode b_Mod_open 31 = .ok (.iinc 2 1, 3) := by decide +kernel
theorem d_Mod_open_34 : decode b_Mod_open 34 = .ok (.goto (-12), 3) := by decide +kernel
theorem d_Mod_open_37 : decode b_Mod_open 37 = .ok (.aload_n 0, 1) := by decide +kernel
theorem d_Mod_open_38 : decode b_Mod_open 38 = .ok (.getfield 46, 3) := by decide +kernel
theorem d_Mod_open_41 : decode b_Mod_open 41 = .ok (.iload_n 2, 1) := by decide +kernel
theorem d_Mod_open_42 : decode b_Mod_open 42 = .ok (.iconst 1, 1) := by decide +kernel
theorem d_Mod_open_43 : decode b_Mod_open 43 = .ok (.bastore, 1) := by decide +kernel
theorem d_Mod_open_44 : decode b_Mod_open 44 = .ok (.aload_n 0, 1) := by decide +kernel
theorem d_Mod_open_45 : decode b_Mod_open 45 = .ok (.getfield 43, 3) := by decide +kernel
theorem d_Mod_open_48 : decode b_Mod_open 48 = .ok (.bipush 40, 2) := by decide +kernel
theorem d_Mod_open_50 : decode b_Mod_open 50 = .ok (.iload_n 1, 1) := by decide +kernel
theorem d_Mod_open_51 : decode b_Mod_open 51 = .ok (.imul, 1) := by decide +kernel
theorem d_Mod_open_52 : decode b_Mod_open 52 = .ok (.aload_n 0, 1) := by decide +kernel
theorem d_Mod_open_53 : decode b_Mod_open 53 = .ok (.getfield 37, 3) := by decide +kernel
theorem d_Mod_open_56 : decode b_Mod_open 56 = .ok (.iload_n 1, 1) := by decide +kernel
theorem d_Mod_open_57 : decode b_Mod_open 57 = .ok (.iaload, 1) := by decide +kernel
theorem d_Mod_open_58 : decode b_Mod_open 58 = .ok (.iadd, 1) := by decide +kernel
theorem d_Mod_open_59 : decode b_Mod_open 59 = .ok (.iload_n 2, 1) := by decide +kernel
theorem d_Mod_open_60 : decode b_Mod_open 60 = .ok (.iastore, 1) := by decide +kernel
theorem d_Mod_open_61 : decode b_Mod_open 61 = .ok (.aload_n 0, 1) := by decide +kernel
theorem d_Mod_open_62 : decode b_Mod_open 62 = .ok (.getfield 37, 3) := by decide +kernel
theorem d_Mod_open_65 : decode b_Mod_open 65 = .ok (.iload_n 1, 1) := by decide +kernel
theorem d_Mod_open_66 : decode b_Mod_open 66 = .ok (.dup2, 1) := by decide +kernel
theorem d_Mod_open_67 : decode b_Mod_open 67 = .ok (.iaload, 1) := by decide +kernel
theorem d_Mod_open_68 : decode b_Mod_open 68 = .ok (.iconst 1, 1) := by decide +kernel
theorem d_Mod_open_69 : decode b_Mod_open 69 = .ok (.iadd, 1) := by decide +kernel
theorem d_Mod_open_70 : decode b_Mod_open 70 = .ok (.iastore, 1) := by decide +kernel
theorem d_Mod_open_71 : decode b_Mod_open 71 = .ok (.iconst 0, 1) := by decide +kernel
theorem d_Mod_open_72 : decode b_Mod_open 72 = .ok (.istore_n 3, 1) := by decide +kernel
theorem d_Mod_open_73 : decode b_Mod_open 73 = .ok (.iload_n 3, 1) := by decide +kernel
theorem d_Mod_open_74 : decode b_Mod_open 74 = .ok (.bipush 16, 2) := by decide +kernel
theorem d_Mod_open_76 : decode b_Mod_open 76 = .ok (.if_icmp .ge 15, 3) := by decide +kernel
theorem d_Mod_open_79 : decode b_Mod_open 79 = .ok (.aload_n 0, 1) := by decide +kernel
theorem d_Mod_open_80 : decode b_Mod_open 80 = .ok (.iload_n 2, 1) := by decide +kernel
theorem d_Mod_open_81 : decode b_Mod_open 81 = .ok (.iload_n 3, 1) := by decide +kernel
theorem d_Mod_open_82 : decode b_Mod_open 82 = .ok (.invokevirtual 140, 3) := by decide +kernel
theorem d_Mod_open_85 : decode b_Mod_open 85 = .ok (.iinc 3 1, 3) := by decide +kernel
theorem d_Mod_open_88 : decode b_Mod_open 88 = .ok (.goto (-15), 3) := by decide +kernel
theorem d_Mod_open_91 : decode b_Mod_open 91 = .ok (.aload_n 0, 1) := by decide +kernel
theorem d_Mod_open_92 : decode b_Mod_open 92 = .ok (.getfield 40, 3) := by decide +kernel
theorem d_Mod_open_95 : decode b_Mod_open 95 = .ok (.iload_n 1, 1) := by decide +kernel
theorem d_Mod_open_96 : decode b_Mod_open 96 = .ok (.iconst 3, 1) := by decide +kernel
theorem d_Mod_open_97 : decode b_Mod_open 97 = .ok (.iastore, 1) := by decide +kernel
theorem d_Mod_open_98 : decode b_Mod_open 98 = .ok (.return_, 1) := by decide +kernel
theorem d_Mod_prune_0 : decode b_Mod_prune 0 = .ok (.aload_n 0, 1) := by decide +kernel
theorem d_Mod_prune_1 : decode b_Mod_prune 1 = .ok (.getfield 24, 3) := by decide +kernel
theorem d_Mod_prune_4 : decode b_Mod_prune 4 = .ok (.iload_n 1, 1) := by decide +kernel
theorem d_Mod_prune_5 : decode b_Mod_prune 5 = .ok (.baload, 1) := by decide +kernel
theorem d_Mod_prune_6 : decode b_Mod_prune 6 = .ok (.ifCond .ne 7, 3) := by decide +kernel
theorem d_Mod_prune_9 : decode b_Mod_prune 9 = .ok (.iconst 1, 1) := by decide +kernel
theorem d_Mod_prune_10 : decode b_Mod_prune 10 = .ok (.goto 4, 3) := by decide +kernel
theorem d_Mod_prune_13 : decode b_Mod_prune 13 = .ok (.iconst 0, 1) := by decide +kernel
theorem d_Mod_prune_14 : decode b_Mod_prune 14 = .ok (.istore_n 2, 1) := by decide +kernel
theorem d_Mod_prune_15 : decode b_Mod_prune 15 = .ok (.iload_n 2, 1) := by decide +kernel
theorem d_Mod_prune_16 : decode b_Mod_prune 16 = .ok (.ifCond .eq 87, 3) := by decide +kernel
theorem d_Mod_prune_19 : decode b_Mod_prune 19 = .ok (.aload_n 0, 1) := by decide +kernel
theorem d_Mod_prune_20 : decode b_Mod_prune 20 = .ok (.getfield 37, 3) := by decide +kernel
theorem d_Mod_prune_23 : decode b_Mod_prune 23 = .ok (.iload_n 1, 1) := by decide +kernel
theorem d_Mod_prune_24 : decode b_Mod_prune 24 = .ok (.iaload, 1) := by decide +kernel
theorem d_Mod_prune_25 : decode b_Mod_prune 25 = .ok (.iconst 1, 1) := by decide +kernel
theorem d_Mod_prune_26 : decode b_Mod_prune 26 = .ok (.if_icmp .le 77, 3) := by decide +kernel
theorem d_Mod_prune_29 : decode b_Mod_prune 29 = .ok (.iconst 0, 1) := by decide +kernel
theorem d_Mod_prune_30 : decode b_Mod_prune 30 = .ok (.istore_n 3, 1) := by decide +kernel
theorem d_Mod_prune_31 : decode b_Mod_prune 31 = .ok (.iload_n 3, 1) := by decide +kernel
theorem d_Mod_prune_32 : decode b_Mod_prune 32 = .ok (.sipush 280, 3) := by decide +kernel
theorem d_Mod_prune_35 : decode b_Mod_prune 35 = .ok (.if_icmp .ge 56, 3) := by decide +kernel
theorem d_Mod_prune_38 : decode b_Mod_prune 38 = .ok (.iload_n 2, 1) := by decide +kernel
theorem d_Mod_prune_39 : decode b_Mod_prune 39 = .ok (.ifCond .eq 44, 3) := by decide +kernel
theorem d_Mod_prune_42 : decode b_Mod_prune 42 = .ok (.aload_n 0, 1) := by decide +kernel
theorem d_Mod_prune_43 : decode b_Mod_prune 43 = .ok (.getfield 49, 3) := by decide +kernel
theorem d_Mod_prune_46 : decode b_Mod_prune 46 = .ok (.iload_n 3, 1) := by decide +kernel
theorem d_Mod_prune_47 : decode b_Mod_prune 47 = .ok (.iaload, 1) := by decide +kernel
theorem d_Mod_prune_48 : decode b_Mod_prune 48 = .ok (.iload_n 1, 1) := by decide +kernel
theorem d_Mod_prune_49 : decode b_Mod_prune 49 = .ok (.if_icmp .ne 30, 3) := by decide +kernel
theorem d_Mod_prune_52 : decode b_Mod_prune 52 = .ok (.aload_n 0, 1) := by decide +kernel
theorem d_Mod_prune_53 : decode b_Mod_prune 53 = .ok (.getfield 64, 3) := by decide +kernel
theorem d_Mod_prune_56 : decode b_Mod_prune 56 = .ok (.iload_n 3, 1) := by decide +kernel
theorem d_Mod_prune_57 : decode b_Mod_prune 57 = .ok (.iaload, 1) := by decide +kernel
theorem d_Mod_prune_58 : decode b_Mod_prune 58 = .ok (.aload_n 0, 1) := by decide +kernel
theorem d_Mod_prune_59 : decode b_Mod_prune 59 = .ok (.getfield 43, 3) := by decide +kernel
theorem d_Mod_prune_62 : decode b_Mod_prune 62 = .ok (.bipush 40, 2) := by decide +kernel
theorem d_Mod_prune_64 : decode b_Mod_prune 64 = .ok (.iload_n 1, 1) := by decide +kernel
theorem d_Mod_prune_65 : decode b_Mod_prune 65 = .ok (.imul, 1) := by decide +kernel
theorem d_Mod_prune_66 : decode b_Mod_prune 66 = .ok (.iaload, 1) := by decide +kernel
theorem d_Mod_prune_67 : decode b_Mod_prune 67 = .ok (.if_icmp .ne 12, 3) := by decide +kernel
theorem d_Mod_prune_70 : decode b_Mod_prune 70 = .ok (.aload_n 0, 1) := by decide +kernel
theorem d_Mod_prune_71 : decode b_Mod_prune 71 = .ok (.getfield 67, 3) := by decide +kernel
theorem d_Mod_prune_74 : decode b_Mod_prune 74 = .ok (.iload_n 3, 1) := by decide +kernel
theorem d_Mod_prune_75 : decode b_Mod_prune 75 = .ok (.baload, 1) := by decide +kernel
theorem d_Mod_prune_76 : decode b_Mod_prune 76 = .ok (.ifCond .eq 7, 3) := by decide +kernel
theorem d_Mod_prune_79 : decode b_Mod_prune 79 = .ok (.iconst 1, 1) := by decide +kernel
theorem d_Mod_prune_80 : decode b_Mod_prune 80 = .ok (.goto 4, 3) := by decide +kernel
theorem d_Mod_prune_83 : decode b_Mod_prune 83 = .ok (.iconst 0, 1) := by decide +kernel
theorem d_Mod_prune_84 : decode b_Mod_prune 84 = .ok (.istore_n 2, 1) := by decide +kernel
theorem d_Mod_prune_85 : decode b_Mod_prune 85 = .ok (.iinc 3 1, 3) := by decide +kernel
theorem d_Mod_prune_88 : decode b_Mod_prune 88 = .ok (.goto (-57), 3) := by decide +kernel
theorem d_Mod_prune_91 : decode b_Mod_prune 91 = .ok (.iload_n 2, 1) := by decide +kernel
theorem d_Mod_prune_92 : decode b_Mod_prune 92 = .ok (.ifCond .eq (-77), 3) := by decide +kernel
theorem d_Mod_prune_95 : decode b_Mod_prune 95 = .ok (.aload_n 0, 1) := by decide +kernel
theorem d_Mod_prune_96 : decode b_Mod_prune 96 = .ok (.iload_n 1, 1) := by decide +kernel
theorem d_Mod_prune_97 : decode b_Mod_prune 97 = .ok (.invokevirtual 148, 3) := by decide +kernel
theorem d_Mod_prune_100 : decode b_Mod_prune 100 = .ok (.goto (-85), 3) := by decide +kernel
theorem d_Mod_prune_103 : decode b_Mod_prune 103 = .ok (.return_, 1) := by decide +kernel
theorem d_Mod_packetByte_0 : decode b_Mod_packetByte 0 = .ok (.iload_n 1, 1) := by decide +kernel
theorem d_Mod_packetByte_1 : decode b_Mod_packetByte 1 = .ok (.ifCond .ge 7, 3) := by decide +kernel
theorem d_Mod_packetByte_4 : decode b_Mod_packetByte 4 = .ok (.iconst (-1), 1) := by decide +kernel
theorem d_Mod_packetByte_5 : decode b_Mod_packetByte 5 = .ok (.goto 9, 3) := by decide +kernel
theorem d_Mod_packetByte_8 : decode b_Mod_packetByte 8 = .ok (.aload_n 0, 1) := by decide +kernel
theorem d_Mod_packetByte_9 : decode b_Mod_packetByte 9 = .ok (.iload_n 1, 1) := by decide +kernel
theorem d_Mod_packetByte_10 : decode b_Mod_packetByte 10 = .ok (.iload_n 2, 1) := by decide +kernel
theorem d_Mod_packetByte_11 : decode b_Mod_packetByte 11 = .ok (.invokevirtual 160, 3) := by decide +kernel
theorem d_Mod_packetByte_14 : decode b_Mod_packetByte 14 = .ok (.istore 4, 2) := by decide +kernel
theorem d_Mod_packetByte_16 : decode b_Mod_packetByte 16 = .ok (.iload 4, 2) := by decide +kernel
theorem d_Mod_packetByte_18 : decode b_Mod_packetByte 18 = .ok (.ifCond .lt 20, 3) := by decide +kernel
theorem d_Mod_packetByte_21 : decode b_Mod_packetByte 21 = .ok (.iload_n 3, 1) := by decide +kernel
theorem d_Mod_packetByte_22 : decode b_Mod_packetByte 22 = .ok (.ifCond .lt 16, 3) := by decide +kernel
theorem d_Mod_packetByte_25 : decode b_Mod_packetByte 25 = .ok (.iload_n 3, 1) := by decide +kernel
theorem d_Mod_packetByte_26 : decode b_Mod_packetByte 26 = .ok (.iconst 5, 1) := by decide +kernel
theorem d_Mod_packetByte_27 : decode b_Mod_packetByte 27 = .ok (.aload_n 0, 1) := by decide +kernel
theorem d_Mod_packetByte_28 : decode b_Mod_packetByte 28 = .ok (.getfield 61, 3) := by decide +kernel
theorem d_Mod_packetByte_31 : decode b_Mod_packetByte 31 = .ok (.iload 4, 2) := by decide +kernel
theorem d_Mod_packetByte_33 : decode b_Mod_packetByte 33 = .ok (.iaload, 1) := by decide +kernel
theorem d_Mod_packetByte_34 : decode b_Mod_packetByte 34 = .ok (.iadd, 1) := by decide +kernel
theorem d_Mod_packetByte_35 : decode b_Mod_packetByte 35 = .ok (.if_icmp .le 7, 3) := by decide +kernel
theorem d_Mod_packetByte_38 : decode b_Mod_packetByte 38 = .ok (.iconst (-1), 1) := by decide +kernel
theorem d_Mod_packetByte_39 : decode b_Mod_packetByte 39 = .ok (.goto 10, 3) := by decide +kernel
theorem d_Mod_packetByte_42 : decode b_Mod_packetByte 42 = .ok (.aload_n 0, 1) := by decide +kernel
theorem d_Mod_packetByte_43 : decode b_Mod_packetByte 43 = .ok (.iload 4, 2) := by decide +kernel
theorem d_Mod_packetByte_45 : decode b_Mod_packetByte 45 = .ok (.iload_n 3, 1) := by decide +kernel
theorem d_Mod_packetByte_46 : decode b_Mod_packetByte 46 = .ok (.invokevirtual 164, 3) := by decide +kernel
theorem d_Mod_packetByte_49 : decode b_Mod_packetByte 49 = .ok (.ireturn, 1) := by decide +kernel
theorem d_Mod_find_0 : decode b_Mod_find 0 = .ok (.iconst (-1), 1) := by decide +kernel
theorem d_Mod_find_1 : decode b_Mod_find 1 = .ok (.istore_n 3, 1) := by decide +kernel
theorem d_Mod_find_2 : decode b_Mod_find 2 = .ok (.iconst 0, 1) := by decide +kernel
theorem d_Mod_find_3 : decode b_Mod_find 3 = .ok (.istore 4, 2) := by decide +kernel
theorem d_Mod_find_5 : decode b_Mod_find 5 = .ok (.iload 4, 2) := by decide +kernel
theorem d_Mod_find_7 : decode b_Mod_find 7 = .ok (.sipush 280, 3) := by decide +kernel
theorem d_Mod_find_10 : decode b_Mod_find 10 = .ok (.if_icmp .ge 42, 3) := by decide +kernel
theorem d_Mod_find_13 : decode b_Mod_find 13 = .ok (.aload_n 0, 1) := by decide +kernel
theorem d_Mod_find_14 : decode b_Mod_find 14 = .ok (.getfield 49, 3) := by decide +kernel
theorem d_Mod_find_17 : decode b_Mod_find 17 = .ok (.iload 4, 2) := by decide +kernel
theorem d_Mod_find_19 : decode b_Mod_find 19 = .ok (.iaload, 1) := by decide +kernel
theorem d_Mod_find_20 : decode b_Mod_find 20 = .ok (.iload_n 1, 1) := by decide +kernel
theorem d_Mod_find_21 : decode b_Mod_find 21 = .ok (.if_icmp .ne 23, 3) := by decide +kernel
theorem d_Mod_find_24 : decode b_Mod_find 24 = .ok (.iload_n 1, 1) := by decide +kernel
theorem d_Mod_find_25 : decode b_Mod_find 25 = .ok (.ifCond .lt 19, 3) := by decide +kernel
theorem d_Mod_find_28 : decode b_Mod_find 28 = .ok (.aload_n 0, 1) := by decide +kernel
theorem d_Mod_find_29 : decode b_Mod_find 29 = .ok (.getfield 52, 3) := by decide +kernel
theorem d_Mod_find_32 : decode b_Mod_find 32 = .ok (.iload 4, 2) := by decide +kernel
theorem d_Mod_find_34 : decode b_Mod_find 34 = .ok (.iaload, 1) := by decide +kernel
theorem d_Mod_find_35 : decode b_Mod_find 35 = .ok (.iload_n 2, 1) := by decide +kernel
theorem d_Mod_find_36 : decode b_Mod_find 36 = .ok (.if_icmp .ne 8, 3) := by decide +kernel
theorem d_Mod_find_39 : decode b_Mod_find 39 = .ok (.iload 4, 2) := by decide +kernel
theorem d_Mod_find_41 : decode b_Mod_find 41 = .ok (.goto 4, 3) := by decide +kernel
theorem d_Mod_find_44 : decode b_Mod_find 44 = .ok (.iload_n 3, 1) := by decide +kernel
theorem d_Mod_find_45 : decode b_Mod_find 45 = .ok (.istore_n 3, 1) := by decide +kernel
theorem d_Mod_find_46 : decode b_Mod_find 46 = .ok (.iinc 4 1, 3) := by decide +kernel
theorem d_Mod_find_49 : decode b_Mod_find 49 = .ok (.goto (-44), 3) := by decide +kernel
theorem d_Mod_find_52 : decode b_Mod_find 52 = .ok (.iload_n 3, 1) := by decide +kernel
theorem d_Mod_find_53 : decode b_Mod_find 53 = .ok (.ireturn, 1) := by decide +kernel
theorem d_Mod_tells_0 : decode b_Mod_tells 0 = .ok (.iload_n 2, 1) := by decide +kernel
theorem d_Mod_tells_1 : decode b_Mod_tells 1 = .ok (.ifCond .ne 10, 3) := by decide +kernel
theorem d_Mod_tells_4 : decode b_Mod_tells 4 = .ok (.aload_n 0, 1) := by decide +kernel
theorem d_Mod_tells_5 : decode b_Mod_tells 5 = .ok (.getfield 55, 3) := by decide +kernel
theorem d_Mod_tells_8 : decode b_Mod_tells 8 = .ok (.iload_n 1, 1) := by decide +kernel
theorem d_Mod_tells_9 : decode b_Mod_tells 9 = .ok (.iaload, 1) := by decide +kernel
theorem d_Mod_tells_10 : decode b_Mod_tells 10 = .ok (.ireturn, 1) := by decide +kernel
theorem d_Mod_tells_11 : decode b_Mod_tells 11 = .ok (.iload_n 2, 1) := by decide +kernel
theorem d_Mod_tells_12 : decode b_Mod_tells 12 = .ok (.iconst 5, 1) := by decide +kernel
theorem d_Mod_tells_13 : decode b_Mod_tells 13 = .ok (.if_icmp .ge 21, 3) := by decide +kernel
theorem d_Mod_tells_16 : decode b_Mod_tells 16 = .ok (.aload_n 0, 1) := by decide +kernel
theorem d_Mod_tells_17 : decode b_Mod_tells 17 = .ok (.getfield 58, 3) := by decide +kernel
theorem d_Mod_tells_20 : decode b_Mod_tells 20 = .ok (.iload_n 1, 1) := by decide +kernel
theorem d_Mod_tells_21 : decode b_Mod_tells 21 = .ok (.iaload, 1) := by decide +kernel
theorem d_Mod_tells_22 : decode b_Mod_tells 22 = .ok (.bipush 8, 2) := by decide +kernel
theorem d_Mod_tells_24 : decode b_Mod_tells 24 = .ok (.iconst 4, 1) := by decide +kernel
theorem d_Mod_tells_25 : decode b_Mod_tells 25 = .ok (.iload_n 2, 1) := by decide +kernel
theorem d_Mod_tells_26 : decode b_Mod_tells 26 = .ok (.isub, 1) := by decide +kernel
theorem d_Mod_tells_27 : decode b_Mod_tells 27 = .ok (.imul, 1) := by decide +kernel
theorem d_Mod_tells_28 : decode b_Mod_tells 28 = .ok (.ishr, 1) := by decide +kernel
theorem d_Mod_tells_29 : decode b_Mod_tells 29 = .ok (.sipush 255, 3) := by decide +kernel
theorem d_Mod_tells_32 : decode b_Mod_tells 32 = .ok (.iand, 1) := by decide +kernel
theorem d_Mod_tells_33 : decode b_Mod_tells 33 = .ok (.ireturn, 1) := by decide +kernel
theorem d_Mod_tells_34 : decode b_Mod_tells 34 = .ok (.iload_n 2, 1) := by decide +kernel
theorem d_Mod_tells_35 : decode b_Mod_tells 35 = .ok (.iconst 5, 1) := by decide +kernel
theorem d_Mod_tells_36 : decode b_Mod_tells 36 = .ok (.if_icmp .ne 12, 3) := by decide +kernel
theorem d_Mod_tells_39 : decode b_Mod_tells 39 = .ok (.aload_n 0, 1) := by decide +kernel
theorem d_Mod_tells_40 : decode b_Mod_tells 40 = .ok (.getfield 61, 3) := by decide +kernel
theorem d_Mod_tells_43 : decode b_Mod_tells 43 = .ok (.iload_n 1, 1) := by decide +kernel
theorem d_Mod_tells_44 : decode b_Mod_tells 44 = .ok (.iaload, 1) := by decide +kernel
theorem d_Mod_tells_45 : decode b_Mod_tells 45 = .ok (.goto 36, 3) := by decide +kernel
theorem d_Mod_tells_48 : decode b_Mod_tells 48 = .ok (.aload_n 0, 1) := by decide +kernel
theorem d_Mod_tells_49 : decode b_Mod_tells 49 = .ok (.getfield 76, 3) := by decide +kernel
theorem d_Mod_tells_52 : decode b_Mod_tells 52 = .ok (.bipush 8, 2) := by decide +kernel
theorem d_Mod_tells_54 : decode b_Mod_tells 54 = .ok (.iload_n 1, 1) := by decide +kernel
theorem d_Mod_tells_55 : decode b_Mod_tells 55 = .ok (.imul, 1) := by decide +kernel
theorem d_Mod_tells_56 : decode b_Mod_tells 56 = .ok (.iload_n 2, 1) := by decide +kernel
theorem d_Mod_tells_57 : decode b_Mod_tells 57 = .ok (.bipush 6, 2) := by decide +kernel
theorem d_Mod_tells_59 : decode b_Mod_tells 59 = .ok (.isub, 1) := by decide +kernel
theorem d_Mod_tells_60 : decode b_Mod_tells 60 = .ok (.bipush 8, 2) := by decide +kernel
theorem d_Mod_tells_62 : decode b_Mod_tells 62 = .ok (.idiv, 1) := by decide +kernel
theorem d_Mod_tells_63 : decode b_Mod_tells 63 = .ok (.iadd, 1) := by decide +kernel
theorem d_Mod_tells_64 : decode b_Mod_tells 64 = .ok (.laload, 1) := by decide +kernel
theorem d_Mod_tells_65 : decode b_Mod_tells 65 = .ok (.bipush 8, 2) := by decide +kernel
theorem d_Mod_tells_67 : decode b_Mod_tells 67 = .ok (.iload_n 2, 1) := by decide +kernel
theorem d_Mod_tells_68 : decode b_Mod_tells 68 = .ok (.bipush 6, 2) := by decide +kernel
theorem d_Mod_tells_70 : decode b_Mod_tells 70 = .ok (.isub, 1) := by decide +kernel
theorem d_Mod_tells_71 : decode b_Mod_tells 71 = .ok (.bipush 8, 2) := by decide +kernel
theorem d_Mod_tells_73 : decode b_Mod_tells 73 = .ok (.irem, 1) := by decide +kernel
theorem d_Mod_tells_74 : decode b_Mod_tells 74 = .ok (.imul, 1) := by decide +kernel
theorem d_Mod_tells_75 : decode b_Mod_tells 75 = .ok (.lshr, 1) := by decide +kernel
theorem d_Mod_tells_76 : decode b_Mod_tells 76 = .ok (.ldc2_w 152, 3) := by decide +kernel
theorem d_Mod_tells_79 : decode b_Mod_tells 79 = .ok (.land, 1) := by decide +kernel
theorem d_Mod_tells_80 : decode b_Mod_tells 80 = .ok (.l2i, 1) := by decide +kernel
theorem d_Mod_tells_81 : decode b_Mod_tells 81 = .ok (.ireturn, 1) := by decide +kernel
theorem d_Mod_seek_0 : decode b_Mod_seek 0 = .ok (.iconst (-1), 1) := by decide +kernel
theorem d_Mod_seek_1 : decode b_Mod_seek 1 = .ok (.istore_n 3, 1) := by decide +kernel
theorem d_Mod_seek_2 : decode b_Mod_seek 2 = .ok (.iconst 0, 1) := by decide +kernel
theorem d_Mod_seek_3 : decode b_Mod_seek 3 = .ok (.istore 4, 2) := by decide +kernel
theorem d_Mod_seek_5 : decode b_Mod_seek 5 = .ok (.iload 4, 2) := by decide +kernel
theorem d_Mod_seek_7 : decode b_Mod_seek 7 = .ok (.sipush 280, 3) := by decide +kernel
theorem d_Mod_seek_10 : decode b_Mod_seek 10 = .ok (.if_icmp .ge 78, 3) := by decide +kernel
theorem d_Mod_seek_13 : decode b_Mod_seek 13 = .ok (.aload_n 0, 1) := by decide +kernel
theorem d_Mod_seek_14 : decode b_Mod_seek 14 = .ok (.iload_n 1, 1) := by decide +kernel
theorem d_Mod_seek_15 : decode b_Mod_seek 15 = .ok (.invokevirtual 144, 3) := by decide +kernel
theorem d_Mod_seek_18 : decode b_Mod_seek 18 = .ok (.ifCond .eq 70, 3) := by decide +kernel
theorem d_Mod_seek_21 : decode b_Mod_seek 21 = .ok (.aload_n 0, 1) := by decide +kernel
theorem d_Mod_seek_22 : decode b_Mod_seek 22 = .ok (.getfield 49, 3) := by decide +kernel
theorem d_Mod_seek_25 : decode b_Mod_seek 25 = .ok (.iload 4, 2) := by decide +kernel
theorem d_Mod_seek_27 : decode b_Mod_seek 27 = .ok (.iaload, 1) := by decide +kernel
theorem d_Mod_seek_28 : decode b_Mod_seek 28 = .ok (.iload_n 1, 1) := by decide +kernel
theorem d_Mod_seek_29 : decode b_Mod_seek 29 = .ok (.if_icmp .ne 18, 3) := by decide +kernel
theorem d_Mod_seek_32 : decode b_Mod_seek 32 = .ok (.aload_n 0, 1) := by decide +kernel
theorem d_Mod_seek_33 : decode b_Mod_seek 33 = .ok (.getfield 58, 3) := by decide +kernel
theorem d_Mod_seek_36 : decode b_Mod_seek 36 = .ok (.iload 4, 2) := by decide +kernel
theorem d_Mod_seek_38 : decode b_Mod_seek 38 = .ok (.iaload, 1) := by decide +kernel
theorem d_Mod_seek_39 : decode b_Mod_seek 39 = .ok (.iload_n 2, 1) := by decide +kernel
theorem d_Mod_seek_40 : decode b_Mod_seek 40 = .ok (.if_icmp .lt 7, 3) := by decide +kernel
theorem d_Mod_seek_43 : decode b_Mod_seek 43 = .ok (.iconst 1, 1) := by decide +kernel
theorem d_Mod_seek_44 : decode b_Mod_seek 44 = .ok (.goto 4, 3) := by decide +kernel
theorem d_Mod_seek_47 : decode b_Mod_seek 47 = .ok (.iconst 0, 1) := by decide +kernel
theorem d_Mod_seek_48 : decode b_Mod_seek 48 = .ok (.istore 5, 2) := by decide +kernel
theorem d_Mod_seek_50 : decode b_Mod_seek 50 = .ok (.iload 5, 2) := by decide +kernel
theorem d_Mod_seek_52 : decode b_Mod_seek 52 = .ok (.ifCond .eq 28, 3) := by decide +kernel
theorem d_Mod_seek_55 : decode b_Mod_seek 55 = .ok (.iload_n 3, 1) := by decide +kernel
theorem d_Mod_seek_56 : decode b_Mod_seek 56 = .ok (.ifCond .lt 14, 3) := by decide +kernel
theorem d_Mod_seek_59 : decode b_Mod_seek 59 = .ok (.aload_n 0, 1) := by decide +kernel
theorem d_Mod_seek_60 : decode b_Mod_seek 60 = .ok (.getfield 52, 3) := by decide +kernel
theorem d_Mod_seek_63 : decode b_Mod_seek 63 = .ok (.iload 4, 2) := by decide +kernel
theorem d_Mod_seek_65 : decode b_Mod_seek 65 = .ok (.iaload, 1) := by decide +kernel
theorem d_Mod_seek_66 : decode b_Mod_seek 66 = .ok (.iload_n 3, 1) := by decide +kernel
theorem d_Mod_seek_67 : decode b_Mod_seek 67 = .ok (.if_icmp .ge 13, 3) := by decide +kernel
theorem d_Mod_seek_70 : decode b_Mod_seek 70 = .ok (.aload_n 0, 1) := by decide +kernel
theorem d_Mod_seek_71 : decode b_Mod_seek 71 = .ok (.getfield 52, 3) := by decide +kernel
theorem d_Mod_seek_74 : decode b_Mod_seek 74 = .ok (.iload 4, 2) := by decide +kernel
theorem d_Mod_seek_76 : decode b_Mod_seek 76 = .ok (.iaload, 1) := by decide +kernel
theorem d_Mod_seek_77 : decode b_Mod_seek 77 = .ok (.goto 4, 3) := by decide +kernel
theorem d_Mod_seek_80 : decode b_Mod_seek 80 = .ok (.iload_n 3, 1) := by decide +kernel
theorem d_Mod_seek_81 : decode b_Mod_seek 81 = .ok (.istore_n 3, 1) := by decide +kernel
theorem d_Mod_seek_82 : decode b_Mod_seek 82 = .ok (.iinc 4 1, 3) := by decide +kernel
theorem d_Mod_seek_85 : decode b_Mod_seek 85 = .ok (.goto (-80), 3) := by decide +kernel
theorem d_Mod_seek_88 : decode b_Mod_seek 88 = .ok (.iload_n 3, 1) := by decide +kernel
theorem d_Mod_seek_89 : decode b_Mod_seek 89 = .ok (.ireturn, 1) := by decide +kernel
theorem d_Mod_confirm_0 : decode b_Mod_confirm 0 = .ok (.aload_n 0, 1) := by decide +kernel
theorem d_Mod_confirm_1 : decode b_Mod_confirm 1 = .ok (.iload_n 1, 1) := by decide +kernel
theorem d_Mod_confirm_2 : decode b_Mod_confirm 2 = .ok (.invokevirtual 144, 3) := by decide +kernel
theorem d_Mod_confirm_5 : decode b_Mod_confirm 5 = .ok (.ifCond .eq 8, 3) := by decide +kernel
theorem d_Mod_confirm_8 : decode b_Mod_confirm 8 = .ok (.iload_n 2, 1) := by decide +kernel
theorem d_Mod_confirm_9 : decode b_Mod_confirm 9 = .ok (.iload_n 3, 1) := by decide +kernel
theorem d_Mod_confirm_10 : decode b_Mod_confirm 10 = .ok (.if_icmp .le 6, 3) := by decide +kernel
theorem d_Mod_confirm_13 : decode b_Mod_confirm 13 = .ok (.bipush (-2), 2) := by decide +kernel
theorem d_Mod_confirm_15 : decode b_Mod_confirm 15 = .ok (.ireturn, 1) := by decide +kernel
theorem d_Mod_confirm_16 : decode b_Mod_confirm 16 = .ok (.iconst 0, 1) := by decide +kernel
theorem d_Mod_confirm_17 : decode b_Mod_confirm 17 = .ok (.istore 4, 2) := by decide +kernel
theorem d_Mod_confirm_19 : decode b_Mod_confirm 19 = .ok (.iconst 0, 1) := by decide +kernel
theorem d_Mod_confirm_20 : decode b_Mod_confirm 20 = .ok (.istore 5, 2) := by decide +kernel
theorem d_Mod_confirm_22 : decode b_Mod_confirm 22 = .ok (.iload 5, 2) := by decide +kernel
theorem d_Mod_confirm_24 : decode b_Mod_confirm 24 = .ok (.sipush 280, 3) := by decide +kernel
theorem d_Mod_confirm_27 : decode b_Mod_confirm 27 = .ok (.if_icmp .ge 78, 3) := by decide +kernel
theorem d_Mod_confirm_30 : decode b_Mod_confirm 30 = .ok (.aload_n 0, 1) := by decide +kernel
theorem d_Mod_confirm_31 : decode b_Mod_confirm 31 = .ok (.getfield 49, 3) := by decide +kernel
theorem d_Mod_confirm_34 : decode b_Mod_confirm 34 = .ok (.iload 5, 2) := by decide +kernel
theorem d_Mod_confirm_36 : decode b_Mod_confirm 36 = .ok (.iaload, 1) := by decide +kernel
theorem d_Mod_confirm_37 : decode b_Mod_confirm 37 = .ok (.iload_n 1, 1) := by decide +kernel
theorem d_Mod_confirm_38 : decode b_Mod_confirm 38 = .ok (.if_icmp .ne 61, 3) := by decide +kernel
theorem d_Mod_confirm_41 : decode b_Mod_confirm 41 = .ok (.aload_n 0, 1) := by decide +kernel
theorem d_Mod_confirm_42 : decode b_Mod_confirm 42 = .ok (.getfield 52, 3) := by decide +kernel
theorem d_Mod_confirm_45 : decode b_Mod_confirm 45 = .ok (.iload 5, 2) := by decide +kernel
theorem d_Mod_confirm_47 : decode b_Mod_confirm 47 = .ok (.iaload, 1) := by decide +kernel
theorem d_Mod_confirm_48 : decode b_Mod_confirm 48 = .ok (.iload_n 2, 1) := by decide +kernel
theorem d_Mod_confirm_49 : decode b_Mod_confirm 49 = .ok (.if_icmp .lt 50, 3) := by decide +kernel
theorem d_Mod_confirm_52 : decode b_Mod_confirm 52 = .ok (.aload_n 0, 1) := by decide +kernel
theorem d_Mod_confirm_53 : decode b_Mod_confirm 53 = .ok (.getfield 52, 3) := by decide +kernel
theorem d_Mod_confirm_56 : decode b_Mod_confirm 56 = .ok (.iload 5, 2) := by decide +kernel
theorem d_Mod_confirm_58 : decode b_Mod_confirm 58 = .ok (.iaload, 1) := by decide +kernel
theorem d_Mod_confirm_59 : decode b_Mod_confirm 59 = .ok (.iload_n 3, 1) := by decide +kernel
theorem d_Mod_confirm_60 : decode b_Mod_confirm 60 = .ok (.if_icmp .gt 39, 3) := by decide +kernel
theorem d_Mod_confirm_63 : decode b_Mod_confirm 63 = .ok (.iload 4, 2) := by decide +kernel
theorem d_Mod_confirm_65 : decode b_Mod_confirm 65 = .ok (.aload_n 0, 1) := by decide +kernel
theorem d_Mod_confirm_66 : decode b_Mod_confirm 66 = .ok (.getfield 67, 3) := by decide +kernel
theorem d_Mod_confirm_69 : decode b_Mod_confirm 69 = .ok (.iload 5, 2) := by decide +kernel
theorem d_Mod_confirm_71 : decode b_Mod_confirm 71 = .ok (.baload, 1) := by decide +kernel
theorem d_Mod_confirm_72 : decode b_Mod_confirm 72 = .ok (.ifCond .eq 7, 3) := by decide +kernel
theorem d_Mod_confirm_75 : decode b_Mod_confirm 75 = .ok (.iconst 0, 1) := by decide +kernel
theorem d_Mod_confirm_76 : decode b_Mod_confirm 76 = .ok (.goto 4, 3) := by decide +kernel
theorem d_Mod_confirm_79 : decode b_Mod_confirm 79 = .ok (.iconst 1, 1) := by decide +kernel
theorem d_Mod_confirm_80 : decode b_Mod_confirm 80 = .ok (.iadd, 1) := by decide +kernel
theorem d_Mod_confirm_81 : decode b_Mod_confirm 81 = .ok (.istore 4, 2) := by decide +kernel
theorem d_Mod_confirm_83 : decode b_Mod_confirm 83 = .ok (.aload_n 0, 1) := by decide +kernel
theorem d_Mod_confirm_84 : decode b_Mod_confirm 84 = .ok (.getfield 67, 3) := by decide +kernel
theorem d_Mod_confirm_87 : decode b_Mod_confirm 87 = .ok (.iload 5, 2) := by decide +kernel
theorem d_Mod_confirm_89 : decode b_Mod_confirm 89 = .ok (.iconst 1, 1) := by decide +kernel
theorem d_Mod_confirm_90 : decode b_Mod_confirm 90 = .ok (.bastore, 1) := by decide +kernel
theorem d_Mod_confirm_91 : decode b_Mod_confirm 91 = .ok (.aload_n 0, 1) := by decide +kernel
theorem d_Mod_confirm_92 : decode b_Mod_confirm 92 = .ok (.getfield 73, 3) := by decide +kernel
theorem d_Mod_confirm_95 : decode b_Mod_confirm 95 = .ok (.iload 5, 2) := by decide +kernel
theorem d_Mod_confirm_97 : decode b_Mod_confirm 97 = .ok (.iconst 0, 1) := by decide +kernel
theorem d_Mod_confirm_98 : decode b_Mod_confirm 98 = .ok (.iastore, 1) := by decide +kernel
theorem d_Mod_confirm_99 : decode b_Mod_confirm 99 = .ok (.iinc 5 1, 3) := by decide +kernel
theorem d_Mod_confirm_102 : decode b_Mod_confirm 102 = .ok (.goto (-80), 3) := by decide +kernel
theorem d_Mod_confirm_105 : decode b_Mod_confirm 105 = .ok (.aload_n 0, 1) := by decide +kernel
theorem d_Mod_confirm_106 : decode b_Mod_confirm 106 = .ok (.iload_n 1, 1) := by decide +kernel
theorem d_Mod_confirm_107 : decode b_Mod_confirm 107 = .ok (.invokevirtual 157, 3) := by decide +kernel
theorem d_Mod_confirm_110 : decode b_Mod_confirm 110 = .ok (.iload 4, 2) := by decide +kernel
theorem d_Mod_confirm_112 : decode b_Mod_confirm 112 = .ok (.ireturn, 1) := by decide +kernel
theorem d_Mod_gap_0 : decode b_Mod_gap 0 = .ok (.iload_n 1, 1) := by decide +kernel
