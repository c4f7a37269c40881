theorem d_St_init_0 : decode b_St_init 0 = .ok (.aload_n 0, 1) := by decide +kernel
theorem d_St_init_1 : decode b_St_init 1 = .ok (.invokespecial 3, 3) := by decide +kernel
theorem d_St_init_4 : decode b_St_init 4 = .ok (.aload_n 0, 1) := by decide +kernel
theorem d_St_init_5 : decode b_St_init 5 = .ok (.bipush 40, 2) := by decide +kernel
theorem d_St_init_7 : decode b_St_init 7 = .ok (.newarray .int, 2) := by decide +kernel
theorem d_St_init_9 : decode b_St_init 9 = .ok (.putfield 9, 3) := by decide +kernel
theorem d_St_init_12 : decode b_St_init 12 = .ok (.aload_n 0, 1) := by decide +kernel
theorem d_St_init_13 : decode b_St_init 13 = .ok (.bipush 16, 2) := by decide +kernel
theorem d_St_init_15 : decode b_St_init 15 = .ok (.putfield 15, 3) := by decide +kernel
theorem d_St_init_18 : decode b_St_init 18 = .ok (.aload_n 0, 1) := by decide +kernel
theorem d_St_init_19 : decode b_St_init 19 = .ok (.new 19, 3) := by decide +kernel
theorem d_St_init_22 : decode b_St_init 22 = .ok (.dup, 1) := by decide +kernel
theorem d_St_init_23 : decode b_St_init 23 = .ok (.invokespecial 21, 3) := by decide +kernel
theorem d_St_init_26 : decode b_St_init 26 = .ok (.putfield 22, 3) := by decide +kernel
theorem d_St_init_29 : decode b_St_init 29 = .ok (.aload_n 0, 1) := by decide +kernel
theorem d_St_init_30 : decode b_St_init 30 = .ok (.iload_n 1, 1) := by decide +kernel
theorem d_St_init_31 : decode b_St_init 31 = .ok (.putfield 26, 3) := by decide +kernel
theorem d_St_init_34 : decode b_St_init 34 = .ok (.aload_n 0, 1) := by decide +kernel
theorem d_St_init_35 : decode b_St_init 35 = .ok (.iload_n 2, 1) := by decide +kernel
theorem d_St_init_36 : decode b_St_init 36 = .ok (.putfield 29, 3) := by decide +kernel
theorem d_St_init_39 : decode b_St_init 39 = .ok (.aload_n 0, 1) := by decide +kernel
theorem d_St_init_40 : decode b_St_init 40 = .ok (.iload_n 3, 1) := by decide +kernel
theorem d_St_init_41 : decode b_St_init 41 = .ok (.putfield 33, 3) := by decide +kernel
theorem d_St_init_44 : decode b_St_init 44 = .ok (.aload_n 0, 1) := by decide +kernel
theorem d_St_init_45 : decode b_St_init 45 = .ok (.aload 4, 2) := by decide +kernel
theorem d_St_init_47 : decode b_St_init 47 = .ok (.putfield 36, 3) := by decide +kernel
theorem d_St_init_50 : decode b_St_init 50 = .ok (.return_, 1) := by decide +kernel
theorem d_St_save_0 : decode b_St_save 0 = .ok (.iconst 0, 1) := by decide +kernel
theorem d_St_save_1 : decode b_St_save 1 = .ok (.istore_n 1, 1) := by decide +kernel
theorem d_St_save_2 : decode b_St_save 2 = .ok (.iload_n 1, 1) := by decide +kernel
theorem d_St_save_3 : decode b_St_save 3 = .ok (.aload_n 0, 1) := by decide +kernel
theorem d_St_save_4 : decode b_St_save 4 = .ok (.getfield 22, 3) := by decide +kernel
theorem d_St_save_7 : decode b_St_save 7 = .ok (.invokevirtual 90, 3) := by decide +kernel
theorem d_St_save_10 : decode b_St_save 10 = .ok (.if_icmp .ge 29, 3) := by decide +kernel
theorem d_St_save_13 : decode b_St_save 13 = .ok (.aload_n 0, 1) := by decide +kernel
theorem d_St_save_14 : decode b_St_save 14 = .ok (.getfield 22, 3) := by decide +kernel
theorem d_St_save_17 : decode b_St_save 17 = .ok (.iload_n 1, 1) := by decide +kernel
theorem d_St_save_18 : decode b_St_save 18 = .ok (.invokevirtual 94, 3) := by decide +kernel
theorem d_St_save_21 : decode b_St_save 21 = .ok (.checkcast 41, 3) := by decide +kernel
theorem d_St_save_24 : decode b_St_save 24 = .ok (.astore_n 2, 1) := by decide +kernel
theorem d_St_save_25 : decode b_St_save 25 = .ok (.aload_n 2, 1) := by decide +kernel
theorem d_St_save_26 : decode b_St_save 26 = .ok (.aload_n 2, 1) := by decide +kernel
theorem d_St_save_27 : decode b_St_save 27 = .ok (.getfield 98, 3) := by decide +kernel
theorem d_St_save_30 : decode b_St_save 30 = .ok (.putfield 111, 3) := by decide +kernel
theorem d_St_save_33 : decode b_St_save 33 = .ok (.iinc 1 1, 3) := by decide +kernel
theorem d_St_save_36 : decode b_St_save 36 = .ok (.goto (-34), 3) := by decide +kernel
theorem d_St_save_39 : decode b_St_save 39 = .ok (.return_, 1) := by decide +kernel
theorem d_St_freeAllPages_0 : decode b_St_freeAllPages 0 = .ok (.aload_n 0, 1) := by decide +kernel
theorem d_St_freeAllPages_1 : decode b_St_freeAllPages 1 = .ok (.getfield 52, 3) := by decide +kernel
theorem d_St_freeAllPages_4 : decode b_St_freeAllPages 4 = .ok (.istore_n 1, 1) := by decide +kernel
theorem d_St_freeAllPages_5 : decode b_St_freeAllPages 5 = .ok (.iload_n 1, 1) := by decide +kernel
theorem d_St_freeAllPages_6 : decode b_St_freeAllPages 6 = .ok (.ifCond .le 13, 3) := by decide +kernel
theorem d_St_freeAllPages_9 : decode b_St_freeAllPages 9 = .ok (.aload_n 0, 1) := by decide +kernel
theorem d_St_freeAllPages_10 : decode b_St_freeAllPages 10 = .ok (.invokevirtual 87, 3) := by decide +kernel
theorem d_St_freeAllPages_13 : decode b_St_freeAllPages 13 = .ok (.iinc 1 (-1), 3) := by decide +kernel
theorem d_St_freeAllPages_16 : decode b_St_freeAllPages 16 = .ok (.goto (-11), 3) := by decide +kernel
theorem d_St_freeAllPages_19 : decode b_St_freeAllPages 19 = .ok (.return_, 1) := by decide +kernel
theorem d_St_freeFirstPage_0 : decode b_St_freeFirstPage 0 = .ok (.aload_n 0, 1) := by decide +kernel
theorem d_St_freeFirstPage_1 : decode b_St_freeFirstPage 1 = .ok (.getfield 9, 3) := by decide +kernel
theorem d_St_freeFirstPage_4 : decode b_St_freeFirstPage 4 = .ok (.iconst 0, 1) := by decide +kernel
theorem d_St_freeFirstPage_5 : decode b_St_freeFirstPage 5 = .ok (.iaload, 1) := by decide +kernel
theorem d_St_freeFirstPage_6 : decode b_St_freeFirstPage 6 = .ok (.istore_n 1, 1) := by decide +kernel
theorem d_St_freeFirstPage_7 : decode b_St_freeFirstPage 7 = .ok (.aload_n 0, 1) := by decide +kernel
theorem d_St_freeFirstPage_8 : decode b_St_freeFirstPage 8 = .ok (.getfield 36, 3) := by decide +kernel
theorem d_St_freeFirstPage_11 : decode b_St_freeFirstPage 11 = .ok (.iload_n 1, 1) := by decide +kernel
theorem d_St_freeFirstPage_12 : decode b_St_freeFirstPage 12 = .ok (.invokevirtual 117, 3) := by decide +kernel
theorem d_St_freeFirstPage_15 : decode b_St_freeFirstPage 15 = .ok (.aload_n 0, 1) := by decide +kernel
theorem d_St_freeFirstPage_16 : decode b_St_freeFirstPage 16 = .ok (.dup, 1) := by decide +kernel
theorem d_St_freeFirstPage_17 : decode b_St_freeFirstPage 17 = .ok (.getfield 52, 3) := by decide +kernel
theorem d_St_freeFirstPage_20 : decode b_St_freeFirstPage 20 = .ok (.iconst 1, 1) := by decide +kernel
theorem d_St_freeFirstPage_21 : decode b_St_freeFirstPage 21 = .ok (.isub, 1) := by decide +kernel
theorem d_St_freeFirstPage_22 : decode b_St_freeFirstPage 22 = .ok (.putfield 52, 3) := by decide +kernel
theorem d_St_freeFirstPage_25 : decode b_St_freeFirstPage 25 = .ok (.aload_n 0, 1) := by decide +kernel
theorem d_St_freeFirstPage_26 : decode b_St_freeFirstPage 26 = .ok (.getfield 9, 3) := by decide +kernel
theorem d_St_freeFirstPage_29 : decode b_St_freeFirstPage 29 = .ok (.iconst 1, 1) := by decide +kernel
theorem d_St_freeFirstPage_30 : decode b_St_freeFirstPage 30 = .ok (.aload_n 0, 1) := by decide +kernel
theorem d_St_freeFirstPage_31 : decode b_St_freeFirstPage 31 = .ok (.getfield 9, 3) := by decide +kernel
theorem d_St_freeFirstPage_34 : decode b_St_freeFirstPage 34 = .ok (.iconst 0, 1) := by decide +kernel
theorem d_St_freeFirstPage_35 : decode b_St_freeFirstPage 35 = .ok (.aload_n 0, 1) := by decide +kernel
theorem d_St_freeFirstPage_36 : decode b_St_freeFirstPage 36 = .ok (.getfield 52, 3) := by decide +kernel
theorem d_St_freeFirstPage_39 : decode b_St_freeFirstPage 39 = .ok (.invokestatic 121, 3) := by decide +kernel
theorem d_St_freeFirstPage_42 : decode b_St_freeFirstPage 42 = .ok (.aload_n 0, 1) := by decide +kernel
theorem d_St_freeFirstPage_43 : decode b_St_freeFirstPage 43 = .ok (.getfield 22, 3) := by decide +kernel
theorem d_St_freeFirstPage_46 : decode b_St_freeFirstPage 46 = .ok (.invokevirtual 90, 3) := by decide +kernel
theorem d_St_freeFirstPage_49 : decode b_St_freeFirstPage 49 = .ok (.istore_n 2, 1) := by decide +kernel
theorem d_St_freeFirstPage_50 : decode b_St_freeFirstPage 50 = .ok (.iload_n 2, 1) := by decide +kernel
theorem d_St_freeFirstPage_51 : decode b_St_freeFirstPage 51 = .ok (.ifCond .le 36, 3) := by decide +kernel
theorem d_St_freeFirstPage_54 : decode b_St_freeFirstPage 54 = .ok (.aload_n 0, 1) := by decide +kernel
theorem d_St_freeFirstPage_55 : decode b_St_freeFirstPage 55 = .ok (.getfield 22, 3) := by decide +kernel
theorem d_St_freeFirstPage_58 : decode b_St_freeFirstPage 58 = .ok (.iconst 0, 1) := by decide +kernel
theorem d_St_freeFirstPage_59 : decode b_St_freeFirstPage 59 = .ok (.invokevirtual 94, 3) := by decide +kernel
theorem d_St_freeFirstPage_62 : decode b_St_freeFirstPage 62 = .ok (.checkcast 41, 3) := by decide +kernel
theorem d_St_freeFirstPage_65 : decode b_St_freeFirstPage 65 = .ok (.getfield 64, 3) := by decide +kernel
theorem d_St_freeFirstPage_68 : decode b_St_freeFirstPage 68 = .ok (.iload_n 1, 1) := by decide +kernel
theorem d_St_freeFirstPage_69 : decode b_St_freeFirstPage 69 = .ok (.if_icmp .ne 18, 3) := by decide +kernel
theorem d_St_freeFirstPage_72 : decode b_St_freeFirstPage 72 = .ok (.aload_n 0, 1) := by decide +kernel
theorem d_St_freeFirstPage_73 : decode b_St_freeFirstPage 73 = .ok (.getfield 22, 3) := by decide +kernel
theorem d_St_freeFirstPage_76 : decode b_St_freeFirstPage 76 = .ok (.iconst 0, 1) := by decide +kernel
theorem d_St_freeFirstPage_77 : decode b_St_freeFirstPage 77 = .ok (.invokevirtual 127, 3) := by decide +kernel
theorem d_St_freeFirstPage_80 : decode b_St_freeFirstPage 80 = .ok (.pop, 1) := by decide +kernel
theorem d_St_freeFirstPage_81 : decode b_St_freeFirstPage 81 = .ok (.iinc 2 (-1), 3) := by decide +kernel
theorem d_St_freeFirstPage_84 : decode b_St_freeFirstPage 84 = .ok (.goto (-34), 3) := by decide +kernel
theorem d_St_freeFirstPage_87 : decode b_St_freeFirstPage 87 = .ok (.return_, 1) := by decide +kernel
theorem d_St_hasRoomFor_0 : decode b_St_hasRoomFor 0 = .ok (.aload_n 0, 1) := by decide +kernel
theorem d_St_hasRoomFor_1 : decode b_St_hasRoomFor 1 = .ok (.getfield 29, 3) := by decide +kernel
theorem d_St_hasRoomFor_4 : decode b_St_hasRoomFor 4 = .ok (.ifCond .eq 5, 3) := by decide +kernel
theorem d_St_hasRoomFor_7 : decode b_St_hasRoomFor 7 = .ok (.iconst 1, 1) := by decide +kernel
theorem d_St_hasRoomFor_8 : decode b_St_hasRoomFor 8 = .ok (.ireturn, 1) := by decide +kernel
theorem d_St_hasRoomFor_9 : decode b_St_hasRoomFor 9 = .ok (.iload_n 1, 1) := by decide +kernel
theorem d_St_hasRoomFor_10 : decode b_St_hasRoomFor 10 = .ok (.invokestatic 40, 3) := by decide +kernel
theorem d_St_hasRoomFor_13 : decode b_St_hasRoomFor 13 = .ok (.bipush 16, 2) := by decide +kernel
theorem d_St_hasRoomFor_15 : decode b_St_hasRoomFor 15 = .ok (.aload_n 0, 1) := by decide +kernel
theorem d_St_hasRoomFor_16 : decode b_St_hasRoomFor 16 = .ok (.getfield 15, 3) := by decide +kernel
theorem d_St_hasRoomFor_19 : decode b_St_hasRoomFor 19 = .ok (.isub, 1) := by decide +kernel
theorem d_St_hasRoomFor_20 : decode b_St_hasRoomFor 20 = .ok (.isub, 1) := by decide +kernel
theorem d_St_hasRoomFor_21 : decode b_St_hasRoomFor 21 = .ok (.istore_n 2, 1) := by decide +kernel
theorem d_St_hasRoomFor_22 : decode b_St_hasRoomFor 22 = .ok (.iload_n 2, 1) := by decide +kernel
theorem d_St_hasRoomFor_23 : decode b_St_hasRoomFor 23 = .ok (.iconst 0, 1) := by decide +kernel
theorem d_St_hasRoomFor_24 : decode b_St_hasRoomFor 24 = .ok (.invokestatic 46, 3) := by decide +kernel
theorem d_St_hasRoomFor_27 : decode b_St_hasRoomFor 27 = .ok (.bipush 13, 2) := by decide +kernel
theorem d_St_hasRoomFor_29 : decode b_St_hasRoomFor 29 = .ok (.iadd, 1) := by decide +kernel
theorem d_St_hasRoomFor_30 : decode b_St_hasRoomFor 30 = .ok (.iconst 1, 1) := by decide +kernel
theorem d_St_hasRoomFor_31 : decode b_St_hasRoomFor 31 = .ok (.isub, 1) := by decide +kernel
theorem d_St_hasRoomFor_32 : decode b_St_hasRoomFor 32 = .ok (.bipush 13, 2) := by decide +kernel
theorem d_St_hasRoomFor_34 : decode b_St_hasRoomFor 34 = .ok (.idiv, 1) := by decide +kernel
theorem d_St_hasRoomFor_35 : decode b_St_hasRoomFor 35 = .ok (.istore_n 3, 1) := by decide +kernel
theorem d_St_hasRoomFor_36 : decode b_St_hasRoomFor 36 = .ok (.aload_n 0, 1) := by decide +kernel
theorem d_St_hasRoomFor_37 : decode b_St_hasRoomFor 37 = .ok (.getfield 52, 3) := by decide +kernel
theorem d_St_hasRoomFor_40 : decode b_St_hasRoomFor 40 = .ok (.iload_n 3, 1) := by decide +kernel
theorem d_St_hasRoomFor_41 : decode b_St_hasRoomFor 41 = .ok (.iadd, 1) := by decide +kernel
theorem d_St_hasRoomFor_42 : decode b_St_hasRoomFor 42 = .ok (.aload_n 0, 1) := by decide +kernel
theorem d_St_hasRoomFor_43 : decode b_St_hasRoomFor 43 = .ok (.getfield 33, 3) := by decide +kernel
theorem d_St_hasRoomFor_46 : decode b_St_hasRoomFor 46 = .ok (.if_icmp .gt 7, 3) := by decide +kernel
theorem d_St_hasRoomFor_49 : decode b_St_hasRoomFor 49 = .ok (.iconst 1, 1) := by decide +kernel
theorem d_St_hasRoomFor_50 : decode b_St_hasRoomFor 50 = .ok (.goto 4, 3) := by decide +kernel
theorem d_St_hasRoomFor_53 : decode b_St_hasRoomFor 53 = .ok (.iconst 0, 1) := by decide +kernel
theorem d_St_hasRoomFor_54 : decode b_St_hasRoomFor 54 = .ok (.ireturn, 1) := by decide +kernel
theorem d_Pk_wordsFor_0 : decode b_Pk_wordsFor 0 = .ok (.iconst 2, 1) := by decide +kernel
theorem d_Pk_wordsFor_1 : decode b_Pk_wordsFor 1 = .ok (.iload_n 0, 1) := by decide +kernel
theorem d_Pk_wordsFor_2 : decode b_Pk_wordsFor 2 = .ok (.iconst 4, 1) := by decide +kernel
theorem d_Pk_wordsFor_3 : decode b_Pk_wordsFor 3 = .ok (.iadd, 1) := by decide +kernel
theorem d_Pk_wordsFor_4 : decode b_Pk_wordsFor 4 = .ok (.iconst 1, 1) := by decide +kernel
theorem d_Pk_wordsFor_5 : decode b_Pk_wordsFor 5 = .ok (.isub, 1) := by decide +kernel
theorem d_Pk_wordsFor_6 : decode b_Pk_wordsFor 6 = .ok (.iconst 4, 1) := by decide +kernel
theorem d_Pk_wordsFor_7 : decode b_Pk_wordsFor 7 = .ok (.idiv, 1) := by decide +kernel
theorem d_Pk_wordsFor_8 : decode b_Pk_wordsFor 8 = .ok (.iadd, 1) := by decide +kernel
theorem d_Pk_wordsFor_9 : decode b_Pk_wordsFor 9 = .ok (.ireturn, 1) := by decide +kernel
theorem d_St_append_0 : decode b_St_append 0 = .ok (.new 41, 3) := by decide +kernel
theorem d_St_append_3 : decode b_St_append 3 = .ok (.dup, 1) := by decide +kernel
theorem d_St_append_4 : decode b_St_append 4 = .ok (.aload_n 0, 1) := by decide +kernel
theorem d_St_append_5 : decode b_St_append 5 = .ok (.getfield 26, 3) := by decide +kernel
theorem d_St_append_8 : decode b_St_append 8 = .ok (.aload_n 0, 1) := by decide +kernel
theorem d_St_append_9 : decode b_St_append 9 = .ok (.getfield 55, 3) := by decide +kernel
theorem d_St_append_12 : decode b_St_append 12 = .ok (.iload_n 1, 1) := by decide +kernel
theorem d_St_append_13 : decode b_St_append 13 = .ok (.iload_n 2, 1) := by decide +kernel
theorem d_St_append_14 : decode b_St_append 14 = .ok (.aload_n 3, 1) := by decide +kernel
theorem d_St_append_15 : decode b_St_append 15 = .ok (.iload 4, 2) := by decide +kernel
theorem d_St_append_17 : decode b_St_append 17 = .ok (.invokespecial 58, 3) := by decide +kernel
theorem d_St_append_20 : decode b_St_append 20 = .ok (.astore 5, 2) := by decide +kernel
theorem d_St_append_22 : decode b_St_append 22 = .ok (.iload 4, 2) := by decide +kernel
theorem d_St_append_24 : decode b_St_append 24 = .ok (.invokestatic 40, 3) := by decide +kernel
theorem d_St_append_27 : decode b_St_append 27 = .ok (.istore 6, 2) := by decide +kernel
theorem d_St_append_29 : decode b_St_append 29 = .ok (.iconst 0, 1) := by decide +kernel
theorem d_St_append_30 : decode b_St_append 30 = .ok (.istore 7, 2) := by decide +kernel
theorem d_St_append_32 : decode b_St_append 32 = .ok (.iload 7, 2) := by decide +kernel
theorem d_St_append_34 : decode b_St_append 34 = .ok (.iload 6, 2) := by decide +kernel
theorem d_St_append_36 : decode b_St_append 36 = .ok (.if_icmp .ge 70, 3) := by decide +kernel
theorem d_St_append_39 : decode b_St_append 39 = .ok (.aload_n 0, 1) := by decide +kernel
theorem d_St_append_40 : decode b_St_append 40 = .ok (.getfield 15, 3) := by decide +kernel
theorem d_St_append_43 : decode b_St_append 43 = .ok (.bipush 16, 2) := by decide +kernel
theorem d_St_append_45 : decode b_St_append 45 = .ok (.if_icmp .ne 7, 3) := by decide +kernel
theorem d_St_append_48 : decode b_St_append 48 = .ok (.aload_n 0, 1) := by decide +kernel
theorem d_St_append_49 : decode b_St_append 49 = .ok (.invokevirtual 61, 3) := by decide +kernel
theorem d_St_append_52 : decode b_St_append 52 = .ok (.aload_n 0, 1) := by decide +kernel
theorem d_St_append_53 : decode b_St_append 53 = .ok (.getfield 9, 3) := by decide +kernel
theorem d_St_append_56 : decode b_St_append 56 = .ok (.aload_n 0, 1) := by decide +kernel
theorem d_St_append_57 : decode b_St_append 57 = .ok (.getfield 52, 3) := by decide +kernel
theorem d_St_append_60 : decode b_St_append 60 = .ok (.iconst 1, 1) := by decide +kernel
theorem d_St_append_61 : decode b_St_append 61 = .ok (.isub, 1) := by decide +kernel
theorem d_St_append_62 : decode b_St_append 62 = .ok (.iaload, 1) := by decide +kernel
theorem d_St_append_63 : decode b_St_append 63 = .ok (.istore 8, 2) := by decide +kernel
theorem d_St_append_65 : decode b_St_append 65 = .ok (.iload 7, 2) := by decide +kernel
theorem d_St_append_67 : decode b_St_append 67 = .ok (.ifCond .ne 10, 3) := by decide +kernel
theorem d_St_append_70 : decode b_St_append 70 = .ok (.aload 5, 2) := by decide +kernel
theorem d_St_append_72 : decode b_St_append 72 = .ok (.iload 8, 2) := by decide +kernel
theorem d_St_append_74 : decode b_St_append 74 = .ok (.putfield 64, 3) := by decide +kernel
theorem d_St_append_77 : decode b_St_append 77 = .ok (.aload_n 0, 1) := by decide +kernel
theorem d_St_append_78 : decode b_St_append 78 = .ok (.getfield 36, 3) := by decide +kernel
theorem d_St_append_81 : decode b_St_append 81 = .ok (.iload 8, 2) := by decide +kernel
theorem d_St_append_83 : decode b_St_append 83 = .ok (.aload_n 0, 1) := by decide +kernel
theorem d_St_append_84 : decode b_St_append 84 = .ok (.getfield 15, 3) := by decide +kernel
theorem d_St_append_87 : decode b_St_append 87 = .ok (.invokevirtual 67, 3) := by decide +kernel
theorem d_St_append_90 : decode b_St_append 90 = .ok (.aload_n 0, 1) := by decide +kernel
theorem d_St_append_91 : decode b_St_append 91 = .ok (.dup, 1) := by decide +kernel
theorem d_St_append_92 : decode b_St_append 92 = .ok (.getfield 15, 3) := by decide +kernel
theorem d_St_append_95 : decode b_St_append 95 = .ok (.iconst 1, 1) := by decide +kernel
theorem d_St_append_96 : decode b_St_append 96 = .ok (.iadd, 1) := by decide +kernel
theorem d_St_append_97 : decode b_St_append 97 = .ok (.putfield 15, 3) := by decide +kernel
theorem d_St_append_100 : decode b_St_append 100 = .ok (.iinc 7 1, 3) := by decide +kernel
theorem d_St_append_103 : decode b_St_append 103 = .ok (.goto (-71), 3) := by decide +kernel
theorem d_St_append_106 : decode b_St_append 106 = .ok (.aload_n 0, 1) := by decide +kernel
theorem d_St_append_107 : decode b_St_append 107 = .ok (.getfield 22, 3) := by decide +kernel
theorem d_St_append_110 : decode b_St_append 110 = .ok (.aload 5, 2) := by decide +kernel
theorem d_St_append_112 : decode b_St_append 112 = .ok (.invokevirtual 73, 3) := by decide +kernel
theorem d_St_append_115 : decode b_St_append 115 = .ok (.pop, 1) := by decide +kernel
theorem d_St_append_116 : decode b_St_append 116 = .ok (.aload_n 0, 1) := by decide +kernel
theorem d_St_append_117 : decode b_St_append 117 = .ok (.dup, 1) := by decide +kernel
theorem d_St_append_118 : decode b_St_append 118 = .ok (.getfield 55, 3) := by decide +kernel
theorem d_St_append_121 : decode b_St_append 121 = .ok (.iconst 1, 1) := by decide +kernel
theorem d_St_append_122 : decode b_St_append 122 = .ok (.iadd, 1) := by decide +kernel
theorem d_St_append_123 : decode b_St_append 123 = .ok (.putfield 55, 3) := by decide +kernel
theorem d_St_append_126 : decode b_St_append 126 = .ok (.aload_n 0, 1) := by decide +kernel
theorem d_St_append_127 : decode b_St_append 127 = .ok (.iload_n 2, 1) := by decide +kernel
theorem d_St_append_128 : decode b_St_append 128 = .ok (.putfield 77, 3) := by decide +kernel
theorem d_St_append_131 : decode b_St_append 131 = .ok (.aload 5, 2) := by decide +kernel
theorem d_St_append_133 : decode b_St_append 133 = .ok (.getfield 80, 3) := by decide +kernel
theorem d_St_append_136 : decode b_St_append 136 = .ok (.ireturn, 1) := by decide +kernel
theorem d_Pk_init_0 : decode b_Pk_init 0 = .ok (.aload_n 0, 1) := by decide +kernel
theorem d_Pk_init_1 : decode b_Pk_init 1 = .ok (.invokespecial 3, 3) := by decide +kernel
theorem d_Pk_init_4 : decode b_Pk_init 4 = .ok (.aload_n 0, 1) := by decide +kernel
theorem d_Pk_init_5 : decode b_Pk_init 5 = .ok (.iconst (-1), 1) := by decide +kernel
theorem d_Pk_init_6 : decode b_Pk_init 6 = .ok (.putfield 9, 3) := by decide +kernel
theorem d_Pk_init_9 : decode b_Pk_init 9 = .ok (.aload_n 0, 1) := by decide +kernel
theorem d_Pk_init_10 : decode b_Pk_init 10 = .ok (.lconst 0, 1) := by decide +kernel
theorem d_Pk_init_11 : decode b_Pk_init 11 = .ok (.putfield 15, 3) := by decide +kernel
theorem d_Pk_init_14 : decode b_Pk_init 14 = .ok (.aload_n 0, 1) := by decide +kernel
theorem d_Pk_init_15 : decode b_Pk_init 15 = .ok (.iload_n 1, 1) := by decide +kernel
theorem d_Pk_init_16 : decode b_Pk_init 16 = .ok (.putfield 19, 3) := by decide +kernel
theorem d_Pk_init_19 : decode b_Pk_init 19 = .ok (.aload_n 0, 1) := by decide +kernel
theorem d_Pk_init_20 : decode b_Pk_init 20 = .ok (.iload_n 2, 1) := by decide +kernel
theorem d_Pk_init_21 : decode b_Pk_init 21 = .ok (.putfield 22, 3) := by decide +kernel
theorem d_Pk_init_24 : decode b_Pk_init 24 = .ok (.aload_n 0, 1) := by decide +kernel
theorem d_Pk_init_25 : decode b_Pk_init 25 = .ok (.iload 4, 2) := by decide +kernel
theorem d_Pk_init_27 : decode b_Pk_init 27 = .ok (.putfield 25, 3) := by decide +kernel
theorem d_Pk_init_30 : decode b_Pk_init 30 = .ok (.aload_n 0, 1) := by decide +kernel
theorem d_Pk_init_31 : decode b_Pk_init 31 = .ok (.bipush 6, 2) := by decide +kernel
theorem d_Pk_init_33 : decode b_Pk_init 33 = .ok (.iload 6, 2) := by decide +kernel
theorem d_Pk_init_35 : decode b_Pk_init 35 = .ok (.iadd, 1) := by decide +kernel
theorem d_Pk_init_36 : decode b_Pk_init 36 = .ok (.newarray .byte, 2) := by decide +kernel
theorem d_Pk_init_38 : decode b_Pk_init 38 = .ok (.putfield 28, 3) := by decide +kernel
theorem d_Pk_init_41 : decode b_Pk_init 41 = .ok (.aload_n 0, 1) := by decide +kernel
theorem d_Pk_init_42 : decode b_Pk_init 42 = .ok (.getfield 28, 3) := by decide +kernel
theorem d_Pk_init_45 : decode b_Pk_init 45 = .ok (.iconst 0, 1) := by decide +kernel
theorem d_Pk_init_46 : decode b_Pk_init 46 = .ok (.iload_n 3, 1) := by decide +kernel
theorem d_Pk_init_47 : decode b_Pk_init 47 = .ok (.i2b, 1) := by decide +kernel
theorem d_Pk_init_48 : decode b_Pk_init 48 = .ok (.bastore, 1) := by decide +kernel
theorem d_Pk_init_49 : decode b_Pk_init 49 = .ok (.iconst 0, 1) := by decide +kernel
theorem d_Pk_init_50 : decode b_Pk_init 50 = .ok (.istore 7, 2) := by decide +kernel
theorem d_Pk_init_52 : decode b_Pk_init 52 = .ok (.iload 7, 2) := by decide +kernel
theorem d_Pk_init_54 : decode b_Pk_init 54 = .ok (.iconst 4, 1) := by decide +kernel
theorem d_Pk_init_55 : decode b_Pk_init 55 = .ok (.if_icmp .ge 26, 3) := by decide +kernel
theorem d_Pk_init_58 : decode b_Pk_init 58 = .ok (.aload_n 0, 1) := by decide +kernel
theorem d_Pk_init_59 : decode b_Pk_init 59 = .ok (.getfield 28, 3) := by decide +kernel
theorem d_Pk_init_62 : decode b_Pk_init 62 = .ok (.iconst 1, 1) := by decide +kernel
theorem d_Pk_init_63 : decode b_Pk_init 63 = .ok (.iload 7, 2) := by decide +kernel
theorem d_Pk_init_65 : decode b_Pk_init 65 = .ok (.iadd, 1) := by decide +kernel
theorem d_Pk_init_66 : decode b_Pk_init 66 = .ok (.iload 4, 2) := by decide +kernel
theorem d_Pk_init_68 : decode b_Pk_init 68 = .ok (.iload 7, 2) := by decide +kernel
theorem d_Pk_init_70 : decode b_Pk_init 70 = .ok (.invokestatic 32, 3) := by decide +kernel
theorem d_Pk_init_73 : decode b_Pk_init 73 = .ok (.i2b, 1) := by decide +kernel
theorem d_Pk_init_74 : decode b_Pk_init 74 = .ok (.bastore, 1) := by decide +kernel
theorem d_Pk_init_75 : decode b_Pk_init 75 = .ok (.iinc 7 1, 3) := by decide +kernel
theorem d_Pk_init_78 : decode b_Pk_init 78 = .ok (.goto (-26), 3) := by decide +kernel
theorem d_Pk_init_81 : decode b_Pk_init 81 = .ok (.aload_n 0, 1) := by decide +kernel
theorem d_Pk_init_82 : decode b_Pk_init 82 = .ok (.getfield 28, 3) := by decide +kernel
theorem d_Pk_init_85 : decode b_Pk_init 85 = .ok (.iconst 5, 1) := by decide +kernel
theorem d_Pk_init_86 : decode b_Pk_init 86 = .ok (.iload 6, 2) := by decide +kernel
theorem d_Pk_init_88 : decode b_Pk_init 88 = .ok (.i2b, 1) := by decide +kernel
theorem d_Pk_init_89 : decode b_Pk_init 89 = .ok (.bastore, 1) := by decide +kernel
theorem d_Pk_init_90 : decode b_Pk_init 90 = .ok (.aload 5, 2) := by decide +kernel
theorem d_Pk_init_92 : decode b_Pk_init 92 = .ok (.iconst 0, 1) := by decide +kernel
theorem d_Pk_init_93 : decode b_Pk_init 93 = .ok (.aload_n 0, 1) := by decide +kernel
theorem d_Pk_init_94 : decode b_Pk_init 94 = .ok (.getfield 28, 3) := by decide +kernel
theorem d_Pk_init_97 : decode b_Pk_init 97 = .ok (.bipush 6, 2) := by decide +kernel
theorem d_Pk_init_99 : decode b_Pk_init 99 = .ok (.iload 6, 2) := by decide +kernel
theorem d_Pk_init_101 : decode b_Pk_init 101 = .ok (.invokestatic 36, 3) := by decide +kernel
theorem d_Pk_init_104 : decode b_Pk_init 104 = .ok (.return_, 1) := by decide +kernel
theorem d_St_openPage_0 : decode b_St_openPage 0 = .ok (.aload_n 0, 1) := by decide +kernel
theorem d_St_openPage_1 : decode b_St_openPage 1 = .ok (.getfield 29, 3) := by decide +kernel
theorem d_St_openPage_4 : decode b_St_openPage 4 = .ok (.ifCond .eq 18, 3) := by decide +kernel
theorem d_St_openPage_7 : decode b_St_openPage 7 = .ok (.aload_n 0, 1) := by decide +kernel
theorem d_St_openPage_8 : decode b_St_openPage 8 = .ok (.getfield 52, 3) := by decide +kernel
theorem d_St_openPage_11 : decode b_St_openPage 11 = .ok (.aload_n 0, 1) := by decide +kernel
theorem d_St_openPage_12 : decode b_St_openPage 12 = .ok (.getfield 33, 3) := by decide +kernel
theorem d_St_openPage_15 : decode b_St_openPage 15 = .ok (.if_icmp .ne 7, 3) := by decide +kernel
theorem d_St_openPage_18 : decode b_St_openPage 18 = .ok (.aload_n 0, 1) := by decide +kernel
theorem d_St_openPage_19 : decode b_St_openPage 19 = .ok (.invokevirtual 87, 3) := by decide +kernel
theorem d_St_openPage_22 : decode b_St_openPage 22 = .ok (.aload_n 0, 1) := by decide +kernel
theorem d_St_openPage_23 : decode b_St_openPage 23 = .ok (.getfield 9, 3) := by decide +kernel
theorem d_St_openPage_26 : decode b_St_openPage 26 = .ok (.aload_n 0, 1) := by decide +kernel
theorem d_St_openPage_27 : decode b_St_openPage 27 = .ok (.getfield 52, 3) := by decide +kernel
theorem d_St_openPage_30 : decode b_St_openPage 30 = .ok (.aload_n 0, 1) := by decide +kernel
theorem d_St_openPage_31 : decode b_St_openPage 31 = .ok (.getfield 36, 3) := by decide +kernel
theorem d_St_openPage_34 : decode b_St_openPage 34 = .ok (.invokevirtual 114, 3) := by decide +kernel
theorem d_St_openPage_37 : decode b_St_openPage 37 = .ok (.iastore, 1) := by decide +kernel
theorem d_St_openPage_38 : decode b_St_openPage 38 = .ok (.aload_n 0, 1) := by decide +kernel
theorem d_St_openPage_39 : decode b_St_openPage 39 = .ok (.dup, 1) := by decide +kernel
theorem d_St_openPage_40 : decode b_St_openPage 40 = .ok (.getfield 52, 3) := by decide +kernel
theorem d_St_openPage_43 : decode b_St_openPage 43 = .ok (.iconst 1, 1) := by decide +kernel
theorem d_St_openPage_44 : decode b_St_openPage 44 = .ok (.iadd, 1) := by decide +kernel
theorem d_St_openPage_45 : decode b_St_openPage 45 = .ok (.putfield 52, 3) := by decide +kernel
theorem d_St_openPage_48 : decode b_St_openPage 48 = .ok (.aload_n 0, 1) := by decide +kernel
theorem d_St_openPage_49 : decode b_St_openPage 49 = .ok (.iconst 3, 1) := by decide +kernel
theorem d_St_openPage_50 : decode b_St_openPage 50 = .ok (.putfield 15, 3) := by decide +kernel
theorem d_St_openPage_53 : decode b_St_openPage 53 = .ok (.return_, 1) := by decide +kernel
theorem d_St_prune_0 : decode b_St_prune 0 = .ok (.aload_n 0, 1) := by decide +kernel
theorem d_St_prune_1 : decode b_St_prune 1 = .ok (.getfield 29, 3) := by decide +kernel
theorem d_St_prune_4 : decode b_St_prune 4 = .ok (.ifCond .eq 4, 3) := by decide +kernel
theorem d_St_prune_7 : decode b_St_prune 7 = .ok (.return_, 1) := by decide +kernel
theorem d_St_prune_8 : decode b_St_prune 8 = .ok (.aload_n 0, 1) := by decide +kernel
theorem d_St_prune_9 : decode b_St_prune 9 = .ok (.getfield 52, 3) := by decide +kernel
theorem d_St_prune_12 : decode b_St_prune 12 = .ok (.istore_n 1, 1) := by decide +kernel
theorem d_St_prune_13 : decode b_St_prune 13 = .ok (.iload_n 1, 1) := by decide +kernel
theorem d_St_prune_14 : decode b_St_prune 14 = .ok (.iconst 1, 1) := by decide +kernel
theorem d_St_prune_15 : decode b_St_prune 15 = .ok (.if_icmp .le 20, 3) := by decide +kernel
theorem d_St_prune_18 : decode b_St_prune 18 = .ok (.aload_n 0, 1) := by decide +kernel
theorem d_St_prune_19 : decode b_St_prune 19 = .ok (.invokevirtual 83, 3) := by decide +kernel
theorem d_St_prune_22 : decode b_St_prune 22 = .ok (.ifCond .eq 13, 3) := by decide +kernel
theorem d_St_prune_25 : decode b_St_prune 25 = .ok (.aload_n 0, 1) := by decide +kernel
theorem d_St_prune_26 : decode b_St_prune 26 = .ok (.invokevirtual 87, 3) := by decide +kernel
theorem d_St_prune_29 : decode b_St_prune 29 = .ok (.iinc 1 (-1), 3) := by decide +kernel
theorem d_St_prune_32 : decode b_St_prune 32 = .ok (.goto (-19), 3) := by decide +kernel
theorem d_St_prune_35 : decode b_St_prune 35 = .ok (.return_, 1) := by decide +kernel
theorem d_St_isFirstPageDone_0 : decode b_St_isFirstPageDone 0 = .ok (.iconst 0, 1) := by decide +kernel
theorem d_St_isFirstPageDone_1 : decode b_St_isFirstPageDone 1 = .ok (.istore_n 1, 1) := by decide +kernel
theorem d_St_isFirstPageDone_2 : decode b_St_isFirstPageDone 2 = .ok (.iload_n 1, 1) := by decide +kernel
theorem d_St_isFirstPageDone_3 : decode b_St_isFirstPageDone 3 = .ok (.aload_n 0, 1) := by decide +kernel
theorem d_St_isFirstPageDone_4 : decode b_St_isFirstPageDone 4 = .ok (.getfield 22, 3) := by decide +kernel
theorem d_St_isFirstPageDone_7 : decode b_St_isFirstPageDone 7 = .ok (.invokevirtual 90, 3) := by decide +kernel
theorem d_St_isFirstPageDone_10 : decode b_St_isFirstPageDone 10 = .ok (.if_icmp .ge 51, 3) := by decide +kernel
theorem d_St_isFirstPageDone_13 : decode b_St_isFirstPageDone 13 = .ok (.aload_n 0, 1) := by decide +kernel
theorem d_St_isFirstPageDone_14 : decode b_St_isFirstPageDone 14 = .ok (.getfield 22, 3) := by decide +kernel
theorem d_St_isFirstPageDone_17 : decode b_St_isFirstPageDone 17 = .ok (.iload_n 1, 1) := by decide +kernel
theorem d_St_isFirstPageDone_18 : decode b_St_isFirstPageDone 18 = .ok (.invokevirtual 94, 3) := by decide +kernel
theorem d_St_isFirstPageDone_21 : decode b_St_isFirstPageDone 21 = .ok (.checkcast 41, 3) := by decide +kernel
theorem d_St_isFirstPageDone_24 : decode b_St_isFirstPageDone 24 = .ok (.getfield 64, 3) := by decide +kernel
theorem d_St_isFirstPageDone_27 : decode b_St_isFirstPageDone 27 = .ok (.aload_n 0, 1) := by decide +kernel
theorem d_St_isFirstPageDone_28 : decode b_St_isFirstPageDone 28 = .ok (.getfield 9, 3) := by decide +kernel
theorem d_St_isFirstPageDone_31 : decode b_St_isFirstPageDone 31 = .ok (.iconst 0, 1) := by decide +kernel
theorem d_St_isFirstPageDone_32 : decode b_St_isFirstPageDone 32 = .ok (.iaload, 1) := by decide +kernel
theorem d_St_isFirstPageDone_33 : decode b_St_isFirstPageDone 33 = .ok (.if_icmp .ne 28, 3) := by decide +kernel
theorem d_St_isFirstPageDone_36 : decode b_St_isFirstPageDone 36 = .ok (.aload_n 0, 1) := by decide +kernel
theorem d_St_isFirstPageDone_37 : decode b_St_isFirstPageDone 37 = .ok (.getfield 22, 3) := by decide +kernel
theorem d_St_isFirstPageDone_40 : decode b_St_isFirstPageDone 40 = .ok (.iload_n 1, 1) := by decide +kernel
theorem d_St_isFirstPageDone_41 : decode b_St_isFirstPageDone 41 = .ok (.invokevirtual 94, 3) := by decide +kernel
theorem d_St_isFirstPageDone_44 : decode b_St_isFirstPageDone 44 = .ok (.checkcast 41, 3) := by decide +kernel
theorem d_St_isFirstPageDone_47 : decode b_St_isFirstPageDone 47 = .ok (.getfield 98, 3) := by decide +kernel
theorem d_St_isFirstPageDone_50 : decode b_St_isFirstPageDone 50 = .ok (.ifCond .ne 5, 3) := by decide +kernel
theorem d_St_isFirstPageDone_53 : decode b_St_isFirstPageDone 53 = .ok (.iconst 0, 1) := by decide +kernel
theorem d_St_isFirstPageDone_54 : decode b_St_isFirstPageDone 54 = .ok (.ireturn, 1) := by decide +kernel
theorem d_St_isFirstPageDone_55 : decode b_St_isFirstPageDone 55 = .ok (.iinc 1 1, 3) := by decide +kernel
theorem d_St_isFirstPageDone_58 : decode b_St_isFirstPageDone 58 = .ok (.goto (-56), 3) := by decide +kernel
theorem d_St_isFirstPageDone_61 : decode b_St_isFirstPageDone 61 = .ok (.iconst 1, 1) := by decide +kernel
theorem d_St_isFirstPageDone_62 : decode b_St_isFirstPageDone 62 = .ok (.ireturn, 1) := by decide +kernel
theorem d_Pb_init_0 : decode b_Pb_init 0 = .ok (.aload_n 0, 1) := by decide +kernel
theorem d_Pb_init_1 : decode b_Pb_init 1 = .ok (.invokespecial 3, 3) := by decide +kernel
theorem d_Pb_init_4 : decode b_Pb_init 4 = .ok (.aload_n 0, 1) := by decide +kernel
theorem d_Pb_init_5 : decode b_Pb_init 5 = .ok (.iconst (-1), 1) := by decide +kernel
theorem d_Pb_init_6 : decode b_Pb_init 6 = .ok (.putfield 9, 3) := by decide +kernel
theorem d_Pb_init_9 : decode b_Pb_init 9 = .ok (.aload_n 0, 1) := by decide +kernel
theorem d_Pb_init_10 : decode b_Pb_init 10 = .ok (.aload_n 1, 1) := by decide +kernel
theorem d_Pb_init_11 : decode b_Pb_init 11 = .ok (.putfield 15, 3) := by decide +kernel
theorem d_Pb_init_14 : decode b_Pb_init 14 = .ok (.aload_n 0, 1) := by decide +kernel
theorem d_Pb_init_15 : decode b_Pb_init 15 = .ok (.iload_n 2, 1) := by decide +kernel
theorem d_Pb_init_16 : decode b_Pb_init 16 = .ok (.putfield 19, 3) := by decide +kernel
theorem d_Pb_init_19 : decode b_Pb_init 19 = .ok (.aload_n 0, 1) := by decide +kernel
theorem d_Pb_init_20 : decode b_Pb_init 20 = .ok (.iload_n 3, 1) := by decide +kernel
theorem d_Pb_init_21 : decode b_Pb_init 21 = .ok (.putfield 22, 3) := by decide +kernel
theorem d_Pb_init_24 : decode b_Pb_init 24 = .ok (.aload_n 0, 1) := by decide +kernel
theorem d_Pb_init_25 : decode b_Pb_init 25 = .ok (.iload 4, 2) := by decide +kernel
theorem d_Pb_init_27 : decode b_Pb_init 27 = .ok (.putfield 25, 3) := by decide +kernel
theorem d_Pb_init_30 : decode b_Pb_init 30 = .ok (.aload_n 0, 1) := by decide +kernel
theorem d_Pb_init_31 : decode b_Pb_init 31 = .ok (.lload 5, 2) := by decide +kernel
theorem d_Pb_init_33 : decode b_Pb_init 33 = .ok (.putfield 28, 3) := by decide +kernel
theorem d_Pb_init_36 : decode b_Pb_init 36 = .ok (.return_, 1) := by decide +kernel
theorem d_Pb_goesBefore_0 : decode b_Pb_goesBefore 0 = .ok (.aload_n 0, 1) := by decide +kernel
theorem d_Pb_goesBefore_1 : decode b_Pb_goesBefore 1 = .ok (.getfield 25, 3) := by decide +kernel
theorem d_Pb_goesBefore_4 : decode b_Pb_goesBefore 4 = .ok (.aload_n 1, 1) := by decide +kernel
theorem d_Pb_goesBefore_5 : decode b_Pb_goesBefore 5 = .ok (.getfield 25, 3) := by decide +kernel
theorem d_Pb_goesBefore_8 : decode b_Pb_goesBefore 8 = .ok (.if_icmp .eq 20, 3) := by decide +kernel
theorem d_Pb_goesBefore_11 : decode b_Pb_goesBefore 11 = .ok (.aload_n 0, 1) := by decide +kernel
theorem d_Pb_goesBefore_12 : decode b_Pb_goesBefore 12 = .ok (.getfield 25, 3) := by decide +kernel
theorem d_Pb_goesBefore_15 : decode b_Pb_goesBefore 15 = .ok (.aload_n 1, 1) := by decide +kernel
theorem d_Pb_goesBefore_16 : decode b_Pb_goesBefore 16 = .ok (.getfield 25, 3) := by decide +kernel
theorem d_Pb_goesBefore_19 : decode b_Pb_goesBefore 19 = .ok (.if_icmp .ge 7, 3) := by decide +kernel
theorem d_Pb_goesBefore_22 : decode b_Pb_goesBefore 22 = .ok (.iconst 1, 1) := by decide +kernel
theorem d_Pb_goesBefore_23 : decode b_Pb_goesBefore 23 = .ok (.goto 4, 3) := by decide +kernel
theorem d_Pb_goesBefore_26 : decode b_Pb_goesBefore 26 = .ok (.iconst 0, 1) := by decide +kernel
theorem d_Pb_goesBefore_27 : decode b_Pb_goesBefore 27 = .ok (.ireturn, 1) := by decide +kernel
theorem d_Pb_goesBefore_28 : decode b_Pb_goesBefore 28 = .ok (.aload_n 0, 1) := by decide +kernel
theorem d_Pb_goesBefore_29 : decode b_Pb_goesBefore 29 = .ok (.getfield 28, 3) := by decide +kernel
theorem d_Pb_goesBefore_32 : decode b_Pb_goesBefore 32 = .ok (.aload_n 1, 1) := by decide +kernel
theorem d_Pb_goesBefore_33 : decode b_Pb_goesBefore 33 = .ok (.getfield 28, 3) := by decide +kernel
theorem d_Pb_goesBefore_36 : decode b_Pb_goesBefore 36 = .ok (.lcmp, 1) := by decide +kernel
theorem d_Pb_goesBefore_37 : decode b_Pb_goesBefore 37 = .ok (.ifCond .ge 7, 3) := by decide +kernel
theorem d_Pb_goesBefore_40 : decode b_Pb_goesBefore 40 = .ok (.iconst 1, 1) := by decide +kernel
theorem d_Pb_goesBefore_41 : decode b_Pb_goesBefore 41 = .ok (.goto 4, 3) := by decide +kernel
theorem d_Pb_goesBefore_44 : decode b_Pb_goesBefore 44 = .ok (.iconst 0, 1) := by decide +kernel
theorem d_Pb_goesBefore_45 : decode b_Pb_goesBefore 45 = .ok (.ireturn, 1) := by decide +kernel
theorem d_Pb_nextPacket_0 : decode b_Pb_nextPacket 0 = .ok (.aconst_null, 1) := by decide +kernel
theorem d_Pb_nextPacket_1 : decode b_Pb_nextPacket 1 = .ok (.astore_n 1, 1) := by decide +kernel
theorem d_Pb_nextPacket_2 : decode b_Pb_nextPacket 2 = .ok (.aconst_null, 1) := by decide +kernel
theorem d_Pb_nextPacket_3 : decode b_Pb_nextPacket 3 = .ok (.astore_n 2, 1) := by decide +kernel
theorem d_Pb_nextPacket_4 : decode b_Pb_nextPacket 4 = .ok (.aconst_null, 1) := by decide +kernel
theorem d_Pb_nextPacket_5 : decode b_Pb_nextPacket 5 = .ok (.astore_n 3, 1) := by decide +kernel
theorem d_Pb_nextPacket_6 : decode b_Pb_nextPacket 6 = .ok (.iconst 0, 1) := by decide +kernel
theorem d_Pb_nextPacket_7 : decode b_Pb_nextPacket 7 = .ok (.istore 4, 2) := by decide +kernel
theorem d_Pb_nextPacket_9 : decode b_Pb_nextPacket 9 = .ok (.iload 4, 2) := by decide +kernel
theorem d_Pb_nextPacket_11 : decode b_Pb_nextPacket 11 = .ok (.aload_n 0, 1) := by decide +kernel
theorem d_Pb_nextPacket_12 : decode b_Pb_nextPacket 12 = .ok (.getfield 15, 3) := by decide +kernel
theorem d_Pb_nextPacket_15 : decode b_Pb_nextPacket 15 = .ok (.getfield 32, 3) := by decide +kernel
theorem d_Pb_nextPacket_18 : decode b_Pb_nextPacket 18 = .ok (.invokevirtual 38, 3) := by decide +kernel
theorem d_Pb_nextPacket_21 : decode b_Pb_nextPacket 21 = .ok (.if_icmp .ge 92, 3) := by decide +kernel
theorem d_Pb_nextPacket_24 : decode b_Pb_nextPacket 24 = .ok (.aload_n 0, 1) := by decide +kernel
theorem d_Pb_nextPacket_25 : decode b_Pb_nextPacket 25 = .ok (.getfield 15, 3) := by decide +kernel
theorem d_Pb_nextPacket_28 : decode b_Pb_nextPacket 28 = .ok (.getfield 32, 3) := by decide +kernel
theorem d_Pb_nextPacket_31 : decode b_Pb_nextPacket 31 = .ok (.iload 4, 2) := by decide +kernel
theorem d_Pb_nextPacket_33 : decode b_Pb_nextPacket 33 = .ok (.invokevirtual 44, 3) := by decide +kernel
theorem d_Pb_nextPacket_36 : decode b_Pb_nextPacket 36 = .ok (.checkcast 48, 3) := by decide +kernel
theorem d_Pb_nextPacket_39 : decode b_Pb_nextPacket 39 = .ok (.astore 5, 2) := by decide +kernel
theorem d_Pb_nextPacket_41 : decode b_Pb_nextPacket 41 = .ok (.aload_n 0, 1) := by decide +kernel
theorem d_Pb_nextPacket_42 : decode b_Pb_nextPacket 42 = .ok (.aload 5, 2) := by decide +kernel
theorem d_Pb_nextPacket_44 : decode b_Pb_nextPacket 44 = .ok (.invokevirtual 50, 3) := by decide +kernel
theorem d_Pb_nextPacket_47 : decode b_Pb_nextPacket 47 = .ok (.ifCond .ne 6, 3) := by decide +kernel
theorem d_Pb_nextPacket_50 : decode b_Pb_nextPacket 50 = .ok (.goto 57, 3) := by decide +kernel
theorem d_Pb_nextPacket_53 : decode b_Pb_nextPacket 53 = .ok (.aload 5, 2) := by decide +kernel
theorem d_Pb_nextPacket_55 : decode b_Pb_nextPacket 55 = .ok (.invokevirtual 54, 3) := by decide +kernel
theorem d_Pb_nextPacket_58 : decode b_Pb_nextPacket 58 = .ok (.ifCond .eq 23, 3) := by decide +kernel
theorem d_Pb_nextPacket_61 : decode b_Pb_nextPacket 61 = .ok (.aload_n 1, 1) := by decide +kernel
theorem d_Pb_nextPacket_62 : decode b_Pb_nextPacket 62 = .ok (.ifnull 16, 3) := by decide +kernel
theorem d_Pb_nextPacket_65 : decode b_Pb_nextPacket 65 = .ok (.aload 5, 2) := by decide +kernel
theorem d_Pb_nextPacket_67 : decode b_Pb_nextPacket 67 = .ok (.getfield 58, 3) := by decide +kernel
theorem d_Pb_nextPacket_70 : decode b_Pb_nextPacket 70 = .ok (.aload_n 1, 1) := by decide +kernel
theorem d_Pb_nextPacket_71 : decode b_Pb_nextPacket 71 = .ok (.getfield 58, 3) := by decide +kernel
theorem d_Pb_nextPacket_74 : decode b_Pb_nextPacket 74 = .ok (.lcmp, 1) := by decide +kernel
theorem d_Pb_nextPacket_75 : decode b_Pb_nextPacket 75 = .ok (.ifCond .ge 6, 3) := by decide +kernel
theorem d_Pb_nextPacket_78 : decode b_Pb_nextPacket 78 = .ok (.aload 5, 2) := by decide +kernel
theorem d_Pb_nextPacket_80 : decode b_Pb_nextPacket 80 = .ok (.astore_n 1, 1) := by decide +kernel
theorem d_Pb_nextPacket_81 : decode b_Pb_nextPacket 81 = .ok (.aload_n 2, 1) := by decide +kernel
theorem d_Pb_nextPacket_82 : decode b_Pb_nextPacket 82 = .ok (.ifnonnull 18, 3) := by decide +kernel
theorem d_Pb_nextPacket_85 : decode b_Pb_nextPacket 85 = .ok (.aload 5, 2) := by decide +kernel
theorem d_Pb_nextPacket_87 : decode b_Pb_nextPacket 87 = .ok (.getfield 61, 3) := by decide +kernel
theorem d_Pb_nextPacket_90 : decode b_Pb_nextPacket 90 = .ok (.aload_n 0, 1) := by decide +kernel
theorem d_Pb_nextPacket_91 : decode b_Pb_nextPacket 91 = .ok (.getfield 9, 3) := by decide +kernel
theorem d_Pb_nextPacket_94 : decode b_Pb_nextPacket 94 = .ok (.if_icmp .le 6, 3) := by decide +kernel
theorem d_Pb_nextPacket_97 : decode b_Pb_nextPacket 97 = .ok (.aload 5, 2) := by decide +kernel
theorem d_Pb_nextPacket_99 : decode b_Pb_nextPacket 99 = .ok (.astore_n 2, 1) := by decide +kernel
theorem d_Pb_nextPacket_100 : decode b_Pb_nextPacket 100 = .ok (.aload_n 3, 1) := by decide +kernel
theorem d_Pb_nextPacket_101 : decode b_Pb_nextPacket 101 = .ok (.ifnonnull 6, 3) := by decide +kernel
theorem d_Pb_nextPacket_104 : decode b_Pb_nextPacket 104 = .ok (.aload 5, 2) := by decide +kernel
theorem d_Pb_nextPacket_106 : decode b_Pb_nextPacket 106 = .ok (.astore_n 3, 1) := by decide +kernel
theorem d_Pb_nextPacket_107 : decode b_Pb_nextPacket 107 = .ok (.iinc 4 1, 3) := by decide +kernel
theorem d_Pb_nextPacket_110 : decode b_Pb_nextPacket 110 = .ok (.goto (-101), 3) := by decide +kernel
theorem d_Pb_nextPacket_113 : decode b_Pb_nextPacket 113 = .ok (.aload_n 1, 1) := by decide +kernel
theorem d_Pb_nextPacket_114 : decode b_Pb_nextPacket 114 = .ok (.ifnull 5, 3) := by decide +kernel
theorem d_Pb_nextPacket_117 : decode b_Pb_nextPacket 117 = .ok (.aload_n 1, 1) := by decide +kernel
theorem d_Pb_nextPacket_118 : decode b_Pb_nextPacket 118 = .ok (.areturn, 1) := by decide +kernel
theorem d_Pb_nextPacket_119 : decode b_Pb_nextPacket 119 = .ok (.aload_n 2, 1) := by decide +kernel
theorem d_Pb_nextPacket_120 : decode b_Pb_nextPacket 120 = .ok (.ifnull 7, 3) := by decide +kernel
theorem d_Pb_nextPacket_123 : decode b_Pb_nextPacket 123 = .ok (.aload_n 2, 1) := by decide +kernel
theorem d_Pb_nextPacket_124 : decode b_Pb_nextPacket 124 = .ok (.goto 4, 3) := by decide +kernel
theorem d_Pb_nextPacket_127 : decode b_Pb_nextPacket 127 = .ok (.aload_n 3, 1) := by decide +kernel
theorem d_Pb_nextPacket_128 : decode b_Pb_nextPacket 128 = .ok (.areturn, 1) := by decide +kernel
theorem d_Pb_hasIn_0 : decode b_Pb_hasIn 0 = .ok (.aload_n 1, 1) := by decide +kernel
theorem d_Pb_hasIn_1 : decode b_Pb_hasIn 1 = .ok (.getfield 64, 3) := by decide +kernel
theorem d_Pb_hasIn_4 : decode b_Pb_hasIn 4 = .ok (.ifCond .ne 29, 3) := by decide +kernel
theorem d_Pb_hasIn_7 : decode b_Pb_hasIn 7 = .ok (.aload_n 1, 1) := by decide +kernel
theorem d_Pb_hasIn_8 : decode b_Pb_hasIn 8 = .ok (.getfield 68, 3) := by decide +kernel
theorem d_Pb_hasIn_11 : decode b_Pb_hasIn 11 = .ok (.aload_n 0, 1) := by decide +kernel
theorem d_Pb_hasIn_12 : decode b_Pb_hasIn 12 = .ok (.getfield 19, 3) := by decide +kernel
theorem d_Pb_hasIn_15 : decode b_Pb_hasIn 15 = .ok (.if_icmp .lt 18, 3) := by decide +kernel
theorem d_Pb_hasIn_18 : decode b_Pb_hasIn 18 = .ok (.aload_n 1, 1) := by decide +kernel
theorem d_Pb_hasIn_19 : decode b_Pb_hasIn 19 = .ok (.getfield 68, 3) := by decide +kernel
theorem d_Pb_hasIn_22 : decode b_Pb_hasIn 22 = .ok (.aload_n 0, 1) := by decide +kernel
theorem d_Pb_hasIn_23 : decode b_Pb_hasIn 23 = .ok (.getfield 22, 3) := by decide +kernel
theorem d_Pb_hasIn_26 : decode b_Pb_hasIn 26 = .ok (.if_icmp .gt 7, 3) := by decide +kernel
theorem d_Pb_hasIn_29 : decode b_Pb_hasIn 29 = .ok (.iconst 1, 1) := by decide +kernel
theorem d_Pb_hasIn_30 : decode b_Pb_hasIn 30 = .ok (.goto 4, 3) := by decide +kernel
theorem d_Pb_hasIn_33 : decode b_Pb_hasIn 33 = .ok (.iconst 0, 1) := by decide +kernel
theorem d_Pb_hasIn_34 : decode b_Pb_hasIn 34 = .ok (.ireturn, 1) := by decide +kernel
theorem d_Pk_isAskedFor_0 : decode b_Pk_isAskedFor 0 = .ok (.aload_n 0, 1) := by decide +kernel
theorem d_Pk_isAskedFor_1 : decode b_Pk_isAskedFor 1 = .ok (.getfield 15, 3) := by decide +kernel
theorem d_Pk_isAskedFor_4 : decode b_Pk_isAskedFor 4 = .ok (.lconst 0, 1) := by decide +kernel
theorem d_Pk_isAskedFor_5 : decode b_Pk_isAskedFor 5 = .ok (.lcmp, 1) := by decide +kernel
theorem d_Pk_isAskedFor_6 : decode b_Pk_isAskedFor 6 = .ok (.ifCond .eq 7, 3) := by decide +kernel
theorem d_Pk_isAskedFor_9 : decode b_Pk_isAskedFor 9 = .ok (.iconst 1, 1) := by decide +kernel
theorem d_Pk_isAskedFor_10 : decode b_Pk_isAskedFor 10 = .ok (.goto 4, 3) := by decide +kernel
theorem d_Pk_isAskedFor_13 : decode b_Pk_isAskedFor 13 = .ok (.iconst 0, 1) := by decide +kernel
theorem d_Pk_isAskedFor_14 : decode b_Pk_isAskedFor 14 = .ok (.ireturn, 1) := by decide +kernel
theorem d_Pk_frameLength_0 : decode b_Pk_frameLength 0 = .ok (.iconst 5, 1) := by decide +kernel
theorem d_Pk_frameLength_1 : decode b_Pk_frameLength 1 = .ok (.aload_n 0, 1) := by decide +kernel
theorem d_Pk_frameLength_2 : decode b_Pk_frameLength 2 = .ok (.getfield 28, 3) := by decide +kernel
theorem d_Pk_frameLength_5 : decode b_Pk_frameLength 5 = .ok (.arraylength, 1) := by decide +kernel
theorem d_Pk_frameLength_6 : decode b_Pk_frameLength 6 = .ok (.iadd, 1) := by decide +kernel
theorem d_Pk_frameLength_7 : decode b_Pk_frameLength 7 = .ok (.ireturn, 1) := by decide +kernel
theorem d_Pk_byteOfFrame_0 : decode b_Pk_byteOfFrame 0 = .ok (.iload_n 1, 1) := by decide +kernel
theorem d_Pk_byteOfFrame_1 : decode b_Pk_byteOfFrame 1 = .ok (.ifCond .ge 5, 3) := by decide +kernel
theorem d_Pk_byteOfFrame_4 : decode b_Pk_byteOfFrame 4 = .ok (.iconst (-1), 1) := by decide +kernel
theorem d_Pk_byteOfFrame_5 : decode b_Pk_byteOfFrame 5 = .ok (.ireturn, 1) := by decide +kernel
theorem d_Pk_byteOfFrame_6 : decode b_Pk_byteOfFrame 6 = .ok (.iload_n 1, 1) := by decide +kernel
theorem d_Pk_byteOfFrame_7 : decode b_Pk_byteOfFrame 7 = .ok (.ifCond .ne 8, 3) := by decide +kernel
theorem d_Pk_byteOfFrame_10 : decode b_Pk_byteOfFrame 10 = .ok (.aload_n 0, 1) := by decide +kernel
theorem d_Pk_byteOfFrame_11 : decode b_Pk_byteOfFrame 11 = .ok (.getfield 19, 3) := by decide +kernel
theorem d_Pk_byteOfFrame_14 : decode b_Pk_byteOfFrame 14 = .ok (.ireturn, 1) := by decide +kernel
theorem d_Pk_byteOfFrame_15 : decode b_Pk_byteOfFrame 15 = .ok (.iload_n 1, 1) := by decide +kernel
theorem d_Pk_byteOfFrame_16 : decode b_Pk_byteOfFrame 16 = .ok (.iconst 5, 1) := by decide +kernel
theorem d_Pk_byteOfFrame_17 : decode b_Pk_byteOfFrame 17 = .ok (.if_icmp .ge 14, 3) := by decide +kernel
theorem d_Pk_byteOfFrame_20 : decode b_Pk_byteOfFrame 20 = .ok (.aload_n 0, 1) := by decide +kernel
theorem d_Pk_byteOfFrame_21 : decode b_Pk_byteOfFrame 21 = .ok (.getfield 22, 3) := by decide +kernel
theorem d_Pk_byteOfFrame_24 : decode b_Pk_byteOfFrame 24 = .ok (.iload_n 1, 1) := by decide +kernel
theorem d_Pk_byteOfFrame_25 : decode b_Pk_byteOfFrame 25 = .ok (.iconst 1, 1) := by decide +kernel
theorem d_Pk_byteOfFrame_26 : decode b_Pk_byteOfFrame 26 = .ok (.isub, 1) := by decide +kernel
theorem d_Pk_byteOfFrame_27 : decode b_Pk_byteOfFrame 27 = .ok (.invokestatic 32, 3) := by decide +kernel
theorem d_Pk_byteOfFrame_30 : decode b_Pk_byteOfFrame 30 = .ok (.ireturn, 1) := by decide +kernel
theorem d_Pk_byteOfFrame_31 : decode b_Pk_byteOfFrame 31 = .ok (.aload_n 0, 1) := by decide +kernel
theorem d_Pk_byteOfFrame_32 : decode b_Pk_byteOfFrame 32 = .ok (.iload_n 1, 1) := by decide +kernel
theorem d_Pk_byteOfFrame_33 : decode b_Pk_byteOfFrame 33 = .ok (.iconst 5, 1) := by decide +kernel
theorem d_Pk_byteOfFrame_34 : decode b_Pk_byteOfFrame 34 = .ok (.isub, 1) := by decide +kernel
theorem d_Pk_byteOfFrame_35 : decode b_Pk_byteOfFrame 35 = .ok (.invokevirtual 42, 3) := by decide +kernel
theorem d_Pk_byteOfFrame_38 : decode b_Pk_byteOfFrame 38 = .ok (.ireturn, 1) := by decide +kernel
theorem d_Pk_byteThatTells_0 : decode b_Pk_byteThatTells 0 = .ok (.iload_n 1, 1) := by decide +kernel
theorem d_Pk_byteThatTells_1 : decode b_Pk_byteThatTells 1 = .ok (.ifCond .lt 12, 3) := by decide +kernel
theorem d_Pk_byteThatTells_4 : decode b_Pk_byteThatTells 4 = .ok (.iload_n 1, 1) := by decide +kernel
theorem d_Pk_byteThatTells_5 : decode b_Pk_byteThatTells 5 = .ok (.aload_n 0, 1) := by decide +kernel
theorem d_Pk_byteThatTells_6 : decode b_Pk_byteThatTells 6 = .ok (.getfield 28, 3) := by decide +kernel
theorem d_Pk_byteThatTells_9 : decode b_Pk_byteThatTells 9 = .ok (.arraylength, 1) := by decide +kernel
theorem d_Pk_byteThatTells_10 : decode b_Pk_byteThatTells 10 = .ok (.if_icmp .lt 7, 3) := by decide +kernel
theorem d_Pk_byteThatTells_13 : decode b_Pk_byteThatTells 13 = .ok (.iconst (-1), 1) := by decide +kernel
theorem d_Pk_byteThatTells_14 : decode b_Pk_byteThatTells 14 = .ok (.goto 13, 3) := by decide +kernel
theorem d_Pk_byteThatTells_17 : decode b_Pk_byteThatTells 17 = .ok (.aload_n 0, 1) := by decide +kernel
theorem d_Pk_byteThatTells_18 : decode b_Pk_byteThatTells 18 = .ok (.getfield 28, 3) := by decide +kernel
theorem d_Pk_byteThatTells_21 : decode b_Pk_byteThatTells 21 = .ok (.iload_n 1, 1) := by decide +kernel
theorem d_Pk_byteThatTells_22 : decode b_Pk_byteThatTells 22 = .ok (.baload, 1) := by decide +kernel
theorem d_Pk_byteThatTells_23 : decode b_Pk_byteThatTells 23 = .ok (.sipush 255, 3) := by decide +kernel
theorem d_Pk_byteThatTells_26 : decode b_Pk_byteThatTells 26 = .ok (.iand, 1) := by decide +kernel
theorem d_Pk_byteThatTells_27 : decode b_Pk_byteThatTells 27 = .ok (.ireturn, 1) := by decide +kernel
theorem d_St_confirmPackets_0 : decode b_St_confirmPackets 0 = .ok (.iconst 0, 1) := by decide +kernel
theorem d_St_confirmPackets_1 : decode b_St_confirmPackets 1 = .ok (.istore_n 3, 1) := by decide +kernel
theorem d_St_confirmPackets_2 : decode b_St_confirmPackets 2 = .ok (.iconst 0, 1) := by decide +kernel
theorem d_St_confirmPackets_3 : decode b_St_confirmPackets 3 = .ok (.istore 4, 2) := by decide +kernel
theorem d_St_confirmPackets_5 : decode b_St_confirmPackets 5 = .ok (.iload 4, 2) := by decide +kernel
theorem d_St_confirmPackets_7 : decode b_St_confirmPackets 7 = .ok (.aload_n 0, 1) := by decide +kernel
theorem d_St_confirmPackets_8 : decode b_St_confirmPackets 8 = .ok (.getfield 22, 3) := by decide +kernel
theorem d_St_confirmPackets_11 : decode b_St_confirmPackets 11 = .ok (.invokevirtual 90, 3) := by decide +kernel
theorem d_St_confirmPackets_14 : decode b_St_confirmPackets 14 = .ok (.if_icmp .ge 64, 3) := by decide +kernel
theorem d_St_confirmPackets_17 : decode b_St_confirmPackets 17 = .ok (.aload_n 0, 1) := by decide +kernel
theorem d_St_confirmPackets_18 : decode b_St_confirmPackets 18 = .ok (.getfield 22, 3) := by decide +kernel
theorem d_St_confirmPackets_21 : decode b_St_confirmPackets 21 = .ok (.iload 4, 2) := by decide +kernel
theorem d_St_confirmPackets_23 : decode b_St_confirmPackets 23 = .ok (.invokevirtual 94, 3) := by decide +kernel
theorem d_St_confirmPackets_26 : decode b_St_confirmPackets 26 = .ok (.checkcast 41, 3) := by decide +kernel
theorem d_St_confirmPackets_29 : decode b_St_confirmPackets 29 = .ok (.astore 5, 2) := by decide +kernel
theorem d_St_confirmPackets_31 : decode b_St_confirmPackets 31 = .ok (.aload 5, 2) := by decide +kernel
theorem d_St_confirmPackets_33 : decode b_St_confirmPackets 33 = .ok (.getfield 80, 3) := by decide +kernel
theorem d_St_confirmPackets_36 : decode b_St_confirmPackets 36 = .ok (.iload_n 1, 1) := by decide +kernel
theorem d_St_confirmPackets_37 : decode b_St_confirmPackets 37 = .ok (.if_icmp .lt 35, 3) := by decide +kernel
theorem d_St_confirmPackets_40 : decode b_St_confirmPackets 40 = .ok (.aload 5, 2) := by decide +kernel
theorem d_St_confirmPackets_42 : decode b_St_confirmPackets 42 = .ok (.getfield 80, 3) := by decide +kernel
theorem d_St_confirmPackets_45 : decode b_St_confirmPackets 45 = .ok (.iload_n 2, 1) := by decide +kernel
theorem d_St_confirmPackets_46 : decode b_St_confirmPackets 46 = .ok (.if_icmp .gt 26, 3) := by decide +kernel
theorem d_St_confirmPackets_49 : decode b_St_confirmPackets 49 = .ok (.aload 5, 2) := by decide +kernel
theorem d_St_confirmPackets_51 : decode b_St_confirmPackets 51 = .ok (.getfield 98, 3) := by decide +kernel
theorem d_St_confirmPackets_54 : decode b_St_confirmPackets 54 = .ok (.ifCond .ne 18, 3) := by decide +kernel
theorem d_St_confirmPackets_57 : decode b_St_confirmPackets 57 = .ok (.aload 5, 2) := by decide +kernel
theorem d_St_confirmPackets_59 : decode b_St_confirmPackets 59 = .ok (.iconst 1, 1) := by decide +kernel
theorem d_St_confirmPackets_60 : decode b_St_confirmPackets 60 = .ok (.putfield 98, 3) := by decide +kernel
theorem d_St_confirmPackets_63 : decode b_St_confirmPackets 63 = .ok (.aload 5, 2) := by decide +kernel
theorem d_St_confirmPackets_65 : decode b_St_confirmPackets 65 = .ok (.lconst 0, 1) := by decide +kernel
theorem d_St_confirmPackets_66 : decode b_St_confirmPackets 66 = .ok (.putfield 101, 3) := by decide +kernel
theorem d_St_confirmPackets_69 : decode b_St_confirmPackets 69 = .ok (.iinc 3 1, 3) := by decide +kernel
theorem d_St_confirmPackets_72 : decode b_St_confirmPackets 72 = .ok (.iinc 4 1, 3) := by decide +kernel
theorem d_St_confirmPackets_75 : decode b_St_confirmPackets 75 = .ok (.goto (-70), 3) := by decide +kernel
theorem d_St_confirmPackets_78 : decode b_St_confirmPackets 78 = .ok (.iload_n 3, 1) := by decide +kernel
theorem d_St_confirmPackets_79 : decode b_St_confirmPackets 79 = .ok (.ireturn, 1) := by decide +kernel
theorem d_St_keptAt_0 : decode b_St_keptAt 0 = .ok (.aload_n 0, 1) := by decide +kernel
theorem d_St_keptAt_1 : decode b_St_keptAt 1 = .ok (.getfield 55, 3) := by decide +kernel
theorem d_St_keptAt_4 : decode b_St_keptAt 4 = .ok (.aload_n 0, 1) := by decide +kernel
theorem d_St_keptAt_5 : decode b_St_keptAt 5 = .ok (.getfield 22, 3) := by decide +kernel
theorem d_St_keptAt_8 : decode b_St_keptAt 8 = .ok (.invokevirtual 90, 3) := by decide +kernel
theorem d_St_keptAt_11 : decode b_St_keptAt 11 = .ok (.isub, 1) := by decide +kernel
theorem d_St_keptAt_12 : decode b_St_keptAt 12 = .ok (.istore_n 2, 1) := by decide +kernel
theorem d_St_keptAt_13 : decode b_St_keptAt 13 = .ok (.iload_n 1, 1) := by decide +kernel
theorem d_St_keptAt_14 : decode b_St_keptAt 14 = .ok (.iload_n 2, 1) := by decide +kernel
theorem d_St_keptAt_15 : decode b_St_keptAt 15 = .ok (.if_icmp .lt 11, 3) := by decide +kernel
theorem d_St_keptAt_18 : decode b_St_keptAt 18 = .ok (.iload_n 1, 1) := by decide +kernel
theorem d_St_keptAt_19 : decode b_St_keptAt 19 = .ok (.aload_n 0, 1) := by decide +kernel
theorem d_St_keptAt_20 : decode b_St_keptAt 20 = .ok (.getfield 55, 3) := by decide +kernel
theorem d_St_keptAt_23 : decode b_St_keptAt 23 = .ok (.if_icmp .lt 7, 3) := by decide +kernel
theorem d_St_keptAt_26 : decode b_St_keptAt 26 = .ok (.aconst_null, 1) := by decide +kernel
theorem d_St_keptAt_27 : decode b_St_keptAt 27 = .ok (.goto 16, 3) := by decide +kernel
theorem d_St_keptAt_30 : decode b_St_keptAt 30 = .ok (.aload_n 0, 1) := by decide +kernel
theorem d_St_keptAt_31 : decode b_St_keptAt 31 = .ok (.getfield 22, 3) := by decide +kernel
theorem d_St_keptAt_34 : decode b_St_keptAt 34 = .ok (.iload_n 1, 1) := by decide +kernel
theorem d_St_keptAt_35 : decode b_St_keptAt 35 = .ok (.iload_n 2, 1) := by decide +kernel
theorem d_St_keptAt_36 : decode b_St_keptAt 36 = .ok (.isub, 1) := by decide +kernel
theorem d_St_keptAt_37 : decode b_St_keptAt 37 = .ok (.invokevirtual 94, 3) := by decide +kernel
theorem d_St_keptAt_40 : decode b_St_keptAt 40 = .ok (.checkcast 41, 3) := by decide +kernel
theorem d_St_keptAt_43 : decode b_St_keptAt 43 = .ok (.areturn, 1) := by decide +kernel
theorem d_St_countConfirmed_0 : decode b_St_countConfirmed 0 = .ok (.iconst 0, 1) := by decide +kernel
theorem d_St_countConfirmed_1 : decode b_St_countConfirmed 1 = .ok (.istore_n 1, 1) := by decide +kernel
theorem d_St_countConfirmed_2 : decode b_St_countConfirmed 2 = .ok (.iconst 0, 1) := by decide +kernel
theorem d_St_countConfirmed_3 : decode b_St_countConfirmed 3 = .ok (.istore_n 2, 1) := by decide +kernel
theorem d_St_countConfirmed_4 : decode b_St_countConfirmed 4 = .ok (.iload_n 2, 1) := by decide +kernel
theorem d_St_countConfirmed_5 : decode b_St_countConfirmed 5 = .ok (.aload_n 0, 1) := by decide +kernel
theorem d_St_countConfirmed_6 : decode b_St_countConfirmed 6 = .ok (.getfield 22, 3) := by decide +kernel
theorem d_St_countConfirmed_9 : decode b_St_countConfirmed 9 = .ok (.invokevirtual 90, 3) := by decide +kernel
theorem d_St_countConfirmed_12 : decode b_St_countConfirmed 12 = .ok (.if_icmp .ge 29, 3) := by decide +kernel
theorem d_St_countConfirmed_15 : decode b_St_countConfirmed 15 = .ok (.aload_n 0, 1) := by decide +kernel
theorem d_St_countConfirmed_16 : decode b_St_countConfirmed 16 = .ok (.getfield 22, 3) := by decide +kernel
theorem d_St_countConfirmed_19 : decode b_St_countConfirmed 19 = .ok (.iload_n 2, 1) := by decide +kernel
theorem d_St_countConfirmed_20 : decode b_St_countConfirmed 20 = .ok (.invokevirtual 94, 3) := by decide +kernel
theorem d_St_countConfirmed_23 : decode b_St_countConfirmed 23 = .ok (.checkcast 41, 3) := by decide +kernel
theorem d_St_countConfirmed_26 : decode b_St_countConfirmed 26 = .ok (.getfield 98, 3) := by decide +kernel
theorem d_St_countConfirmed_29 : decode b_St_countConfirmed 29 = .ok (.ifCond .eq 6, 3) := by decide +kernel
theorem d_St_countConfirmed_32 : decode b_St_countConfirmed 32 = .ok (.iinc 1 1, 3) := by decide +kernel
theorem d_St_countConfirmed_35 : decode b_St_countConfirmed 35 = .ok (.iinc 2 1, 3) := by decide +kernel
theorem d_St_countConfirmed_38 : decode b_St_countConfirmed 38 = .ok (.goto (-34), 3) := by decide +kernel
theorem d_St_countConfirmed_41 : decode b_St_countConfirmed 41 = .ok (.iload_n 1, 1) := by decide +kernel
theorem d_St_countConfirmed_42 : decode b_St_countConfirmed 42 = .ok (.ireturn, 1) := by decide +kernel
theorem d_St_countAskedFor_0 : decode b_St_countAskedFor 0 = .ok (.iconst 0, 1) := by decide +kernel
theorem d_St_countAskedFor_1 : decode b_St_countAskedFor 1 = .ok (.istore_n 1, 1) := by decide +kernel
theorem d_St_countAskedFor_2 : decode b_St_countAskedFor 2 = .ok (.iconst 0, 1) := by decide +kernel
theorem d_St_countAskedFor_3 : decode b_St_countAskedFor 3 = .ok (.istore_n 2, 1) := by decide +kernel
theorem d_St_countAskedFor_4 : decode b_St_countAskedFor 4 = .ok (.iload_n 2, 1) := by decide +kernel
theorem d_St_countAskedFor_5 : decode b_St_countAskedFor 5 = .ok (.aload_n 0, 1) := by decide +kernel
theorem d_St_countAskedFor_6 : decode b_St_countAskedFor 6 = .ok (.getfield 22, 3) := by decide +kernel
theorem d_St_countAskedFor_9 : decode b_St_countAskedFor 9 = .ok (.invokevirtual 90, 3) := by decide +kernel
theorem d_St_countAskedFor_12 : decode b_St_countAskedFor 12 = .ok (.if_icmp .ge 29, 3) := by decide +kernel
theorem d_St_countAskedFor_15 : decode b_St_countAskedFor 15 = .ok (.aload_n 0, 1) := by decide +kernel
theorem d_St_countAskedFor_16 : decode b_St_countAskedFor 16 = .ok (.getfield 22, 3) := by decide +kernel
theorem d_St_countAskedFor_19 : decode b_St_countAskedFor 19 = .ok (.iload_n 2, 1) := by decide +kernel
theorem d_St_countAskedFor_20 : decode b_St_countAskedFor 20 = .ok (.invokevirtual 94, 3) := by decide +kernel
theorem d_St_countAskedFor_23 : decode b_St_countAskedFor 23 = .ok (.checkcast 41, 3) := by decide +kernel
theorem d_St_countAskedFor_26 : decode b_St_countAskedFor 26 = .ok (.invokevirtual 108, 3) := by decide +kernel
theorem d_St_countAskedFor_29 : decode b_St_countAskedFor 29 = .ok (.ifCond .eq 6, 3) := by decide +kernel
theorem d_St_countAskedFor_32 : decode b_St_countAskedFor 32 = .ok (.iinc 1 1, 3) := by decide +kernel
theorem d_St_countAskedFor_35 : decode b_St_countAskedFor 35 = .ok (.iinc 2 1, 3) := by decide +kernel
theorem d_St_countAskedFor_38 : decode b_St_countAskedFor 38 = .ok (.goto (-34), 3) := by decide +kernel
theorem d_St_countAskedFor_41 : decode b_St_countAskedFor 41 = .ok (.iload_n 1, 1) := by decide +kernel
theorem d_St_countAskedFor_42 : decode b_St_countAskedFor 42 = .ok (.ireturn, 1) := by decide +kernel
theorem d_St_leastPositionSince_0 : decode b_St_leastPositionSince 0 = .ok (.iconst 0, 1) := by decide +kernel
theorem d_St_leastPositionSince_1 : decode b_St_leastPositionSince 1 = .ok (.istore_n 2, 1) := by decide +kernel
theorem d_St_leastPositionSince_2 : decode b_St_leastPositionSince 2 = .ok (.iload_n 2, 1) := by decide +kernel
theorem d_St_leastPositionSince_3 : decode b_St_leastPositionSince 3 = .ok (.aload_n 0, 1) := by decide +kernel
theorem d_St_leastPositionSince_4 : decode b_St_leastPositionSince 4 = .ok (.getfield 22, 3) := by decide +kernel
theorem d_St_leastPositionSince_7 : decode b_St_leastPositionSince 7 = .ok (.invokevirtual 90, 3) := by decide +kernel
theorem d_St_leastPositionSince_10 : decode b_St_leastPositionSince 10 = .ok (.if_icmp .ge 34, 3) := by decide +kernel
theorem d_St_leastPositionSince_13 : decode b_St_leastPositionSince 13 = .ok (.aload_n 0, 1) := by decide +kernel
theorem d_St_leastPositionSince_14 : decode b_St_leastPositionSince 14 = .ok (.getfield 22, 3) := by decide +kernel
theorem d_St_leastPositionSince_17 : decode b_St_leastPositionSince 17 = .ok (.iload_n 2, 1) := by decide +kernel
theorem d_St_leastPositionSince_18 : decode b_St_leastPositionSince 18 = .ok (.invokevirtual 94, 3) := by decide +kernel
theorem d_St_leastPositionSince_21 : decode b_St_leastPositionSince 21 = .ok (.checkcast 41, 3) := by decide +kernel
theorem d_St_leastPositionSince_24 : decode b_St_leastPositionSince 24 = .ok (.astore_n 3, 1) := by decide +kernel
theorem d_St_leastPositionSince_25 : decode b_St_leastPositionSince 25 = .ok (.aload_n 3, 1) := by decide +kernel
theorem d_St_leastPositionSince_26 : decode b_St_leastPositionSince 26 = .ok (.getfield 105, 3) := by decide +kernel
theorem d_St_leastPositionSince_29 : decode b_St_leastPositionSince 29 = .ok (.iload_n 1, 1) := by decide +kernel
theorem d_St_leastPositionSince_30 : decode b_St_leastPositionSince 30 = .ok (.if_icmp .lt 8, 3) := by decide +kernel
theorem d_St_leastPositionSince_33 : decode b_St_leastPositionSince 33 = .ok (.aload_n 3, 1) := by decide +kernel
theorem d_St_leastPositionSince_34 : decode b_St_leastPositionSince 34 = .ok (.getfield 80, 3) := by decide +kernel
theorem d_St_leastPositionSince_37 : decode b_St_leastPositionSince 37 = .ok (.ireturn, 1) := by decide +kernel
theorem d_St_leastPositionSince_38 : decode b_St_leastPositionSince 38 = .ok (.iinc 2 1, 3) := by decide +kernel
theorem d_St_leastPositionSince_41 : decode b_St_leastPositionSince 41 = .ok (.goto (-39), 3) := by decide +kernel
theorem d_St_leastPositionSince_44 : decode b_St_leastPositionSince 44 = .ok (.iconst (-1), 1) := by decide +kernel
theorem d_St_leastPositionSince_45 : decode b_St_leastPositionSince 45 = .ok (.ireturn, 1) := by decide +kernel
theorem d_St_countConfirmedRuns_0 : decode b_St_countConfirmedRuns 0 = .ok (.iconst 0, 1) := by decide +kernel
theorem d_St_countConfirmedRuns_1 : decode b_St_countConfirmedRuns 1 = .ok (.istore_n 1, 1) := by decide +kernel
theorem d_St_countConfirmedRuns_2 : decode b_St_countConfirmedRuns 2 = .ok (.iconst 0, 1) := by decide +kernel
theorem d_St_countConfirmedRuns_3 : decode b_St_countConfirmedRuns 3 = .ok (.istore_n 2, 1) := by decide +kernel
theorem d_St_countConfirmedRuns_4 : decode b_St_countConfirmedRuns 4 = .ok (.iconst 0, 1) := by decide +kernel
theorem d_St_countConfirmedRuns_5 : decode b_St_countConfirmedRuns 5 = .ok (.istore_n 3, 1) := by decide +kernel
theorem d_St_countConfirmedRuns_6 : decode b_St_countConfirmedRuns 6 = .ok (.iload_n 3, 1) := by decide +kernel
theorem d_St_countConfirmedRuns_7 : decode b_St_countConfirmedRuns 7 = .ok (.aload_n 0, 1) := by decide +kernel
theorem d_St_countConfirmedRuns_8 : decode b_St_countConfirmedRuns 8 = .ok (.getfield 22, 3) := by decide +kernel
theorem d_St_countConfirmedRuns_11 : decode b_St_countConfirmedRuns 11 = .ok (.invokevirtual 90, 3) := by decide +kernel
theorem d_St_countConfirmedRuns_14 : decode b_St_countConfirmedRuns 14 = .ok (.if_icmp .ge 40, 3) := by decide +kernel
theorem d_St_countConfirmedRuns_17 : decode b_St_countConfirmedRuns 17 = .ok (.aload_n 0, 1) := by decide +kernel
theorem d_St_countConfirmedRuns_18 : decode b_St_countConfirmedRuns 18 = .ok (.getfield 22, 3) := by decide +kernel
theorem d_St_countConfirmedRuns_21 : decode b_St_countConfirmedRuns 21 = .ok (.iload_n 3, 1) := by decide +kernel
theorem d_St_countConfirmedRuns_22 : decode b_St_countConfirmedRuns 22 = .ok (.invokevirtual 94, 3) := by decide +kernel
theorem d_St_countConfirmedRuns_25 : decode b_St_countConfirmedRuns 25 = .ok (.checkcast 41, 3) := by decide +kernel
theorem d_St_countConfirmedRuns_28 : decode b_St_countConfirmedRuns 28 = .ok (.getfield 98, 3) := by decide +kernel
theorem d_St_countConfirmedRuns_31 : decode b_St_countConfirmedRuns 31 = .ok (.istore 4, 2) := by decide +kernel
theorem d_St_countConfirmedRuns_33 : decode b_St_countConfirmedRuns 33 = .ok (.iload 4, 2) := by decide +kernel
theorem d_St_countConfirmedRuns_35 : decode b_St_countConfirmedRuns 35 = .ok (.ifCond .eq 10, 3) := by decide +kernel
theorem d_St_countConfirmedRuns_38 : decode b_St_countConfirmedRuns 38 = .ok (.iload_n 2, 1) := by decide +kernel
theorem d_St_countConfirmedRuns_39 : decode b_St_countConfirmedRuns 39 = .ok (.ifCond .ne 6, 3) := by decide +kernel
theorem d_St_countConfirmedRuns_42 : decode b_St_countConfirmedRuns 42 = .ok (.iinc 1 1, 3) := by decide +kernel
theorem d_St_countConfirmedRuns_45 : decode b_St_countConfirmedRuns 45 = .ok (.iload 4, 2) := by decide +kernel
theorem d_St_countConfirmedRuns_47 : decode b_St_countConfirmedRuns 47 = .ok (.istore_n 2, 1) := by decide +kernel
theorem d_St_countConfirmedRuns_48 : decode b_St_countConfirmedRuns 48 = .ok (.iinc 3 1, 3) := by decide +kernel
theorem d_St_countConfirmedRuns_51 : decode b_St_countConfirmedRuns 51 = .ok (.goto (-45), 3) := by decide +kernel
theorem d_St_countConfirmedRuns_54 : decode b_St_countConfirmedRuns 54 = .ok (.iload_n 1, 1) := by decide +kernel
theorem d_St_countConfirmedRuns_55 : decode b_St_countConfirmedRuns 55 = .ok (.ireturn, 1) := by decide +kernel
theorem d_St_restore_0 : decode b_St_restore 0 = .ok (.aload_n 0, 1) := by decide +kernel
theorem d_St_restore_1 : decode b_St_restore 1 = .ok (.iconst 0, 1) := by decide +kernel
theorem d_St_restore_2 : decode b_St_restore 2 = .ok (.putfield 77, 3) := by decide +kernel
theorem d_St_restore_5 : decode b_St_restore 5 = .ok (.iconst 0, 1) := by decide +kernel
theorem d_St_restore_6 : decode b_St_restore 6 = .ok (.istore_n 1, 1) := by decide +kernel
theorem d_St_restore_7 : decode b_St_restore 7 = .ok (.iload_n 1, 1) := by decide +kernel
theorem d_St_restore_8 : decode b_St_restore 8 = .ok (.aload_n 0, 1) := by decide +kernel
theorem d_St_restore_9 : decode b_St_restore 9 = .ok (.getfield 22, 3) := by decide +kernel
