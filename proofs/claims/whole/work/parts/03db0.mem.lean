theorem d_Mem_init_0 : decode b_Mem_init 0 = .ok (.aload_n 0, 1) := by decide +kernel
theorem d_Mem_init_1 : decode b_Mem_init 1 = .ok (.invokespecial 3, 3) := by decide +kernel
theorem d_Mem_init_4 : decode b_Mem_init 4 = .ok (.aload_n 0, 1) := by decide +kernel
theorem d_Mem_init_5 : decode b_Mem_init 5 = .ok (.sipush 768, 3) := by decide +kernel
theorem d_Mem_init_8 : decode b_Mem_init 8 = .ok (.newarray .long, 2) := by decide +kernel
theorem d_Mem_init_10 : decode b_Mem_init 10 = .ok (.putfield 9, 3) := by decide +kernel
theorem d_Mem_init_13 : decode b_Mem_init 13 = .ok (.aload_n 0, 1) := by decide +kernel
theorem d_Mem_init_14 : decode b_Mem_init 14 = .ok (.bipush 40, 2) := by decide +kernel
theorem d_Mem_init_16 : decode b_Mem_init 16 = .ok (.newarray .boolean, 2) := by decide +kernel
theorem d_Mem_init_18 : decode b_Mem_init 18 = .ok (.putfield 15, 3) := by decide +kernel
theorem d_Mem_init_21 : decode b_Mem_init 21 = .ok (.aload_n 0, 1) := by decide +kernel
theorem d_Mem_init_22 : decode b_Mem_init 22 = .ok (.iconst (-1), 1) := by decide +kernel
theorem d_Mem_init_23 : decode b_Mem_init 23 = .ok (.putfield 19, 3) := by decide +kernel
theorem d_Mem_init_26 : decode b_Mem_init 26 = .ok (.return_, 1) := by decide +kernel
theorem d_Mem_freePage_0 : decode b_Mem_freePage 0 = .ok (.aload_n 0, 1) := by decide +kernel
theorem d_Mem_freePage_1 : decode b_Mem_freePage 1 = .ok (.getfield 15, 3) := by decide +kernel
theorem d_Mem_freePage_4 : decode b_Mem_freePage 4 = .ok (.iload_n 1, 1) := by decide +kernel
theorem d_Mem_freePage_5 : decode b_Mem_freePage 5 = .ok (.iconst 0, 1) := by decide +kernel
theorem d_Mem_freePage_6 : decode b_Mem_freePage 6 = .ok (.bastore, 1) := by decide +kernel
theorem d_Mem_freePage_7 : decode b_Mem_freePage 7 = .ok (.aload_n 0, 1) := by decide +kernel
theorem d_Mem_freePage_8 : decode b_Mem_freePage 8 = .ok (.iload_n 1, 1) := by decide +kernel
theorem d_Mem_freePage_9 : decode b_Mem_freePage 9 = .ok (.iconst 0, 1) := by decide +kernel
theorem d_Mem_freePage_10 : decode b_Mem_freePage 10 = .ok (.invokevirtual 63, 3) := by decide +kernel
theorem d_Mem_freePage_13 : decode b_Mem_freePage 13 = .ok (.return_, 1) := by decide +kernel
theorem d_Mem_writeWord_0 : decode b_Mem_writeWord 0 = .ok (.iload_n 1, 1) := by decide +kernel
theorem d_Mem_writeWord_1 : decode b_Mem_writeWord 1 = .ok (.iconst 5, 1) := by decide +kernel
theorem d_Mem_writeWord_2 : decode b_Mem_writeWord 2 = .ok (.idiv, 1) := by decide +kernel
theorem d_Mem_writeWord_3 : decode b_Mem_writeWord 3 = .ok (.istore_n 3, 1) := by decide +kernel
theorem d_Mem_writeWord_4 : decode b_Mem_writeWord 4 = .ok (.iload_n 3, 1) := by decide +kernel
theorem d_Mem_writeWord_5 : decode b_Mem_writeWord 5 = .ok (.bipush 6, 2) := by decide +kernel
theorem d_Mem_writeWord_7 : decode b_Mem_writeWord 7 = .ok (.irem, 1) := by decide +kernel
theorem d_Mem_writeWord_8 : decode b_Mem_writeWord 8 = .ok (.istore 4, 2) := by decide +kernel
theorem d_Mem_writeWord_10 : decode b_Mem_writeWord 10 = .ok (.iload_n 1, 1) := by decide +kernel
theorem d_Mem_writeWord_11 : decode b_Mem_writeWord 11 = .ok (.iconst 5, 1) := by decide +kernel
theorem d_Mem_writeWord_12 : decode b_Mem_writeWord 12 = .ok (.irem, 1) := by decide +kernel
theorem d_Mem_writeWord_13 : decode b_Mem_writeWord 13 = .ok (.istore 5, 2) := by decide +kernel
theorem d_Mem_writeWord_15 : decode b_Mem_writeWord 15 = .ok (.iload 5, 2) := by decide +kernel
theorem d_Mem_writeWord_17 : decode b_Mem_writeWord 17 = .ok (.iload 4, 2) := by decide +kernel
theorem d_Mem_writeWord_19 : decode b_Mem_writeWord 19 = .ok (.if_icmp .ge 8, 3) := by decide +kernel
theorem d_Mem_writeWord_22 : decode b_Mem_writeWord 22 = .ok (.iload 5, 2) := by decide +kernel
theorem d_Mem_writeWord_24 : decode b_Mem_writeWord 24 = .ok (.goto 7, 3) := by decide +kernel
theorem d_Mem_writeWord_27 : decode b_Mem_writeWord 27 = .ok (.iload 5, 2) := by decide +kernel
theorem d_Mem_writeWord_29 : decode b_Mem_writeWord 29 = .ok (.iconst 1, 1) := by decide +kernel
theorem d_Mem_writeWord_30 : decode b_Mem_writeWord 30 = .ok (.iadd, 1) := by decide +kernel
theorem d_Mem_writeWord_31 : decode b_Mem_writeWord 31 = .ok (.istore 6, 2) := by decide +kernel
theorem d_Mem_writeWord_33 : decode b_Mem_writeWord 33 = .ok (.iload_n 3, 1) := by decide +kernel
theorem d_Mem_writeWord_34 : decode b_Mem_writeWord 34 = .ok (.bipush 16, 2) := by decide +kernel
theorem d_Mem_writeWord_36 : decode b_Mem_writeWord 36 = .ok (.imul, 1) := by decide +kernel
theorem d_Mem_writeWord_37 : decode b_Mem_writeWord 37 = .ok (.iload_n 2, 1) := by decide +kernel
theorem d_Mem_writeWord_38 : decode b_Mem_writeWord 38 = .ok (.iadd, 1) := by decide +kernel
theorem d_Mem_writeWord_39 : decode b_Mem_writeWord 39 = .ok (.istore 7, 2) := by decide +kernel
theorem d_Mem_writeWord_41 : decode b_Mem_writeWord 41 = .ok (.aload_n 0, 1) := by decide +kernel
theorem d_Mem_writeWord_42 : decode b_Mem_writeWord 42 = .ok (.getfield 9, 3) := by decide +kernel
theorem d_Mem_writeWord_45 : decode b_Mem_writeWord 45 = .ok (.iload 6, 2) := by decide +kernel
theorem d_Mem_writeWord_47 : decode b_Mem_writeWord 47 = .ok (.sipush 128, 3) := by decide +kernel
theorem d_Mem_writeWord_50 : decode b_Mem_writeWord 50 = .ok (.imul, 1) := by decide +kernel
theorem d_Mem_writeWord_51 : decode b_Mem_writeWord 51 = .ok (.iload 7, 2) := by decide +kernel
theorem d_Mem_writeWord_53 : decode b_Mem_writeWord 53 = .ok (.iadd, 1) := by decide +kernel
theorem d_Mem_writeWord_54 : decode b_Mem_writeWord 54 = .ok (.lconst 0, 1) := by decide +kernel
theorem d_Mem_writeWord_55 : decode b_Mem_writeWord 55 = .ok (.lastore, 1) := by decide +kernel
theorem d_Mem_writeWord_56 : decode b_Mem_writeWord 56 = .ok (.aload_n 0, 1) := by decide +kernel
theorem d_Mem_writeWord_57 : decode b_Mem_writeWord 57 = .ok (.getfield 9, 3) := by decide +kernel
theorem d_Mem_writeWord_60 : decode b_Mem_writeWord 60 = .ok (.iload 4, 2) := by decide +kernel
theorem d_Mem_writeWord_62 : decode b_Mem_writeWord 62 = .ok (.sipush 128, 3) := by decide +kernel
theorem d_Mem_writeWord_65 : decode b_Mem_writeWord 65 = .ok (.imul, 1) := by decide +kernel
theorem d_Mem_writeWord_66 : decode b_Mem_writeWord 66 = .ok (.iload 7, 2) := by decide +kernel
theorem d_Mem_writeWord_68 : decode b_Mem_writeWord 68 = .ok (.iadd, 1) := by decide +kernel
theorem d_Mem_writeWord_69 : decode b_Mem_writeWord 69 = .ok (.lconst 0, 1) := by decide +kernel
theorem d_Mem_writeWord_70 : decode b_Mem_writeWord 70 = .ok (.lastore, 1) := by decide +kernel
theorem d_Mem_writeWord_71 : decode b_Mem_writeWord 71 = .ok (.return_, 1) := by decide +kernel
theorem d_Mem_openLeastPage_0 : decode b_Mem_openLeastPage 0 = .ok (.iconst 0, 1) := by decide +kernel
theorem d_Mem_openLeastPage_1 : decode b_Mem_openLeastPage 1 = .ok (.istore_n 1, 1) := by decide +kernel
theorem d_Mem_openLeastPage_2 : decode b_Mem_openLeastPage 2 = .ok (.iload_n 1, 1) := by decide +kernel
theorem d_Mem_openLeastPage_3 : decode b_Mem_openLeastPage 3 = .ok (.bipush 39, 2) := by decide +kernel
theorem d_Mem_openLeastPage_5 : decode b_Mem_openLeastPage 5 = .ok (.if_icmp .ge 18, 3) := by decide +kernel
theorem d_Mem_openLeastPage_8 : decode b_Mem_openLeastPage 8 = .ok (.aload_n 0, 1) := by decide +kernel
theorem d_Mem_openLeastPage_9 : decode b_Mem_openLeastPage 9 = .ok (.getfield 15, 3) := by decide +kernel
theorem d_Mem_openLeastPage_12 : decode b_Mem_openLeastPage 12 = .ok (.iload_n 1, 1) := by decide +kernel
theorem d_Mem_openLeastPage_13 : decode b_Mem_openLeastPage 13 = .ok (.baload, 1) := by decide +kernel
theorem d_Mem_openLeastPage_14 : decode b_Mem_openLeastPage 14 = .ok (.ifCond .eq 9, 3) := by decide +kernel
theorem d_Mem_openLeastPage_17 : decode b_Mem_openLeastPage 17 = .ok (.iinc 1 1, 3) := by decide +kernel
theorem d_Mem_openLeastPage_20 : decode b_Mem_openLeastPage 20 = .ok (.goto (-18), 3) := by decide +kernel
theorem d_Mem_openLeastPage_23 : decode b_Mem_openLeastPage 23 = .ok (.aload_n 0, 1) := by decide +kernel
theorem d_Mem_openLeastPage_24 : decode b_Mem_openLeastPage 24 = .ok (.getfield 15, 3) := by decide +kernel
theorem d_Mem_openLeastPage_27 : decode b_Mem_openLeastPage 27 = .ok (.iload_n 1, 1) := by decide +kernel
theorem d_Mem_openLeastPage_28 : decode b_Mem_openLeastPage 28 = .ok (.iconst 1, 1) := by decide +kernel
theorem d_Mem_openLeastPage_29 : decode b_Mem_openLeastPage 29 = .ok (.bastore, 1) := by decide +kernel
theorem d_Mem_openLeastPage_30 : decode b_Mem_openLeastPage 30 = .ok (.iconst 0, 1) := by decide +kernel
theorem d_Mem_openLeastPage_31 : decode b_Mem_openLeastPage 31 = .ok (.istore_n 2, 1) := by decide +kernel
theorem d_Mem_openLeastPage_32 : decode b_Mem_openLeastPage 32 = .ok (.iload_n 2, 1) := by decide +kernel
theorem d_Mem_openLeastPage_33 : decode b_Mem_openLeastPage 33 = .ok (.bipush 16, 2) := by decide +kernel
theorem d_Mem_openLeastPage_35 : decode b_Mem_openLeastPage 35 = .ok (.if_icmp .ge 15, 3) := by decide +kernel
theorem d_Mem_openLeastPage_38 : decode b_Mem_openLeastPage 38 = .ok (.aload_n 0, 1) := by decide +kernel
theorem d_Mem_openLeastPage_39 : decode b_Mem_openLeastPage 39 = .ok (.iload_n 1, 1) := by decide +kernel
theorem d_Mem_openLeastPage_40 : decode b_Mem_openLeastPage 40 = .ok (.iload_n 2, 1) := by decide +kernel
theorem d_Mem_openLeastPage_41 : decode b_Mem_openLeastPage 41 = .ok (.invokevirtual 63, 3) := by decide +kernel
theorem d_Mem_openLeastPage_44 : decode b_Mem_openLeastPage 44 = .ok (.iinc 2 1, 3) := by decide +kernel
theorem d_Mem_openLeastPage_47 : decode b_Mem_openLeastPage 47 = .ok (.goto (-15), 3) := by decide +kernel
theorem d_Mem_openLeastPage_50 : decode b_Mem_openLeastPage 50 = .ok (.iload_n 1, 1) := by decide +kernel
theorem d_Mem_openLeastPage_51 : decode b_Mem_openLeastPage 51 = .ok (.ireturn, 1) := by decide +kernel
theorem d_Mem_rebuildRow_0 : decode b_Mem_rebuildRow 0 = .ok (.aload_n 0, 1) := by decide +kernel
theorem d_Mem_rebuildRow_1 : decode b_Mem_rebuildRow 1 = .ok (.getfield 19, 3) := by decide +kernel
theorem d_Mem_rebuildRow_4 : decode b_Mem_rebuildRow 4 = .ok (.iconst (-1), 1) := by decide +kernel
theorem d_Mem_rebuildRow_5 : decode b_Mem_rebuildRow 5 = .ok (.if_icmp .eq 10, 3) := by decide +kernel
theorem d_Mem_rebuildRow_8 : decode b_Mem_rebuildRow 8 = .ok (.aload_n 0, 1) := by decide +kernel
theorem d_Mem_rebuildRow_9 : decode b_Mem_rebuildRow 9 = .ok (.getfield 43, 3) := by decide +kernel
theorem d_Mem_rebuildRow_12 : decode b_Mem_rebuildRow 12 = .ok (.ifCond .eq 4, 3) := by decide +kernel
theorem d_Mem_rebuildRow_15 : decode b_Mem_rebuildRow 15 = .ok (.return_, 1) := by decide +kernel
theorem d_Mem_rebuildRow_16 : decode b_Mem_rebuildRow 16 = .ok (.aload_n 0, 1) := by decide +kernel
theorem d_Mem_rebuildRow_17 : decode b_Mem_rebuildRow 17 = .ok (.dup, 1) := by decide +kernel
theorem d_Mem_rebuildRow_18 : decode b_Mem_rebuildRow 18 = .ok (.getfield 47, 3) := by decide +kernel
theorem d_Mem_rebuildRow_21 : decode b_Mem_rebuildRow 21 = .ok (.iconst 1, 1) := by decide +kernel
theorem d_Mem_rebuildRow_22 : decode b_Mem_rebuildRow 22 = .ok (.iadd, 1) := by decide +kernel
theorem d_Mem_rebuildRow_23 : decode b_Mem_rebuildRow 23 = .ok (.putfield 47, 3) := by decide +kernel
theorem d_Mem_rebuildRow_26 : decode b_Mem_rebuildRow 26 = .ok (.aload_n 0, 1) := by decide +kernel
theorem d_Mem_rebuildRow_27 : decode b_Mem_rebuildRow 27 = .ok (.getfield 47, 3) := by decide +kernel
theorem d_Mem_rebuildRow_30 : decode b_Mem_rebuildRow 30 = .ok (.bipush 8, 2) := by decide +kernel
theorem d_Mem_rebuildRow_32 : decode b_Mem_rebuildRow 32 = .ok (.if_icmp .ne 8, 3) := by decide +kernel
theorem d_Mem_rebuildRow_35 : decode b_Mem_rebuildRow 35 = .ok (.aload_n 0, 1) := by decide +kernel
theorem d_Mem_rebuildRow_36 : decode b_Mem_rebuildRow 36 = .ok (.iconst (-1), 1) := by decide +kernel
theorem d_Mem_rebuildRow_37 : decode b_Mem_rebuildRow 37 = .ok (.putfield 19, 3) := by decide +kernel
theorem d_Mem_rebuildRow_40 : decode b_Mem_rebuildRow 40 = .ok (.return_, 1) := by decide +kernel
theorem d_Mem_scrub_0 : decode b_Mem_scrub 0 = .ok (.aload_n 0, 1) := by decide +kernel
theorem d_Mem_scrub_1 : decode b_Mem_scrub 1 = .ok (.getfield 50, 3) := by decide +kernel
theorem d_Mem_scrub_4 : decode b_Mem_scrub 4 = .ok (.aload_n 0, 1) := by decide +kernel
theorem d_Mem_scrub_5 : decode b_Mem_scrub 5 = .ok (.getfield 53, 3) := by decide +kernel
theorem d_Mem_scrub_8 : decode b_Mem_scrub 8 = .ok (.iadd, 1) := by decide +kernel
theorem d_Mem_scrub_9 : decode b_Mem_scrub 9 = .ok (.istore_n 2, 1) := by decide +kernel
theorem d_Mem_scrub_10 : decode b_Mem_scrub 10 = .ok (.iconst 0, 1) := by decide +kernel
theorem d_Mem_scrub_11 : decode b_Mem_scrub 11 = .ok (.istore_n 3, 1) := by decide +kernel
theorem d_Mem_scrub_12 : decode b_Mem_scrub 12 = .ok (.iload_n 3, 1) := by decide +kernel
theorem d_Mem_scrub_13 : decode b_Mem_scrub 13 = .ok (.iload_n 1, 1) := by decide +kernel
theorem d_Mem_scrub_14 : decode b_Mem_scrub 14 = .ok (.if_icmp .ge 31, 3) := by decide +kernel
theorem d_Mem_scrub_17 : decode b_Mem_scrub 17 = .ok (.aload_n 0, 1) := by decide +kernel
theorem d_Mem_scrub_18 : decode b_Mem_scrub 18 = .ok (.aload_n 0, 1) := by decide +kernel
theorem d_Mem_scrub_19 : decode b_Mem_scrub 19 = .ok (.getfield 56, 3) := by decide +kernel
theorem d_Mem_scrub_22 : decode b_Mem_scrub 22 = .ok (.invokevirtual 59, 3) := by decide +kernel
theorem d_Mem_scrub_25 : decode b_Mem_scrub 25 = .ok (.aload_n 0, 1) := by decide +kernel
theorem d_Mem_scrub_26 : decode b_Mem_scrub 26 = .ok (.aload_n 0, 1) := by decide +kernel
theorem d_Mem_scrub_27 : decode b_Mem_scrub 27 = .ok (.getfield 56, 3) := by decide +kernel
theorem d_Mem_scrub_30 : decode b_Mem_scrub 30 = .ok (.iconst 1, 1) := by decide +kernel
theorem d_Mem_scrub_31 : decode b_Mem_scrub 31 = .ok (.iadd, 1) := by decide +kernel
theorem d_Mem_scrub_32 : decode b_Mem_scrub 32 = .ok (.sipush 768, 3) := by decide +kernel
theorem d_Mem_scrub_35 : decode b_Mem_scrub 35 = .ok (.irem, 1) := by decide +kernel
theorem d_Mem_scrub_36 : decode b_Mem_scrub 36 = .ok (.putfield 56, 3) := by decide +kernel
theorem d_Mem_scrub_39 : decode b_Mem_scrub 39 = .ok (.iinc 3 1, 3) := by decide +kernel
theorem d_Mem_scrub_42 : decode b_Mem_scrub 42 = .ok (.goto (-30), 3) := by decide +kernel
theorem d_Mem_scrub_45 : decode b_Mem_scrub 45 = .ok (.aload_n 0, 1) := by decide +kernel
theorem d_Mem_scrub_46 : decode b_Mem_scrub 46 = .ok (.getfield 50, 3) := by decide +kernel
theorem d_Mem_scrub_49 : decode b_Mem_scrub 49 = .ok (.aload_n 0, 1) := by decide +kernel
theorem d_Mem_scrub_50 : decode b_Mem_scrub 50 = .ok (.getfield 53, 3) := by decide +kernel
theorem d_Mem_scrub_53 : decode b_Mem_scrub 53 = .ok (.iadd, 1) := by decide +kernel
theorem d_Mem_scrub_54 : decode b_Mem_scrub 54 = .ok (.iload_n 2, 1) := by decide +kernel
theorem d_Mem_scrub_55 : decode b_Mem_scrub 55 = .ok (.isub, 1) := by decide +kernel
theorem d_Mem_scrub_56 : decode b_Mem_scrub 56 = .ok (.ireturn, 1) := by decide +kernel
theorem d_Mem_scrubWord_0 : decode b_Mem_scrubWord 0 = .ok (.aload_n 0, 1) := by decide +kernel
theorem d_Mem_scrubWord_1 : decode b_Mem_scrubWord 1 = .ok (.getfield 9, 3) := by decide +kernel
theorem d_Mem_scrubWord_4 : decode b_Mem_scrubWord 4 = .ok (.iload_n 1, 1) := by decide +kernel
theorem d_Mem_scrubWord_5 : decode b_Mem_scrubWord 5 = .ok (.laload, 1) := by decide +kernel
theorem d_Mem_scrubWord_6 : decode b_Mem_scrubWord 6 = .ok (.invokestatic 31, 3) := by decide +kernel
theorem d_Mem_scrubWord_9 : decode b_Mem_scrubWord 9 = .ok (.istore_n 2, 1) := by decide +kernel
theorem d_Mem_scrubWord_10 : decode b_Mem_scrubWord 10 = .ok (.iload_n 2, 1) := by decide +kernel
theorem d_Mem_scrubWord_11 : decode b_Mem_scrubWord 11 = .ok (.iconst 1, 1) := by decide +kernel
theorem d_Mem_scrubWord_12 : decode b_Mem_scrubWord 12 = .ok (.if_icmp .ne 16, 3) := by decide +kernel
theorem d_Mem_scrubWord_15 : decode b_Mem_scrubWord 15 = .ok (.aload_n 0, 1) := by decide +kernel
theorem d_Mem_scrubWord_16 : decode b_Mem_scrubWord 16 = .ok (.dup, 1) := by decide +kernel
theorem d_Mem_scrubWord_17 : decode b_Mem_scrubWord 17 = .ok (.getfield 50, 3) := by decide +kernel
theorem d_Mem_scrubWord_20 : decode b_Mem_scrubWord 20 = .ok (.iconst 1, 1) := by decide +kernel
theorem d_Mem_scrubWord_21 : decode b_Mem_scrubWord 21 = .ok (.iadd, 1) := by decide +kernel
theorem d_Mem_scrubWord_22 : decode b_Mem_scrubWord 22 = .ok (.putfield 50, 3) := by decide +kernel
theorem d_Mem_scrubWord_25 : decode b_Mem_scrubWord 25 = .ok (.goto 18, 3) := by decide +kernel
theorem d_Mem_scrubWord_28 : decode b_Mem_scrubWord 28 = .ok (.iload_n 2, 1) := by decide +kernel
theorem d_Mem_scrubWord_29 : decode b_Mem_scrubWord 29 = .ok (.iconst 2, 1) := by decide +kernel
theorem d_Mem_scrubWord_30 : decode b_Mem_scrubWord 30 = .ok (.if_icmp .ne 13, 3) := by decide +kernel
theorem d_Mem_scrubWord_33 : decode b_Mem_scrubWord 33 = .ok (.aload_n 0, 1) := by decide +kernel
theorem d_Mem_scrubWord_34 : decode b_Mem_scrubWord 34 = .ok (.dup, 1) := by decide +kernel
theorem d_Mem_scrubWord_35 : decode b_Mem_scrubWord 35 = .ok (.getfield 53, 3) := by decide +kernel
theorem d_Mem_scrubWord_38 : decode b_Mem_scrubWord 38 = .ok (.iconst 1, 1) := by decide +kernel
theorem d_Mem_scrubWord_39 : decode b_Mem_scrubWord 39 = .ok (.iadd, 1) := by decide +kernel
theorem d_Mem_scrubWord_40 : decode b_Mem_scrubWord 40 = .ok (.putfield 53, 3) := by decide +kernel
theorem d_Mem_scrubWord_43 : decode b_Mem_scrubWord 43 = .ok (.aload_n 0, 1) := by decide +kernel
theorem d_Mem_scrubWord_44 : decode b_Mem_scrubWord 44 = .ok (.getfield 9, 3) := by decide +kernel
theorem d_Mem_scrubWord_47 : decode b_Mem_scrubWord 47 = .ok (.iload_n 1, 1) := by decide +kernel
theorem d_Mem_scrubWord_48 : decode b_Mem_scrubWord 48 = .ok (.lconst 0, 1) := by decide +kernel
theorem d_Mem_scrubWord_49 : decode b_Mem_scrubWord 49 = .ok (.lastore, 1) := by decide +kernel
theorem d_Mem_scrubWord_50 : decode b_Mem_scrubWord 50 = .ok (.return_, 1) := by decide +kernel
theorem d_Mem_flipBit_0 : decode b_Mem_flipBit 0 = .ok (.iload_n 1, 1) := by decide +kernel
theorem d_Mem_flipBit_1 : decode b_Mem_flipBit 1 = .ok (.invokestatic 23, 3) := by decide +kernel
theorem d_Mem_flipBit_4 : decode b_Mem_flipBit 4 = .ok (.ifCond .eq 14, 3) := by decide +kernel
theorem d_Mem_flipBit_7 : decode b_Mem_flipBit 7 = .ok (.iload_n 2, 1) := by decide +kernel
theorem d_Mem_flipBit_8 : decode b_Mem_flipBit 8 = .ok (.ifCond .lt 10, 3) := by decide +kernel
theorem d_Mem_flipBit_11 : decode b_Mem_flipBit 11 = .ok (.iload_n 2, 1) := by decide +kernel
theorem d_Mem_flipBit_12 : decode b_Mem_flipBit 12 = .ok (.sipush 128, 3) := by decide +kernel
theorem d_Mem_flipBit_15 : decode b_Mem_flipBit 15 = .ok (.if_icmp .lt 5, 3) := by decide +kernel
theorem d_Mem_flipBit_18 : decode b_Mem_flipBit 18 = .ok (.iconst 0, 1) := by decide +kernel
theorem d_Mem_flipBit_19 : decode b_Mem_flipBit 19 = .ok (.ireturn, 1) := by decide +kernel
theorem d_Mem_flipBit_20 : decode b_Mem_flipBit 20 = .ok (.iload_n 3, 1) := by decide +kernel
theorem d_Mem_flipBit_21 : decode b_Mem_flipBit 21 = .ok (.ifCond .lt 18, 3) := by decide +kernel
theorem d_Mem_flipBit_24 : decode b_Mem_flipBit 24 = .ok (.iload_n 3, 1) := by decide +kernel
theorem d_Mem_flipBit_25 : decode b_Mem_flipBit 25 = .ok (.bipush 39, 2) := by decide +kernel
theorem d_Mem_flipBit_27 : decode b_Mem_flipBit 27 = .ok (.if_icmp .ge 12, 3) := by decide +kernel
theorem d_Mem_flipBit_30 : decode b_Mem_flipBit 30 = .ok (.aload_n 0, 1) := by decide +kernel
theorem d_Mem_flipBit_31 : decode b_Mem_flipBit 31 = .ok (.iload_n 1, 1) := by decide +kernel
theorem d_Mem_flipBit_32 : decode b_Mem_flipBit 32 = .ok (.iload_n 2, 1) := by decide +kernel
theorem d_Mem_flipBit_33 : decode b_Mem_flipBit 33 = .ok (.invokevirtual 27, 3) := by decide +kernel
theorem d_Mem_flipBit_36 : decode b_Mem_flipBit 36 = .ok (.ifCond .eq 5, 3) := by decide +kernel
theorem d_Mem_flipBit_39 : decode b_Mem_flipBit 39 = .ok (.iconst 0, 1) := by decide +kernel
theorem d_Mem_flipBit_40 : decode b_Mem_flipBit 40 = .ok (.ireturn, 1) := by decide +kernel
theorem d_Mem_flipBit_41 : decode b_Mem_flipBit 41 = .ok (.iload_n 1, 1) := by decide +kernel
theorem d_Mem_flipBit_42 : decode b_Mem_flipBit 42 = .ok (.sipush 128, 3) := by decide +kernel
theorem d_Mem_flipBit_45 : decode b_Mem_flipBit 45 = .ok (.imul, 1) := by decide +kernel
theorem d_Mem_flipBit_46 : decode b_Mem_flipBit 46 = .ok (.iload_n 2, 1) := by decide +kernel
theorem d_Mem_flipBit_47 : decode b_Mem_flipBit 47 = .ok (.iadd, 1) := by decide +kernel
theorem d_Mem_flipBit_48 : decode b_Mem_flipBit 48 = .ok (.istore 4, 2) := by decide +kernel
theorem d_Mem_flipBit_50 : decode b_Mem_flipBit 50 = .ok (.aload_n 0, 1) := by decide +kernel
theorem d_Mem_flipBit_51 : decode b_Mem_flipBit 51 = .ok (.getfield 9, 3) := by decide +kernel
theorem d_Mem_flipBit_54 : decode b_Mem_flipBit 54 = .ok (.iload 4, 2) := by decide +kernel
theorem d_Mem_flipBit_56 : decode b_Mem_flipBit 56 = .ok (.laload, 1) := by decide +kernel
theorem d_Mem_flipBit_57 : decode b_Mem_flipBit 57 = .ok (.lconst 1, 1) := by decide +kernel
theorem d_Mem_flipBit_58 : decode b_Mem_flipBit 58 = .ok (.iload_n 3, 1) := by decide +kernel
theorem d_Mem_flipBit_59 : decode b_Mem_flipBit 59 = .ok (.lshl, 1) := by decide +kernel
theorem d_Mem_flipBit_60 : decode b_Mem_flipBit 60 = .ok (.lxor, 1) := by decide +kernel
theorem d_Mem_flipBit_61 : decode b_Mem_flipBit 61 = .ok (.lstore 5, 2) := by decide +kernel
theorem d_Mem_flipBit_63 : decode b_Mem_flipBit 63 = .ok (.lload 5, 2) := by decide +kernel
theorem d_Mem_flipBit_65 : decode b_Mem_flipBit 65 = .ok (.invokestatic 31, 3) := by decide +kernel
theorem d_Mem_flipBit_68 : decode b_Mem_flipBit 68 = .ok (.istore 7, 2) := by decide +kernel
theorem d_Mem_flipBit_70 : decode b_Mem_flipBit 70 = .ok (.iload 7, 2) := by decide +kernel
theorem d_Mem_flipBit_72 : decode b_Mem_flipBit 72 = .ok (.iconst 2, 1) := by decide +kernel
theorem d_Mem_flipBit_73 : decode b_Mem_flipBit 73 = .ok (.if_icmp .gt 18, 3) := by decide +kernel
theorem d_Mem_flipBit_76 : decode b_Mem_flipBit 76 = .ok (.iload 7, 2) := by decide +kernel
theorem d_Mem_flipBit_78 : decode b_Mem_flipBit 78 = .ok (.iconst 2, 1) := by decide +kernel
theorem d_Mem_flipBit_79 : decode b_Mem_flipBit 79 = .ok (.if_icmp .ne 14, 3) := by decide +kernel
theorem d_Mem_flipBit_82 : decode b_Mem_flipBit 82 = .ok (.aload_n 0, 1) := by decide +kernel
theorem d_Mem_flipBit_83 : decode b_Mem_flipBit 83 = .ok (.iload_n 1, 1) := by decide +kernel
theorem d_Mem_flipBit_84 : decode b_Mem_flipBit 84 = .ok (.iload_n 2, 1) := by decide +kernel
theorem d_Mem_flipBit_85 : decode b_Mem_flipBit 85 = .ok (.invokevirtual 37, 3) := by decide +kernel
theorem d_Mem_flipBit_88 : decode b_Mem_flipBit 88 = .ok (.ifCond .ne 5, 3) := by decide +kernel
theorem d_Mem_flipBit_91 : decode b_Mem_flipBit 91 = .ok (.iconst 0, 1) := by decide +kernel
theorem d_Mem_flipBit_92 : decode b_Mem_flipBit 92 = .ok (.ireturn, 1) := by decide +kernel
theorem d_Mem_flipBit_93 : decode b_Mem_flipBit 93 = .ok (.aload_n 0, 1) := by decide +kernel
theorem d_Mem_flipBit_94 : decode b_Mem_flipBit 94 = .ok (.getfield 9, 3) := by decide +kernel
theorem d_Mem_flipBit_97 : decode b_Mem_flipBit 97 = .ok (.iload 4, 2) := by decide +kernel
theorem d_Mem_flipBit_99 : decode b_Mem_flipBit 99 = .ok (.lload 5, 2) := by decide +kernel
theorem d_Mem_flipBit_101 : decode b_Mem_flipBit 101 = .ok (.lastore, 1) := by decide +kernel
theorem d_Mem_flipBit_102 : decode b_Mem_flipBit 102 = .ok (.iconst 1, 1) := by decide +kernel
theorem d_Mem_flipBit_103 : decode b_Mem_flipBit 103 = .ok (.ireturn, 1) := by decide +kernel
theorem d_Mem_isModule_0 : decode b_Mem_isModule 0 = .ok (.iload_n 0, 1) := by decide +kernel
theorem d_Mem_isModule_1 : decode b_Mem_isModule 1 = .ok (.ifCond .lt 13, 3) := by decide +kernel
theorem d_Mem_isModule_4 : decode b_Mem_isModule 4 = .ok (.iload_n 0, 1) := by decide +kernel
theorem d_Mem_isModule_5 : decode b_Mem_isModule 5 = .ok (.bipush 6, 2) := by decide +kernel
theorem d_Mem_isModule_7 : decode b_Mem_isModule 7 = .ok (.if_icmp .ge 7, 3) := by decide +kernel
theorem d_Mem_isModule_10 : decode b_Mem_isModule 10 = .ok (.iconst 1, 1) := by decide +kernel
theorem d_Mem_isModule_11 : decode b_Mem_isModule 11 = .ok (.goto 4, 3) := by decide +kernel
theorem d_Mem_isModule_14 : decode b_Mem_isModule 14 = .ok (.iconst 0, 1) := by decide +kernel
theorem d_Mem_isModule_15 : decode b_Mem_isModule 15 = .ok (.ireturn, 1) := by decide +kernel
theorem d_Mem_isMissing_0 : decode b_Mem_isMissing 0 = .ok (.iload_n 1, 1) := by decide +kernel
theorem d_Mem_isMissing_1 : decode b_Mem_isMissing 1 = .ok (.aload_n 0, 1) := by decide +kernel
theorem d_Mem_isMissing_2 : decode b_Mem_isMissing 2 = .ok (.getfield 19, 3) := by decide +kernel
theorem d_Mem_isMissing_5 : decode b_Mem_isMissing 5 = .ok (.if_icmp .ne 18, 3) := by decide +kernel
theorem d_Mem_isMissing_8 : decode b_Mem_isMissing 8 = .ok (.iload_n 2, 1) := by decide +kernel
theorem d_Mem_isMissing_9 : decode b_Mem_isMissing 9 = .ok (.bipush 16, 2) := by decide +kernel
theorem d_Mem_isMissing_11 : decode b_Mem_isMissing 11 = .ok (.idiv, 1) := by decide +kernel
theorem d_Mem_isMissing_12 : decode b_Mem_isMissing 12 = .ok (.aload_n 0, 1) := by decide +kernel
theorem d_Mem_isMissing_13 : decode b_Mem_isMissing 13 = .ok (.getfield 47, 3) := by decide +kernel
theorem d_Mem_isMissing_16 : decode b_Mem_isMissing 16 = .ok (.if_icmp .lt 7, 3) := by decide +kernel
theorem d_Mem_isMissing_19 : decode b_Mem_isMissing 19 = .ok (.iconst 1, 1) := by decide +kernel
theorem d_Mem_isMissing_20 : decode b_Mem_isMissing 20 = .ok (.goto 4, 3) := by decide +kernel
theorem d_Mem_isMissing_23 : decode b_Mem_isMissing 23 = .ok (.iconst 0, 1) := by decide +kernel
theorem d_Mem_isMissing_24 : decode b_Mem_isMissing 24 = .ok (.ireturn, 1) := by decide +kernel
theorem d_Mem_othersCanMend_0 : decode b_Mem_othersCanMend 0 = .ok (.iconst 0, 1) := by decide +kernel
theorem d_Mem_othersCanMend_1 : decode b_Mem_othersCanMend 1 = .ok (.istore_n 3, 1) := by decide +kernel
theorem d_Mem_othersCanMend_2 : decode b_Mem_othersCanMend 2 = .ok (.iload_n 3, 1) := by decide +kernel
theorem d_Mem_othersCanMend_3 : decode b_Mem_othersCanMend 3 = .ok (.bipush 6, 2) := by decide +kernel
theorem d_Mem_othersCanMend_5 : decode b_Mem_othersCanMend 5 = .ok (.if_icmp .ge 34, 3) := by decide +kernel
theorem d_Mem_othersCanMend_8 : decode b_Mem_othersCanMend 8 = .ok (.iload_n 3, 1) := by decide +kernel
theorem d_Mem_othersCanMend_9 : decode b_Mem_othersCanMend 9 = .ok (.iload_n 1, 1) := by decide +kernel
theorem d_Mem_othersCanMend_10 : decode b_Mem_othersCanMend 10 = .ok (.if_icmp .eq 23, 3) := by decide +kernel
theorem d_Mem_othersCanMend_13 : decode b_Mem_othersCanMend 13 = .ok (.aload_n 0, 1) := by decide +kernel
theorem d_Mem_othersCanMend_14 : decode b_Mem_othersCanMend 14 = .ok (.iload_n 3, 1) := by decide +kernel
theorem d_Mem_othersCanMend_15 : decode b_Mem_othersCanMend 15 = .ok (.iload_n 2, 1) := by decide +kernel
theorem d_Mem_othersCanMend_16 : decode b_Mem_othersCanMend 16 = .ok (.invokevirtual 27, 3) := by decide +kernel
theorem d_Mem_othersCanMend_19 : decode b_Mem_othersCanMend 19 = .ok (.ifCond .ne 12, 3) := by decide +kernel
theorem d_Mem_othersCanMend_22 : decode b_Mem_othersCanMend 22 = .ok (.aload_n 0, 1) := by decide +kernel
theorem d_Mem_othersCanMend_23 : decode b_Mem_othersCanMend 23 = .ok (.iload_n 3, 1) := by decide +kernel
theorem d_Mem_othersCanMend_24 : decode b_Mem_othersCanMend 24 = .ok (.iload_n 2, 1) := by decide +kernel
theorem d_Mem_othersCanMend_25 : decode b_Mem_othersCanMend 25 = .ok (.invokevirtual 67, 3) := by decide +kernel
theorem d_Mem_othersCanMend_28 : decode b_Mem_othersCanMend 28 = .ok (.ifCond .eq 5, 3) := by decide +kernel
theorem d_Mem_othersCanMend_31 : decode b_Mem_othersCanMend 31 = .ok (.iconst 0, 1) := by decide +kernel
theorem d_Mem_othersCanMend_32 : decode b_Mem_othersCanMend 32 = .ok (.ireturn, 1) := by decide +kernel
theorem d_Mem_othersCanMend_33 : decode b_Mem_othersCanMend 33 = .ok (.iinc 3 1, 3) := by decide +kernel
theorem d_Mem_othersCanMend_36 : decode b_Mem_othersCanMend 36 = .ok (.goto (-34), 3) := by decide +kernel
theorem d_Mem_othersCanMend_39 : decode b_Mem_othersCanMend 39 = .ok (.iconst 1, 1) := by decide +kernel
theorem d_Mem_othersCanMend_40 : decode b_Mem_othersCanMend 40 = .ok (.ireturn, 1) := by decide +kernel
theorem d_Mem_hasTwoFlips_0 : decode b_Mem_hasTwoFlips 0 = .ok (.aload_n 0, 1) := by decide +kernel
theorem d_Mem_hasTwoFlips_1 : decode b_Mem_hasTwoFlips 1 = .ok (.getfield 9, 3) := by decide +kernel
theorem d_Mem_hasTwoFlips_4 : decode b_Mem_hasTwoFlips 4 = .ok (.iload_n 1, 1) := by decide +kernel
theorem d_Mem_hasTwoFlips_5 : decode b_Mem_hasTwoFlips 5 = .ok (.sipush 128, 3) := by decide +kernel
theorem d_Mem_hasTwoFlips_8 : decode b_Mem_hasTwoFlips 8 = .ok (.imul, 1) := by decide +kernel
theorem d_Mem_hasTwoFlips_9 : decode b_Mem_hasTwoFlips 9 = .ok (.iload_n 2, 1) := by decide +kernel
theorem d_Mem_hasTwoFlips_10 : decode b_Mem_hasTwoFlips 10 = .ok (.iadd, 1) := by decide +kernel
theorem d_Mem_hasTwoFlips_11 : decode b_Mem_hasTwoFlips 11 = .ok (.laload, 1) := by decide +kernel
theorem d_Mem_hasTwoFlips_12 : decode b_Mem_hasTwoFlips 12 = .ok (.invokestatic 31, 3) := by decide +kernel
theorem d_Mem_hasTwoFlips_15 : decode b_Mem_hasTwoFlips 15 = .ok (.iconst 2, 1) := by decide +kernel
theorem d_Mem_hasTwoFlips_16 : decode b_Mem_hasTwoFlips 16 = .ok (.if_icmp .ne 7, 3) := by decide +kernel
theorem d_Mem_hasTwoFlips_19 : decode b_Mem_hasTwoFlips 19 = .ok (.iconst 1, 1) := by decide +kernel
theorem d_Mem_hasTwoFlips_20 : decode b_Mem_hasTwoFlips 20 = .ok (.goto 4, 3) := by decide +kernel
theorem d_Mem_hasTwoFlips_23 : decode b_Mem_hasTwoFlips 23 = .ok (.iconst 0, 1) := by decide +kernel
theorem d_Mem_hasTwoFlips_24 : decode b_Mem_hasTwoFlips 24 = .ok (.ireturn, 1) := by decide +kernel
theorem d_Mem_switchOff_0 : decode b_Mem_switchOff 0 = .ok (.iload_n 1, 1) := by decide +kernel
theorem d_Mem_switchOff_1 : decode b_Mem_switchOff 1 = .ok (.invokestatic 23, 3) := by decide +kernel
theorem d_Mem_switchOff_4 : decode b_Mem_switchOff 4 = .ok (.ifCond .eq 19, 3) := by decide +kernel
theorem d_Mem_switchOff_7 : decode b_Mem_switchOff 7 = .ok (.aload_n 0, 1) := by decide +kernel
theorem d_Mem_switchOff_8 : decode b_Mem_switchOff 8 = .ok (.getfield 19, 3) := by decide +kernel
theorem d_Mem_switchOff_11 : decode b_Mem_switchOff 11 = .ok (.iconst (-1), 1) := by decide +kernel
theorem d_Mem_switchOff_12 : decode b_Mem_switchOff 12 = .ok (.if_icmp .ne 11, 3) := by decide +kernel
theorem d_Mem_switchOff_15 : decode b_Mem_switchOff 15 = .ok (.aload_n 0, 1) := by decide +kernel
theorem d_Mem_switchOff_16 : decode b_Mem_switchOff 16 = .ok (.iload_n 1, 1) := by decide +kernel
theorem d_Mem_switchOff_17 : decode b_Mem_switchOff 17 = .ok (.invokevirtual 40, 3) := by decide +kernel
theorem d_Mem_switchOff_20 : decode b_Mem_switchOff 20 = .ok (.ifCond .eq 5, 3) := by decide +kernel
theorem d_Mem_switchOff_23 : decode b_Mem_switchOff 23 = .ok (.iconst 0, 1) := by decide +kernel
theorem d_Mem_switchOff_24 : decode b_Mem_switchOff 24 = .ok (.ireturn, 1) := by decide +kernel
theorem d_Mem_switchOff_25 : decode b_Mem_switchOff 25 = .ok (.aload_n 0, 1) := by decide +kernel
theorem d_Mem_switchOff_26 : decode b_Mem_switchOff 26 = .ok (.iload_n 1, 1) := by decide +kernel
theorem d_Mem_switchOff_27 : decode b_Mem_switchOff 27 = .ok (.putfield 19, 3) := by decide +kernel
theorem d_Mem_switchOff_30 : decode b_Mem_switchOff 30 = .ok (.aload_n 0, 1) := by decide +kernel
theorem d_Mem_switchOff_31 : decode b_Mem_switchOff 31 = .ok (.iconst 1, 1) := by decide +kernel
theorem d_Mem_switchOff_32 : decode b_Mem_switchOff 32 = .ok (.putfield 43, 3) := by decide +kernel
theorem d_Mem_switchOff_35 : decode b_Mem_switchOff 35 = .ok (.aload_n 0, 1) := by decide +kernel
theorem d_Mem_switchOff_36 : decode b_Mem_switchOff 36 = .ok (.iconst 0, 1) := by decide +kernel
theorem d_Mem_switchOff_37 : decode b_Mem_switchOff 37 = .ok (.putfield 47, 3) := by decide +kernel
theorem d_Mem_switchOff_40 : decode b_Mem_switchOff 40 = .ok (.iload_n 1, 1) := by decide +kernel
theorem d_Mem_switchOff_41 : decode b_Mem_switchOff 41 = .ok (.sipush 128, 3) := by decide +kernel
theorem d_Mem_switchOff_44 : decode b_Mem_switchOff 44 = .ok (.imul, 1) := by decide +kernel
theorem d_Mem_switchOff_45 : decode b_Mem_switchOff 45 = .ok (.istore_n 2, 1) := by decide +kernel
theorem d_Mem_switchOff_46 : decode b_Mem_switchOff 46 = .ok (.iconst 0, 1) := by decide +kernel
theorem d_Mem_switchOff_47 : decode b_Mem_switchOff 47 = .ok (.istore_n 3, 1) := by decide +kernel
theorem d_Mem_switchOff_48 : decode b_Mem_switchOff 48 = .ok (.iload_n 3, 1) := by decide +kernel
theorem d_Mem_switchOff_49 : decode b_Mem_switchOff 49 = .ok (.sipush 128, 3) := by decide +kernel
theorem d_Mem_switchOff_52 : decode b_Mem_switchOff 52 = .ok (.if_icmp .ge 18, 3) := by decide +kernel
theorem d_Mem_switchOff_55 : decode b_Mem_switchOff 55 = .ok (.aload_n 0, 1) := by decide +kernel
theorem d_Mem_switchOff_56 : decode b_Mem_switchOff 56 = .ok (.getfield 9, 3) := by decide +kernel
theorem d_Mem_switchOff_59 : decode b_Mem_switchOff 59 = .ok (.iload_n 2, 1) := by decide +kernel
theorem d_Mem_switchOff_60 : decode b_Mem_switchOff 60 = .ok (.iload_n 3, 1) := by decide +kernel
theorem d_Mem_switchOff_61 : decode b_Mem_switchOff 61 = .ok (.iadd, 1) := by decide +kernel
theorem d_Mem_switchOff_62 : decode b_Mem_switchOff 62 = .ok (.lconst 0, 1) := by decide +kernel
theorem d_Mem_switchOff_63 : decode b_Mem_switchOff 63 = .ok (.lastore, 1) := by decide +kernel
theorem d_Mem_switchOff_64 : decode b_Mem_switchOff 64 = .ok (.iinc 3 1, 3) := by decide +kernel
theorem d_Mem_switchOff_67 : decode b_Mem_switchOff 67 = .ok (.goto (-19), 3) := by decide +kernel
theorem d_Mem_switchOff_70 : decode b_Mem_switchOff 70 = .ok (.iconst 1, 1) := by decide +kernel
theorem d_Mem_switchOff_71 : decode b_Mem_switchOff 71 = .ok (.ireturn, 1) := by decide +kernel
theorem d_Mem_othersHaveTwoFlips_0 : decode b_Mem_othersHaveTwoFlips 0 = .ok (.iconst 0, 1) := by decide +kernel
theorem d_Mem_othersHaveTwoFlips_1 : decode b_Mem_othersHaveTwoFlips 1 = .ok (.istore_n 2, 1) := by decide +kernel
theorem d_Mem_othersHaveTwoFlips_2 : decode b_Mem_othersHaveTwoFlips 2 = .ok (.iload_n 2, 1) := by decide +kernel
theorem d_Mem_othersHaveTwoFlips_3 : decode b_Mem_othersHaveTwoFlips 3 = .ok (.bipush 6, 2) := by decide +kernel
theorem d_Mem_othersHaveTwoFlips_5 : decode b_Mem_othersHaveTwoFlips 5 = .ok (.if_icmp .ge 40, 3) := by decide +kernel
theorem d_Mem_othersHaveTwoFlips_8 : decode b_Mem_othersHaveTwoFlips 8 = .ok (.iconst 0, 1) := by decide +kernel
theorem d_Mem_othersHaveTwoFlips_9 : decode b_Mem_othersHaveTwoFlips 9 = .ok (.istore_n 3, 1) := by decide +kernel
theorem d_Mem_othersHaveTwoFlips_10 : decode b_Mem_othersHaveTwoFlips 10 = .ok (.iload_n 3, 1) := by decide +kernel
theorem d_Mem_othersHaveTwoFlips_11 : decode b_Mem_othersHaveTwoFlips 11 = .ok (.sipush 128, 3) := by decide +kernel
theorem d_Mem_othersHaveTwoFlips_14 : decode b_Mem_othersHaveTwoFlips 14 = .ok (.if_icmp .ge 25, 3) := by decide +kernel
theorem d_Mem_othersHaveTwoFlips_17 : decode b_Mem_othersHaveTwoFlips 17 = .ok (.iload_n 2, 1) := by decide +kernel
theorem d_Mem_othersHaveTwoFlips_18 : decode b_Mem_othersHaveTwoFlips 18 = .ok (.iload_n 1, 1) := by decide +kernel
theorem d_Mem_othersHaveTwoFlips_19 : decode b_Mem_othersHaveTwoFlips 19 = .ok (.if_icmp .eq 14, 3) := by decide +kernel
theorem d_Mem_othersHaveTwoFlips_22 : decode b_Mem_othersHaveTwoFlips 22 = .ok (.aload_n 0, 1) := by decide +kernel
theorem d_Mem_othersHaveTwoFlips_23 : decode b_Mem_othersHaveTwoFlips 23 = .ok (.iload_n 2, 1) := by decide +kernel
theorem d_Mem_othersHaveTwoFlips_24 : decode b_Mem_othersHaveTwoFlips 24 = .ok (.iload_n 3, 1) := by decide +kernel
theorem d_Mem_othersHaveTwoFlips_25 : decode b_Mem_othersHaveTwoFlips 25 = .ok (.invokevirtual 67, 3) := by decide +kernel
theorem d_Mem_othersHaveTwoFlips_28 : decode b_Mem_othersHaveTwoFlips 28 = .ok (.ifCond .eq 5, 3) := by decide +kernel
theorem d_Mem_othersHaveTwoFlips_31 : decode b_Mem_othersHaveTwoFlips 31 = .ok (.iconst 1, 1) := by decide +kernel
theorem d_Mem_othersHaveTwoFlips_32 : decode b_Mem_othersHaveTwoFlips 32 = .ok (.ireturn, 1) := by decide +kernel
theorem d_Mem_othersHaveTwoFlips_33 : decode b_Mem_othersHaveTwoFlips 33 = .ok (.iinc 3 1, 3) := by decide +kernel
theorem d_Mem_othersHaveTwoFlips_36 : decode b_Mem_othersHaveTwoFlips 36 = .ok (.goto (-26), 3) := by decide +kernel
theorem d_Mem_othersHaveTwoFlips_39 : decode b_Mem_othersHaveTwoFlips 39 = .ok (.iinc 2 1, 3) := by decide +kernel
theorem d_Mem_othersHaveTwoFlips_42 : decode b_Mem_othersHaveTwoFlips 42 = .ok (.goto (-40), 3) := by decide +kernel
theorem d_Mem_othersHaveTwoFlips_45 : decode b_Mem_othersHaveTwoFlips 45 = .ok (.iconst 0, 1) := by decide +kernel
theorem d_Mem_othersHaveTwoFlips_46 : decode b_Mem_othersHaveTwoFlips 46 = .ok (.ireturn, 1) := by decide +kernel
theorem d_Mem_switchOn_0 : decode b_Mem_switchOn 0 = .ok (.iload_n 1, 1) := by decide +kernel
theorem d_Mem_switchOn_1 : decode b_Mem_switchOn 1 = .ok (.invokestatic 23, 3) := by decide +kernel
theorem d_Mem_switchOn_4 : decode b_Mem_switchOn 4 = .ok (.ifCond .eq 18, 3) := by decide +kernel
theorem d_Mem_switchOn_7 : decode b_Mem_switchOn 7 = .ok (.iload_n 1, 1) := by decide +kernel
theorem d_Mem_switchOn_8 : decode b_Mem_switchOn 8 = .ok (.aload_n 0, 1) := by decide +kernel
theorem d_Mem_switchOn_9 : decode b_Mem_switchOn 9 = .ok (.getfield 19, 3) := by decide +kernel
theorem d_Mem_switchOn_12 : decode b_Mem_switchOn 12 = .ok (.if_icmp .ne 10, 3) := by decide +kernel
theorem d_Mem_switchOn_15 : decode b_Mem_switchOn 15 = .ok (.aload_n 0, 1) := by decide +kernel
theorem d_Mem_switchOn_16 : decode b_Mem_switchOn 16 = .ok (.getfield 43, 3) := by decide +kernel
theorem d_Mem_switchOn_19 : decode b_Mem_switchOn 19 = .ok (.ifCond .ne 5, 3) := by decide +kernel
theorem d_Mem_switchOn_22 : decode b_Mem_switchOn 22 = .ok (.iconst 0, 1) := by decide +kernel
theorem d_Mem_switchOn_23 : decode b_Mem_switchOn 23 = .ok (.ireturn, 1) := by decide +kernel
theorem d_Mem_switchOn_24 : decode b_Mem_switchOn 24 = .ok (.aload_n 0, 1) := by decide +kernel
theorem d_Mem_switchOn_25 : decode b_Mem_switchOn 25 = .ok (.iconst 0, 1) := by decide +kernel
theorem d_Mem_switchOn_26 : decode b_Mem_switchOn 26 = .ok (.putfield 43, 3) := by decide +kernel
theorem d_Mem_switchOn_29 : decode b_Mem_switchOn 29 = .ok (.iconst 1, 1) := by decide +kernel
theorem d_Mem_switchOn_30 : decode b_Mem_switchOn 30 = .ok (.ireturn, 1) := by decide +kernel
theorem d_Mem_scrubFromStart_0 : decode b_Mem_scrubFromStart 0 = .ok (.aload_n 0, 1) := by decide +kernel
theorem d_Mem_scrubFromStart_1 : decode b_Mem_scrubFromStart 1 = .ok (.iconst 0, 1) := by decide +kernel
theorem d_Mem_scrubFromStart_2 : decode b_Mem_scrubFromStart 2 = .ok (.putfield 56, 3) := by decide +kernel
theorem d_Mem_scrubFromStart_5 : decode b_Mem_scrubFromStart 5 = .ok (.return_, 1) := by decide +kernel
theorem d_Mem_countFreePages_0 : decode b_Mem_countFreePages 0 = .ok (.iconst 0, 1) := by decide +kernel
theorem d_Mem_countFreePages_1 : decode b_Mem_countFreePages 1 = .ok (.istore_n 1, 1) := by decide +kernel
theorem d_Mem_countFreePages_2 : decode b_Mem_countFreePages 2 = .ok (.iconst 0, 1) := by decide +kernel
theorem d_Mem_countFreePages_3 : decode b_Mem_countFreePages 3 = .ok (.istore_n 2, 1) := by decide +kernel
theorem d_Mem_countFreePages_4 : decode b_Mem_countFreePages 4 = .ok (.iload_n 2, 1) := by decide +kernel
theorem d_Mem_countFreePages_5 : decode b_Mem_countFreePages 5 = .ok (.bipush 40, 2) := by decide +kernel
theorem d_Mem_countFreePages_7 : decode b_Mem_countFreePages 7 = .ok (.if_icmp .ge 21, 3) := by decide +kernel
theorem d_Mem_countFreePages_10 : decode b_Mem_countFreePages 10 = .ok (.aload_n 0, 1) := by decide +kernel
theorem d_Mem_countFreePages_11 : decode b_Mem_countFreePages 11 = .ok (.getfield 15, 3) := by decide +kernel
theorem d_Mem_countFreePages_14 : decode b_Mem_countFreePages 14 = .ok (.iload_n 2, 1) := by decide +kernel
theorem d_Mem_countFreePages_15 : decode b_Mem_countFreePages 15 = .ok (.baload, 1) := by decide +kernel
theorem d_Mem_countFreePages_16 : decode b_Mem_countFreePages 16 = .ok (.ifCond .ne 6, 3) := by decide +kernel
theorem d_Mem_countFreePages_19 : decode b_Mem_countFreePages 19 = .ok (.iinc 1 1, 3) := by decide +kernel
theorem d_Mem_countFreePages_22 : decode b_Mem_countFreePages 22 = .ok (.iinc 2 1, 3) := by decide +kernel
theorem d_Mem_countFreePages_25 : decode b_Mem_countFreePages 25 = .ok (.goto (-21), 3) := by decide +kernel
theorem d_Mem_countFreePages_28 : decode b_Mem_countFreePages 28 = .ok (.iload_n 1, 1) := by decide +kernel
theorem d_Mem_countFreePages_29 : decode b_Mem_countFreePages 29 = .ok (.ireturn, 1) := by decide +kernel
theorem d_Mem_countLostRows_0 : decode b_Mem_countLostRows 0 = .ok (.aload_n 0, 1) := by decide +kernel
theorem d_Mem_countLostRows_1 : decode b_Mem_countLostRows 1 = .ok (.getfield 19, 3) := by decide +kernel
theorem d_Mem_countLostRows_4 : decode b_Mem_countLostRows 4 = .ok (.iconst (-1), 1) := by decide +kernel
theorem d_Mem_countLostRows_5 : decode b_Mem_countLostRows 5 = .ok (.if_icmp .ne 7, 3) := by decide +kernel
theorem d_Mem_countLostRows_8 : decode b_Mem_countLostRows 8 = .ok (.iconst 0, 1) := by decide +kernel
theorem d_Mem_countLostRows_9 : decode b_Mem_countLostRows 9 = .ok (.goto 10, 3) := by decide +kernel
theorem d_Mem_countLostRows_12 : decode b_Mem_countLostRows 12 = .ok (.bipush 8, 2) := by decide +kernel
theorem d_Mem_countLostRows_14 : decode b_Mem_countLostRows 14 = .ok (.aload_n 0, 1) := by decide +kernel
theorem d_Mem_countLostRows_15 : decode b_Mem_countLostRows 15 = .ok (.getfield 47, 3) := by decide +kernel
theorem d_Mem_countLostRows_18 : decode b_Mem_countLostRows 18 = .ok (.isub, 1) := by decide +kernel
theorem d_Mem_countLostRows_19 : decode b_Mem_countLostRows 19 = .ok (.ireturn, 1) := by decide +kernel
theorem d_Mem_countFlippedWords_0 : decode b_Mem_countFlippedWords 0 = .ok (.iconst 0, 1) := by decide +kernel
theorem d_Mem_countFlippedWords_1 : decode b_Mem_countFlippedWords 1 = .ok (.istore_n 1, 1) := by decide +kernel
theorem d_Mem_countFlippedWords_2 : decode b_Mem_countFlippedWords 2 = .ok (.iconst 0, 1) := by decide +kernel
theorem d_Mem_countFlippedWords_3 : decode b_Mem_countFlippedWords 3 = .ok (.istore_n 2, 1) := by decide +kernel
theorem d_Mem_countFlippedWords_4 : decode b_Mem_countFlippedWords 4 = .ok (.iload_n 2, 1) := by decide +kernel
theorem d_Mem_countFlippedWords_5 : decode b_Mem_countFlippedWords 5 = .ok (.sipush 768, 3) := by decide +kernel
theorem d_Mem_countFlippedWords_8 : decode b_Mem_countFlippedWords 8 = .ok (.if_icmp .ge 23, 3) := by decide +kernel
theorem d_Mem_countFlippedWords_11 : decode b_Mem_countFlippedWords 11 = .ok (.aload_n 0, 1) := by decide +kernel
theorem d_Mem_countFlippedWords_12 : decode b_Mem_countFlippedWords 12 = .ok (.getfield 9, 3) := by decide +kernel
theorem d_Mem_countFlippedWords_15 : decode b_Mem_countFlippedWords 15 = .ok (.iload_n 2, 1) := by decide +kernel
theorem d_Mem_countFlippedWords_16 : decode b_Mem_countFlippedWords 16 = .ok (.laload, 1) := by decide +kernel
theorem d_Mem_countFlippedWords_17 : decode b_Mem_countFlippedWords 17 = .ok (.lconst 0, 1) := by decide +kernel
theorem d_Mem_countFlippedWords_18 : decode b_Mem_countFlippedWords 18 = .ok (.lcmp, 1) := by decide +kernel
theorem d_Mem_countFlippedWords_19 : decode b_Mem_countFlippedWords 19 = .ok (.ifCond .eq 6, 3) := by decide +kernel
theorem d_Mem_countFlippedWords_22 : decode b_Mem_countFlippedWords 22 = .ok (.iinc 1 1, 3) := by decide +kernel
theorem d_Mem_countFlippedWords_25 : decode b_Mem_countFlippedWords 25 = .ok (.iinc 2 1, 3) := by decide +kernel
theorem d_Mem_countFlippedWords_28 : decode b_Mem_countFlippedWords 28 = .ok (.goto (-24), 3) := by decide +kernel
theorem d_Mem_countFlippedWords_31 : decode b_Mem_countFlippedWords 31 = .ok (.iload_n 1, 1) := by decide +kernel
theorem d_Mem_countFlippedWords_32 : decode b_Mem_countFlippedWords 32 = .ok (.ireturn, 1) := by decide +kernel
