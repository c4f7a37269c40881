theorem d_Rec_init_0 : decode b_Rec_init 0 = .ok (.aload_n 0, 1) := by decide +kernel
theorem d_Rec_init_1 : decode b_Rec_init 1 = .ok (.invokespecial 3, 3) := by decide +kernel
theorem d_Rec_init_4 : decode b_Rec_init 4 = .ok (.aload_n 0, 1) := by decide +kernel
theorem d_Rec_init_5 : decode b_Rec_init 5 = .ok (.new 9, 3) := by decide +kernel
theorem d_Rec_init_8 : decode b_Rec_init 8 = .ok (.dup, 1) := by decide +kernel
theorem d_Rec_init_9 : decode b_Rec_init 9 = .ok (.invokespecial 11, 3) := by decide +kernel
theorem d_Rec_init_12 : decode b_Rec_init 12 = .ok (.putfield 12, 3) := by decide +kernel
theorem d_Rec_init_15 : decode b_Rec_init 15 = .ok (.aload_n 0, 1) := by decide +kernel
theorem d_Rec_init_16 : decode b_Rec_init 16 = .ok (.iconst 4, 1) := by decide +kernel
theorem d_Rec_init_17 : decode b_Rec_init 17 = .ok (.anewarray 16, 3) := by decide +kernel
theorem d_Rec_init_20 : decode b_Rec_init 20 = .ok (.putfield 18, 3) := by decide +kernel
theorem d_Rec_init_23 : decode b_Rec_init 23 = .ok (.aload_n 0, 1) := by decide +kernel
theorem d_Rec_init_24 : decode b_Rec_init 24 = .ok (.iconst 4, 1) := by decide +kernel
theorem d_Rec_init_25 : decode b_Rec_init 25 = .ok (.anewarray 22, 3) := by decide +kernel
theorem d_Rec_init_28 : decode b_Rec_init 28 = .ok (.putfield 24, 3) := by decide +kernel
theorem d_Rec_init_31 : decode b_Rec_init 31 = .ok (.aload_n 0, 1) := by decide +kernel
theorem d_Rec_init_32 : decode b_Rec_init 32 = .ok (.bipush 60, 2) := by decide +kernel
theorem d_Rec_init_34 : decode b_Rec_init 34 = .ok (.newarray .byte, 2) := by decide +kernel
theorem d_Rec_init_36 : decode b_Rec_init 36 = .ok (.putfield 28, 3) := by decide +kernel
theorem d_Rec_init_39 : decode b_Rec_init 39 = .ok (.return_, 1) := by decide +kernel
theorem d_Rec_makeStore_0 : decode b_Rec_makeStore 0 = .ok (.iload_n 1, 1) := by decide +kernel
theorem d_Rec_makeStore_1 : decode b_Rec_makeStore 1 = .ok (.ifCond .lt 19, 3) := by decide +kernel
theorem d_Rec_makeStore_4 : decode b_Rec_makeStore 4 = .ok (.iload_n 1, 1) := by decide +kernel
theorem d_Rec_makeStore_5 : decode b_Rec_makeStore 5 = .ok (.iconst 4, 1) := by decide +kernel
theorem d_Rec_makeStore_6 : decode b_Rec_makeStore 6 = .ok (.if_icmp .ge 14, 3) := by decide +kernel
theorem d_Rec_makeStore_9 : decode b_Rec_makeStore 9 = .ok (.iload_n 3, 1) := by decide +kernel
theorem d_Rec_makeStore_10 : decode b_Rec_makeStore 10 = .ok (.iconst 3, 1) := by decide +kernel
theorem d_Rec_makeStore_11 : decode b_Rec_makeStore 11 = .ok (.if_icmp .lt 9, 3) := by decide +kernel
theorem d_Rec_makeStore_14 : decode b_Rec_makeStore 14 = .ok (.iload_n 3, 1) := by decide +kernel
theorem d_Rec_makeStore_15 : decode b_Rec_makeStore 15 = .ok (.bipush 40, 2) := by decide +kernel
theorem d_Rec_makeStore_17 : decode b_Rec_makeStore 17 = .ok (.if_icmp .le 6, 3) := by decide +kernel
theorem d_Rec_makeStore_20 : decode b_Rec_makeStore 20 = .ok (.bipush (-2), 2) := by decide +kernel
theorem d_Rec_makeStore_22 : decode b_Rec_makeStore 22 = .ok (.ireturn, 1) := by decide +kernel
theorem d_Rec_makeStore_23 : decode b_Rec_makeStore 23 = .ok (.aload_n 0, 1) := by decide +kernel
theorem d_Rec_makeStore_24 : decode b_Rec_makeStore 24 = .ok (.getfield 18, 3) := by decide +kernel
theorem d_Rec_makeStore_27 : decode b_Rec_makeStore 27 = .ok (.iload_n 1, 1) := by decide +kernel
theorem d_Rec_makeStore_28 : decode b_Rec_makeStore 28 = .ok (.aaload, 1) := by decide +kernel
theorem d_Rec_makeStore_29 : decode b_Rec_makeStore 29 = .ok (.ifnull 6, 3) := by decide +kernel
theorem d_Rec_makeStore_32 : decode b_Rec_makeStore 32 = .ok (.bipush (-3), 2) := by decide +kernel
theorem d_Rec_makeStore_34 : decode b_Rec_makeStore 34 = .ok (.ireturn, 1) := by decide +kernel
theorem d_Rec_makeStore_35 : decode b_Rec_makeStore 35 = .ok (.iload_n 3, 1) := by decide +kernel
theorem d_Rec_makeStore_36 : decode b_Rec_makeStore 36 = .ok (.aload_n 0, 1) := by decide +kernel
theorem d_Rec_makeStore_37 : decode b_Rec_makeStore 37 = .ok (.invokevirtual 32, 3) := by decide +kernel
theorem d_Rec_makeStore_40 : decode b_Rec_makeStore 40 = .ok (.if_icmp .le 6, 3) := by decide +kernel
theorem d_Rec_makeStore_43 : decode b_Rec_makeStore 43 = .ok (.bipush (-4), 2) := by decide +kernel
theorem d_Rec_makeStore_45 : decode b_Rec_makeStore 45 = .ok (.ireturn, 1) := by decide +kernel
theorem d_Rec_makeStore_46 : decode b_Rec_makeStore 46 = .ok (.aload_n 0, 1) := by decide +kernel
theorem d_Rec_makeStore_47 : decode b_Rec_makeStore 47 = .ok (.getfield 18, 3) := by decide +kernel
theorem d_Rec_makeStore_50 : decode b_Rec_makeStore 50 = .ok (.iload_n 1, 1) := by decide +kernel
theorem d_Rec_makeStore_51 : decode b_Rec_makeStore 51 = .ok (.new 16, 3) := by decide +kernel
theorem d_Rec_makeStore_54 : decode b_Rec_makeStore 54 = .ok (.dup, 1) := by decide +kernel
theorem d_Rec_makeStore_55 : decode b_Rec_makeStore 55 = .ok (.iload_n 1, 1) := by decide +kernel
theorem d_Rec_makeStore_56 : decode b_Rec_makeStore 56 = .ok (.iload_n 2, 1) := by decide +kernel
theorem d_Rec_makeStore_57 : decode b_Rec_makeStore 57 = .ok (.iload_n 3, 1) := by decide +kernel
theorem d_Rec_makeStore_58 : decode b_Rec_makeStore 58 = .ok (.aload_n 0, 1) := by decide +kernel
theorem d_Rec_makeStore_59 : decode b_Rec_makeStore 59 = .ok (.getfield 12, 3) := by decide +kernel
theorem d_Rec_makeStore_62 : decode b_Rec_makeStore 62 = .ok (.invokespecial 36, 3) := by decide +kernel
theorem d_Rec_makeStore_65 : decode b_Rec_makeStore 65 = .ok (.aastore, 1) := by decide +kernel
theorem d_Rec_makeStore_66 : decode b_Rec_makeStore 66 = .ok (.aload_n 0, 1) := by decide +kernel
theorem d_Rec_makeStore_67 : decode b_Rec_makeStore 67 = .ok (.invokevirtual 39, 3) := by decide +kernel
theorem d_Rec_makeStore_70 : decode b_Rec_makeStore 70 = .ok (.aload_n 0, 1) := by decide +kernel
theorem d_Rec_makeStore_71 : decode b_Rec_makeStore 71 = .ok (.invokevirtual 32, 3) := by decide +kernel
theorem d_Rec_makeStore_74 : decode b_Rec_makeStore 74 = .ok (.ireturn, 1) := by decide +kernel
theorem d_Rec_unpromisedPages_0 : decode b_Rec_unpromisedPages 0 = .ok (.bipush 40, 2) := by decide +kernel
theorem d_Rec_unpromisedPages_2 : decode b_Rec_unpromisedPages 2 = .ok (.istore_n 1, 1) := by decide +kernel
theorem d_Rec_unpromisedPages_3 : decode b_Rec_unpromisedPages 3 = .ok (.iconst 0, 1) := by decide +kernel
theorem d_Rec_unpromisedPages_4 : decode b_Rec_unpromisedPages 4 = .ok (.istore_n 2, 1) := by decide +kernel
theorem d_Rec_unpromisedPages_5 : decode b_Rec_unpromisedPages 5 = .ok (.iload_n 2, 1) := by decide +kernel
theorem d_Rec_unpromisedPages_6 : decode b_Rec_unpromisedPages 6 = .ok (.iconst 4, 1) := by decide +kernel
theorem d_Rec_unpromisedPages_7 : decode b_Rec_unpromisedPages 7 = .ok (.if_icmp .ge 30, 3) := by decide +kernel
theorem d_Rec_unpromisedPages_10 : decode b_Rec_unpromisedPages 10 = .ok (.aload_n 0, 1) := by decide +kernel
theorem d_Rec_unpromisedPages_11 : decode b_Rec_unpromisedPages 11 = .ok (.getfield 18, 3) := by decide +kernel
theorem d_Rec_unpromisedPages_14 : decode b_Rec_unpromisedPages 14 = .ok (.iload_n 2, 1) := by decide +kernel
theorem d_Rec_unpromisedPages_15 : decode b_Rec_unpromisedPages 15 = .ok (.aaload, 1) := by decide +kernel
theorem d_Rec_unpromisedPages_16 : decode b_Rec_unpromisedPages 16 = .ok (.ifnull 15, 3) := by decide +kernel
theorem d_Rec_unpromisedPages_19 : decode b_Rec_unpromisedPages 19 = .ok (.iload_n 1, 1) := by decide +kernel
theorem d_Rec_unpromisedPages_20 : decode b_Rec_unpromisedPages 20 = .ok (.aload_n 0, 1) := by decide +kernel
theorem d_Rec_unpromisedPages_21 : decode b_Rec_unpromisedPages 21 = .ok (.getfield 18, 3) := by decide +kernel
theorem d_Rec_unpromisedPages_24 : decode b_Rec_unpromisedPages 24 = .ok (.iload_n 2, 1) := by decide +kernel
theorem d_Rec_unpromisedPages_25 : decode b_Rec_unpromisedPages 25 = .ok (.aaload, 1) := by decide +kernel
theorem d_Rec_unpromisedPages_26 : decode b_Rec_unpromisedPages 26 = .ok (.getfield 198, 3) := by decide +kernel
theorem d_Rec_unpromisedPages_29 : decode b_Rec_unpromisedPages 29 = .ok (.isub, 1) := by decide +kernel
theorem d_Rec_unpromisedPages_30 : decode b_Rec_unpromisedPages 30 = .ok (.istore_n 1, 1) := by decide +kernel
theorem d_Rec_unpromisedPages_31 : decode b_Rec_unpromisedPages 31 = .ok (.iinc 2 1, 3) := by decide +kernel
theorem d_Rec_unpromisedPages_34 : decode b_Rec_unpromisedPages 34 = .ok (.goto (-29), 3) := by decide +kernel
theorem d_Rec_unpromisedPages_37 : decode b_Rec_unpromisedPages 37 = .ok (.iload_n 1, 1) := by decide +kernel
theorem d_Rec_unpromisedPages_38 : decode b_Rec_unpromisedPages 38 = .ok (.ireturn, 1) := by decide +kernel
theorem d_Rec_saveAll_0 : decode b_Rec_saveAll 0 = .ok (.iconst 0, 1) := by decide +kernel
theorem d_Rec_saveAll_1 : decode b_Rec_saveAll 1 = .ok (.istore_n 1, 1) := by decide +kernel
theorem d_Rec_saveAll_2 : decode b_Rec_saveAll 2 = .ok (.iload_n 1, 1) := by decide +kernel
theorem d_Rec_saveAll_3 : decode b_Rec_saveAll 3 = .ok (.iconst 4, 1) := by decide +kernel
theorem d_Rec_saveAll_4 : decode b_Rec_saveAll 4 = .ok (.if_icmp .ge 27, 3) := by decide +kernel
theorem d_Rec_saveAll_7 : decode b_Rec_saveAll 7 = .ok (.aload_n 0, 1) := by decide +kernel
theorem d_Rec_saveAll_8 : decode b_Rec_saveAll 8 = .ok (.getfield 18, 3) := by decide +kernel
theorem d_Rec_saveAll_11 : decode b_Rec_saveAll 11 = .ok (.iload_n 1, 1) := by decide +kernel
theorem d_Rec_saveAll_12 : decode b_Rec_saveAll 12 = .ok (.aaload, 1) := by decide +kernel
theorem d_Rec_saveAll_13 : decode b_Rec_saveAll 13 = .ok (.ifnull 12, 3) := by decide +kernel
theorem d_Rec_saveAll_16 : decode b_Rec_saveAll 16 = .ok (.aload_n 0, 1) := by decide +kernel
theorem d_Rec_saveAll_17 : decode b_Rec_saveAll 17 = .ok (.getfield 18, 3) := by decide +kernel
theorem d_Rec_saveAll_20 : decode b_Rec_saveAll 20 = .ok (.iload_n 1, 1) := by decide +kernel
theorem d_Rec_saveAll_21 : decode b_Rec_saveAll 21 = .ok (.aaload, 1) := by decide +kernel
theorem d_Rec_saveAll_22 : decode b_Rec_saveAll 22 = .ok (.invokevirtual 205, 3) := by decide +kernel
theorem d_Rec_saveAll_25 : decode b_Rec_saveAll 25 = .ok (.iinc 1 1, 3) := by decide +kernel
theorem d_Rec_saveAll_28 : decode b_Rec_saveAll 28 = .ok (.goto (-26), 3) := by decide +kernel
theorem d_Rec_saveAll_31 : decode b_Rec_saveAll 31 = .ok (.return_, 1) := by decide +kernel
theorem d_Rec_dropStore_0 : decode b_Rec_dropStore 0 = .ok (.aload_n 0, 1) := by decide +kernel
theorem d_Rec_dropStore_1 : decode b_Rec_dropStore 1 = .ok (.iload_n 1, 1) := by decide +kernel
theorem d_Rec_dropStore_2 : decode b_Rec_dropStore 2 = .ok (.invokevirtual 42, 3) := by decide +kernel
theorem d_Rec_dropStore_5 : decode b_Rec_dropStore 5 = .ok (.astore_n 2, 1) := by decide +kernel
theorem d_Rec_dropStore_6 : decode b_Rec_dropStore 6 = .ok (.aload_n 2, 1) := by decide +kernel
theorem d_Rec_dropStore_7 : decode b_Rec_dropStore 7 = .ok (.ifnonnull 5, 3) := by decide +kernel
theorem d_Rec_dropStore_10 : decode b_Rec_dropStore 10 = .ok (.iconst 0, 1) := by decide +kernel
theorem d_Rec_dropStore_11 : decode b_Rec_dropStore 11 = .ok (.ireturn, 1) := by decide +kernel
theorem d_Rec_dropStore_12 : decode b_Rec_dropStore 12 = .ok (.aload_n 2, 1) := by decide +kernel
theorem d_Rec_dropStore_13 : decode b_Rec_dropStore 13 = .ok (.invokevirtual 46, 3) := by decide +kernel
theorem d_Rec_dropStore_16 : decode b_Rec_dropStore 16 = .ok (.aload_n 0, 1) := by decide +kernel
theorem d_Rec_dropStore_17 : decode b_Rec_dropStore 17 = .ok (.aload_n 2, 1) := by decide +kernel
theorem d_Rec_dropStore_18 : decode b_Rec_dropStore 18 = .ok (.invokevirtual 49, 3) := by decide +kernel
theorem d_Rec_dropStore_21 : decode b_Rec_dropStore 21 = .ok (.aload_n 0, 1) := by decide +kernel
theorem d_Rec_dropStore_22 : decode b_Rec_dropStore 22 = .ok (.getfield 18, 3) := by decide +kernel
theorem d_Rec_dropStore_25 : decode b_Rec_dropStore 25 = .ok (.iload_n 1, 1) := by decide +kernel
theorem d_Rec_dropStore_26 : decode b_Rec_dropStore 26 = .ok (.aconst_null, 1) := by decide +kernel
theorem d_Rec_dropStore_27 : decode b_Rec_dropStore 27 = .ok (.aastore, 1) := by decide +kernel
theorem d_Rec_dropStore_28 : decode b_Rec_dropStore 28 = .ok (.aload_n 0, 1) := by decide +kernel
theorem d_Rec_dropStore_29 : decode b_Rec_dropStore 29 = .ok (.invokevirtual 39, 3) := by decide +kernel
theorem d_Rec_dropStore_32 : decode b_Rec_dropStore 32 = .ok (.iconst 1, 1) := by decide +kernel
theorem d_Rec_dropStore_33 : decode b_Rec_dropStore 33 = .ok (.ireturn, 1) := by decide +kernel
theorem d_Rec_madeStore_0 : decode b_Rec_madeStore 0 = .ok (.iload_n 1, 1) := by decide +kernel
theorem d_Rec_madeStore_1 : decode b_Rec_madeStore 1 = .ok (.ifCond .lt 8, 3) := by decide +kernel
theorem d_Rec_madeStore_4 : decode b_Rec_madeStore 4 = .ok (.iload_n 1, 1) := by decide +kernel
theorem d_Rec_madeStore_5 : decode b_Rec_madeStore 5 = .ok (.iconst 4, 1) := by decide +kernel
theorem d_Rec_madeStore_6 : decode b_Rec_madeStore 6 = .ok (.if_icmp .lt 7, 3) := by decide +kernel
theorem d_Rec_madeStore_9 : decode b_Rec_madeStore 9 = .ok (.aconst_null, 1) := by decide +kernel
theorem d_Rec_madeStore_10 : decode b_Rec_madeStore 10 = .ok (.goto 9, 3) := by decide +kernel
theorem d_Rec_madeStore_13 : decode b_Rec_madeStore 13 = .ok (.aload_n 0, 1) := by decide +kernel
theorem d_Rec_madeStore_14 : decode b_Rec_madeStore 14 = .ok (.getfield 18, 3) := by decide +kernel
theorem d_Rec_madeStore_17 : decode b_Rec_madeStore 17 = .ok (.iload_n 1, 1) := by decide +kernel
theorem d_Rec_madeStore_18 : decode b_Rec_madeStore 18 = .ok (.aaload, 1) := by decide +kernel
theorem d_Rec_madeStore_19 : decode b_Rec_madeStore 19 = .ok (.areturn, 1) := by decide +kernel
theorem d_Rec_closePlaybacksOf_0 : decode b_Rec_closePlaybacksOf 0 = .ok (.iconst 0, 1) := by decide +kernel
theorem d_Rec_closePlaybacksOf_1 : decode b_Rec_closePlaybacksOf 1 = .ok (.istore_n 2, 1) := by decide +kernel
theorem d_Rec_closePlaybacksOf_2 : decode b_Rec_closePlaybacksOf 2 = .ok (.iload_n 2, 1) := by decide +kernel
theorem d_Rec_closePlaybacksOf_3 : decode b_Rec_closePlaybacksOf 3 = .ok (.iconst 4, 1) := by decide +kernel
theorem d_Rec_closePlaybacksOf_4 : decode b_Rec_closePlaybacksOf 4 = .ok (.if_icmp .ge 35, 3) := by decide +kernel
theorem d_Rec_closePlaybacksOf_7 : decode b_Rec_closePlaybacksOf 7 = .ok (.aload_n 0, 1) := by decide +kernel
theorem d_Rec_closePlaybacksOf_8 : decode b_Rec_closePlaybacksOf 8 = .ok (.getfield 24, 3) := by decide +kernel
theorem d_Rec_closePlaybacksOf_11 : decode b_Rec_closePlaybacksOf 11 = .ok (.iload_n 2, 1) := by decide +kernel
theorem d_Rec_closePlaybacksOf_12 : decode b_Rec_closePlaybacksOf 12 = .ok (.aaload, 1) := by decide +kernel
theorem d_Rec_closePlaybacksOf_13 : decode b_Rec_closePlaybacksOf 13 = .ok (.astore_n 3, 1) := by decide +kernel
theorem d_Rec_closePlaybacksOf_14 : decode b_Rec_closePlaybacksOf 14 = .ok (.aload_n 3, 1) := by decide +kernel
theorem d_Rec_closePlaybacksOf_15 : decode b_Rec_closePlaybacksOf 15 = .ok (.ifnull 18, 3) := by decide +kernel
theorem d_Rec_closePlaybacksOf_18 : decode b_Rec_closePlaybacksOf 18 = .ok (.aload_n 3, 1) := by decide +kernel
theorem d_Rec_closePlaybacksOf_19 : decode b_Rec_closePlaybacksOf 19 = .ok (.getfield 201, 3) := by decide +kernel
theorem d_Rec_closePlaybacksOf_22 : decode b_Rec_closePlaybacksOf 22 = .ok (.aload_n 1, 1) := by decide +kernel
theorem d_Rec_closePlaybacksOf_23 : decode b_Rec_closePlaybacksOf 23 = .ok (.if_acmp .ne 10, 3) := by decide +kernel
theorem d_Rec_closePlaybacksOf_26 : decode b_Rec_closePlaybacksOf 26 = .ok (.aload_n 0, 1) := by decide +kernel
theorem d_Rec_closePlaybacksOf_27 : decode b_Rec_closePlaybacksOf 27 = .ok (.getfield 24, 3) := by decide +kernel
theorem d_Rec_closePlaybacksOf_30 : decode b_Rec_closePlaybacksOf 30 = .ok (.iload_n 2, 1) := by decide +kernel
theorem d_Rec_closePlaybacksOf_31 : decode b_Rec_closePlaybacksOf 31 = .ok (.aconst_null, 1) := by decide +kernel
theorem d_Rec_closePlaybacksOf_32 : decode b_Rec_closePlaybacksOf 32 = .ok (.aastore, 1) := by decide +kernel
theorem d_Rec_closePlaybacksOf_33 : decode b_Rec_closePlaybacksOf 33 = .ok (.iinc 2 1, 3) := by decide +kernel
theorem d_Rec_closePlaybacksOf_36 : decode b_Rec_closePlaybacksOf 36 = .ok (.goto (-34), 3) := by decide +kernel
theorem d_Rec_closePlaybacksOf_39 : decode b_Rec_closePlaybacksOf 39 = .ok (.return_, 1) := by decide +kernel
theorem d_Rec_put_0 : decode b_Rec_put 0 = .ok (.iload_n 1, 1) := by decide +kernel
theorem d_Rec_put_1 : decode b_Rec_put 1 = .ok (.ifCond .lt 9, 3) := by decide +kernel
theorem d_Rec_put_4 : decode b_Rec_put 4 = .ok (.iload_n 1, 1) := by decide +kernel
theorem d_Rec_put_5 : decode b_Rec_put 5 = .ok (.bipush 60, 2) := by decide +kernel
theorem d_Rec_put_7 : decode b_Rec_put 7 = .ok (.if_icmp .lt 5, 3) := by decide +kernel
theorem d_Rec_put_10 : decode b_Rec_put 10 = .ok (.iconst 0, 1) := by decide +kernel
theorem d_Rec_put_11 : decode b_Rec_put 11 = .ok (.ireturn, 1) := by decide +kernel
theorem d_Rec_put_12 : decode b_Rec_put 12 = .ok (.iload_n 1, 1) := by decide +kernel
theorem d_Rec_put_13 : decode b_Rec_put 13 = .ok (.bipush 8, 2) := by decide +kernel
theorem d_Rec_put_15 : decode b_Rec_put 15 = .ok (.iadd, 1) := by decide +kernel
theorem d_Rec_put_16 : decode b_Rec_put 16 = .ok (.bipush 60, 2) := by decide +kernel
theorem d_Rec_put_18 : decode b_Rec_put 18 = .ok (.invokestatic 53, 3) := by decide +kernel
theorem d_Rec_put_21 : decode b_Rec_put 21 = .ok (.istore 4, 2) := by decide +kernel
theorem d_Rec_put_23 : decode b_Rec_put 23 = .ok (.iload_n 1, 1) := by decide +kernel
theorem d_Rec_put_24 : decode b_Rec_put 24 = .ok (.istore 5, 2) := by decide +kernel
theorem d_Rec_put_26 : decode b_Rec_put 26 = .ok (.iload 5, 2) := by decide +kernel
theorem d_Rec_put_28 : decode b_Rec_put 28 = .ok (.iload 4, 2) := by decide +kernel
theorem d_Rec_put_30 : decode b_Rec_put 30 = .ok (.if_icmp .ge 27, 3) := by decide +kernel
theorem d_Rec_put_33 : decode b_Rec_put 33 = .ok (.aload_n 0, 1) := by decide +kernel
theorem d_Rec_put_34 : decode b_Rec_put 34 = .ok (.getfield 28, 3) := by decide +kernel
theorem d_Rec_put_37 : decode b_Rec_put 37 = .ok (.iload 5, 2) := by decide +kernel
theorem d_Rec_put_39 : decode b_Rec_put 39 = .ok (.lload_n 2, 1) := by decide +kernel
theorem d_Rec_put_40 : decode b_Rec_put 40 = .ok (.bipush 8, 2) := by decide +kernel
theorem d_Rec_put_42 : decode b_Rec_put 42 = .ok (.iload 5, 2) := by decide +kernel
theorem d_Rec_put_44 : decode b_Rec_put 44 = .ok (.iload_n 1, 1) := by decide +kernel
theorem d_Rec_put_45 : decode b_Rec_put 45 = .ok (.isub, 1) := by decide +kernel
theorem d_Rec_put_46 : decode b_Rec_put 46 = .ok (.imul, 1) := by decide +kernel
theorem d_Rec_put_47 : decode b_Rec_put 47 = .ok (.lshr, 1) := by decide +kernel
theorem d_Rec_put_48 : decode b_Rec_put 48 = .ok (.l2i, 1) := by decide +kernel
theorem d_Rec_put_49 : decode b_Rec_put 49 = .ok (.i2b, 1) := by decide +kernel
theorem d_Rec_put_50 : decode b_Rec_put 50 = .ok (.bastore, 1) := by decide +kernel
theorem d_Rec_put_51 : decode b_Rec_put 51 = .ok (.iinc 5 1, 3) := by decide +kernel
theorem d_Rec_put_54 : decode b_Rec_put 54 = .ok (.goto (-28), 3) := by decide +kernel
theorem d_Rec_put_57 : decode b_Rec_put 57 = .ok (.iconst 1, 1) := by decide +kernel
theorem d_Rec_put_58 : decode b_Rec_put 58 = .ok (.ireturn, 1) := by decide +kernel
theorem d_Rec_record_0 : decode b_Rec_record 0 = .ok (.aload_n 0, 1) := by decide +kernel
theorem d_Rec_record_1 : decode b_Rec_record 1 = .ok (.iload_n 1, 1) := by decide +kernel
theorem d_Rec_record_2 : decode b_Rec_record 2 = .ok (.invokevirtual 42, 3) := by decide +kernel
theorem d_Rec_record_5 : decode b_Rec_record 5 = .ok (.astore 5, 2) := by decide +kernel
theorem d_Rec_record_7 : decode b_Rec_record 7 = .ok (.aload 5, 2) := by decide +kernel
theorem d_Rec_record_9 : decode b_Rec_record 9 = .ok (.ifnull 14, 3) := by decide +kernel
theorem d_Rec_record_12 : decode b_Rec_record 12 = .ok (.iload_n 2, 1) := by decide +kernel
theorem d_Rec_record_13 : decode b_Rec_record 13 = .ok (.ifCond .lt 10, 3) := by decide +kernel
theorem d_Rec_record_16 : decode b_Rec_record 16 = .ok (.iload_n 2, 1) := by decide +kernel
theorem d_Rec_record_17 : decode b_Rec_record 17 = .ok (.sipush 255, 3) := by decide +kernel
theorem d_Rec_record_20 : decode b_Rec_record 20 = .ok (.if_icmp .le 6, 3) := by decide +kernel
theorem d_Rec_record_23 : decode b_Rec_record 23 = .ok (.bipush (-2), 2) := by decide +kernel
theorem d_Rec_record_25 : decode b_Rec_record 25 = .ok (.ireturn, 1) := by decide +kernel
theorem d_Rec_record_26 : decode b_Rec_record 26 = .ok (.iload 4, 2) := by decide +kernel
theorem d_Rec_record_28 : decode b_Rec_record 28 = .ok (.ifCond .lt 19, 3) := by decide +kernel
theorem d_Rec_record_31 : decode b_Rec_record 31 = .ok (.iload 4, 2) := by decide +kernel
theorem d_Rec_record_33 : decode b_Rec_record 33 = .ok (.bipush 60, 2) := by decide +kernel
theorem d_Rec_record_35 : decode b_Rec_record 35 = .ok (.if_icmp .gt 12, 3) := by decide +kernel
theorem d_Rec_record_38 : decode b_Rec_record 38 = .ok (.iload_n 3, 1) := by decide +kernel
theorem d_Rec_record_39 : decode b_Rec_record 39 = .ok (.aload 5, 2) := by decide +kernel
theorem d_Rec_record_41 : decode b_Rec_record 41 = .ok (.getfield 59, 3) := by decide +kernel
theorem d_Rec_record_44 : decode b_Rec_record 44 = .ok (.if_icmp .ge 6, 3) := by decide +kernel
theorem d_Rec_record_47 : decode b_Rec_record 47 = .ok (.bipush (-2), 2) := by decide +kernel
theorem d_Rec_record_49 : decode b_Rec_record 49 = .ok (.ireturn, 1) := by decide +kernel
theorem d_Rec_record_50 : decode b_Rec_record 50 = .ok (.aload 5, 2) := by decide +kernel
theorem d_Rec_record_52 : decode b_Rec_record 52 = .ok (.iload 4, 2) := by decide +kernel
theorem d_Rec_record_54 : decode b_Rec_record 54 = .ok (.invokevirtual 63, 3) := by decide +kernel
theorem d_Rec_record_57 : decode b_Rec_record 57 = .ok (.ifCond .ne 6, 3) := by decide +kernel
theorem d_Rec_record_60 : decode b_Rec_record 60 = .ok (.bipush (-4), 2) := by decide +kernel
theorem d_Rec_record_62 : decode b_Rec_record 62 = .ok (.ireturn, 1) := by decide +kernel
theorem d_Rec_record_63 : decode b_Rec_record 63 = .ok (.aload 5, 2) := by decide +kernel
theorem d_Rec_record_65 : decode b_Rec_record 65 = .ok (.iload_n 2, 1) := by decide +kernel
theorem d_Rec_record_66 : decode b_Rec_record 66 = .ok (.iload_n 3, 1) := by decide +kernel
theorem d_Rec_record_67 : decode b_Rec_record 67 = .ok (.aload_n 0, 1) := by decide +kernel
theorem d_Rec_record_68 : decode b_Rec_record 68 = .ok (.getfield 28, 3) := by decide +kernel
theorem d_Rec_record_71 : decode b_Rec_record 71 = .ok (.iload 4, 2) := by decide +kernel
theorem d_Rec_record_73 : decode b_Rec_record 73 = .ok (.invokevirtual 67, 3) := by decide +kernel
theorem d_Rec_record_76 : decode b_Rec_record 76 = .ok (.istore 6, 2) := by decide +kernel
theorem d_Rec_record_78 : decode b_Rec_record 78 = .ok (.aload 5, 2) := by decide +kernel
theorem d_Rec_record_80 : decode b_Rec_record 80 = .ok (.invokevirtual 71, 3) := by decide +kernel
theorem d_Rec_record_83 : decode b_Rec_record 83 = .ok (.iload 6, 2) := by decide +kernel
theorem d_Rec_record_85 : decode b_Rec_record 85 = .ok (.ireturn, 1) := by decide +kernel
theorem d_Rec_byteOfFour_0 : decode b_Rec_byteOfFour 0 = .ok (.iload_n 0, 1) := by decide +kernel
theorem d_Rec_byteOfFour_1 : decode b_Rec_byteOfFour 1 = .ok (.bipush 8, 2) := by decide +kernel
theorem d_Rec_byteOfFour_3 : decode b_Rec_byteOfFour 3 = .ok (.iconst 3, 1) := by decide +kernel
theorem d_Rec_byteOfFour_4 : decode b_Rec_byteOfFour 4 = .ok (.iload_n 1, 1) := by decide +kernel
theorem d_Rec_byteOfFour_5 : decode b_Rec_byteOfFour 5 = .ok (.isub, 1) := by decide +kernel
theorem d_Rec_byteOfFour_6 : decode b_Rec_byteOfFour 6 = .ok (.imul, 1) := by decide +kernel
theorem d_Rec_byteOfFour_7 : decode b_Rec_byteOfFour 7 = .ok (.iushr, 1) := by decide +kernel
theorem d_Rec_byteOfFour_8 : decode b_Rec_byteOfFour 8 = .ok (.sipush 255, 3) := by decide +kernel
theorem d_Rec_byteOfFour_11 : decode b_Rec_byteOfFour 11 = .ok (.iand, 1) := by decide +kernel
theorem d_Rec_byteOfFour_12 : decode b_Rec_byteOfFour 12 = .ok (.ireturn, 1) := by decide +kernel
theorem d_Rec_play_0 : decode b_Rec_play 0 = .ok (.aload_n 0, 1) := by decide +kernel
theorem d_Rec_play_1 : decode b_Rec_play 1 = .ok (.iload_n 1, 1) := by decide +kernel
theorem d_Rec_play_2 : decode b_Rec_play 2 = .ok (.invokevirtual 42, 3) := by decide +kernel
theorem d_Rec_play_5 : decode b_Rec_play 5 = .ok (.astore 5, 2) := by decide +kernel
theorem d_Rec_play_7 : decode b_Rec_play 7 = .ok (.aload 5, 2) := by decide +kernel
theorem d_Rec_play_9 : decode b_Rec_play 9 = .ok (.ifnull 15, 3) := by decide +kernel
theorem d_Rec_play_12 : decode b_Rec_play 12 = .ok (.iload 4, 2) := by decide +kernel
theorem d_Rec_play_14 : decode b_Rec_play 14 = .ok (.ifCond .lt 10, 3) := by decide +kernel
theorem d_Rec_play_17 : decode b_Rec_play 17 = .ok (.iload 4, 2) := by decide +kernel
theorem d_Rec_play_19 : decode b_Rec_play 19 = .ok (.bipush 9, 2) := by decide +kernel
theorem d_Rec_play_21 : decode b_Rec_play 21 = .ok (.if_icmp .le 6, 3) := by decide +kernel
theorem d_Rec_play_24 : decode b_Rec_play 24 = .ok (.bipush (-2), 2) := by decide +kernel
theorem d_Rec_play_26 : decode b_Rec_play 26 = .ok (.ireturn, 1) := by decide +kernel
theorem d_Rec_play_27 : decode b_Rec_play 27 = .ok (.iconst 0, 1) := by decide +kernel
theorem d_Rec_play_28 : decode b_Rec_play 28 = .ok (.istore 6, 2) := by decide +kernel
theorem d_Rec_play_30 : decode b_Rec_play 30 = .ok (.iload 6, 2) := by decide +kernel
theorem d_Rec_play_32 : decode b_Rec_play 32 = .ok (.iconst 4, 1) := by decide +kernel
theorem d_Rec_play_33 : decode b_Rec_play 33 = .ok (.if_icmp .ge 46, 3) := by decide +kernel
theorem d_Rec_play_36 : decode b_Rec_play 36 = .ok (.aload_n 0, 1) := by decide +kernel
theorem d_Rec_play_37 : decode b_Rec_play 37 = .ok (.getfield 24, 3) := by decide +kernel
theorem d_Rec_play_40 : decode b_Rec_play 40 = .ok (.iload 6, 2) := by decide +kernel
theorem d_Rec_play_42 : decode b_Rec_play 42 = .ok (.aaload, 1) := by decide +kernel
theorem d_Rec_play_43 : decode b_Rec_play 43 = .ok (.ifnonnull 30, 3) := by decide +kernel
theorem d_Rec_play_46 : decode b_Rec_play 46 = .ok (.aload_n 0, 1) := by decide +kernel
theorem d_Rec_play_47 : decode b_Rec_play 47 = .ok (.getfield 24, 3) := by decide +kernel
theorem d_Rec_play_50 : decode b_Rec_play 50 = .ok (.iload 6, 2) := by decide +kernel
theorem d_Rec_play_52 : decode b_Rec_play 52 = .ok (.new 22, 3) := by decide +kernel
theorem d_Rec_play_55 : decode b_Rec_play 55 = .ok (.dup, 1) := by decide +kernel
theorem d_Rec_play_56 : decode b_Rec_play 56 = .ok (.aload 5, 2) := by decide +kernel
theorem d_Rec_play_58 : decode b_Rec_play 58 = .ok (.iload_n 2, 1) := by decide +kernel
theorem d_Rec_play_59 : decode b_Rec_play 59 = .ok (.iload_n 3, 1) := by decide +kernel
theorem d_Rec_play_60 : decode b_Rec_play 60 = .ok (.iload 4, 2) := by decide +kernel
theorem d_Rec_play_62 : decode b_Rec_play 62 = .ok (.aload_n 0, 1) := by decide +kernel
theorem d_Rec_play_63 : decode b_Rec_play 63 = .ok (.invokevirtual 74, 3) := by decide +kernel
theorem d_Rec_play_66 : decode b_Rec_play 66 = .ok (.invokespecial 78, 3) := by decide +kernel
theorem d_Rec_play_69 : decode b_Rec_play 69 = .ok (.aastore, 1) := by decide +kernel
theorem d_Rec_play_70 : decode b_Rec_play 70 = .ok (.iload 6, 2) := by decide +kernel
theorem d_Rec_play_72 : decode b_Rec_play 72 = .ok (.ireturn, 1) := by decide +kernel
theorem d_Rec_play_73 : decode b_Rec_play 73 = .ok (.iinc 6 1, 3) := by decide +kernel
theorem d_Rec_play_76 : decode b_Rec_play 76 = .ok (.goto (-46), 3) := by decide +kernel
theorem d_Rec_play_79 : decode b_Rec_play 79 = .ok (.bipush (-4), 2) := by decide +kernel
theorem d_Rec_play_81 : decode b_Rec_play 81 = .ok (.ireturn, 1) := by decide +kernel
theorem d_Rec_nextTurn_0 : decode b_Rec_nextTurn 0 = .ok (.aload_n 0, 1) := by decide +kernel
theorem d_Rec_nextTurn_1 : decode b_Rec_nextTurn 1 = .ok (.dup, 1) := by decide +kernel
theorem d_Rec_nextTurn_2 : decode b_Rec_nextTurn 2 = .ok (.getfield 211, 3) := by decide +kernel
theorem d_Rec_nextTurn_5 : decode b_Rec_nextTurn 5 = .ok (.lconst 1, 1) := by decide +kernel
theorem d_Rec_nextTurn_6 : decode b_Rec_nextTurn 6 = .ok (.ladd, 1) := by decide +kernel
theorem d_Rec_nextTurn_7 : decode b_Rec_nextTurn 7 = .ok (.putfield 211, 3) := by decide +kernel
theorem d_Rec_nextTurn_10 : decode b_Rec_nextTurn 10 = .ok (.aload_n 0, 1) := by decide +kernel
theorem d_Rec_nextTurn_11 : decode b_Rec_nextTurn 11 = .ok (.getfield 211, 3) := by decide +kernel
theorem d_Rec_nextTurn_14 : decode b_Rec_nextTurn 14 = .ok (.lreturn, 1) := by decide +kernel
theorem d_Rec_stop_0 : decode b_Rec_stop 0 = .ok (.iload_n 1, 1) := by decide +kernel
theorem d_Rec_stop_1 : decode b_Rec_stop 1 = .ok (.ifCond .lt 17, 3) := by decide +kernel
theorem d_Rec_stop_4 : decode b_Rec_stop 4 = .ok (.iload_n 1, 1) := by decide +kernel
theorem d_Rec_stop_5 : decode b_Rec_stop 5 = .ok (.iconst 4, 1) := by decide +kernel
theorem d_Rec_stop_6 : decode b_Rec_stop 6 = .ok (.if_icmp .ge 12, 3) := by decide +kernel
theorem d_Rec_stop_9 : decode b_Rec_stop 9 = .ok (.aload_n 0, 1) := by decide +kernel
theorem d_Rec_stop_10 : decode b_Rec_stop 10 = .ok (.getfield 24, 3) := by decide +kernel
theorem d_Rec_stop_13 : decode b_Rec_stop 13 = .ok (.iload_n 1, 1) := by decide +kernel
theorem d_Rec_stop_14 : decode b_Rec_stop 14 = .ok (.aaload, 1) := by decide +kernel
theorem d_Rec_stop_15 : decode b_Rec_stop 15 = .ok (.ifnonnull 5, 3) := by decide +kernel
theorem d_Rec_stop_18 : decode b_Rec_stop 18 = .ok (.iconst 0, 1) := by decide +kernel
theorem d_Rec_stop_19 : decode b_Rec_stop 19 = .ok (.ireturn, 1) := by decide +kernel
theorem d_Rec_stop_20 : decode b_Rec_stop 20 = .ok (.aload_n 0, 1) := by decide +kernel
theorem d_Rec_stop_21 : decode b_Rec_stop 21 = .ok (.getfield 24, 3) := by decide +kernel
theorem d_Rec_stop_24 : decode b_Rec_stop 24 = .ok (.iload_n 1, 1) := by decide +kernel
theorem d_Rec_stop_25 : decode b_Rec_stop 25 = .ok (.aconst_null, 1) := by decide +kernel
theorem d_Rec_stop_26 : decode b_Rec_stop 26 = .ok (.aastore, 1) := by decide +kernel
theorem d_Rec_stop_27 : decode b_Rec_stop 27 = .ok (.iconst 1, 1) := by decide +kernel
theorem d_Rec_stop_28 : decode b_Rec_stop 28 = .ok (.ireturn, 1) := by decide +kernel
theorem d_Rec_frame_0 : decode b_Rec_frame 0 = .ok (.aconst_null, 1) := by decide +kernel
theorem d_Rec_frame_1 : decode b_Rec_frame 1 = .ok (.astore_n 1, 1) := by decide +kernel
theorem d_Rec_frame_2 : decode b_Rec_frame 2 = .ok (.aconst_null, 1) := by decide +kernel
theorem d_Rec_frame_3 : decode b_Rec_frame 3 = .ok (.astore_n 2, 1) := by decide +kernel
theorem d_Rec_frame_4 : decode b_Rec_frame 4 = .ok (.iconst 0, 1) := by decide +kernel
theorem d_Rec_frame_5 : decode b_Rec_frame 5 = .ok (.istore_n 3, 1) := by decide +kernel
theorem d_Rec_frame_6 : decode b_Rec_frame 6 = .ok (.iload_n 3, 1) := by decide +kernel
theorem d_Rec_frame_7 : decode b_Rec_frame 7 = .ok (.iconst 4, 1) := by decide +kernel
theorem d_Rec_frame_8 : decode b_Rec_frame 8 = .ok (.if_icmp .ge 56, 3) := by decide +kernel
theorem d_Rec_frame_11 : decode b_Rec_frame 11 = .ok (.aload_n 0, 1) := by decide +kernel
theorem d_Rec_frame_12 : decode b_Rec_frame 12 = .ok (.getfield 24, 3) := by decide +kernel
theorem d_Rec_frame_15 : decode b_Rec_frame 15 = .ok (.iload_n 3, 1) := by decide +kernel
theorem d_Rec_frame_16 : decode b_Rec_frame 16 = .ok (.aaload, 1) := by decide +kernel
theorem d_Rec_frame_17 : decode b_Rec_frame 17 = .ok (.astore 4, 2) := by decide +kernel
theorem d_Rec_frame_19 : decode b_Rec_frame 19 = .ok (.aload 4, 2) := by decide +kernel
theorem d_Rec_frame_21 : decode b_Rec_frame 21 = .ok (.ifnull 37, 3) := by decide +kernel
theorem d_Rec_frame_24 : decode b_Rec_frame 24 = .ok (.aload_n 1, 1) := by decide +kernel
theorem d_Rec_frame_25 : decode b_Rec_frame 25 = .ok (.ifnull 15, 3) := by decide +kernel
theorem d_Rec_frame_28 : decode b_Rec_frame 28 = .ok (.aload 4, 2) := by decide +kernel
theorem d_Rec_frame_30 : decode b_Rec_frame 30 = .ok (.aload_n 1, 1) := by decide +kernel
theorem d_Rec_frame_31 : decode b_Rec_frame 31 = .ok (.invokevirtual 81, 3) := by decide +kernel
theorem d_Rec_frame_34 : decode b_Rec_frame 34 = .ok (.ifCond .ne 6, 3) := by decide +kernel
theorem d_Rec_frame_37 : decode b_Rec_frame 37 = .ok (.goto 21, 3) := by decide +kernel
theorem d_Rec_frame_40 : decode b_Rec_frame 40 = .ok (.aload 4, 2) := by decide +kernel
theorem d_Rec_frame_42 : decode b_Rec_frame 42 = .ok (.invokevirtual 85, 3) := by decide +kernel
theorem d_Rec_frame_45 : decode b_Rec_frame 45 = .ok (.astore 5, 2) := by decide +kernel
theorem d_Rec_frame_47 : decode b_Rec_frame 47 = .ok (.aload 5, 2) := by decide +kernel
theorem d_Rec_frame_49 : decode b_Rec_frame 49 = .ok (.ifnull 9, 3) := by decide +kernel
theorem d_Rec_frame_52 : decode b_Rec_frame 52 = .ok (.aload 4, 2) := by decide +kernel
theorem d_Rec_frame_54 : decode b_Rec_frame 54 = .ok (.astore_n 1, 1) := by decide +kernel
theorem d_Rec_frame_55 : decode b_Rec_frame 55 = .ok (.aload 5, 2) := by decide +kernel
theorem d_Rec_frame_57 : decode b_Rec_frame 57 = .ok (.astore_n 2, 1) := by decide +kernel
theorem d_Rec_frame_58 : decode b_Rec_frame 58 = .ok (.iinc 3 1, 3) := by decide +kernel
theorem d_Rec_frame_61 : decode b_Rec_frame 61 = .ok (.goto (-55), 3) := by decide +kernel
theorem d_Rec_frame_64 : decode b_Rec_frame 64 = .ok (.aload_n 1, 1) := by decide +kernel
theorem d_Rec_frame_65 : decode b_Rec_frame 65 = .ok (.ifnull 7, 3) := by decide +kernel
theorem d_Rec_frame_68 : decode b_Rec_frame 68 = .ok (.aload_n 2, 1) := by decide +kernel
theorem d_Rec_frame_69 : decode b_Rec_frame 69 = .ok (.ifnonnull 5, 3) := by decide +kernel
theorem d_Rec_frame_72 : decode b_Rec_frame 72 = .ok (.iconst (-1), 1) := by decide +kernel
theorem d_Rec_frame_73 : decode b_Rec_frame 73 = .ok (.ireturn, 1) := by decide +kernel
theorem d_Rec_frame_74 : decode b_Rec_frame 74 = .ok (.aload_n 1, 1) := by decide +kernel
theorem d_Rec_frame_75 : decode b_Rec_frame 75 = .ok (.aload_n 2, 1) := by decide +kernel
theorem d_Rec_frame_76 : decode b_Rec_frame 76 = .ok (.getfield 89, 3) := by decide +kernel
theorem d_Rec_frame_79 : decode b_Rec_frame 79 = .ok (.putfield 94, 3) := by decide +kernel
theorem d_Rec_frame_82 : decode b_Rec_frame 82 = .ok (.aload_n 2, 1) := by decide +kernel
theorem d_Rec_frame_83 : decode b_Rec_frame 83 = .ok (.lconst 0, 1) := by decide +kernel
theorem d_Rec_frame_84 : decode b_Rec_frame 84 = .ok (.putfield 97, 3) := by decide +kernel
theorem d_Rec_frame_87 : decode b_Rec_frame 87 = .ok (.aload_n 0, 1) := by decide +kernel
theorem d_Rec_frame_88 : decode b_Rec_frame 88 = .ok (.aload_n 2, 1) := by decide +kernel
theorem d_Rec_frame_89 : decode b_Rec_frame 89 = .ok (.putfield 101, 3) := by decide +kernel
theorem d_Rec_frame_92 : decode b_Rec_frame 92 = .ok (.aload_n 2, 1) := by decide +kernel
theorem d_Rec_frame_93 : decode b_Rec_frame 93 = .ok (.invokevirtual 105, 3) := by decide +kernel
theorem d_Rec_frame_96 : decode b_Rec_frame 96 = .ok (.ireturn, 1) := by decide +kernel
theorem d_Rec_frameByte_0 : decode b_Rec_frameByte 0 = .ok (.aload_n 0, 1) := by decide +kernel
theorem d_Rec_frameByte_1 : decode b_Rec_frameByte 1 = .ok (.getfield 101, 3) := by decide +kernel
theorem d_Rec_frameByte_4 : decode b_Rec_frameByte 4 = .ok (.ifnonnull 7, 3) := by decide +kernel
theorem d_Rec_frameByte_7 : decode b_Rec_frameByte 7 = .ok (.iconst (-1), 1) := by decide +kernel
theorem d_Rec_frameByte_8 : decode b_Rec_frameByte 8 = .ok (.goto 11, 3) := by decide +kernel
theorem d_Rec_frameByte_11 : decode b_Rec_frameByte 11 = .ok (.aload_n 0, 1) := by decide +kernel
theorem d_Rec_frameByte_12 : decode b_Rec_frameByte 12 = .ok (.getfield 101, 3) := by decide +kernel
theorem d_Rec_frameByte_15 : decode b_Rec_frameByte 15 = .ok (.iload_n 1, 1) := by decide +kernel
theorem d_Rec_frameByte_16 : decode b_Rec_frameByte 16 = .ok (.invokevirtual 108, 3) := by decide +kernel
theorem d_Rec_frameByte_19 : decode b_Rec_frameByte 19 = .ok (.ireturn, 1) := by decide +kernel
theorem d_Rec_confirm_0 : decode b_Rec_confirm 0 = .ok (.aload_n 0, 1) := by decide +kernel
theorem d_Rec_confirm_1 : decode b_Rec_confirm 1 = .ok (.iload_n 1, 1) := by decide +kernel
theorem d_Rec_confirm_2 : decode b_Rec_confirm 2 = .ok (.invokevirtual 42, 3) := by decide +kernel
theorem d_Rec_confirm_5 : decode b_Rec_confirm 5 = .ok (.astore 4, 2) := by decide +kernel
theorem d_Rec_confirm_7 : decode b_Rec_confirm 7 = .ok (.aload 4, 2) := by decide +kernel
theorem d_Rec_confirm_9 : decode b_Rec_confirm 9 = .ok (.ifnull 8, 3) := by decide +kernel
theorem d_Rec_confirm_12 : decode b_Rec_confirm 12 = .ok (.iload_n 2, 1) := by decide +kernel
theorem d_Rec_confirm_13 : decode b_Rec_confirm 13 = .ok (.iload_n 3, 1) := by decide +kernel
theorem d_Rec_confirm_14 : decode b_Rec_confirm 14 = .ok (.if_icmp .le 6, 3) := by decide +kernel
theorem d_Rec_confirm_17 : decode b_Rec_confirm 17 = .ok (.bipush (-2), 2) := by decide +kernel
theorem d_Rec_confirm_19 : decode b_Rec_confirm 19 = .ok (.ireturn, 1) := by decide +kernel
theorem d_Rec_confirm_20 : decode b_Rec_confirm 20 = .ok (.aload 4, 2) := by decide +kernel
theorem d_Rec_confirm_22 : decode b_Rec_confirm 22 = .ok (.iload_n 2, 1) := by decide +kernel
theorem d_Rec_confirm_23 : decode b_Rec_confirm 23 = .ok (.iload_n 3, 1) := by decide +kernel
theorem d_Rec_confirm_24 : decode b_Rec_confirm 24 = .ok (.invokevirtual 112, 3) := by decide +kernel
theorem d_Rec_confirm_27 : decode b_Rec_confirm 27 = .ok (.istore 5, 2) := by decide +kernel
theorem d_Rec_confirm_29 : decode b_Rec_confirm 29 = .ok (.aload 4, 2) := by decide +kernel
theorem d_Rec_confirm_31 : decode b_Rec_confirm 31 = .ok (.invokevirtual 71, 3) := by decide +kernel
theorem d_Rec_confirm_34 : decode b_Rec_confirm 34 = .ok (.iload 5, 2) := by decide +kernel
theorem d_Rec_confirm_36 : decode b_Rec_confirm 36 = .ok (.ireturn, 1) := by decide +kernel
theorem d_Rec_gap_0 : decode b_Rec_gap 0 = .ok (.aload_n 0, 1) := by decide +kernel
theorem d_Rec_gap_1 : decode b_Rec_gap 1 = .ok (.iload_n 1, 1) := by decide +kernel
theorem d_Rec_gap_2 : decode b_Rec_gap 2 = .ok (.iload_n 2, 1) := by decide +kernel
theorem d_Rec_gap_3 : decode b_Rec_gap 3 = .ok (.invokevirtual 115, 3) := by decide +kernel
theorem d_Rec_gap_6 : decode b_Rec_gap 6 = .ok (.astore_n 3, 1) := by decide +kernel
theorem d_Rec_gap_7 : decode b_Rec_gap 7 = .ok (.aload_n 3, 1) := by decide +kernel
theorem d_Rec_gap_8 : decode b_Rec_gap 8 = .ok (.ifnull 17, 3) := by decide +kernel
theorem d_Rec_gap_11 : decode b_Rec_gap 11 = .ok (.aload_n 3, 1) := by decide +kernel
theorem d_Rec_gap_12 : decode b_Rec_gap 12 = .ok (.getfield 119, 3) := by decide +kernel
theorem d_Rec_gap_15 : decode b_Rec_gap 15 = .ok (.ifCond .ne 10, 3) := by decide +kernel
theorem d_Rec_gap_18 : decode b_Rec_gap 18 = .ok (.aload_n 3, 1) := by decide +kernel
theorem d_Rec_gap_19 : decode b_Rec_gap 19 = .ok (.invokevirtual 123, 3) := by decide +kernel
theorem d_Rec_gap_22 : decode b_Rec_gap 22 = .ok (.ifCond .eq 5, 3) := by decide +kernel
theorem d_Rec_gap_25 : decode b_Rec_gap 25 = .ok (.iconst 0, 1) := by decide +kernel
theorem d_Rec_gap_26 : decode b_Rec_gap 26 = .ok (.ireturn, 1) := by decide +kernel
theorem d_Rec_gap_27 : decode b_Rec_gap 27 = .ok (.aload_n 3, 1) := by decide +kernel
theorem d_Rec_gap_28 : decode b_Rec_gap 28 = .ok (.aload_n 0, 1) := by decide +kernel
theorem d_Rec_gap_29 : decode b_Rec_gap 29 = .ok (.invokevirtual 74, 3) := by decide +kernel
theorem d_Rec_gap_32 : decode b_Rec_gap 32 = .ok (.putfield 97, 3) := by decide +kernel
theorem d_Rec_gap_35 : decode b_Rec_gap 35 = .ok (.iconst 1, 1) := by decide +kernel
theorem d_Rec_gap_36 : decode b_Rec_gap 36 = .ok (.ireturn, 1) := by decide +kernel
theorem d_Rec_keptPacket_0 : decode b_Rec_keptPacket 0 = .ok (.aload_n 0, 1) := by decide +kernel
theorem d_Rec_keptPacket_1 : decode b_Rec_keptPacket 1 = .ok (.iload_n 1, 1) := by decide +kernel
theorem d_Rec_keptPacket_2 : decode b_Rec_keptPacket 2 = .ok (.invokevirtual 42, 3) := by decide +kernel
theorem d_Rec_keptPacket_5 : decode b_Rec_keptPacket 5 = .ok (.astore_n 3, 1) := by decide +kernel
theorem d_Rec_keptPacket_6 : decode b_Rec_keptPacket 6 = .ok (.aload_n 3, 1) := by decide +kernel
theorem d_Rec_keptPacket_7 : decode b_Rec_keptPacket 7 = .ok (.ifnonnull 7, 3) := by decide +kernel
theorem d_Rec_keptPacket_10 : decode b_Rec_keptPacket 10 = .ok (.aconst_null, 1) := by decide +kernel
theorem d_Rec_keptPacket_11 : decode b_Rec_keptPacket 11 = .ok (.goto 8, 3) := by decide +kernel
theorem d_Rec_keptPacket_14 : decode b_Rec_keptPacket 14 = .ok (.aload_n 3, 1) := by decide +kernel
theorem d_Rec_keptPacket_15 : decode b_Rec_keptPacket 15 = .ok (.iload_n 2, 1) := by decide +kernel
theorem d_Rec_keptPacket_16 : decode b_Rec_keptPacket 16 = .ok (.invokevirtual 194, 3) := by decide +kernel
theorem d_Rec_keptPacket_19 : decode b_Rec_keptPacket 19 = .ok (.areturn, 1) := by decide +kernel
theorem d_Rec_count_0 : decode b_Rec_count 0 = .ok (.aload_n 0, 1) := by decide +kernel
theorem d_Rec_count_1 : decode b_Rec_count 1 = .ok (.iload_n 1, 1) := by decide +kernel
theorem d_Rec_count_2 : decode b_Rec_count 2 = .ok (.invokevirtual 42, 3) := by decide +kernel
theorem d_Rec_count_5 : decode b_Rec_count 5 = .ok (.astore_n 3, 1) := by decide +kernel
theorem d_Rec_count_6 : decode b_Rec_count 6 = .ok (.aload_n 3, 1) := by decide +kernel
theorem d_Rec_count_7 : decode b_Rec_count 7 = .ok (.ifnonnull 6, 3) := by decide +kernel
theorem d_Rec_count_10 : decode b_Rec_count 10 = .ok (.bipush (-2), 2) := by decide +kernel
theorem d_Rec_count_12 : decode b_Rec_count 12 = .ok (.ireturn, 1) := by decide +kernel
theorem d_Rec_count_13 : decode b_Rec_count 13 = .ok (.iload_n 2, 1) := by decide +kernel
theorem d_Rec_count_14 : decode b_Rec_count 14 = .ok (.tableswitch 71 0 5 #[38, 46, 51, 56, 61, 66], 38) := by decide +kernel
theorem d_Rec_count_52 : decode b_Rec_count 52 = .ok (.aload_n 3, 1) := by decide +kernel
theorem d_Rec_count_53 : decode b_Rec_count 53 = .ok (.getfield 127, 3) := by decide +kernel
theorem d_Rec_count_56 : decode b_Rec_count 56 = .ok (.invokevirtual 131, 3) := by decide +kernel
theorem d_Rec_count_59 : decode b_Rec_count 59 = .ok (.ireturn, 1) := by decide +kernel
theorem d_Rec_count_60 : decode b_Rec_count 60 = .ok (.aload_n 3, 1) := by decide +kernel
theorem d_Rec_count_61 : decode b_Rec_count 61 = .ok (.invokevirtual 136, 3) := by decide +kernel
theorem d_Rec_count_64 : decode b_Rec_count 64 = .ok (.ireturn, 1) := by decide +kernel
theorem d_Rec_count_65 : decode b_Rec_count 65 = .ok (.aload_n 3, 1) := by decide +kernel
theorem d_Rec_count_66 : decode b_Rec_count 66 = .ok (.getfield 139, 3) := by decide +kernel
theorem d_Rec_count_69 : decode b_Rec_count 69 = .ok (.ireturn, 1) := by decide +kernel
theorem d_Rec_count_70 : decode b_Rec_count 70 = .ok (.aload_n 3, 1) := by decide +kernel
theorem d_Rec_count_71 : decode b_Rec_count 71 = .ok (.getfield 142, 3) := by decide +kernel
theorem d_Rec_count_74 : decode b_Rec_count 74 = .ok (.ireturn, 1) := by decide +kernel
theorem d_Rec_count_75 : decode b_Rec_count 75 = .ok (.aload_n 3, 1) := by decide +kernel
theorem d_Rec_count_76 : decode b_Rec_count 76 = .ok (.getfield 59, 3) := by decide +kernel
theorem d_Rec_count_79 : decode b_Rec_count 79 = .ok (.ireturn, 1) := by decide +kernel
theorem d_Rec_count_80 : decode b_Rec_count 80 = .ok (.aload_n 3, 1) := by decide +kernel
theorem d_Rec_count_81 : decode b_Rec_count 81 = .ok (.invokevirtual 145, 3) := by decide +kernel
theorem d_Rec_count_84 : decode b_Rec_count 84 = .ok (.ireturn, 1) := by decide +kernel
theorem d_Rec_count_85 : decode b_Rec_count 85 = .ok (.bipush (-2), 2) := by decide +kernel
theorem d_Rec_count_87 : decode b_Rec_count 87 = .ok (.ireturn, 1) := by decide +kernel
theorem d_Rec_packetByte_0 : decode b_Rec_packetByte 0 = .ok (.aload_n 0, 1) := by decide +kernel
theorem d_Rec_packetByte_1 : decode b_Rec_packetByte 1 = .ok (.iload_n 1, 1) := by decide +kernel
theorem d_Rec_packetByte_2 : decode b_Rec_packetByte 2 = .ok (.iload_n 2, 1) := by decide +kernel
theorem d_Rec_packetByte_3 : decode b_Rec_packetByte 3 = .ok (.invokevirtual 115, 3) := by decide +kernel
theorem d_Rec_packetByte_6 : decode b_Rec_packetByte 6 = .ok (.astore 4, 2) := by decide +kernel
theorem d_Rec_packetByte_8 : decode b_Rec_packetByte 8 = .ok (.aload 4, 2) := by decide +kernel
theorem d_Rec_packetByte_10 : decode b_Rec_packetByte 10 = .ok (.ifnonnull 7, 3) := by decide +kernel
theorem d_Rec_packetByte_13 : decode b_Rec_packetByte 13 = .ok (.iconst (-1), 1) := by decide +kernel
theorem d_Rec_packetByte_14 : decode b_Rec_packetByte 14 = .ok (.goto 9, 3) := by decide +kernel
theorem d_Rec_packetByte_17 : decode b_Rec_packetByte 17 = .ok (.aload 4, 2) := by decide +kernel
theorem d_Rec_packetByte_19 : decode b_Rec_packetByte 19 = .ok (.iload_n 3, 1) := by decide +kernel
theorem d_Rec_packetByte_20 : decode b_Rec_packetByte 20 = .ok (.invokevirtual 148, 3) := by decide +kernel
theorem d_Rec_packetByte_23 : decode b_Rec_packetByte 23 = .ok (.ireturn, 1) := by decide +kernel
theorem d_Rec_seek_0 : decode b_Rec_seek 0 = .ok (.aload_n 0, 1) := by decide +kernel
theorem d_Rec_seek_1 : decode b_Rec_seek 1 = .ok (.iload_n 1, 1) := by decide +kernel
theorem d_Rec_seek_2 : decode b_Rec_seek 2 = .ok (.invokevirtual 42, 3) := by decide +kernel
theorem d_Rec_seek_5 : decode b_Rec_seek 5 = .ok (.astore_n 3, 1) := by decide +kernel
theorem d_Rec_seek_6 : decode b_Rec_seek 6 = .ok (.aload_n 3, 1) := by decide +kernel
theorem d_Rec_seek_7 : decode b_Rec_seek 7 = .ok (.ifnonnull 7, 3) := by decide +kernel
theorem d_Rec_seek_10 : decode b_Rec_seek 10 = .ok (.iconst (-1), 1) := by decide +kernel
theorem d_Rec_seek_11 : decode b_Rec_seek 11 = .ok (.goto 8, 3) := by decide +kernel
theorem d_Rec_seek_14 : decode b_Rec_seek 14 = .ok (.aload_n 3, 1) := by decide +kernel
theorem d_Rec_seek_15 : decode b_Rec_seek 15 = .ok (.iload_n 2, 1) := by decide +kernel
theorem d_Rec_seek_16 : decode b_Rec_seek 16 = .ok (.invokevirtual 151, 3) := by decide +kernel
theorem d_Rec_seek_19 : decode b_Rec_seek 19 = .ok (.ireturn, 1) := by decide +kernel
theorem d_Rec_tick_0 : decode b_Rec_tick 0 = .ok (.iload_n 1, 1) := by decide +kernel
theorem d_Rec_tick_1 : decode b_Rec_tick 1 = .ok (.ifCond .lt 10, 3) := by decide +kernel
theorem d_Rec_tick_4 : decode b_Rec_tick 4 = .ok (.iload_n 1, 1) := by decide +kernel
theorem d_Rec_tick_5 : decode b_Rec_tick 5 = .ok (.sipush 1000, 3) := by decide +kernel
theorem d_Rec_tick_8 : decode b_Rec_tick 8 = .ok (.if_icmp .le 6, 3) := by decide +kernel
theorem d_Rec_tick_11 : decode b_Rec_tick 11 = .ok (.bipush (-2), 2) := by decide +kernel
theorem d_Rec_tick_13 : decode b_Rec_tick 13 = .ok (.ireturn, 1) := by decide +kernel
theorem d_Rec_tick_14 : decode b_Rec_tick 14 = .ok (.aload_n 0, 1) := by decide +kernel
theorem d_Rec_tick_15 : decode b_Rec_tick 15 = .ok (.getfield 12, 3) := by decide +kernel
theorem d_Rec_tick_18 : decode b_Rec_tick 18 = .ok (.invokevirtual 154, 3) := by decide +kernel
theorem d_Rec_tick_21 : decode b_Rec_tick 21 = .ok (.aload_n 0, 1) := by decide +kernel
theorem d_Rec_tick_22 : decode b_Rec_tick 22 = .ok (.getfield 12, 3) := by decide +kernel
theorem d_Rec_tick_25 : decode b_Rec_tick 25 = .ok (.iload_n 1, 1) := by decide +kernel
theorem d_Rec_tick_26 : decode b_Rec_tick 26 = .ok (.invokevirtual 157, 3) := by decide +kernel
theorem d_Rec_tick_29 : decode b_Rec_tick 29 = .ok (.ireturn, 1) := by decide +kernel
theorem d_Rec_flip_0 : decode b_Rec_flip 0 = .ok (.aload_n 0, 1) := by decide +kernel
theorem d_Rec_flip_1 : decode b_Rec_flip 1 = .ok (.getfield 12, 3) := by decide +kernel
theorem d_Rec_flip_4 : decode b_Rec_flip 4 = .ok (.iload_n 1, 1) := by decide +kernel
theorem d_Rec_flip_5 : decode b_Rec_flip 5 = .ok (.iload_n 2, 1) := by decide +kernel
theorem d_Rec_flip_6 : decode b_Rec_flip 6 = .ok (.iload_n 3, 1) := by decide +kernel
theorem d_Rec_flip_7 : decode b_Rec_flip 7 = .ok (.invokevirtual 160, 3) := by decide +kernel
theorem d_Rec_flip_10 : decode b_Rec_flip 10 = .ok (.ireturn, 1) := by decide +kernel
theorem d_Rec_latch_0 : decode b_Rec_latch 0 = .ok (.aload_n 0, 1) := by decide +kernel
theorem d_Rec_latch_1 : decode b_Rec_latch 1 = .ok (.getfield 12, 3) := by decide +kernel
theorem d_Rec_latch_4 : decode b_Rec_latch 4 = .ok (.iload_n 1, 1) := by decide +kernel
theorem d_Rec_latch_5 : decode b_Rec_latch 5 = .ok (.invokevirtual 164, 3) := by decide +kernel
theorem d_Rec_latch_8 : decode b_Rec_latch 8 = .ok (.ireturn, 1) := by decide +kernel
theorem d_Rec_power_0 : decode b_Rec_power 0 = .ok (.aload_n 0, 1) := by decide +kernel
theorem d_Rec_power_1 : decode b_Rec_power 1 = .ok (.getfield 12, 3) := by decide +kernel
theorem d_Rec_power_4 : decode b_Rec_power 4 = .ok (.iload_n 1, 1) := by decide +kernel
theorem d_Rec_power_5 : decode b_Rec_power 5 = .ok (.invokevirtual 167, 3) := by decide +kernel
theorem d_Rec_power_8 : decode b_Rec_power 8 = .ok (.ireturn, 1) := by decide +kernel
theorem d_Rec_checkpoint_0 : decode b_Rec_checkpoint 0 = .ok (.iload_n 1, 1) := by decide +kernel
theorem d_Rec_checkpoint_1 : decode b_Rec_checkpoint 1 = .ok (.ifCond .ge 6, 3) := by decide +kernel
theorem d_Rec_checkpoint_4 : decode b_Rec_checkpoint 4 = .ok (.bipush (-2), 2) := by decide +kernel
theorem d_Rec_checkpoint_6 : decode b_Rec_checkpoint 6 = .ok (.ireturn, 1) := by decide +kernel
theorem d_Rec_checkpoint_7 : decode b_Rec_checkpoint 7 = .ok (.bipush 6, 2) := by decide +kernel
theorem d_Rec_checkpoint_9 : decode b_Rec_checkpoint 9 = .ok (.iconst 2, 1) := by decide +kernel
theorem d_Rec_checkpoint_10 : decode b_Rec_checkpoint 10 = .ok (.aload_n 0, 1) := by decide +kernel
theorem d_Rec_checkpoint_11 : decode b_Rec_checkpoint 11 = .ok (.invokevirtual 170, 3) := by decide +kernel
theorem d_Rec_checkpoint_14 : decode b_Rec_checkpoint 14 = .ok (.imul, 1) := by decide +kernel
theorem d_Rec_checkpoint_15 : decode b_Rec_checkpoint 15 = .ok (.iadd, 1) := by decide +kernel
theorem d_Rec_checkpoint_16 : decode b_Rec_checkpoint 16 = .ok (.istore_n 2, 1) := by decide +kernel
theorem d_Rec_checkpoint_17 : decode b_Rec_checkpoint 17 = .ok (.iload_n 1, 1) := by decide +kernel
theorem d_Rec_checkpoint_18 : decode b_Rec_checkpoint 18 = .ok (.iload_n 2, 1) := by decide +kernel
theorem d_Rec_checkpoint_19 : decode b_Rec_checkpoint 19 = .ok (.if_icmp .lt 7, 3) := by decide +kernel
theorem d_Rec_checkpoint_22 : decode b_Rec_checkpoint 22 = .ok (.aload_n 0, 1) := by decide +kernel
theorem d_Rec_checkpoint_23 : decode b_Rec_checkpoint 23 = .ok (.invokevirtual 39, 3) := by decide +kernel
theorem d_Rec_checkpoint_26 : decode b_Rec_checkpoint 26 = .ok (.iload_n 2, 1) := by decide +kernel
theorem d_Rec_checkpoint_27 : decode b_Rec_checkpoint 27 = .ok (.ireturn, 1) := by decide +kernel
theorem d_Rec_countRuns_0 : decode b_Rec_countRuns 0 = .ok (.iconst 0, 1) := by decide +kernel
theorem d_Rec_countRuns_1 : decode b_Rec_countRuns 1 = .ok (.istore_n 1, 1) := by decide +kernel
theorem d_Rec_countRuns_2 : decode b_Rec_countRuns 2 = .ok (.iconst 0, 1) := by decide +kernel
theorem d_Rec_countRuns_3 : decode b_Rec_countRuns 3 = .ok (.istore_n 2, 1) := by decide +kernel
theorem d_Rec_countRuns_4 : decode b_Rec_countRuns 4 = .ok (.iload_n 2, 1) := by decide +kernel
theorem d_Rec_countRuns_5 : decode b_Rec_countRuns 5 = .ok (.iconst 4, 1) := by decide +kernel
theorem d_Rec_countRuns_6 : decode b_Rec_countRuns 6 = .ok (.if_icmp .ge 30, 3) := by decide +kernel
theorem d_Rec_countRuns_9 : decode b_Rec_countRuns 9 = .ok (.aload_n 0, 1) := by decide +kernel
theorem d_Rec_countRuns_10 : decode b_Rec_countRuns 10 = .ok (.getfield 18, 3) := by decide +kernel
theorem d_Rec_countRuns_13 : decode b_Rec_countRuns 13 = .ok (.iload_n 2, 1) := by decide +kernel
theorem d_Rec_countRuns_14 : decode b_Rec_countRuns 14 = .ok (.aaload, 1) := by decide +kernel
theorem d_Rec_countRuns_15 : decode b_Rec_countRuns 15 = .ok (.ifnull 15, 3) := by decide +kernel
theorem d_Rec_countRuns_18 : decode b_Rec_countRuns 18 = .ok (.iload_n 1, 1) := by decide +kernel
theorem d_Rec_countRuns_19 : decode b_Rec_countRuns 19 = .ok (.aload_n 0, 1) := by decide +kernel
theorem d_Rec_countRuns_20 : decode b_Rec_countRuns 20 = .ok (.getfield 18, 3) := by decide +kernel
theorem d_Rec_countRuns_23 : decode b_Rec_countRuns 23 = .ok (.iload_n 2, 1) := by decide +kernel
theorem d_Rec_countRuns_24 : decode b_Rec_countRuns 24 = .ok (.aaload, 1) := by decide +kernel
theorem d_Rec_countRuns_25 : decode b_Rec_countRuns 25 = .ok (.invokevirtual 208, 3) := by decide +kernel
theorem d_Rec_countRuns_28 : decode b_Rec_countRuns 28 = .ok (.iadd, 1) := by decide +kernel
theorem d_Rec_countRuns_29 : decode b_Rec_countRuns 29 = .ok (.istore_n 1, 1) := by decide +kernel
theorem d_Rec_countRuns_30 : decode b_Rec_countRuns 30 = .ok (.iinc 2 1, 3) := by decide +kernel
theorem d_Rec_countRuns_33 : decode b_Rec_countRuns 33 = .ok (.goto (-29), 3) := by decide +kernel
theorem d_Rec_countRuns_36 : decode b_Rec_countRuns 36 = .ok (.iload_n 1, 1) := by decide +kernel
theorem d_Rec_countRuns_37 : decode b_Rec_countRuns 37 = .ok (.ireturn, 1) := by decide +kernel
theorem d_Rec_reset_0 : decode b_Rec_reset 0 = .ok (.iconst 0, 1) := by decide +kernel
theorem d_Rec_reset_1 : decode b_Rec_reset 1 = .ok (.istore_n 1, 1) := by decide +kernel
theorem d_Rec_reset_2 : decode b_Rec_reset 2 = .ok (.iload_n 1, 1) := by decide +kernel
theorem d_Rec_reset_3 : decode b_Rec_reset 3 = .ok (.iconst 4, 1) := by decide +kernel
theorem d_Rec_reset_4 : decode b_Rec_reset 4 = .ok (.if_icmp .ge 27, 3) := by decide +kernel
theorem d_Rec_reset_7 : decode b_Rec_reset 7 = .ok (.aload_n 0, 1) := by decide +kernel
theorem d_Rec_reset_8 : decode b_Rec_reset 8 = .ok (.getfield 18, 3) := by decide +kernel
theorem d_Rec_reset_11 : decode b_Rec_reset 11 = .ok (.iload_n 1, 1) := by decide +kernel
theorem d_Rec_reset_12 : decode b_Rec_reset 12 = .ok (.aaload, 1) := by decide +kernel
theorem d_Rec_reset_13 : decode b_Rec_reset 13 = .ok (.ifnull 12, 3) := by decide +kernel
theorem d_Rec_reset_16 : decode b_Rec_reset 16 = .ok (.aload_n 0, 1) := by decide +kernel
theorem d_Rec_reset_17 : decode b_Rec_reset 17 = .ok (.getfield 18, 3) := by decide +kernel
theorem d_Rec_reset_20 : decode b_Rec_reset 20 = .ok (.iload_n 1, 1) := by decide +kernel
theorem d_Rec_reset_21 : decode b_Rec_reset 21 = .ok (.aaload, 1) := by decide +kernel
theorem d_Rec_reset_22 : decode b_Rec_reset 22 = .ok (.invokevirtual 173, 3) := by decide +kernel
theorem d_Rec_reset_25 : decode b_Rec_reset 25 = .ok (.iinc 1 1, 3) := by decide +kernel
theorem d_Rec_reset_28 : decode b_Rec_reset 28 = .ok (.goto (-26), 3) := by decide +kernel
theorem d_Rec_reset_31 : decode b_Rec_reset 31 = .ok (.iconst 0, 1) := by decide +kernel
theorem d_Rec_reset_32 : decode b_Rec_reset 32 = .ok (.istore_n 1, 1) := by decide +kernel
theorem d_Rec_reset_33 : decode b_Rec_reset 33 = .ok (.iload_n 1, 1) := by decide +kernel
theorem d_Rec_reset_34 : decode b_Rec_reset 34 = .ok (.iconst 4, 1) := by decide +kernel
theorem d_Rec_reset_35 : decode b_Rec_reset 35 = .ok (.if_icmp .ge 16, 3) := by decide +kernel
theorem d_Rec_reset_38 : decode b_Rec_reset 38 = .ok (.aload_n 0, 1) := by decide +kernel
theorem d_Rec_reset_39 : decode b_Rec_reset 39 = .ok (.getfield 24, 3) := by decide +kernel
theorem d_Rec_reset_42 : decode b_Rec_reset 42 = .ok (.iload_n 1, 1) := by decide +kernel
theorem d_Rec_reset_43 : decode b_Rec_reset 43 = .ok (.aconst_null, 1) := by decide +kernel
theorem d_Rec_reset_44 : decode b_Rec_reset 44 = .ok (.aastore, 1) := by decide +kernel
theorem d_Rec_reset_45 : decode b_Rec_reset 45 = .ok (.iinc 1 1, 3) := by decide +kernel
theorem d_Rec_reset_48 : decode b_Rec_reset 48 = .ok (.goto (-15), 3) := by decide +kernel
theorem d_Rec_reset_51 : decode b_Rec_reset 51 = .ok (.aload_n 0, 1) := by decide +kernel
theorem d_Rec_reset_52 : decode b_Rec_reset 52 = .ok (.aconst_null, 1) := by decide +kernel
theorem d_Rec_reset_53 : decode b_Rec_reset 53 = .ok (.putfield 101, 3) := by decide +kernel
theorem d_Rec_reset_56 : decode b_Rec_reset 56 = .ok (.aload_n 0, 1) := by decide +kernel
theorem d_Rec_reset_57 : decode b_Rec_reset 57 = .ok (.getfield 12, 3) := by decide +kernel
theorem d_Rec_reset_60 : decode b_Rec_reset 60 = .ok (.invokevirtual 176, 3) := by decide +kernel
theorem d_Rec_reset_63 : decode b_Rec_reset 63 = .ok (.return_, 1) := by decide +kernel
theorem d_Rec_told_0 : decode b_Rec_told 0 = .ok (.iload_n 1, 1) := by decide +kernel
theorem d_Rec_told_1 : decode b_Rec_told 1 = .ok (.tableswitch 75 0 4 #[35, 43, 51, 59, 67], 35) := by decide +kernel
theorem d_Rec_told_36 : decode b_Rec_told 36 = .ok (.aload_n 0, 1) := by decide +kernel
theorem d_Rec_told_37 : decode b_Rec_told 37 = .ok (.getfield 12, 3) := by decide +kernel
theorem d_Rec_told_40 : decode b_Rec_told 40 = .ok (.getfield 179, 3) := by decide +kernel
theorem d_Rec_told_43 : decode b_Rec_told 43 = .ok (.ireturn, 1) := by decide +kernel
theorem d_Rec_told_44 : decode b_Rec_told 44 = .ok (.aload_n 0, 1) := by decide +kernel
theorem d_Rec_told_45 : decode b_Rec_told 45 = .ok (.getfield 12, 3) := by decide +kernel
theorem d_Rec_told_48 : decode b_Rec_told 48 = .ok (.getfield 182, 3) := by decide +kernel
theorem d_Rec_told_51 : decode b_Rec_told 51 = .ok (.ireturn, 1) := by decide +kernel
theorem d_Rec_told_52 : decode b_Rec_told 52 = .ok (.aload_n 0, 1) := by decide +kernel
theorem d_Rec_told_53 : decode b_Rec_told 53 = .ok (.getfield 12, 3) := by decide +kernel
theorem d_Rec_told_56 : decode b_Rec_told 56 = .ok (.invokevirtual 185, 3) := by decide +kernel
theorem d_Rec_told_59 : decode b_Rec_told 59 = .ok (.ireturn, 1) := by decide +kernel
theorem d_Rec_told_60 : decode b_Rec_told 60 = .ok (.aload_n 0, 1) := by decide +kernel
theorem d_Rec_told_61 : decode b_Rec_told 61 = .ok (.getfield 12, 3) := by decide +kernel
theorem d_Rec_told_64 : decode b_Rec_told 64 = .ok (.invokevirtual 188, 3) := by decide +kernel
theorem d_Rec_told_67 : decode b_Rec_told 67 = .ok (.ireturn, 1) := by decide +kernel
theorem d_Rec_told_68 : decode b_Rec_told 68 = .ok (.aload_n 0, 1) := by decide +kernel
theorem d_Rec_told_69 : decode b_Rec_told 69 = .ok (.getfield 12, 3) := by decide +kernel
theorem d_Rec_told_72 : decode b_Rec_told 72 = .ok (.invokevirtual 191, 3) := by decide +kernel
theorem d_Rec_told_75 : decode b_Rec_told 75 = .ok (.ireturn, 1) := by decide +kernel
theorem d_Rec_told_76 : decode b_Rec_told 76 = .ok (.bipush (-2), 2) := by decide +kernel
theorem d_Rec_told_78 : decode b_Rec_told 78 = .ok (.ireturn, 1) := by decide +kernel
