theorem d_B_init_0 : decode b_B_init 0 = .ok (.aload_n 0, 1) := by decide +kernel
theorem d_B_init_1 : decode b_B_init 1 = .ok (.invokespecial 3, 3) := by decide +kernel
theorem d_B_init_4 : decode b_B_init 4 = .ok (.aload_n 0, 1) := by decide +kernel
theorem d_B_init_5 : decode b_B_init 5 = .ok (.sipush 512, 3) := by decide +kernel
theorem d_B_init_8 : decode b_B_init 8 = .ok (.newarray .int, 2) := by decide +kernel
theorem d_B_init_10 : decode b_B_init 10 = .ok (.putfield 9, 3) := by decide +kernel
theorem d_B_init_13 : decode b_B_init 13 = .ok (.return_, 1) := by decide +kernel
theorem d_B_set_0 : decode b_B_set 0 = .ok (.aload_n 0, 1) := by decide +kernel
theorem d_B_set_1 : decode b_B_set 1 = .ok (.iconst 0, 1) := by decide +kernel
theorem d_B_set_2 : decode b_B_set 2 = .ok (.putfield 15, 3) := by decide +kernel
theorem d_B_set_5 : decode b_B_set 5 = .ok (.aload_n 0, 1) := by decide +kernel
theorem d_B_set_6 : decode b_B_set 6 = .ok (.iconst 0, 1) := by decide +kernel
theorem d_B_set_7 : decode b_B_set 7 = .ok (.iload_n 1, 1) := by decide +kernel
theorem d_B_set_8 : decode b_B_set 8 = .ok (.i2l, 1) := by decide +kernel
theorem d_B_set_9 : decode b_B_set 9 = .ok (.invokevirtual 19, 3) := by decide +kernel
theorem d_B_set_12 : decode b_B_set 12 = .ok (.return_, 1) := by decide +kernel
theorem d_B_copy_0 : decode b_B_copy 0 = .ok (.aload_n 0, 1) := by decide +kernel
theorem d_B_copy_1 : decode b_B_copy 1 = .ok (.aload_n 1, 1) := by decide +kernel
theorem d_B_copy_2 : decode b_B_copy 2 = .ok (.getfield 15, 3) := by decide +kernel
theorem d_B_copy_5 : decode b_B_copy 5 = .ok (.putfield 15, 3) := by decide +kernel
theorem d_B_copy_8 : decode b_B_copy 8 = .ok (.aload_n 0, 1) := by decide +kernel
theorem d_B_copy_9 : decode b_B_copy 9 = .ok (.aload_n 1, 1) := by decide +kernel
theorem d_B_copy_10 : decode b_B_copy 10 = .ok (.getfield 23, 3) := by decide +kernel
theorem d_B_copy_13 : decode b_B_copy 13 = .ok (.putfield 23, 3) := by decide +kernel
theorem d_B_copy_16 : decode b_B_copy 16 = .ok (.aload_n 1, 1) := by decide +kernel
theorem d_B_copy_17 : decode b_B_copy 17 = .ok (.getfield 9, 3) := by decide +kernel
theorem d_B_copy_20 : decode b_B_copy 20 = .ok (.iconst 0, 1) := by decide +kernel
theorem d_B_copy_21 : decode b_B_copy 21 = .ok (.aload_n 0, 1) := by decide +kernel
theorem d_B_copy_22 : decode b_B_copy 22 = .ok (.getfield 9, 3) := by decide +kernel
theorem d_B_copy_25 : decode b_B_copy 25 = .ok (.iconst 0, 1) := by decide +kernel
theorem d_B_copy_26 : decode b_B_copy 26 = .ok (.aload_n 1, 1) := by decide +kernel
theorem d_B_copy_27 : decode b_B_copy 27 = .ok (.getfield 23, 3) := by decide +kernel
theorem d_B_copy_30 : decode b_B_copy 30 = .ok (.invokestatic 27, 3) := by decide +kernel
theorem d_B_copy_33 : decode b_B_copy 33 = .ok (.return_, 1) := by decide +kernel
theorem d_B_signum_0 : decode b_B_signum 0 = .ok (.aload_n 0, 1) := by decide +kernel
theorem d_B_signum_1 : decode b_B_signum 1 = .ok (.getfield 23, 3) := by decide +kernel
theorem d_B_signum_4 : decode b_B_signum 4 = .ok (.ifCond .ne 5, 3) := by decide +kernel
theorem d_B_signum_7 : decode b_B_signum 7 = .ok (.iconst 0, 1) := by decide +kernel
theorem d_B_signum_8 : decode b_B_signum 8 = .ok (.ireturn, 1) := by decide +kernel
theorem d_B_signum_9 : decode b_B_signum 9 = .ok (.aload_n 0, 1) := by decide +kernel
theorem d_B_signum_10 : decode b_B_signum 10 = .ok (.getfield 15, 3) := by decide +kernel
theorem d_B_signum_13 : decode b_B_signum 13 = .ok (.ifCond .eq 7, 3) := by decide +kernel
theorem d_B_signum_16 : decode b_B_signum 16 = .ok (.iconst (-1), 1) := by decide +kernel
theorem d_B_signum_17 : decode b_B_signum 17 = .ok (.goto 4, 3) := by decide +kernel
theorem d_B_signum_20 : decode b_B_signum 20 = .ok (.iconst 1, 1) := by decide +kernel
theorem d_B_signum_21 : decode b_B_signum 21 = .ok (.ireturn, 1) := by decide +kernel
theorem d_B_countBits_0 : decode b_B_countBits 0 = .ok (.aload_n 0, 1) := by decide +kernel
theorem d_B_countBits_1 : decode b_B_countBits 1 = .ok (.getfield 23, 3) := by decide +kernel
theorem d_B_countBits_4 : decode b_B_countBits 4 = .ok (.ifCond .ne 5, 3) := by decide +kernel
theorem d_B_countBits_7 : decode b_B_countBits 7 = .ok (.iconst 0, 1) := by decide +kernel
theorem d_B_countBits_8 : decode b_B_countBits 8 = .ok (.ireturn, 1) := by decide +kernel
theorem d_B_countBits_9 : decode b_B_countBits 9 = .ok (.bipush 32, 2) := by decide +kernel
theorem d_B_countBits_11 : decode b_B_countBits 11 = .ok (.aload_n 0, 1) := by decide +kernel
theorem d_B_countBits_12 : decode b_B_countBits 12 = .ok (.getfield 23, 3) := by decide +kernel
theorem d_B_countBits_15 : decode b_B_countBits 15 = .ok (.imul, 1) := by decide +kernel
theorem d_B_countBits_16 : decode b_B_countBits 16 = .ok (.aload_n 0, 1) := by decide +kernel
theorem d_B_countBits_17 : decode b_B_countBits 17 = .ok (.getfield 9, 3) := by decide +kernel
theorem d_B_countBits_20 : decode b_B_countBits 20 = .ok (.aload_n 0, 1) := by decide +kernel
theorem d_B_countBits_21 : decode b_B_countBits 21 = .ok (.getfield 23, 3) := by decide +kernel
theorem d_B_countBits_24 : decode b_B_countBits 24 = .ok (.iconst 1, 1) := by decide +kernel
theorem d_B_countBits_25 : decode b_B_countBits 25 = .ok (.isub, 1) := by decide +kernel
theorem d_B_countBits_26 : decode b_B_countBits 26 = .ok (.iaload, 1) := by decide +kernel
theorem d_B_countBits_27 : decode b_B_countBits 27 = .ok (.invokestatic 33, 3) := by decide +kernel
theorem d_B_countBits_30 : decode b_B_countBits 30 = .ok (.isub, 1) := by decide +kernel
theorem d_B_countBits_31 : decode b_B_countBits 31 = .ok (.ireturn, 1) := by decide +kernel
theorem d_B_wordAt_0 : decode b_B_wordAt 0 = .ok (.iload_n 1, 1) := by decide +kernel
theorem d_B_wordAt_1 : decode b_B_wordAt 1 = .ok (.aload_n 0, 1) := by decide +kernel
theorem d_B_wordAt_2 : decode b_B_wordAt 2 = .ok (.getfield 23, 3) := by decide +kernel
theorem d_B_wordAt_5 : decode b_B_wordAt 5 = .ok (.if_icmp .ge 12, 3) := by decide +kernel
theorem d_B_wordAt_8 : decode b_B_wordAt 8 = .ok (.aload_n 0, 1) := by decide +kernel
theorem d_B_wordAt_9 : decode b_B_wordAt 9 = .ok (.getfield 9, 3) := by decide +kernel
theorem d_B_wordAt_12 : decode b_B_wordAt 12 = .ok (.iload_n 1, 1) := by decide +kernel
theorem d_B_wordAt_13 : decode b_B_wordAt 13 = .ok (.iaload, 1) := by decide +kernel
theorem d_B_wordAt_14 : decode b_B_wordAt 14 = .ok (.goto 4, 3) := by decide +kernel
theorem d_B_wordAt_17 : decode b_B_wordAt 17 = .ok (.iconst 0, 1) := by decide +kernel
theorem d_B_wordAt_18 : decode b_B_wordAt 18 = .ok (.ireturn, 1) := by decide +kernel
theorem d_B_modulo_0 : decode b_B_modulo 0 = .ok (.lconst 0, 1) := by decide +kernel
theorem d_B_modulo_1 : decode b_B_modulo 1 = .ok (.lstore_n 2, 1) := by decide +kernel
theorem d_B_modulo_2 : decode b_B_modulo 2 = .ok (.aload_n 0, 1) := by decide +kernel
theorem d_B_modulo_3 : decode b_B_modulo 3 = .ok (.getfield 23, 3) := by decide +kernel
theorem d_B_modulo_6 : decode b_B_modulo 6 = .ok (.iconst 1, 1) := by decide +kernel
theorem d_B_modulo_7 : decode b_B_modulo 7 = .ok (.isub, 1) := by decide +kernel
theorem d_B_modulo_8 : decode b_B_modulo 8 = .ok (.istore 4, 2) := by decide +kernel
theorem d_B_modulo_10 : decode b_B_modulo 10 = .ok (.iload 4, 2) := by decide +kernel
theorem d_B_modulo_12 : decode b_B_modulo 12 = .ok (.ifCond .lt 30, 3) := by decide +kernel
theorem d_B_modulo_15 : decode b_B_modulo 15 = .ok (.lload_n 2, 1) := by decide +kernel
theorem d_B_modulo_16 : decode b_B_modulo 16 = .ok (.bipush 32, 2) := by decide +kernel
theorem d_B_modulo_18 : decode b_B_modulo 18 = .ok (.lshl, 1) := by decide +kernel
theorem d_B_modulo_19 : decode b_B_modulo 19 = .ok (.aload_n 0, 1) := by decide +kernel
theorem d_B_modulo_20 : decode b_B_modulo 20 = .ok (.getfield 9, 3) := by decide +kernel
theorem d_B_modulo_23 : decode b_B_modulo 23 = .ok (.iload 4, 2) := by decide +kernel
theorem d_B_modulo_25 : decode b_B_modulo 25 = .ok (.iaload, 1) := by decide +kernel
theorem d_B_modulo_26 : decode b_B_modulo 26 = .ok (.i2l, 1) := by decide +kernel
theorem d_B_modulo_27 : decode b_B_modulo 27 = .ok (.ldc2_w 39, 3) := by decide +kernel
theorem d_B_modulo_30 : decode b_B_modulo 30 = .ok (.land, 1) := by decide +kernel
theorem d_B_modulo_31 : decode b_B_modulo 31 = .ok (.lor, 1) := by decide +kernel
theorem d_B_modulo_32 : decode b_B_modulo 32 = .ok (.iload_n 1, 1) := by decide +kernel
theorem d_B_modulo_33 : decode b_B_modulo 33 = .ok (.i2l, 1) := by decide +kernel
theorem d_B_modulo_34 : decode b_B_modulo 34 = .ok (.lrem, 1) := by decide +kernel
theorem d_B_modulo_35 : decode b_B_modulo 35 = .ok (.lstore_n 2, 1) := by decide +kernel
theorem d_B_modulo_36 : decode b_B_modulo 36 = .ok (.iinc 4 (-1), 3) := by decide +kernel
theorem d_B_modulo_39 : decode b_B_modulo 39 = .ok (.goto (-29), 3) := by decide +kernel
theorem d_B_modulo_42 : decode b_B_modulo 42 = .ok (.aload_n 0, 1) := by decide +kernel
theorem d_B_modulo_43 : decode b_B_modulo 43 = .ok (.getfield 15, 3) := by decide +kernel
theorem d_B_modulo_46 : decode b_B_modulo 46 = .ok (.ifCond .eq 16, 3) := by decide +kernel
theorem d_B_modulo_49 : decode b_B_modulo 49 = .ok (.lload_n 2, 1) := by decide +kernel
theorem d_B_modulo_50 : decode b_B_modulo 50 = .ok (.lconst 0, 1) := by decide +kernel
theorem d_B_modulo_51 : decode b_B_modulo 51 = .ok (.lcmp, 1) := by decide +kernel
theorem d_B_modulo_52 : decode b_B_modulo 52 = .ok (.ifCond .le 10, 3) := by decide +kernel
theorem d_B_modulo_55 : decode b_B_modulo 55 = .ok (.iload_n 1, 1) := by decide +kernel
theorem d_B_modulo_56 : decode b_B_modulo 56 = .ok (.i2l, 1) := by decide +kernel
theorem d_B_modulo_57 : decode b_B_modulo 57 = .ok (.lload_n 2, 1) := by decide +kernel
theorem d_B_modulo_58 : decode b_B_modulo 58 = .ok (.lsub, 1) := by decide +kernel
theorem d_B_modulo_59 : decode b_B_modulo 59 = .ok (.goto 4, 3) := by decide +kernel
theorem d_B_modulo_62 : decode b_B_modulo 62 = .ok (.lload_n 2, 1) := by decide +kernel
theorem d_B_modulo_63 : decode b_B_modulo 63 = .ok (.lreturn, 1) := by decide +kernel
theorem d_B_close_0 : decode b_B_close 0 = .ok (.aload_n 0, 1) := by decide +kernel
theorem d_B_close_1 : decode b_B_close 1 = .ok (.iload_n 1, 1) := by decide +kernel
theorem d_B_close_2 : decode b_B_close 2 = .ok (.putfield 23, 3) := by decide +kernel
theorem d_B_close_5 : decode b_B_close 5 = .ok (.lload_n 2, 1) := by decide +kernel
theorem d_B_close_6 : decode b_B_close 6 = .ok (.lconst 0, 1) := by decide +kernel
theorem d_B_close_7 : decode b_B_close 7 = .ok (.lcmp, 1) := by decide +kernel
theorem d_B_close_8 : decode b_B_close 8 = .ok (.ifCond .eq 34, 3) := by decide +kernel
theorem d_B_close_11 : decode b_B_close 11 = .ok (.aload_n 0, 1) := by decide +kernel
theorem d_B_close_12 : decode b_B_close 12 = .ok (.getfield 23, 3) := by decide +kernel
theorem d_B_close_15 : decode b_B_close 15 = .ok (.sipush 512, 3) := by decide +kernel
theorem d_B_close_18 : decode b_B_close 18 = .ok (.if_icmp .ge 24, 3) := by decide +kernel
theorem d_B_close_21 : decode b_B_close 21 = .ok (.aload_n 0, 1) := by decide +kernel
theorem d_B_close_22 : decode b_B_close 22 = .ok (.getfield 9, 3) := by decide +kernel
theorem d_B_close_25 : decode b_B_close 25 = .ok (.aload_n 0, 1) := by decide +kernel
theorem d_B_close_26 : decode b_B_close 26 = .ok (.getfield 23, 3) := by decide +kernel
theorem d_B_close_29 : decode b_B_close 29 = .ok (.lload_n 2, 1) := by decide +kernel
theorem d_B_close_30 : decode b_B_close 30 = .ok (.l2i, 1) := by decide +kernel
theorem d_B_close_31 : decode b_B_close 31 = .ok (.iastore, 1) := by decide +kernel
theorem d_B_close_32 : decode b_B_close 32 = .ok (.aload_n 0, 1) := by decide +kernel
theorem d_B_close_33 : decode b_B_close 33 = .ok (.dup, 1) := by decide +kernel
theorem d_B_close_34 : decode b_B_close 34 = .ok (.getfield 23, 3) := by decide +kernel
theorem d_B_close_37 : decode b_B_close 37 = .ok (.iconst 1, 1) := by decide +kernel
theorem d_B_close_38 : decode b_B_close 38 = .ok (.iadd, 1) := by decide +kernel
theorem d_B_close_39 : decode b_B_close 39 = .ok (.putfield 23, 3) := by decide +kernel
theorem d_B_close_42 : decode b_B_close 42 = .ok (.aload_n 0, 1) := by decide +kernel
theorem d_B_close_43 : decode b_B_close 43 = .ok (.getfield 23, 3) := by decide +kernel
theorem d_B_close_46 : decode b_B_close 46 = .ok (.ifCond .le 30, 3) := by decide +kernel
theorem d_B_close_49 : decode b_B_close 49 = .ok (.aload_n 0, 1) := by decide +kernel
theorem d_B_close_50 : decode b_B_close 50 = .ok (.getfield 9, 3) := by decide +kernel
theorem d_B_close_53 : decode b_B_close 53 = .ok (.aload_n 0, 1) := by decide +kernel
theorem d_B_close_54 : decode b_B_close 54 = .ok (.getfield 23, 3) := by decide +kernel
theorem d_B_close_57 : decode b_B_close 57 = .ok (.iconst 1, 1) := by decide +kernel
theorem d_B_close_58 : decode b_B_close 58 = .ok (.isub, 1) := by decide +kernel
theorem d_B_close_59 : decode b_B_close 59 = .ok (.iaload, 1) := by decide +kernel
theorem d_B_close_60 : decode b_B_close 60 = .ok (.ifCond .ne 16, 3) := by decide +kernel
theorem d_B_close_63 : decode b_B_close 63 = .ok (.aload_n 0, 1) := by decide +kernel
theorem d_B_close_64 : decode b_B_close 64 = .ok (.dup, 1) := by decide +kernel
theorem d_B_close_65 : decode b_B_close 65 = .ok (.getfield 23, 3) := by decide +kernel
theorem d_B_close_68 : decode b_B_close 68 = .ok (.iconst 1, 1) := by decide +kernel
theorem d_B_close_69 : decode b_B_close 69 = .ok (.isub, 1) := by decide +kernel
theorem d_B_close_70 : decode b_B_close 70 = .ok (.putfield 23, 3) := by decide +kernel
theorem d_B_close_73 : decode b_B_close 73 = .ok (.goto (-31), 3) := by decide +kernel
theorem d_B_close_76 : decode b_B_close 76 = .ok (.return_, 1) := by decide +kernel
theorem d_B_setTimes_0 : decode b_B_setTimes 0 = .ok (.iload_n 2, 1) := by decide +kernel
theorem d_B_setTimes_1 : decode b_B_setTimes 1 = .ok (.i2l, 1) := by decide +kernel
theorem d_B_setTimes_2 : decode b_B_setTimes 2 = .ok (.invokestatic 41, 3) := by decide +kernel
theorem d_B_setTimes_5 : decode b_B_setTimes 5 = .ok (.lstore_n 3, 1) := by decide +kernel
theorem d_B_setTimes_6 : decode b_B_setTimes 6 = .ok (.lconst 0, 1) := by decide +kernel
theorem d_B_setTimes_7 : decode b_B_setTimes 7 = .ok (.lstore 5, 2) := by decide +kernel
theorem d_B_setTimes_9 : decode b_B_setTimes 9 = .ok (.iconst 0, 1) := by decide +kernel
theorem d_B_setTimes_10 : decode b_B_setTimes 10 = .ok (.istore 7, 2) := by decide +kernel
theorem d_B_setTimes_12 : decode b_B_setTimes 12 = .ok (.iload 7, 2) := by decide +kernel
theorem d_B_setTimes_14 : decode b_B_setTimes 14 = .ok (.aload_n 1, 1) := by decide +kernel
theorem d_B_setTimes_15 : decode b_B_setTimes 15 = .ok (.getfield 23, 3) := by decide +kernel
theorem d_B_setTimes_18 : decode b_B_setTimes 18 = .ok (.if_icmp .ge 45, 3) := by decide +kernel
theorem d_B_setTimes_21 : decode b_B_setTimes 21 = .ok (.lload 5, 2) := by decide +kernel
theorem d_B_setTimes_23 : decode b_B_setTimes 23 = .ok (.aload_n 1, 1) := by decide +kernel
theorem d_B_setTimes_24 : decode b_B_setTimes 24 = .ok (.getfield 9, 3) := by decide +kernel
theorem d_B_setTimes_27 : decode b_B_setTimes 27 = .ok (.iload 7, 2) := by decide +kernel
theorem d_B_setTimes_29 : decode b_B_setTimes 29 = .ok (.iaload, 1) := by decide +kernel
theorem d_B_setTimes_30 : decode b_B_setTimes 30 = .ok (.i2l, 1) := by decide +kernel
theorem d_B_setTimes_31 : decode b_B_setTimes 31 = .ok (.ldc2_w 39, 3) := by decide +kernel
theorem d_B_setTimes_34 : decode b_B_setTimes 34 = .ok (.land, 1) := by decide +kernel
theorem d_B_setTimes_35 : decode b_B_setTimes 35 = .ok (.lload_n 3, 1) := by decide +kernel
theorem d_B_setTimes_36 : decode b_B_setTimes 36 = .ok (.lmul, 1) := by decide +kernel
theorem d_B_setTimes_37 : decode b_B_setTimes 37 = .ok (.ladd, 1) := by decide +kernel
theorem d_B_setTimes_38 : decode b_B_setTimes 38 = .ok (.lstore 5, 2) := by decide +kernel
theorem d_B_setTimes_40 : decode b_B_setTimes 40 = .ok (.aload_n 0, 1) := by decide +kernel
theorem d_B_setTimes_41 : decode b_B_setTimes 41 = .ok (.getfield 9, 3) := by decide +kernel
theorem d_B_setTimes_44 : decode b_B_setTimes 44 = .ok (.iload 7, 2) := by decide +kernel
theorem d_B_setTimes_46 : decode b_B_setTimes 46 = .ok (.lload 5, 2) := by decide +kernel
theorem d_B_setTimes_48 : decode b_B_setTimes 48 = .ok (.l2i, 1) := by decide +kernel
theorem d_B_setTimes_49 : decode b_B_setTimes 49 = .ok (.iastore, 1) := by decide +kernel
theorem d_B_setTimes_50 : decode b_B_setTimes 50 = .ok (.lload 5, 2) := by decide +kernel
theorem d_B_setTimes_52 : decode b_B_setTimes 52 = .ok (.bipush 32, 2) := by decide +kernel
theorem d_B_setTimes_54 : decode b_B_setTimes 54 = .ok (.lushr, 1) := by decide +kernel
theorem d_B_setTimes_55 : decode b_B_setTimes 55 = .ok (.lstore 5, 2) := by decide +kernel
theorem d_B_setTimes_57 : decode b_B_setTimes 57 = .ok (.iinc 7 1, 3) := by decide +kernel
theorem d_B_setTimes_60 : decode b_B_setTimes 60 = .ok (.goto (-48), 3) := by decide +kernel
theorem d_B_setTimes_63 : decode b_B_setTimes 63 = .ok (.aload_n 0, 1) := by decide +kernel
theorem d_B_setTimes_64 : decode b_B_setTimes 64 = .ok (.aload_n 1, 1) := by decide +kernel
theorem d_B_setTimes_65 : decode b_B_setTimes 65 = .ok (.getfield 15, 3) := by decide +kernel
theorem d_B_setTimes_68 : decode b_B_setTimes 68 = .ok (.iload_n 2, 1) := by decide +kernel
theorem d_B_setTimes_69 : decode b_B_setTimes 69 = .ok (.ifCond .ge 7, 3) := by decide +kernel
theorem d_B_setTimes_72 : decode b_B_setTimes 72 = .ok (.iconst 1, 1) := by decide +kernel
theorem d_B_setTimes_73 : decode b_B_setTimes 73 = .ok (.goto 4, 3) := by decide +kernel
theorem d_B_setTimes_76 : decode b_B_setTimes 76 = .ok (.iconst 0, 1) := by decide +kernel
theorem d_B_setTimes_77 : decode b_B_setTimes 77 = .ok (.if_icmp .eq 7, 3) := by decide +kernel
theorem d_B_setTimes_80 : decode b_B_setTimes 80 = .ok (.iconst 1, 1) := by decide +kernel
theorem d_B_setTimes_81 : decode b_B_setTimes 81 = .ok (.goto 4, 3) := by decide +kernel
theorem d_B_setTimes_84 : decode b_B_setTimes 84 = .ok (.iconst 0, 1) := by decide +kernel
theorem d_B_setTimes_85 : decode b_B_setTimes 85 = .ok (.putfield 15, 3) := by decide +kernel
theorem d_B_setTimes_88 : decode b_B_setTimes 88 = .ok (.aload_n 0, 1) := by decide +kernel
theorem d_B_setTimes_89 : decode b_B_setTimes 89 = .ok (.aload_n 1, 1) := by decide +kernel
theorem d_B_setTimes_90 : decode b_B_setTimes 90 = .ok (.getfield 23, 3) := by decide +kernel
theorem d_B_setTimes_93 : decode b_B_setTimes 93 = .ok (.lload 5, 2) := by decide +kernel
theorem d_B_setTimes_95 : decode b_B_setTimes 95 = .ok (.invokevirtual 19, 3) := by decide +kernel
theorem d_B_setTimes_98 : decode b_B_setTimes 98 = .ok (.return_, 1) := by decide +kernel
theorem d_B_setProduct_0 : decode b_B_setProduct 0 = .ok (.aload_n 1, 1) := by decide +kernel
theorem d_B_setProduct_1 : decode b_B_setProduct 1 = .ok (.getfield 23, 3) := by decide +kernel
theorem d_B_setProduct_4 : decode b_B_setProduct 4 = .ok (.aload_n 2, 1) := by decide +kernel
theorem d_B_setProduct_5 : decode b_B_setProduct 5 = .ok (.getfield 23, 3) := by decide +kernel
theorem d_B_setProduct_8 : decode b_B_setProduct 8 = .ok (.iadd, 1) := by decide +kernel
theorem d_B_setProduct_9 : decode b_B_setProduct 9 = .ok (.sipush 512, 3) := by decide +kernel
theorem d_B_setProduct_12 : decode b_B_setProduct 12 = .ok (.invokestatic 47, 3) := by decide +kernel
theorem d_B_setProduct_15 : decode b_B_setProduct 15 = .ok (.istore_n 3, 1) := by decide +kernel
theorem d_B_setProduct_16 : decode b_B_setProduct 16 = .ok (.iconst 0, 1) := by decide +kernel
theorem d_B_setProduct_17 : decode b_B_setProduct 17 = .ok (.istore 4, 2) := by decide +kernel
theorem d_B_setProduct_19 : decode b_B_setProduct 19 = .ok (.iload 4, 2) := by decide +kernel
theorem d_B_setProduct_21 : decode b_B_setProduct 21 = .ok (.iload_n 3, 1) := by decide +kernel
theorem d_B_setProduct_22 : decode b_B_setProduct 22 = .ok (.if_icmp .ge 17, 3) := by decide +kernel
theorem d_B_setProduct_25 : decode b_B_setProduct 25 = .ok (.aload_n 0, 1) := by decide +kernel
theorem d_B_setProduct_26 : decode b_B_setProduct 26 = .ok (.getfield 9, 3) := by decide +kernel
theorem d_B_setProduct_29 : decode b_B_setProduct 29 = .ok (.iload 4, 2) := by decide +kernel
theorem d_B_setProduct_31 : decode b_B_setProduct 31 = .ok (.iconst 0, 1) := by decide +kernel
theorem d_B_setProduct_32 : decode b_B_setProduct 32 = .ok (.iastore, 1) := by decide +kernel
theorem d_B_setProduct_33 : decode b_B_setProduct 33 = .ok (.iinc 4 1, 3) := by decide +kernel
theorem d_B_setProduct_36 : decode b_B_setProduct 36 = .ok (.goto (-17), 3) := by decide +kernel
theorem d_B_setProduct_39 : decode b_B_setProduct 39 = .ok (.iconst 0, 1) := by decide +kernel
theorem d_B_setProduct_40 : decode b_B_setProduct 40 = .ok (.istore 4, 2) := by decide +kernel
theorem d_B_setProduct_42 : decode b_B_setProduct 42 = .ok (.iload 4, 2) := by decide +kernel
theorem d_B_setProduct_44 : decode b_B_setProduct 44 = .ok (.aload_n 1, 1) := by decide +kernel
theorem d_B_setProduct_45 : decode b_B_setProduct 45 = .ok (.getfield 23, 3) := by decide +kernel
theorem d_B_setProduct_48 : decode b_B_setProduct 48 = .ok (.if_icmp .ge 28, 3) := by decide +kernel
theorem d_B_setProduct_51 : decode b_B_setProduct 51 = .ok (.aload_n 0, 1) := by decide +kernel
theorem d_B_setProduct_52 : decode b_B_setProduct 52 = .ok (.aload_n 1, 1) := by decide +kernel
theorem d_B_setProduct_53 : decode b_B_setProduct 53 = .ok (.getfield 9, 3) := by decide +kernel
theorem d_B_setProduct_56 : decode b_B_setProduct 56 = .ok (.iload 4, 2) := by decide +kernel
theorem d_B_setProduct_58 : decode b_B_setProduct 58 = .ok (.iaload, 1) := by decide +kernel
theorem d_B_setProduct_59 : decode b_B_setProduct 59 = .ok (.i2l, 1) := by decide +kernel
theorem d_B_setProduct_60 : decode b_B_setProduct 60 = .ok (.ldc2_w 39, 3) := by decide +kernel
theorem d_B_setProduct_63 : decode b_B_setProduct 63 = .ok (.land, 1) := by decide +kernel
theorem d_B_setProduct_64 : decode b_B_setProduct 64 = .ok (.aload_n 2, 1) := by decide +kernel
theorem d_B_setProduct_65 : decode b_B_setProduct 65 = .ok (.iload 4, 2) := by decide +kernel
theorem d_B_setProduct_67 : decode b_B_setProduct 67 = .ok (.invokevirtual 51, 3) := by decide +kernel
theorem d_B_setProduct_70 : decode b_B_setProduct 70 = .ok (.iinc 4 1, 3) := by decide +kernel
theorem d_B_setProduct_73 : decode b_B_setProduct 73 = .ok (.goto (-31), 3) := by decide +kernel
theorem d_B_setProduct_76 : decode b_B_setProduct 76 = .ok (.aload_n 0, 1) := by decide +kernel
theorem d_B_setProduct_77 : decode b_B_setProduct 77 = .ok (.aload_n 1, 1) := by decide +kernel
theorem d_B_setProduct_78 : decode b_B_setProduct 78 = .ok (.getfield 15, 3) := by decide +kernel
theorem d_B_setProduct_81 : decode b_B_setProduct 81 = .ok (.aload_n 2, 1) := by decide +kernel
theorem d_B_setProduct_82 : decode b_B_setProduct 82 = .ok (.getfield 15, 3) := by decide +kernel
theorem d_B_setProduct_85 : decode b_B_setProduct 85 = .ok (.if_icmp .eq 7, 3) := by decide +kernel
theorem d_B_setProduct_88 : decode b_B_setProduct 88 = .ok (.iconst 1, 1) := by decide +kernel
theorem d_B_setProduct_89 : decode b_B_setProduct 89 = .ok (.goto 4, 3) := by decide +kernel
theorem d_B_setProduct_92 : decode b_B_setProduct 92 = .ok (.iconst 0, 1) := by decide +kernel
theorem d_B_setProduct_93 : decode b_B_setProduct 93 = .ok (.putfield 15, 3) := by decide +kernel
theorem d_B_setProduct_96 : decode b_B_setProduct 96 = .ok (.aload_n 0, 1) := by decide +kernel
theorem d_B_setProduct_97 : decode b_B_setProduct 97 = .ok (.iload_n 3, 1) := by decide +kernel
theorem d_B_setProduct_98 : decode b_B_setProduct 98 = .ok (.lconst 0, 1) := by decide +kernel
theorem d_B_setProduct_99 : decode b_B_setProduct 99 = .ok (.invokevirtual 19, 3) := by decide +kernel
theorem d_B_setProduct_102 : decode b_B_setProduct 102 = .ok (.return_, 1) := by decide +kernel
theorem d_B_addRow_0 : decode b_B_addRow 0 = .ok (.lconst 0, 1) := by decide +kernel
theorem d_B_addRow_1 : decode b_B_addRow 1 = .ok (.lstore 5, 2) := by decide +kernel
theorem d_B_addRow_3 : decode b_B_addRow 3 = .ok (.iload 4, 2) := by decide +kernel
theorem d_B_addRow_5 : decode b_B_addRow 5 = .ok (.aload_n 3, 1) := by decide +kernel
theorem d_B_addRow_6 : decode b_B_addRow 6 = .ok (.getfield 23, 3) := by decide +kernel
theorem d_B_addRow_9 : decode b_B_addRow 9 = .ok (.iadd, 1) := by decide +kernel
theorem d_B_addRow_10 : decode b_B_addRow 10 = .ok (.sipush 512, 3) := by decide +kernel
theorem d_B_addRow_13 : decode b_B_addRow 13 = .ok (.invokestatic 47, 3) := by decide +kernel
theorem d_B_addRow_16 : decode b_B_addRow 16 = .ok (.istore 7, 2) := by decide +kernel
theorem d_B_addRow_18 : decode b_B_addRow 18 = .ok (.iload 4, 2) := by decide +kernel
theorem d_B_addRow_20 : decode b_B_addRow 20 = .ok (.istore 8, 2) := by decide +kernel
theorem d_B_addRow_22 : decode b_B_addRow 22 = .ok (.iload 8, 2) := by decide +kernel
theorem d_B_addRow_24 : decode b_B_addRow 24 = .ok (.iload 7, 2) := by decide +kernel
theorem d_B_addRow_26 : decode b_B_addRow 26 = .ok (.if_icmp .ge 61, 3) := by decide +kernel
theorem d_B_addRow_29 : decode b_B_addRow 29 = .ok (.lload 5, 2) := by decide +kernel
theorem d_B_addRow_31 : decode b_B_addRow 31 = .ok (.lload_n 1, 1) := by decide +kernel
theorem d_B_addRow_32 : decode b_B_addRow 32 = .ok (.aload_n 3, 1) := by decide +kernel
theorem d_B_addRow_33 : decode b_B_addRow 33 = .ok (.getfield 9, 3) := by decide +kernel
theorem d_B_addRow_36 : decode b_B_addRow 36 = .ok (.iload 8, 2) := by decide +kernel
theorem d_B_addRow_38 : decode b_B_addRow 38 = .ok (.iload 4, 2) := by decide +kernel
theorem d_B_addRow_40 : decode b_B_addRow 40 = .ok (.isub, 1) := by decide +kernel
theorem d_B_addRow_41 : decode b_B_addRow 41 = .ok (.iaload, 1) := by decide +kernel
theorem d_B_addRow_42 : decode b_B_addRow 42 = .ok (.i2l, 1) := by decide +kernel
theorem d_B_addRow_43 : decode b_B_addRow 43 = .ok (.ldc2_w 39, 3) := by decide +kernel
theorem d_B_addRow_46 : decode b_B_addRow 46 = .ok (.land, 1) := by decide +kernel
theorem d_B_addRow_47 : decode b_B_addRow 47 = .ok (.lmul, 1) := by decide +kernel
theorem d_B_addRow_48 : decode b_B_addRow 48 = .ok (.aload_n 0, 1) := by decide +kernel
theorem d_B_addRow_49 : decode b_B_addRow 49 = .ok (.getfield 9, 3) := by decide +kernel
theorem d_B_addRow_52 : decode b_B_addRow 52 = .ok (.iload 8, 2) := by decide +kernel
theorem d_B_addRow_54 : decode b_B_addRow 54 = .ok (.iaload, 1) := by decide +kernel
theorem d_B_addRow_55 : decode b_B_addRow 55 = .ok (.i2l, 1) := by decide +kernel
theorem d_B_addRow_56 : decode b_B_addRow 56 = .ok (.ldc2_w 39, 3) := by decide +kernel
theorem d_B_addRow_59 : decode b_B_addRow 59 = .ok (.land, 1) := by decide +kernel
theorem d_B_addRow_60 : decode b_B_addRow 60 = .ok (.ladd, 1) := by decide +kernel
theorem d_B_addRow_61 : decode b_B_addRow 61 = .ok (.ladd, 1) := by decide +kernel
theorem d_B_addRow_62 : decode b_B_addRow 62 = .ok (.lstore 5, 2) := by decide +kernel
theorem d_B_addRow_64 : decode b_B_addRow 64 = .ok (.aload_n 0, 1) := by decide +kernel
theorem d_B_addRow_65 : decode b_B_addRow 65 = .ok (.getfield 9, 3) := by decide +kernel
theorem d_B_addRow_68 : decode b_B_addRow 68 = .ok (.iload 8, 2) := by decide +kernel
theorem d_B_addRow_70 : decode b_B_addRow 70 = .ok (.lload 5, 2) := by decide +kernel
theorem d_B_addRow_72 : decode b_B_addRow 72 = .ok (.l2i, 1) := by decide +kernel
theorem d_B_addRow_73 : decode b_B_addRow 73 = .ok (.iastore, 1) := by decide +kernel
theorem d_B_addRow_74 : decode b_B_addRow 74 = .ok (.lload 5, 2) := by decide +kernel
theorem d_B_addRow_76 : decode b_B_addRow 76 = .ok (.bipush 32, 2) := by decide +kernel
theorem d_B_addRow_78 : decode b_B_addRow 78 = .ok (.lushr, 1) := by decide +kernel
theorem d_B_addRow_79 : decode b_B_addRow 79 = .ok (.lstore 5, 2) := by decide +kernel
theorem d_B_addRow_81 : decode b_B_addRow 81 = .ok (.iinc 8 1, 3) := by decide +kernel
theorem d_B_addRow_84 : decode b_B_addRow 84 = .ok (.goto (-62), 3) := by decide +kernel
theorem d_B_addRow_87 : decode b_B_addRow 87 = .ok (.iload 7, 2) := by decide +kernel
theorem d_B_addRow_89 : decode b_B_addRow 89 = .ok (.sipush 512, 3) := by decide +kernel
theorem d_B_addRow_92 : decode b_B_addRow 92 = .ok (.if_icmp .ge 13, 3) := by decide +kernel
theorem d_B_addRow_95 : decode b_B_addRow 95 = .ok (.aload_n 0, 1) := by decide +kernel
theorem d_B_addRow_96 : decode b_B_addRow 96 = .ok (.getfield 9, 3) := by decide +kernel
theorem d_B_addRow_99 : decode b_B_addRow 99 = .ok (.iload 7, 2) := by decide +kernel
theorem d_B_addRow_101 : decode b_B_addRow 101 = .ok (.lload 5, 2) := by decide +kernel
theorem d_B_addRow_103 : decode b_B_addRow 103 = .ok (.l2i, 1) := by decide +kernel
theorem d_B_addRow_104 : decode b_B_addRow 104 = .ok (.iastore, 1) := by decide +kernel
theorem d_B_addRow_105 : decode b_B_addRow 105 = .ok (.return_, 1) := by decide +kernel
theorem d_B_addSmall_0 : decode b_B_addSmall 0 = .ok (.iload_n 1, 1) := by decide +kernel
theorem d_B_addSmall_1 : decode b_B_addSmall 1 = .ok (.i2l, 1) := by decide +kernel
theorem d_B_addSmall_2 : decode b_B_addSmall 2 = .ok (.lstore_n 2, 1) := by decide +kernel
theorem d_B_addSmall_3 : decode b_B_addSmall 3 = .ok (.iconst 0, 1) := by decide +kernel
theorem d_B_addSmall_4 : decode b_B_addSmall 4 = .ok (.istore 4, 2) := by decide +kernel
theorem d_B_addSmall_6 : decode b_B_addSmall 6 = .ok (.iload 4, 2) := by decide +kernel
theorem d_B_addSmall_8 : decode b_B_addSmall 8 = .ok (.aload_n 0, 1) := by decide +kernel
theorem d_B_addSmall_9 : decode b_B_addSmall 9 = .ok (.getfield 23, 3) := by decide +kernel
theorem d_B_addSmall_12 : decode b_B_addSmall 12 = .ok (.if_icmp .ge 44, 3) := by decide +kernel
theorem d_B_addSmall_15 : decode b_B_addSmall 15 = .ok (.lload_n 2, 1) := by decide +kernel
theorem d_B_addSmall_16 : decode b_B_addSmall 16 = .ok (.lconst 0, 1) := by decide +kernel
theorem d_B_addSmall_17 : decode b_B_addSmall 17 = .ok (.lcmp, 1) := by decide +kernel
theorem d_B_addSmall_18 : decode b_B_addSmall 18 = .ok (.ifCond .eq 38, 3) := by decide +kernel
theorem d_B_addSmall_21 : decode b_B_addSmall 21 = .ok (.lload_n 2, 1) := by decide +kernel
theorem d_B_addSmall_22 : decode b_B_addSmall 22 = .ok (.aload_n 0, 1) := by decide +kernel
theorem d_B_addSmall_23 : decode b_B_addSmall 23 = .ok (.getfield 9, 3) := by decide +kernel
theorem d_B_addSmall_26 : decode b_B_addSmall 26 = .ok (.iload 4, 2) := by decide +kernel
theorem d_B_addSmall_28 : decode b_B_addSmall 28 = .ok (.iaload, 1) := by decide +kernel
theorem d_B_addSmall_29 : decode b_B_addSmall 29 = .ok (.i2l, 1) := by decide +kernel
theorem d_B_addSmall_30 : decode b_B_addSmall 30 = .ok (.ldc2_w 39, 3) := by decide +kernel
theorem d_B_addSmall_33 : decode b_B_addSmall 33 = .ok (.land, 1) := by decide +kernel
theorem d_B_addSmall_34 : decode b_B_addSmall 34 = .ok (.ladd, 1) := by decide +kernel
theorem d_B_addSmall_35 : decode b_B_addSmall 35 = .ok (.lstore_n 2, 1) := by decide +kernel
theorem d_B_addSmall_36 : decode b_B_addSmall 36 = .ok (.aload_n 0, 1) := by decide +kernel
theorem d_B_addSmall_37 : decode b_B_addSmall 37 = .ok (.getfield 9, 3) := by decide +kernel
theorem d_B_addSmall_40 : decode b_B_addSmall 40 = .ok (.iload 4, 2) := by decide +kernel
theorem d_B_addSmall_42 : decode b_B_addSmall 42 = .ok (.lload_n 2, 1) := by decide +kernel
theorem d_B_addSmall_43 : decode b_B_addSmall 43 = .ok (.l2i, 1) := by decide +kernel
theorem d_B_addSmall_44 : decode b_B_addSmall 44 = .ok (.iastore, 1) := by decide +kernel
theorem d_B_addSmall_45 : decode b_B_addSmall 45 = .ok (.lload_n 2, 1) := by decide +kernel
theorem d_B_addSmall_46 : decode b_B_addSmall 46 = .ok (.bipush 32, 2) := by decide +kernel
theorem d_B_addSmall_48 : decode b_B_addSmall 48 = .ok (.lushr, 1) := by decide +kernel
theorem d_B_addSmall_49 : decode b_B_addSmall 49 = .ok (.lstore_n 2, 1) := by decide +kernel
theorem d_B_addSmall_50 : decode b_B_addSmall 50 = .ok (.iinc 4 1, 3) := by decide +kernel
theorem d_B_addSmall_53 : decode b_B_addSmall 53 = .ok (.goto (-47), 3) := by decide +kernel
theorem d_B_addSmall_56 : decode b_B_addSmall 56 = .ok (.aload_n 0, 1) := by decide +kernel
theorem d_B_addSmall_57 : decode b_B_addSmall 57 = .ok (.aload_n 0, 1) := by decide +kernel
theorem d_B_addSmall_58 : decode b_B_addSmall 58 = .ok (.getfield 23, 3) := by decide +kernel
theorem d_B_addSmall_61 : decode b_B_addSmall 61 = .ok (.lload_n 2, 1) := by decide +kernel
theorem d_B_addSmall_62 : decode b_B_addSmall 62 = .ok (.invokevirtual 19, 3) := by decide +kernel
theorem d_B_addSmall_65 : decode b_B_addSmall 65 = .ok (.return_, 1) := by decide +kernel
theorem d_B_setSum_0 : decode b_B_setSum 0 = .ok (.aload_n 1, 1) := by decide +kernel
theorem d_B_setSum_1 : decode b_B_setSum 1 = .ok (.getfield 23, 3) := by decide +kernel
theorem d_B_setSum_4 : decode b_B_setSum 4 = .ok (.aload_n 2, 1) := by decide +kernel
theorem d_B_setSum_5 : decode b_B_setSum 5 = .ok (.getfield 23, 3) := by decide +kernel
theorem d_B_setSum_8 : decode b_B_setSum 8 = .ok (.invokestatic 55, 3) := by decide +kernel
theorem d_B_setSum_11 : decode b_B_setSum 11 = .ok (.istore_n 3, 1) := by decide +kernel
theorem d_B_setSum_12 : decode b_B_setSum 12 = .ok (.lconst 0, 1) := by decide +kernel
theorem d_B_setSum_13 : decode b_B_setSum 13 = .ok (.lstore 4, 2) := by decide +kernel
theorem d_B_setSum_15 : decode b_B_setSum 15 = .ok (.iconst 0, 1) := by decide +kernel
theorem d_B_setSum_16 : decode b_B_setSum 16 = .ok (.istore 6, 2) := by decide +kernel
theorem d_B_setSum_18 : decode b_B_setSum 18 = .ok (.iload 6, 2) := by decide +kernel
theorem d_B_setSum_20 : decode b_B_setSum 20 = .ok (.iload_n 3, 1) := by decide +kernel
theorem d_B_setSum_21 : decode b_B_setSum 21 = .ok (.if_icmp .ge 54, 3) := by decide +kernel
theorem d_B_setSum_24 : decode b_B_setSum 24 = .ok (.lload 4, 2) := by decide +kernel
theorem d_B_setSum_26 : decode b_B_setSum 26 = .ok (.aload_n 1, 1) := by decide +kernel
theorem d_B_setSum_27 : decode b_B_setSum 27 = .ok (.iload 6, 2) := by decide +kernel
theorem d_B_setSum_29 : decode b_B_setSum 29 = .ok (.invokevirtual 58, 3) := by decide +kernel
theorem d_B_setSum_32 : decode b_B_setSum 32 = .ok (.i2l, 1) := by decide +kernel
theorem d_B_setSum_33 : decode b_B_setSum 33 = .ok (.ldc2_w 39, 3) := by decide +kernel
theorem d_B_setSum_36 : decode b_B_setSum 36 = .ok (.land, 1) := by decide +kernel
theorem d_B_setSum_37 : decode b_B_setSum 37 = .ok (.aload_n 2, 1) := by decide +kernel
theorem d_B_setSum_38 : decode b_B_setSum 38 = .ok (.iload 6, 2) := by decide +kernel
theorem d_B_setSum_40 : decode b_B_setSum 40 = .ok (.invokevirtual 58, 3) := by decide +kernel
theorem d_B_setSum_43 : decode b_B_setSum 43 = .ok (.i2l, 1) := by decide +kernel
theorem d_B_setSum_44 : decode b_B_setSum 44 = .ok (.ldc2_w 39, 3) := by decide +kernel
theorem d_B_setSum_47 : decode b_B_setSum 47 = .ok (.land, 1) := by decide +kernel
theorem d_B_setSum_48 : decode b_B_setSum 48 = .ok (.ladd, 1) := by decide +kernel
theorem d_B_setSum_49 : decode b_B_setSum 49 = .ok (.ladd, 1) := by decide +kernel
theorem d_B_setSum_50 : decode b_B_setSum 50 = .ok (.lstore 4, 2) := by decide +kernel
theorem d_B_setSum_52 : decode b_B_setSum 52 = .ok (.aload_n 0, 1) := by decide +kernel
theorem d_B_setSum_53 : decode b_B_setSum 53 = .ok (.getfield 9, 3) := by decide +kernel
theorem d_B_setSum_56 : decode b_B_setSum 56 = .ok (.iload 6, 2) := by decide +kernel
theorem d_B_setSum_58 : decode b_B_setSum 58 = .ok (.lload 4, 2) := by decide +kernel
theorem d_B_setSum_60 : decode b_B_setSum 60 = .ok (.l2i, 1) := by decide +kernel
theorem d_B_setSum_61 : decode b_B_setSum 61 = .ok (.iastore, 1) := by decide +kernel
theorem d_B_setSum_62 : decode b_B_setSum 62 = .ok (.lload 4, 2) := by decide +kernel
theorem d_B_setSum_64 : decode b_B_setSum 64 = .ok (.bipush 32, 2) := by decide +kernel
theorem d_B_setSum_66 : decode b_B_setSum 66 = .ok (.lushr, 1) := by decide +kernel
theorem d_B_setSum_67 : decode b_B_setSum 67 = .ok (.lstore 4, 2) := by decide +kernel
theorem d_B_setSum_69 : decode b_B_setSum 69 = .ok (.iinc 6 1, 3) := by decide +kernel
theorem d_B_setSum_72 : decode b_B_setSum 72 = .ok (.goto (-54), 3) := by decide +kernel
theorem d_B_setSum_75 : decode b_B_setSum 75 = .ok (.aload_n 0, 1) := by decide +kernel
theorem d_B_setSum_76 : decode b_B_setSum 76 = .ok (.iconst 0, 1) := by decide +kernel
theorem d_B_setSum_77 : decode b_B_setSum 77 = .ok (.putfield 15, 3) := by decide +kernel
theorem d_B_setSum_80 : decode b_B_setSum 80 = .ok (.aload_n 0, 1) := by decide +kernel
theorem d_B_setSum_81 : decode b_B_setSum 81 = .ok (.iload_n 3, 1) := by decide +kernel
theorem d_B_setSum_82 : decode b_B_setSum 82 = .ok (.lload 4, 2) := by decide +kernel
theorem d_B_setSum_84 : decode b_B_setSum 84 = .ok (.invokevirtual 19, 3) := by decide +kernel
theorem d_B_setSum_87 : decode b_B_setSum 87 = .ok (.return_, 1) := by decide +kernel
theorem d_B_setDifference_0 : decode b_B_setDifference 0 = .ok (.aload_n 1, 1) := by decide +kernel
theorem d_B_setDifference_1 : decode b_B_setDifference 1 = .ok (.aload_n 2, 1) := by decide +kernel
theorem d_B_setDifference_2 : decode b_B_setDifference 2 = .ok (.invokevirtual 61, 3) := by decide +kernel
theorem d_B_setDifference_5 : decode b_B_setDifference 5 = .ok (.istore_n 3, 1) := by decide +kernel
theorem d_B_setDifference_6 : decode b_B_setDifference 6 = .ok (.iload_n 3, 1) := by decide +kernel
theorem d_B_setDifference_7 : decode b_B_setDifference 7 = .ok (.ifCond .eq 7, 3) := by decide +kernel
theorem d_B_setDifference_10 : decode b_B_setDifference 10 = .ok (.aload_n 2, 1) := by decide +kernel
theorem d_B_setDifference_11 : decode b_B_setDifference 11 = .ok (.goto 4, 3) := by decide +kernel
theorem d_B_setDifference_14 : decode b_B_setDifference 14 = .ok (.aload_n 1, 1) := by decide +kernel
theorem d_B_setDifference_15 : decode b_B_setDifference 15 = .ok (.astore 4, 2) := by decide +kernel
theorem d_B_setDifference_17 : decode b_B_setDifference 17 = .ok (.iload_n 3, 1) := by decide +kernel
theorem d_B_setDifference_18 : decode b_B_setDifference 18 = .ok (.ifCond .eq 7, 3) := by decide +kernel
theorem d_B_setDifference_21 : decode b_B_setDifference 21 = .ok (.aload_n 1, 1) := by decide +kernel
theorem d_B_setDifference_22 : decode b_B_setDifference 22 = .ok (.goto 4, 3) := by decide +kernel
theorem d_B_setDifference_25 : decode b_B_setDifference 25 = .ok (.aload_n 2, 1) := by decide +kernel
theorem d_B_setDifference_26 : decode b_B_setDifference 26 = .ok (.astore 5, 2) := by decide +kernel
theorem d_B_setDifference_28 : decode b_B_setDifference 28 = .ok (.lconst 0, 1) := by decide +kernel
theorem d_B_setDifference_29 : decode b_B_setDifference 29 = .ok (.lstore 6, 2) := by decide +kernel
theorem d_B_setDifference_31 : decode b_B_setDifference 31 = .ok (.iconst 0, 1) := by decide +kernel
theorem d_B_setDifference_32 : decode b_B_setDifference 32 = .ok (.istore 8, 2) := by decide +kernel
theorem d_B_setDifference_34 : decode b_B_setDifference 34 = .ok (.iload 8, 2) := by decide +kernel
theorem d_B_setDifference_36 : decode b_B_setDifference 36 = .ok (.aload 4, 2) := by decide +kernel
theorem d_B_setDifference_38 : decode b_B_setDifference 38 = .ok (.getfield 23, 3) := by decide +kernel
theorem d_B_setDifference_41 : decode b_B_setDifference 41 = .ok (.if_icmp .ge 57, 3) := by decide +kernel
theorem d_B_setDifference_44 : decode b_B_setDifference 44 = .ok (.lload 6, 2) := by decide +kernel
theorem d_B_setDifference_46 : decode b_B_setDifference 46 = .ok (.aload 4, 2) := by decide +kernel
theorem d_B_setDifference_48 : decode b_B_setDifference 48 = .ok (.getfield 9, 3) := by decide +kernel
theorem d_B_setDifference_51 : decode b_B_setDifference 51 = .ok (.iload 8, 2) := by decide +kernel
theorem d_B_setDifference_53 : decode b_B_setDifference 53 = .ok (.iaload, 1) := by decide +kernel
theorem d_B_setDifference_54 : decode b_B_setDifference 54 = .ok (.i2l, 1) := by decide +kernel
theorem d_B_setDifference_55 : decode b_B_setDifference 55 = .ok (.ldc2_w 39, 3) := by decide +kernel
theorem d_B_setDifference_58 : decode b_B_setDifference 58 = .ok (.land, 1) := by decide +kernel
theorem d_B_setDifference_59 : decode b_B_setDifference 59 = .ok (.aload 5, 2) := by decide +kernel
theorem d_B_setDifference_61 : decode b_B_setDifference 61 = .ok (.iload 8, 2) := by decide +kernel
theorem d_B_setDifference_63 : decode b_B_setDifference 63 = .ok (.invokevirtual 58, 3) := by decide +kernel
theorem d_B_setDifference_66 : decode b_B_setDifference 66 = .ok (.i2l, 1) := by decide +kernel
theorem d_B_setDifference_67 : decode b_B_setDifference 67 = .ok (.ldc2_w 39, 3) := by decide +kernel
theorem d_B_setDifference_70 : decode b_B_setDifference 70 = .ok (.land, 1) := by decide +kernel
theorem d_B_setDifference_71 : decode b_B_setDifference 71 = .ok (.lsub, 1) := by decide +kernel
theorem d_B_setDifference_72 : decode b_B_setDifference 72 = .ok (.ladd, 1) := by decide +kernel
theorem d_B_setDifference_73 : decode b_B_setDifference 73 = .ok (.lstore 6, 2) := by decide +kernel
theorem d_B_setDifference_75 : decode b_B_setDifference 75 = .ok (.aload_n 0, 1) := by decide +kernel
theorem d_B_setDifference_76 : decode b_B_setDifference 76 = .ok (.getfield 9, 3) := by decide +kernel
theorem d_B_setDifference_79 : decode b_B_setDifference 79 = .ok (.iload 8, 2) := by decide +kernel
theorem d_B_setDifference_81 : decode b_B_setDifference 81 = .ok (.lload 6, 2) := by decide +kernel
theorem d_B_setDifference_83 : decode b_B_setDifference 83 = .ok (.l2i, 1) := by decide +kernel
theorem d_B_setDifference_84 : decode b_B_setDifference 84 = .ok (.iastore, 1) := by decide +kernel
theorem d_B_setDifference_85 : decode b_B_setDifference 85 = .ok (.lload 6, 2) := by decide +kernel
theorem d_B_setDifference_87 : decode b_B_setDifference 87 = .ok (.bipush 32, 2) := by decide +kernel
theorem d_B_setDifference_89 : decode b_B_setDifference 89 = .ok (.lshr, 1) := by decide +kernel
theorem d_B_setDifference_90 : decode b_B_setDifference 90 = .ok (.lstore 6, 2) := by decide +kernel
theorem d_B_setDifference_92 : decode b_B_setDifference 92 = .ok (.iinc 8 1, 3) := by decide +kernel
theorem d_B_setDifference_95 : decode b_B_setDifference 95 = .ok (.goto (-61), 3) := by decide +kernel
theorem d_B_setDifference_98 : decode b_B_setDifference 98 = .ok (.aload_n 0, 1) := by decide +kernel
theorem d_B_setDifference_99 : decode b_B_setDifference 99 = .ok (.iload_n 3, 1) := by decide +kernel
theorem d_B_setDifference_100 : decode b_B_setDifference 100 = .ok (.putfield 15, 3) := by decide +kernel
theorem d_B_setDifference_103 : decode b_B_setDifference 103 = .ok (.aload_n 0, 1) := by decide +kernel
theorem d_B_setDifference_104 : decode b_B_setDifference 104 = .ok (.aload 4, 2) := by decide +kernel
theorem d_B_setDifference_106 : decode b_B_setDifference 106 = .ok (.getfield 23, 3) := by decide +kernel
theorem d_B_setDifference_109 : decode b_B_setDifference 109 = .ok (.lconst 0, 1) := by decide +kernel
theorem d_B_setDifference_110 : decode b_B_setDifference 110 = .ok (.invokevirtual 19, 3) := by decide +kernel
theorem d_B_setDifference_113 : decode b_B_setDifference 113 = .ok (.return_, 1) := by decide +kernel
theorem d_B_isLess_0 : decode b_B_isLess 0 = .ok (.aload_n 0, 1) := by decide +kernel
theorem d_B_isLess_1 : decode b_B_isLess 1 = .ok (.getfield 23, 3) := by decide +kernel
theorem d_B_isLess_4 : decode b_B_isLess 4 = .ok (.aload_n 1, 1) := by decide +kernel
theorem d_B_isLess_5 : decode b_B_isLess 5 = .ok (.getfield 23, 3) := by decide +kernel
theorem d_B_isLess_8 : decode b_B_isLess 8 = .ok (.if_icmp .eq 20, 3) := by decide +kernel
theorem d_B_isLess_11 : decode b_B_isLess 11 = .ok (.aload_n 0, 1) := by decide +kernel
theorem d_B_isLess_12 : decode b_B_isLess 12 = .ok (.getfield 23, 3) := by decide +kernel
theorem d_B_isLess_15 : decode b_B_isLess 15 = .ok (.aload_n 1, 1) := by decide +kernel
theorem d_B_isLess_16 : decode b_B_isLess 16 = .ok (.getfield 23, 3) := by decide +kernel
theorem d_B_isLess_19 : decode b_B_isLess 19 = .ok (.if_icmp .ge 7, 3) := by decide +kernel
theorem d_B_isLess_22 : decode b_B_isLess 22 = .ok (.iconst 1, 1) := by decide +kernel
theorem d_B_isLess_23 : decode b_B_isLess 23 = .ok (.goto 4, 3) := by decide +kernel
theorem d_B_isLess_26 : decode b_B_isLess 26 = .ok (.iconst 0, 1) := by decide +kernel
theorem d_B_isLess_27 : decode b_B_isLess 27 = .ok (.ireturn, 1) := by decide +kernel
theorem d_B_isLess_28 : decode b_B_isLess 28 = .ok (.aload_n 0, 1) := by decide +kernel
theorem d_B_isLess_29 : decode b_B_isLess 29 = .ok (.getfield 23, 3) := by decide +kernel
theorem d_B_isLess_32 : decode b_B_isLess 32 = .ok (.iconst 1, 1) := by decide +kernel
theorem d_B_isLess_33 : decode b_B_isLess 33 = .ok (.isub, 1) := by decide +kernel
theorem d_B_isLess_34 : decode b_B_isLess 34 = .ok (.istore_n 2, 1) := by decide +kernel
theorem d_B_isLess_35 : decode b_B_isLess 35 = .ok (.iload_n 2, 1) := by decide +kernel
theorem d_B_isLess_36 : decode b_B_isLess 36 = .ok (.ifCond .lt 56, 3) := by decide +kernel
theorem d_B_isLess_39 : decode b_B_isLess 39 = .ok (.aload_n 0, 1) := by decide +kernel
theorem d_B_isLess_40 : decode b_B_isLess 40 = .ok (.getfield 9, 3) := by decide +kernel
theorem d_B_isLess_43 : decode b_B_isLess 43 = .ok (.iload_n 2, 1) := by decide +kernel
theorem d_B_isLess_44 : decode b_B_isLess 44 = .ok (.iaload, 1) := by decide +kernel
theorem d_B_isLess_45 : decode b_B_isLess 45 = .ok (.aload_n 1, 1) := by decide +kernel
theorem d_B_isLess_46 : decode b_B_isLess 46 = .ok (.getfield 9, 3) := by decide +kernel
theorem d_B_isLess_49 : decode b_B_isLess 49 = .ok (.iload_n 2, 1) := by decide +kernel
theorem d_B_isLess_50 : decode b_B_isLess 50 = .ok (.iaload, 1) := by decide +kernel
theorem d_B_isLess_51 : decode b_B_isLess 51 = .ok (.if_icmp .eq 35, 3) := by decide +kernel
theorem d_B_isLess_54 : decode b_B_isLess 54 = .ok (.aload_n 0, 1) := by decide +kernel
theorem d_B_isLess_55 : decode b_B_isLess 55 = .ok (.getfield 9, 3) := by decide +kernel
theorem d_B_isLess_58 : decode b_B_isLess 58 = .ok (.iload_n 2, 1) := by decide +kernel
theorem d_B_isLess_59 : decode b_B_isLess 59 = .ok (.iaload, 1) := by decide +kernel
theorem d_B_isLess_60 : decode b_B_isLess 60 = .ok (.i2l, 1) := by decide +kernel
theorem d_B_isLess_61 : decode b_B_isLess 61 = .ok (.ldc2_w 39, 3) := by decide +kernel
theorem d_B_isLess_64 : decode b_B_isLess 64 = .ok (.land, 1) := by decide +kernel
theorem d_B_isLess_65 : decode b_B_isLess 65 = .ok (.aload_n 1, 1) := by decide +kernel
theorem d_B_isLess_66 : decode b_B_isLess 66 = .ok (.getfield 9, 3) := by decide +kernel
theorem d_B_isLess_69 : decode b_B_isLess 69 = .ok (.iload_n 2, 1) := by decide +kernel
theorem d_B_isLess_70 : decode b_B_isLess 70 = .ok (.iaload, 1) := by decide +kernel
theorem d_B_isLess_71 : decode b_B_isLess 71 = .ok (.i2l, 1) := by decide +kernel
theorem d_B_isLess_72 : decode b_B_isLess 72 = .ok (.ldc2_w 39, 3) := by decide +kernel
theorem d_B_isLess_75 : decode b_B_isLess 75 = .ok (.land, 1) := by decide +kernel
theorem d_B_isLess_76 : decode b_B_isLess 76 = .ok (.lcmp, 1) := by decide +kernel
theorem d_B_isLess_77 : decode b_B_isLess 77 = .ok (.ifCond .ge 7, 3) := by decide +kernel
theorem d_B_isLess_80 : decode b_B_isLess 80 = .ok (.iconst 1, 1) := by decide +kernel
theorem d_B_isLess_81 : decode b_B_isLess 81 = .ok (.goto 4, 3) := by decide +kernel
theorem d_B_isLess_84 : decode b_B_isLess 84 = .ok (.iconst 0, 1) := by decide +kernel
theorem d_B_isLess_85 : decode b_B_isLess 85 = .ok (.ireturn, 1) := by decide +kernel
theorem d_B_isLess_86 : decode b_B_isLess 86 = .ok (.iinc 2 (-1), 3) := by decide +kernel
theorem d_B_isLess_89 : decode b_B_isLess 89 = .ok (.goto (-54), 3) := by decide +kernel
theorem d_B_isLess_92 : decode b_B_isLess 92 = .ok (.iconst 0, 1) := by decide +kernel
theorem d_B_isLess_93 : decode b_B_isLess 93 = .ok (.ireturn, 1) := by decide +kernel
theorem d_B_halve_0 : decode b_B_halve 0 = .ok (.iconst 0, 1) := by decide +kernel
theorem d_B_halve_1 : decode b_B_halve 1 = .ok (.istore_n 1, 1) := by decide +kernel
theorem d_B_halve_2 : decode b_B_halve 2 = .ok (.iload_n 1, 1) := by decide +kernel
theorem d_B_halve_3 : decode b_B_halve 3 = .ok (.aload_n 0, 1) := by decide +kernel
theorem d_B_halve_4 : decode b_B_halve 4 = .ok (.getfield 23, 3) := by decide +kernel
theorem d_B_halve_7 : decode b_B_halve 7 = .ok (.if_icmp .ge 34, 3) := by decide +kernel
theorem d_B_halve_10 : decode b_B_halve 10 = .ok (.aload_n 0, 1) := by decide +kernel
theorem d_B_halve_11 : decode b_B_halve 11 = .ok (.getfield 9, 3) := by decide +kernel
theorem d_B_halve_14 : decode b_B_halve 14 = .ok (.iload_n 1, 1) := by decide +kernel
theorem d_B_halve_15 : decode b_B_halve 15 = .ok (.aload_n 0, 1) := by decide +kernel
theorem d_B_halve_16 : decode b_B_halve 16 = .ok (.getfield 9, 3) := by decide +kernel
theorem d_B_halve_19 : decode b_B_halve 19 = .ok (.iload_n 1, 1) := by decide +kernel
theorem d_B_halve_20 : decode b_B_halve 20 = .ok (.iaload, 1) := by decide +kernel
theorem d_B_halve_21 : decode b_B_halve 21 = .ok (.iconst 1, 1) := by decide +kernel
theorem d_B_halve_22 : decode b_B_halve 22 = .ok (.iushr, 1) := by decide +kernel
theorem d_B_halve_23 : decode b_B_halve 23 = .ok (.aload_n 0, 1) := by decide +kernel
theorem d_B_halve_24 : decode b_B_halve 24 = .ok (.iload_n 1, 1) := by decide +kernel
theorem d_B_halve_25 : decode b_B_halve 25 = .ok (.iconst 1, 1) := by decide +kernel
theorem d_B_halve_26 : decode b_B_halve 26 = .ok (.iadd, 1) := by decide +kernel
theorem d_B_halve_27 : decode b_B_halve 27 = .ok (.invokevirtual 58, 3) := by decide +kernel
theorem d_B_halve_30 : decode b_B_halve 30 = .ok (.bipush 31, 2) := by decide +kernel
theorem d_B_halve_32 : decode b_B_halve 32 = .ok (.ishl, 1) := by decide +kernel
theorem d_B_halve_33 : decode b_B_halve 33 = .ok (.ior, 1) := by decide +kernel
theorem d_B_halve_34 : decode b_B_halve 34 = .ok (.iastore, 1) := by decide +kernel
theorem d_B_halve_35 : decode b_B_halve 35 = .ok (.iinc 1 1, 3) := by decide +kernel
theorem d_B_halve_38 : decode b_B_halve 38 = .ok (.goto (-36), 3) := by decide +kernel
theorem d_B_halve_41 : decode b_B_halve 41 = .ok (.aload_n 0, 1) := by decide +kernel
theorem d_B_halve_42 : decode b_B_halve 42 = .ok (.aload_n 0, 1) := by decide +kernel
theorem d_B_halve_43 : decode b_B_halve 43 = .ok (.getfield 23, 3) := by decide +kernel
theorem d_B_halve_46 : decode b_B_halve 46 = .ok (.lconst 0, 1) := by decide +kernel
theorem d_B_halve_47 : decode b_B_halve 47 = .ok (.invokevirtual 19, 3) := by decide +kernel
theorem d_B_halve_50 : decode b_B_halve 50 = .ok (.return_, 1) := by decide +kernel
