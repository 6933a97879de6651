theorem d_U_init_0 : decode b_U_init 0 = .ok (.aload_n 0, 1) := by decide +kernel
theorem d_U_init_1 : decode b_U_init 1 = .ok (.invokespecial 1, 3) := by decide +kernel
theorem d_U_init_4 : decode b_U_init 4 = .ok (.aload_n 0, 1) := by decide +kernel
theorem d_U_init_5 : decode b_U_init 5 = .ok (.new 7, 3) := by decide +kernel
theorem d_U_init_8 : decode b_U_init 8 = .ok (.dup, 1) := by decide +kernel
theorem d_U_init_9 : decode b_U_init 9 = .ok (.invokespecial 9, 3) := by decide +kernel
theorem d_U_init_12 : decode b_U_init 12 = .ok (.putfield 10, 3) := by decide +kernel
theorem d_U_init_15 : decode b_U_init 15 = .ok (.aload_n 0, 1) := by decide +kernel
theorem d_U_init_16 : decode b_U_init 16 = .ok (.new 7, 3) := by decide +kernel
theorem d_U_init_19 : decode b_U_init 19 = .ok (.dup, 1) := by decide +kernel
theorem d_U_init_20 : decode b_U_init 20 = .ok (.invokespecial 9, 3) := by decide +kernel
theorem d_U_init_23 : decode b_U_init 23 = .ok (.putfield 16, 3) := by decide +kernel
theorem d_U_init_26 : decode b_U_init 26 = .ok (.aload_n 0, 1) := by decide +kernel
theorem d_U_init_27 : decode b_U_init 27 = .ok (.new 7, 3) := by decide +kernel
theorem d_U_init_30 : decode b_U_init 30 = .ok (.dup, 1) := by decide +kernel
theorem d_U_init_31 : decode b_U_init 31 = .ok (.invokespecial 9, 3) := by decide +kernel
theorem d_U_init_34 : decode b_U_init 34 = .ok (.putfield 19, 3) := by decide +kernel
theorem d_U_init_37 : decode b_U_init 37 = .ok (.aload_n 0, 1) := by decide +kernel
theorem d_U_init_38 : decode b_U_init 38 = .ok (.new 7, 3) := by decide +kernel
theorem d_U_init_41 : decode b_U_init 41 = .ok (.dup, 1) := by decide +kernel
theorem d_U_init_42 : decode b_U_init 42 = .ok (.invokespecial 9, 3) := by decide +kernel
theorem d_U_init_45 : decode b_U_init 45 = .ok (.putfield 22, 3) := by decide +kernel
theorem d_U_init_48 : decode b_U_init 48 = .ok (.aload_n 0, 1) := by decide +kernel
theorem d_U_init_49 : decode b_U_init 49 = .ok (.new 7, 3) := by decide +kernel
theorem d_U_init_52 : decode b_U_init 52 = .ok (.dup, 1) := by decide +kernel
theorem d_U_init_53 : decode b_U_init 53 = .ok (.invokespecial 9, 3) := by decide +kernel
theorem d_U_init_56 : decode b_U_init 56 = .ok (.putfield 25, 3) := by decide +kernel
theorem d_U_init_59 : decode b_U_init 59 = .ok (.aload_n 0, 1) := by decide +kernel
theorem d_U_init_60 : decode b_U_init 60 = .ok (.new 7, 3) := by decide +kernel
theorem d_U_init_63 : decode b_U_init 63 = .ok (.dup, 1) := by decide +kernel
theorem d_U_init_64 : decode b_U_init 64 = .ok (.invokespecial 9, 3) := by decide +kernel
theorem d_U_init_67 : decode b_U_init 67 = .ok (.putfield 28, 3) := by decide +kernel
theorem d_U_init_70 : decode b_U_init 70 = .ok (.aload_n 0, 1) := by decide +kernel
theorem d_U_init_71 : decode b_U_init 71 = .ok (.new 7, 3) := by decide +kernel
theorem d_U_init_74 : decode b_U_init 74 = .ok (.dup, 1) := by decide +kernel
theorem d_U_init_75 : decode b_U_init 75 = .ok (.invokespecial 9, 3) := by decide +kernel
theorem d_U_init_78 : decode b_U_init 78 = .ok (.putfield 31, 3) := by decide +kernel
theorem d_U_init_81 : decode b_U_init 81 = .ok (.aload_n 0, 1) := by decide +kernel
theorem d_U_init_82 : decode b_U_init 82 = .ok (.new 7, 3) := by decide +kernel
theorem d_U_init_85 : decode b_U_init 85 = .ok (.dup, 1) := by decide +kernel
theorem d_U_init_86 : decode b_U_init 86 = .ok (.invokespecial 9, 3) := by decide +kernel
theorem d_U_init_89 : decode b_U_init 89 = .ok (.putfield 34, 3) := by decide +kernel
theorem d_U_init_92 : decode b_U_init 92 = .ok (.aload_n 0, 1) := by decide +kernel
theorem d_U_init_93 : decode b_U_init 93 = .ok (.new 37, 3) := by decide +kernel
theorem d_U_init_96 : decode b_U_init 96 = .ok (.dup, 1) := by decide +kernel
theorem d_U_init_97 : decode b_U_init 97 = .ok (.invokespecial 39, 3) := by decide +kernel
theorem d_U_init_100 : decode b_U_init 100 = .ok (.putfield 40, 3) := by decide +kernel
theorem d_U_init_103 : decode b_U_init 103 = .ok (.aload_n 0, 1) := by decide +kernel
theorem d_U_init_104 : decode b_U_init 104 = .ok (.bipush (-4), 2) := by decide +kernel
theorem d_U_init_106 : decode b_U_init 106 = .ok (.invokevirtual 44, 3) := by decide +kernel
theorem d_U_init_109 : decode b_U_init 109 = .ok (.return_, 1) := by decide +kernel
theorem d_U_take_0 : decode b_U_take 0 = .ok (.iload_n 1, 1) := by decide +kernel
theorem d_U_take_1 : decode b_U_take 1 = .ok (.invokestatic 48, 3) := by decide +kernel
theorem d_U_take_4 : decode b_U_take 4 = .ok (.ifCond .ne 13, 3) := by decide +kernel
theorem d_U_take_7 : decode b_U_take 7 = .ok (.new 52, 3) := by decide +kernel
theorem d_U_take_10 : decode b_U_take 10 = .ok (.dup, 1) := by decide +kernel
theorem d_U_take_11 : decode b_U_take 11 = .ok (.ldc 54, 2) := by decide +kernel
theorem d_U_take_13 : decode b_U_take 13 = .ok (.invokespecial 56, 3) := by decide +kernel
theorem d_U_take_16 : decode b_U_take 16 = .ok (.athrow, 1) := by decide +kernel
theorem d_U_take_17 : decode b_U_take 17 = .ok (.aload_n 0, 1) := by decide +kernel
theorem d_U_take_18 : decode b_U_take 18 = .ok (.iload_n 1, 1) := by decide +kernel
theorem d_U_take_19 : decode b_U_take 19 = .ok (.invokevirtual 44, 3) := by decide +kernel
theorem d_U_take_22 : decode b_U_take 22 = .ok (.aload_n 0, 1) := by decide +kernel
theorem d_U_take_23 : decode b_U_take 23 = .ok (.getfield 10, 3) := by decide +kernel
theorem d_U_take_26 : decode b_U_take 26 = .ok (.invokevirtual 59, 3) := by decide +kernel
theorem d_U_take_29 : decode b_U_take 29 = .ok (.ireturn, 1) := by decide +kernel
theorem d_U_count_0 : decode b_U_count 0 = .ok (.iload_n 1, 1) := by decide +kernel
theorem d_U_count_1 : decode b_U_count 1 = .ok (.tableswitch 62 0 3 #[31, 36, 41, 57], 31) := by decide +kernel
theorem d_U_count_32 : decode b_U_count 32 = .ok (.aload_n 0, 1) := by decide +kernel
theorem d_U_count_33 : decode b_U_count 33 = .ok (.getfield 63, 3) := by decide +kernel
theorem d_U_count_36 : decode b_U_count 36 = .ok (.ireturn, 1) := by decide +kernel
theorem d_U_count_37 : decode b_U_count 37 = .ok (.aload_n 0, 1) := by decide +kernel
theorem d_U_count_38 : decode b_U_count 38 = .ok (.getfield 67, 3) := by decide +kernel
theorem d_U_count_41 : decode b_U_count 41 = .ok (.ireturn, 1) := by decide +kernel
theorem d_U_count_42 : decode b_U_count 42 = .ok (.aload_n 0, 1) := by decide +kernel
theorem d_U_count_43 : decode b_U_count 43 = .ok (.getfield 34, 3) := by decide +kernel
theorem d_U_count_46 : decode b_U_count 46 = .ok (.invokevirtual 70, 3) := by decide +kernel
theorem d_U_count_49 : decode b_U_count 49 = .ok (.ifCond .ne 7, 3) := by decide +kernel
theorem d_U_count_52 : decode b_U_count 52 = .ok (.iconst 0, 1) := by decide +kernel
theorem d_U_count_53 : decode b_U_count 53 = .ok (.goto 4, 3) := by decide +kernel
theorem d_U_count_56 : decode b_U_count 56 = .ok (.iconst 1, 1) := by decide +kernel
theorem d_U_count_57 : decode b_U_count 57 = .ok (.ireturn, 1) := by decide +kernel
theorem d_U_count_58 : decode b_U_count 58 = .ok (.aload_n 0, 1) := by decide +kernel
theorem d_U_count_59 : decode b_U_count 59 = .ok (.invokevirtual 73, 3) := by decide +kernel
theorem d_U_count_62 : decode b_U_count 62 = .ok (.ireturn, 1) := by decide +kernel
theorem d_U_count_63 : decode b_U_count 63 = .ok (.iconst (-1), 1) := by decide +kernel
theorem d_U_count_64 : decode b_U_count 64 = .ok (.ireturn, 1) := by decide +kernel
theorem d_U_ask_0 : decode b_U_ask 0 = .ok (.iload_n 1, 1) := by decide +kernel
theorem d_U_ask_1 : decode b_U_ask 1 = .ok (.invokestatic 76, 3) := by decide +kernel
theorem d_U_ask_4 : decode b_U_ask 4 = .ok (.ifCond .eq 17, 3) := by decide +kernel
theorem d_U_ask_7 : decode b_U_ask 7 = .ok (.iload_n 2, 1) := by decide +kernel
theorem d_U_ask_8 : decode b_U_ask 8 = .ok (.invokestatic 76, 3) := by decide +kernel
theorem d_U_ask_11 : decode b_U_ask 11 = .ok (.ifCond .eq 10, 3) := by decide +kernel
theorem d_U_ask_14 : decode b_U_ask 14 = .ok (.iload_n 3, 1) := by decide +kernel
theorem d_U_ask_15 : decode b_U_ask 15 = .ok (.invokestatic 76, 3) := by decide +kernel
theorem d_U_ask_18 : decode b_U_ask 18 = .ok (.ifCond .ne 13, 3) := by decide +kernel
theorem d_U_ask_21 : decode b_U_ask 21 = .ok (.new 52, 3) := by decide +kernel
theorem d_U_ask_24 : decode b_U_ask 24 = .ok (.dup, 1) := by decide +kernel
theorem d_U_ask_25 : decode b_U_ask 25 = .ok (.ldc 79, 2) := by decide +kernel
theorem d_U_ask_27 : decode b_U_ask 27 = .ok (.invokespecial 56, 3) := by decide +kernel
theorem d_U_ask_30 : decode b_U_ask 30 = .ok (.athrow, 1) := by decide +kernel
theorem d_U_ask_31 : decode b_U_ask 31 = .ok (.iload_n 2, 1) := by decide +kernel
theorem d_U_ask_32 : decode b_U_ask 32 = .ok (.i2l, 1) := by decide +kernel
theorem d_U_ask_33 : decode b_U_ask 33 = .ok (.iload_n 2, 1) := by decide +kernel
theorem d_U_ask_34 : decode b_U_ask 34 = .ok (.i2l, 1) := by decide +kernel
theorem d_U_ask_35 : decode b_U_ask 35 = .ok (.lmul, 1) := by decide +kernel
theorem d_U_ask_36 : decode b_U_ask 36 = .ok (.ldc2_w 81, 3) := by decide +kernel
theorem d_U_ask_39 : decode b_U_ask 39 = .ok (.iload_n 1, 1) := by decide +kernel
theorem d_U_ask_40 : decode b_U_ask 40 = .ok (.i2l, 1) := by decide +kernel
theorem d_U_ask_41 : decode b_U_ask 41 = .ok (.lmul, 1) := by decide +kernel
theorem d_U_ask_42 : decode b_U_ask 42 = .ok (.iload_n 3, 1) := by decide +kernel
theorem d_U_ask_43 : decode b_U_ask 43 = .ok (.i2l, 1) := by decide +kernel
theorem d_U_ask_44 : decode b_U_ask 44 = .ok (.lmul, 1) := by decide +kernel
theorem d_U_ask_45 : decode b_U_ask 45 = .ok (.lsub, 1) := by decide +kernel
theorem d_U_ask_46 : decode b_U_ask 46 = .ok (.aload_n 0, 1) := by decide +kernel
theorem d_U_ask_47 : decode b_U_ask 47 = .ok (.getfield 63, 3) := by decide +kernel
theorem d_U_ask_50 : decode b_U_ask 50 = .ok (.i2l, 1) := by decide +kernel
theorem d_U_ask_51 : decode b_U_ask 51 = .ok (.lcmp, 1) := by decide +kernel
theorem d_U_ask_52 : decode b_U_ask 52 = .ok (.ifCond .eq 13, 3) := by decide +kernel
theorem d_U_ask_55 : decode b_U_ask 55 = .ok (.new 52, 3) := by decide +kernel
theorem d_U_ask_58 : decode b_U_ask 58 = .ok (.dup, 1) := by decide +kernel
theorem d_U_ask_59 : decode b_U_ask 59 = .ok (.ldc 83, 2) := by decide +kernel
theorem d_U_ask_61 : decode b_U_ask 61 = .ok (.invokespecial 56, 3) := by decide +kernel
theorem d_U_ask_64 : decode b_U_ask 64 = .ok (.athrow, 1) := by decide +kernel
theorem d_U_ask_65 : decode b_U_ask 65 = .ok (.iload_n 1, 1) := by decide +kernel
theorem d_U_ask_66 : decode b_U_ask 66 = .ok (.iload_n 2, 1) := by decide +kernel
theorem d_U_ask_67 : decode b_U_ask 67 = .ok (.invokestatic 85, 3) := by decide +kernel
theorem d_U_ask_70 : decode b_U_ask 70 = .ok (.iload_n 3, 1) := by decide +kernel
theorem d_U_ask_71 : decode b_U_ask 71 = .ok (.invokestatic 85, 3) := by decide +kernel
theorem d_U_ask_74 : decode b_U_ask 74 = .ok (.iconst 1, 1) := by decide +kernel
theorem d_U_ask_75 : decode b_U_ask 75 = .ok (.if_icmp .eq 13, 3) := by decide +kernel
theorem d_U_ask_78 : decode b_U_ask 78 = .ok (.new 52, 3) := by decide +kernel
theorem d_U_ask_81 : decode b_U_ask 81 = .ok (.dup, 1) := by decide +kernel
theorem d_U_ask_82 : decode b_U_ask 82 = .ok (.ldc 89, 2) := by decide +kernel
theorem d_U_ask_84 : decode b_U_ask 84 = .ok (.invokespecial 56, 3) := by decide +kernel
theorem d_U_ask_87 : decode b_U_ask 87 = .ok (.athrow, 1) := by decide +kernel
theorem d_U_ask_88 : decode b_U_ask 88 = .ok (.aload_n 0, 1) := by decide +kernel
theorem d_U_ask_89 : decode b_U_ask 89 = .ok (.iload_n 1, 1) := by decide +kernel
theorem d_U_ask_90 : decode b_U_ask 90 = .ok (.iload_n 2, 1) := by decide +kernel
theorem d_U_ask_91 : decode b_U_ask 91 = .ok (.iload_n 3, 1) := by decide +kernel
theorem d_U_ask_92 : decode b_U_ask 92 = .ok (.invokevirtual 91, 3) := by decide +kernel
theorem d_U_ask_95 : decode b_U_ask 95 = .ok (.return_, 1) := by decide +kernel
theorem d_U_power_0 : decode b_U_power 0 = .ok (.iload_n 1, 1) := by decide +kernel
theorem d_U_power_1 : decode b_U_power 1 = .ok (.ifCond .lt 17, 3) := by decide +kernel
theorem d_U_power_4 : decode b_U_power 4 = .ok (.iload_n 2, 1) := by decide +kernel
theorem d_U_power_5 : decode b_U_power 5 = .ok (.iconst 1, 1) := by decide +kernel
theorem d_U_power_6 : decode b_U_power 6 = .ok (.if_icmp .lt 12, 3) := by decide +kernel
theorem d_U_power_9 : decode b_U_power 9 = .ok (.iload_n 3, 1) := by decide +kernel
theorem d_U_power_10 : decode b_U_power 10 = .ok (.ifCond .lt 8, 3) := by decide +kernel
theorem d_U_power_13 : decode b_U_power 13 = .ok (.iload_n 3, 1) := by decide +kernel
theorem d_U_power_14 : decode b_U_power 14 = .ok (.iconst 1, 1) := by decide +kernel
theorem d_U_power_15 : decode b_U_power 15 = .ok (.if_icmp .le 13, 3) := by decide +kernel
theorem d_U_power_18 : decode b_U_power 18 = .ok (.new 52, 3) := by decide +kernel
theorem d_U_power_21 : decode b_U_power 21 = .ok (.dup, 1) := by decide +kernel
theorem d_U_power_22 : decode b_U_power 22 = .ok (.ldc 95, 2) := by decide +kernel
theorem d_U_power_24 : decode b_U_power 24 = .ok (.invokespecial 56, 3) := by decide +kernel
theorem d_U_power_27 : decode b_U_power 27 = .ok (.athrow, 1) := by decide +kernel
theorem d_U_power_28 : decode b_U_power 28 = .ok (.aload_n 0, 1) := by decide +kernel
theorem d_U_power_29 : decode b_U_power 29 = .ok (.getfield 10, 3) := by decide +kernel
theorem d_U_power_32 : decode b_U_power 32 = .ok (.iload_n 2, 1) := by decide +kernel
theorem d_U_power_33 : decode b_U_power 33 = .ok (.invokevirtual 97, 3) := by decide +kernel
theorem d_U_power_36 : decode b_U_power 36 = .ok (.lstore 4, 2) := by decide +kernel
theorem d_U_power_38 : decode b_U_power 38 = .ok (.lconst 0, 1) := by decide +kernel
theorem d_U_power_39 : decode b_U_power 39 = .ok (.lstore 6, 2) := by decide +kernel
theorem d_U_power_41 : decode b_U_power 41 = .ok (.iconst 1, 1) := by decide +kernel
theorem d_U_power_42 : decode b_U_power 42 = .ok (.iload_n 2, 1) := by decide +kernel
theorem d_U_power_43 : decode b_U_power 43 = .ok (.irem, 1) := by decide +kernel
theorem d_U_power_44 : decode b_U_power 44 = .ok (.i2l, 1) := by decide +kernel
theorem d_U_power_45 : decode b_U_power 45 = .ok (.lstore 8, 2) := by decide +kernel
theorem d_U_power_47 : decode b_U_power 47 = .ok (.bipush 30, 2) := by decide +kernel
theorem d_U_power_49 : decode b_U_power 49 = .ok (.istore 10, 2) := by decide +kernel
theorem d_U_power_51 : decode b_U_power 51 = .ok (.iload 10, 2) := by decide +kernel
theorem d_U_power_53 : decode b_U_power 53 = .ok (.ifCond .lt 91, 3) := by decide +kernel
theorem d_U_power_56 : decode b_U_power 56 = .ok (.lload 6, 2) := by decide +kernel
theorem d_U_power_58 : decode b_U_power 58 = .ok (.ldc2_w 101, 3) := by decide +kernel
theorem d_U_power_61 : decode b_U_power 61 = .ok (.lload 8, 2) := by decide +kernel
theorem d_U_power_63 : decode b_U_power 63 = .ok (.lmul, 1) := by decide +kernel
theorem d_U_power_64 : decode b_U_power 64 = .ok (.lload 4, 2) := by decide +kernel
theorem d_U_power_66 : decode b_U_power 66 = .ok (.lload 6, 2) := by decide +kernel
theorem d_U_power_68 : decode b_U_power 68 = .ok (.lmul, 1) := by decide +kernel
theorem d_U_power_69 : decode b_U_power 69 = .ok (.lsub, 1) := by decide +kernel
theorem d_U_power_70 : decode b_U_power 70 = .ok (.iload_n 2, 1) := by decide +kernel
theorem d_U_power_71 : decode b_U_power 71 = .ok (.i2l, 1) := by decide +kernel
theorem d_U_power_72 : decode b_U_power 72 = .ok (.invokestatic 103, 3) := by decide +kernel
theorem d_U_power_75 : decode b_U_power 75 = .ok (.lmul, 1) := by decide +kernel
theorem d_U_power_76 : decode b_U_power 76 = .ok (.iload_n 2, 1) := by decide +kernel
theorem d_U_power_77 : decode b_U_power 77 = .ok (.i2l, 1) := by decide +kernel
theorem d_U_power_78 : decode b_U_power 78 = .ok (.lrem, 1) := by decide +kernel
theorem d_U_power_79 : decode b_U_power 79 = .ok (.lstore 11, 2) := by decide +kernel
theorem d_U_power_81 : decode b_U_power 81 = .ok (.lload 8, 2) := by decide +kernel
theorem d_U_power_83 : decode b_U_power 83 = .ok (.lload 8, 2) := by decide +kernel
theorem d_U_power_85 : decode b_U_power 85 = .ok (.lmul, 1) := by decide +kernel
theorem d_U_power_86 : decode b_U_power 86 = .ok (.lload 6, 2) := by decide +kernel
theorem d_U_power_88 : decode b_U_power 88 = .ok (.lload 6, 2) := by decide +kernel
theorem d_U_power_90 : decode b_U_power 90 = .ok (.lmul, 1) := by decide +kernel
theorem d_U_power_91 : decode b_U_power 91 = .ok (.lsub, 1) := by decide +kernel
theorem d_U_power_92 : decode b_U_power 92 = .ok (.iload_n 2, 1) := by decide +kernel
theorem d_U_power_93 : decode b_U_power 93 = .ok (.i2l, 1) := by decide +kernel
theorem d_U_power_94 : decode b_U_power 94 = .ok (.invokestatic 103, 3) := by decide +kernel
theorem d_U_power_97 : decode b_U_power 97 = .ok (.lstore 13, 2) := by decide +kernel
theorem d_U_power_99 : decode b_U_power 99 = .ok (.iload_n 1, 1) := by decide +kernel
theorem d_U_power_100 : decode b_U_power 100 = .ok (.iload 10, 2) := by decide +kernel
theorem d_U_power_102 : decode b_U_power 102 = .ok (.iushr, 1) := by decide +kernel
theorem d_U_power_103 : decode b_U_power 103 = .ok (.iconst 1, 1) := by decide +kernel
theorem d_U_power_104 : decode b_U_power 104 = .ok (.iand, 1) := by decide +kernel
theorem d_U_power_105 : decode b_U_power 105 = .ok (.ifCond .ne 14, 3) := by decide +kernel
theorem d_U_power_108 : decode b_U_power 108 = .ok (.lload 11, 2) := by decide +kernel
theorem d_U_power_110 : decode b_U_power 110 = .ok (.lstore 6, 2) := by decide +kernel
theorem d_U_power_112 : decode b_U_power 112 = .ok (.lload 13, 2) := by decide +kernel
theorem d_U_power_114 : decode b_U_power 114 = .ok (.lstore 8, 2) := by decide +kernel
theorem d_U_power_116 : decode b_U_power 116 = .ok (.goto 22, 3) := by decide +kernel
theorem d_U_power_119 : decode b_U_power 119 = .ok (.lload 13, 2) := by decide +kernel
theorem d_U_power_121 : decode b_U_power 121 = .ok (.lstore 6, 2) := by decide +kernel
theorem d_U_power_123 : decode b_U_power 123 = .ok (.lload 4, 2) := by decide +kernel
theorem d_U_power_125 : decode b_U_power 125 = .ok (.lload 13, 2) := by decide +kernel
theorem d_U_power_127 : decode b_U_power 127 = .ok (.lmul, 1) := by decide +kernel
theorem d_U_power_128 : decode b_U_power 128 = .ok (.lload 11, 2) := by decide +kernel
theorem d_U_power_130 : decode b_U_power 130 = .ok (.lsub, 1) := by decide +kernel
theorem d_U_power_131 : decode b_U_power 131 = .ok (.iload_n 2, 1) := by decide +kernel
theorem d_U_power_132 : decode b_U_power 132 = .ok (.i2l, 1) := by decide +kernel
theorem d_U_power_133 : decode b_U_power 133 = .ok (.invokestatic 103, 3) := by decide +kernel
theorem d_U_power_136 : decode b_U_power 136 = .ok (.lstore 8, 2) := by decide +kernel
theorem d_U_power_138 : decode b_U_power 138 = .ok (.iinc 10 (-1), 3) := by decide +kernel
theorem d_U_power_141 : decode b_U_power 141 = .ok (.goto (-90), 3) := by decide +kernel
theorem d_U_power_144 : decode b_U_power 144 = .ok (.iload_n 3, 1) := by decide +kernel
theorem d_U_power_145 : decode b_U_power 145 = .ok (.ifCond .ne 23, 3) := by decide +kernel
theorem d_U_power_148 : decode b_U_power 148 = .ok (.ldc2_w 101, 3) := by decide +kernel
theorem d_U_power_151 : decode b_U_power 151 = .ok (.lload 8, 2) := by decide +kernel
theorem d_U_power_153 : decode b_U_power 153 = .ok (.lmul, 1) := by decide +kernel
theorem d_U_power_154 : decode b_U_power 154 = .ok (.lload 4, 2) := by decide +kernel
theorem d_U_power_156 : decode b_U_power 156 = .ok (.lload 6, 2) := by decide +kernel
theorem d_U_power_158 : decode b_U_power 158 = .ok (.lmul, 1) := by decide +kernel
theorem d_U_power_159 : decode b_U_power 159 = .ok (.lsub, 1) := by decide +kernel
theorem d_U_power_160 : decode b_U_power 160 = .ok (.iload_n 2, 1) := by decide +kernel
theorem d_U_power_161 : decode b_U_power 161 = .ok (.i2l, 1) := by decide +kernel
theorem d_U_power_162 : decode b_U_power 162 = .ok (.invokestatic 103, 3) := by decide +kernel
theorem d_U_power_165 : decode b_U_power 165 = .ok (.goto 17, 3) := by decide +kernel
theorem d_U_power_168 : decode b_U_power 168 = .ok (.aload_n 0, 1) := by decide +kernel
theorem d_U_power_169 : decode b_U_power 169 = .ok (.getfield 16, 3) := by decide +kernel
theorem d_U_power_172 : decode b_U_power 172 = .ok (.iload_n 2, 1) := by decide +kernel
theorem d_U_power_173 : decode b_U_power 173 = .ok (.invokevirtual 97, 3) := by decide +kernel
theorem d_U_power_176 : decode b_U_power 176 = .ok (.lload 6, 2) := by decide +kernel
theorem d_U_power_178 : decode b_U_power 178 = .ok (.lmul, 1) := by decide +kernel
theorem d_U_power_179 : decode b_U_power 179 = .ok (.iload_n 2, 1) := by decide +kernel
theorem d_U_power_180 : decode b_U_power 180 = .ok (.i2l, 1) := by decide +kernel
theorem d_U_power_181 : decode b_U_power 181 = .ok (.lrem, 1) := by decide +kernel
theorem d_U_power_182 : decode b_U_power 182 = .ok (.lstore 10, 2) := by decide +kernel
theorem d_U_power_184 : decode b_U_power 184 = .ok (.lload 10, 2) := by decide +kernel
theorem d_U_power_186 : decode b_U_power 186 = .ok (.l2i, 1) := by decide +kernel
theorem d_U_power_187 : decode b_U_power 187 = .ok (.ireturn, 1) := by decide +kernel
theorem d_U_sign_0 : decode b_U_sign 0 = .ok (.aload_n 0, 1) := by decide +kernel
theorem d_U_sign_1 : decode b_U_sign 1 = .ok (.iload_n 1, 1) := by decide +kernel
theorem d_U_sign_2 : decode b_U_sign 2 = .ok (.invokevirtual 109, 3) := by decide +kernel
theorem d_U_sign_5 : decode b_U_sign 5 = .ok (.invokevirtual 70, 3) := by decide +kernel
theorem d_U_sign_8 : decode b_U_sign 8 = .ok (.ireturn, 1) := by decide +kernel
theorem d_U_bits_0 : decode b_U_bits 0 = .ok (.aload_n 0, 1) := by decide +kernel
theorem d_U_bits_1 : decode b_U_bits 1 = .ok (.iload_n 1, 1) := by decide +kernel
theorem d_U_bits_2 : decode b_U_bits 2 = .ok (.invokevirtual 109, 3) := by decide +kernel
theorem d_U_bits_5 : decode b_U_bits 5 = .ok (.invokevirtual 59, 3) := by decide +kernel
theorem d_U_bits_8 : decode b_U_bits 8 = .ok (.ireturn, 1) := by decide +kernel
theorem d_U_word_0 : decode b_U_word 0 = .ok (.aload_n 0, 1) := by decide +kernel
theorem d_U_word_1 : decode b_U_word 1 = .ok (.iload_n 1, 1) := by decide +kernel
theorem d_U_word_2 : decode b_U_word 2 = .ok (.invokevirtual 109, 3) := by decide +kernel
theorem d_U_word_5 : decode b_U_word 5 = .ok (.astore_n 3, 1) := by decide +kernel
theorem d_U_word_6 : decode b_U_word 6 = .ok (.iload_n 2, 1) := by decide +kernel
theorem d_U_word_7 : decode b_U_word 7 = .ok (.ifCond .lt 10, 3) := by decide +kernel
theorem d_U_word_10 : decode b_U_word 10 = .ok (.iload_n 2, 1) := by decide +kernel
theorem d_U_word_11 : decode b_U_word 11 = .ok (.sipush 512, 3) := by decide +kernel
theorem d_U_word_14 : decode b_U_word 14 = .ok (.if_icmp .lt 13, 3) := by decide +kernel
theorem d_U_word_17 : decode b_U_word 17 = .ok (.new 113, 3) := by decide +kernel
theorem d_U_word_20 : decode b_U_word 20 = .ok (.dup, 1) := by decide +kernel
theorem d_U_word_21 : decode b_U_word 21 = .ok (.ldc 115, 2) := by decide +kernel
theorem d_U_word_23 : decode b_U_word 23 = .ok (.invokespecial 117, 3) := by decide +kernel
theorem d_U_word_26 : decode b_U_word 26 = .ok (.athrow, 1) := by decide +kernel
theorem d_U_word_27 : decode b_U_word 27 = .ok (.aload_n 3, 1) := by decide +kernel
theorem d_U_word_28 : decode b_U_word 28 = .ok (.iload_n 2, 1) := by decide +kernel
theorem d_U_word_29 : decode b_U_word 29 = .ok (.invokevirtual 118, 3) := by decide +kernel
theorem d_U_word_32 : decode b_U_word 32 = .ok (.ireturn, 1) := by decide +kernel
theorem d_U_residue_0 : decode b_U_residue 0 = .ok (.aload_n 0, 1) := by decide +kernel
theorem d_U_residue_1 : decode b_U_residue 1 = .ok (.iload_n 1, 1) := by decide +kernel
theorem d_U_residue_2 : decode b_U_residue 2 = .ok (.invokevirtual 109, 3) := by decide +kernel
theorem d_U_residue_5 : decode b_U_residue 5 = .ok (.astore_n 3, 1) := by decide +kernel
theorem d_U_residue_6 : decode b_U_residue 6 = .ok (.iload_n 2, 1) := by decide +kernel
theorem d_U_residue_7 : decode b_U_residue 7 = .ok (.iconst 1, 1) := by decide +kernel
theorem d_U_residue_8 : decode b_U_residue 8 = .ok (.if_icmp .ge 13, 3) := by decide +kernel
theorem d_U_residue_11 : decode b_U_residue 11 = .ok (.new 52, 3) := by decide +kernel
theorem d_U_residue_14 : decode b_U_residue 14 = .ok (.dup, 1) := by decide +kernel
theorem d_U_residue_15 : decode b_U_residue 15 = .ok (.ldc 122, 2) := by decide +kernel
theorem d_U_residue_17 : decode b_U_residue 17 = .ok (.invokespecial 56, 3) := by decide +kernel
theorem d_U_residue_20 : decode b_U_residue 20 = .ok (.athrow, 1) := by decide +kernel
theorem d_U_residue_21 : decode b_U_residue 21 = .ok (.aload_n 3, 1) := by decide +kernel
theorem d_U_residue_22 : decode b_U_residue 22 = .ok (.iload_n 2, 1) := by decide +kernel
theorem d_U_residue_23 : decode b_U_residue 23 = .ok (.invokevirtual 97, 3) := by decide +kernel
theorem d_U_residue_26 : decode b_U_residue 26 = .ok (.l2i, 1) := by decide +kernel
theorem d_U_residue_27 : decode b_U_residue 27 = .ok (.ireturn, 1) := by decide +kernel
theorem d_U_numberAt_0 : decode b_U_numberAt 0 = .ok (.iload_n 1, 1) := by decide +kernel
theorem d_U_numberAt_1 : decode b_U_numberAt 1 = .ok (.tableswitch 87 0 7 #[47, 52, 57, 62, 67, 72, 77, 82], 47) := by decide +kernel
theorem d_U_numberAt_48 : decode b_U_numberAt 48 = .ok (.aload_n 0, 1) := by decide +kernel
theorem d_U_numberAt_49 : decode b_U_numberAt 49 = .ok (.getfield 10, 3) := by decide +kernel
theorem d_U_numberAt_52 : decode b_U_numberAt 52 = .ok (.areturn, 1) := by decide +kernel
theorem d_U_numberAt_53 : decode b_U_numberAt 53 = .ok (.aload_n 0, 1) := by decide +kernel
theorem d_U_numberAt_54 : decode b_U_numberAt 54 = .ok (.getfield 16, 3) := by decide +kernel
theorem d_U_numberAt_57 : decode b_U_numberAt 57 = .ok (.areturn, 1) := by decide +kernel
theorem d_U_numberAt_58 : decode b_U_numberAt 58 = .ok (.aload_n 0, 1) := by decide +kernel
theorem d_U_numberAt_59 : decode b_U_numberAt 59 = .ok (.getfield 19, 3) := by decide +kernel
theorem d_U_numberAt_62 : decode b_U_numberAt 62 = .ok (.areturn, 1) := by decide +kernel
theorem d_U_numberAt_63 : decode b_U_numberAt 63 = .ok (.aload_n 0, 1) := by decide +kernel
theorem d_U_numberAt_64 : decode b_U_numberAt 64 = .ok (.getfield 22, 3) := by decide +kernel
theorem d_U_numberAt_67 : decode b_U_numberAt 67 = .ok (.areturn, 1) := by decide +kernel
theorem d_U_numberAt_68 : decode b_U_numberAt 68 = .ok (.aload_n 0, 1) := by decide +kernel
theorem d_U_numberAt_69 : decode b_U_numberAt 69 = .ok (.getfield 25, 3) := by decide +kernel
theorem d_U_numberAt_72 : decode b_U_numberAt 72 = .ok (.areturn, 1) := by decide +kernel
theorem d_U_numberAt_73 : decode b_U_numberAt 73 = .ok (.aload_n 0, 1) := by decide +kernel
theorem d_U_numberAt_74 : decode b_U_numberAt 74 = .ok (.getfield 28, 3) := by decide +kernel
theorem d_U_numberAt_77 : decode b_U_numberAt 77 = .ok (.areturn, 1) := by decide +kernel
theorem d_U_numberAt_78 : decode b_U_numberAt 78 = .ok (.aload_n 0, 1) := by decide +kernel
theorem d_U_numberAt_79 : decode b_U_numberAt 79 = .ok (.getfield 31, 3) := by decide +kernel
theorem d_U_numberAt_82 : decode b_U_numberAt 82 = .ok (.areturn, 1) := by decide +kernel
theorem d_U_numberAt_83 : decode b_U_numberAt 83 = .ok (.aload_n 0, 1) := by decide +kernel
theorem d_U_numberAt_84 : decode b_U_numberAt 84 = .ok (.getfield 34, 3) := by decide +kernel
theorem d_U_numberAt_87 : decode b_U_numberAt 87 = .ok (.areturn, 1) := by decide +kernel
theorem d_U_numberAt_88 : decode b_U_numberAt 88 = .ok (.new 113, 3) := by decide +kernel
theorem d_U_numberAt_91 : decode b_U_numberAt 91 = .ok (.dup, 1) := by decide +kernel
theorem d_U_numberAt_92 : decode b_U_numberAt 92 = .ok (.ldc 124, 2) := by decide +kernel
theorem d_U_numberAt_94 : decode b_U_numberAt 94 = .ok (.invokespecial 117, 3) := by decide +kernel
theorem d_U_numberAt_97 : decode b_U_numberAt 97 = .ok (.athrow, 1) := by decide +kernel
theorem d_U_canBeTaken_0 : decode b_U_canBeTaken 0 = .ok (.iload_n 0, 1) := by decide +kernel
theorem d_U_canBeTaken_1 : decode b_U_canBeTaken 1 = .ok (.ldc 126, 2) := by decide +kernel
theorem d_U_canBeTaken_3 : decode b_U_canBeTaken 3 = .ok (.if_icmp .lt 16, 3) := by decide +kernel
theorem d_U_canBeTaken_6 : decode b_U_canBeTaken 6 = .ok (.iload_n 0, 1) := by decide +kernel
theorem d_U_canBeTaken_7 : decode b_U_canBeTaken 7 = .ok (.ldc 127, 2) := by decide +kernel
theorem d_U_canBeTaken_9 : decode b_U_canBeTaken 9 = .ok (.if_icmp .gt 10, 3) := by decide +kernel
theorem d_U_canBeTaken_12 : decode b_U_canBeTaken 12 = .ok (.iload_n 0, 1) := by decide +kernel
theorem d_U_canBeTaken_13 : decode b_U_canBeTaken 13 = .ok (.iconst 3, 1) := by decide +kernel
theorem d_U_canBeTaken_14 : decode b_U_canBeTaken 14 = .ok (.iand, 1) := by decide +kernel
theorem d_U_canBeTaken_15 : decode b_U_canBeTaken 15 = .ok (.iconst 1, 1) := by decide +kernel
theorem d_U_canBeTaken_16 : decode b_U_canBeTaken 16 = .ok (.if_icmp .le 5, 3) := by decide +kernel
theorem d_U_canBeTaken_19 : decode b_U_canBeTaken 19 = .ok (.iconst 0, 1) := by decide +kernel
theorem d_U_canBeTaken_20 : decode b_U_canBeTaken 20 = .ok (.ireturn, 1) := by decide +kernel
theorem d_U_canBeTaken_21 : decode b_U_canBeTaken 21 = .ok (.iload_n 0, 1) := by decide +kernel
theorem d_U_canBeTaken_22 : decode b_U_canBeTaken 22 = .ok (.invokestatic 128, 3) := by decide +kernel
theorem d_U_canBeTaken_25 : decode b_U_canBeTaken 25 = .ok (.istore_n 1, 1) := by decide +kernel
theorem d_U_canBeTaken_26 : decode b_U_canBeTaken 26 = .ok (.iload_n 1, 1) := by decide +kernel
theorem d_U_canBeTaken_27 : decode b_U_canBeTaken 27 = .ok (.iload_n 1, 1) := by decide +kernel
theorem d_U_canBeTaken_28 : decode b_U_canBeTaken 28 = .ok (.imul, 1) := by decide +kernel
theorem d_U_canBeTaken_29 : decode b_U_canBeTaken 29 = .ok (.iload_n 0, 1) := by decide +kernel
theorem d_U_canBeTaken_30 : decode b_U_canBeTaken 30 = .ok (.if_icmp .eq 7, 3) := by decide +kernel
theorem d_U_canBeTaken_33 : decode b_U_canBeTaken 33 = .ok (.iconst 1, 1) := by decide +kernel
theorem d_U_canBeTaken_34 : decode b_U_canBeTaken 34 = .ok (.goto 4, 3) := by decide +kernel
theorem d_U_canBeTaken_37 : decode b_U_canBeTaken 37 = .ok (.iconst 0, 1) := by decide +kernel
theorem d_U_canBeTaken_38 : decode b_U_canBeTaken 38 = .ok (.ireturn, 1) := by decide +kernel
theorem d_U_rootOf_0 : decode b_U_rootOf 0 = .ok (.iconst 0, 1) := by decide +kernel
theorem d_U_rootOf_1 : decode b_U_rootOf 1 = .ok (.istore_n 1, 1) := by decide +kernel
theorem d_U_rootOf_2 : decode b_U_rootOf 2 = .ok (.sipush 1024, 3) := by decide +kernel
theorem d_U_rootOf_5 : decode b_U_rootOf 5 = .ok (.istore_n 2, 1) := by decide +kernel
theorem d_U_rootOf_6 : decode b_U_rootOf 6 = .ok (.iload_n 2, 1) := by decide +kernel
theorem d_U_rootOf_7 : decode b_U_rootOf 7 = .ok (.ifCond .le 23, 3) := by decide +kernel
theorem d_U_rootOf_10 : decode b_U_rootOf 10 = .ok (.iload_n 1, 1) := by decide +kernel
theorem d_U_rootOf_11 : decode b_U_rootOf 11 = .ok (.iload_n 2, 1) := by decide +kernel
theorem d_U_rootOf_12 : decode b_U_rootOf 12 = .ok (.iadd, 1) := by decide +kernel
theorem d_U_rootOf_13 : decode b_U_rootOf 13 = .ok (.istore_n 3, 1) := by decide +kernel
theorem d_U_rootOf_14 : decode b_U_rootOf 14 = .ok (.iload_n 3, 1) := by decide +kernel
theorem d_U_rootOf_15 : decode b_U_rootOf 15 = .ok (.iload_n 3, 1) := by decide +kernel
theorem d_U_rootOf_16 : decode b_U_rootOf 16 = .ok (.imul, 1) := by decide +kernel
theorem d_U_rootOf_17 : decode b_U_rootOf 17 = .ok (.iload_n 0, 1) := by decide +kernel
theorem d_U_rootOf_18 : decode b_U_rootOf 18 = .ok (.if_icmp .gt 5, 3) := by decide +kernel
theorem d_U_rootOf_21 : decode b_U_rootOf 21 = .ok (.iload_n 3, 1) := by decide +kernel
theorem d_U_rootOf_22 : decode b_U_rootOf 22 = .ok (.istore_n 1, 1) := by decide +kernel
theorem d_U_rootOf_23 : decode b_U_rootOf 23 = .ok (.iload_n 2, 1) := by decide +kernel
theorem d_U_rootOf_24 : decode b_U_rootOf 24 = .ok (.iconst 1, 1) := by decide +kernel
theorem d_U_rootOf_25 : decode b_U_rootOf 25 = .ok (.ishr, 1) := by decide +kernel
theorem d_U_rootOf_26 : decode b_U_rootOf 26 = .ok (.istore_n 2, 1) := by decide +kernel
theorem d_U_rootOf_27 : decode b_U_rootOf 27 = .ok (.goto (-21), 3) := by decide +kernel
theorem d_U_rootOf_30 : decode b_U_rootOf 30 = .ok (.iload_n 1, 1) := by decide +kernel
theorem d_U_rootOf_31 : decode b_U_rootOf 31 = .ok (.ireturn, 1) := by decide +kernel
theorem d_U_countUnits_0 : decode b_U_countUnits 0 = .ok (.aload_n 0, 1) := by decide +kernel
theorem d_U_countUnits_1 : decode b_U_countUnits 1 = .ok (.getfield 63, 3) := by decide +kernel
theorem d_U_countUnits_4 : decode b_U_countUnits 4 = .ok (.ifCond .le 5, 3) := by decide +kernel
theorem d_U_countUnits_7 : decode b_U_countUnits 7 = .ok (.iconst (-1), 1) := by decide +kernel
theorem d_U_countUnits_8 : decode b_U_countUnits 8 = .ok (.ireturn, 1) := by decide +kernel
theorem d_U_countUnits_9 : decode b_U_countUnits 9 = .ok (.aload_n 0, 1) := by decide +kernel
theorem d_U_countUnits_10 : decode b_U_countUnits 10 = .ok (.getfield 63, 3) := by decide +kernel
theorem d_U_countUnits_13 : decode b_U_countUnits 13 = .ok (.bipush (-3), 2) := by decide +kernel
theorem d_U_countUnits_15 : decode b_U_countUnits 15 = .ok (.if_icmp .ne 6, 3) := by decide +kernel
theorem d_U_countUnits_18 : decode b_U_countUnits 18 = .ok (.bipush 6, 2) := by decide +kernel
theorem d_U_countUnits_20 : decode b_U_countUnits 20 = .ok (.ireturn, 1) := by decide +kernel
theorem d_U_countUnits_21 : decode b_U_countUnits 21 = .ok (.aload_n 0, 1) := by decide +kernel
theorem d_U_countUnits_22 : decode b_U_countUnits 22 = .ok (.getfield 63, 3) := by decide +kernel
theorem d_U_countUnits_25 : decode b_U_countUnits 25 = .ok (.bipush (-4), 2) := by decide +kernel
theorem d_U_countUnits_27 : decode b_U_countUnits 27 = .ok (.if_icmp .ne 7, 3) := by decide +kernel
theorem d_U_countUnits_30 : decode b_U_countUnits 30 = .ok (.iconst 4, 1) := by decide +kernel
theorem d_U_countUnits_31 : decode b_U_countUnits 31 = .ok (.goto 4, 3) := by decide +kernel
theorem d_U_countUnits_34 : decode b_U_countUnits 34 = .ok (.iconst 2, 1) := by decide +kernel
theorem d_U_countUnits_35 : decode b_U_countUnits 35 = .ok (.ireturn, 1) := by decide +kernel
theorem d_U_isCoefficient_0 : decode b_U_isCoefficient 0 = .ok (.iload_n 0, 1) := by decide +kernel
theorem d_U_isCoefficient_1 : decode b_U_isCoefficient 1 = .ok (.ldc 131, 2) := by decide +kernel
theorem d_U_isCoefficient_3 : decode b_U_isCoefficient 3 = .ok (.if_icmp .lt 13, 3) := by decide +kernel
theorem d_U_isCoefficient_6 : decode b_U_isCoefficient 6 = .ok (.iload_n 0, 1) := by decide +kernel
theorem d_U_isCoefficient_7 : decode b_U_isCoefficient 7 = .ok (.ldc 132, 2) := by decide +kernel
theorem d_U_isCoefficient_9 : decode b_U_isCoefficient 9 = .ok (.if_icmp .gt 7, 3) := by decide +kernel
theorem d_U_isCoefficient_12 : decode b_U_isCoefficient 12 = .ok (.iconst 1, 1) := by decide +kernel
theorem d_U_isCoefficient_13 : decode b_U_isCoefficient 13 = .ok (.goto 4, 3) := by decide +kernel
theorem d_U_isCoefficient_16 : decode b_U_isCoefficient 16 = .ok (.iconst 0, 1) := by decide +kernel
theorem d_U_isCoefficient_17 : decode b_U_isCoefficient 17 = .ok (.ireturn, 1) := by decide +kernel
theorem d_U_commonDivisor_0 : decode b_U_commonDivisor 0 = .ok (.iload_n 0, 1) := by decide +kernel
theorem d_U_commonDivisor_1 : decode b_U_commonDivisor 1 = .ok (.invokestatic 133, 3) := by decide +kernel
theorem d_U_commonDivisor_4 : decode b_U_commonDivisor 4 = .ok (.istore_n 2, 1) := by decide +kernel
theorem d_U_commonDivisor_5 : decode b_U_commonDivisor 5 = .ok (.iload_n 1, 1) := by decide +kernel
theorem d_U_commonDivisor_6 : decode b_U_commonDivisor 6 = .ok (.invokestatic 133, 3) := by decide +kernel
theorem d_U_commonDivisor_9 : decode b_U_commonDivisor 9 = .ok (.istore_n 3, 1) := by decide +kernel
theorem d_U_commonDivisor_10 : decode b_U_commonDivisor 10 = .ok (.iconst 0, 1) := by decide +kernel
theorem d_U_commonDivisor_11 : decode b_U_commonDivisor 11 = .ok (.istore 4, 2) := by decide +kernel
theorem d_U_commonDivisor_13 : decode b_U_commonDivisor 13 = .ok (.iload_n 3, 1) := by decide +kernel
theorem d_U_commonDivisor_14 : decode b_U_commonDivisor 14 = .ok (.ifCond .eq 26, 3) := by decide +kernel
theorem d_U_commonDivisor_17 : decode b_U_commonDivisor 17 = .ok (.iload 4, 2) := by decide +kernel
theorem d_U_commonDivisor_19 : decode b_U_commonDivisor 19 = .ok (.bipush 64, 2) := by decide +kernel
theorem d_U_commonDivisor_21 : decode b_U_commonDivisor 21 = .ok (.if_icmp .ge 19, 3) := by decide +kernel
theorem d_U_commonDivisor_24 : decode b_U_commonDivisor 24 = .ok (.iload_n 2, 1) := by decide +kernel
theorem d_U_commonDivisor_25 : decode b_U_commonDivisor 25 = .ok (.iload_n 3, 1) := by decide +kernel
theorem d_U_commonDivisor_26 : decode b_U_commonDivisor 26 = .ok (.irem, 1) := by decide +kernel
theorem d_U_commonDivisor_27 : decode b_U_commonDivisor 27 = .ok (.istore 5, 2) := by decide +kernel
theorem d_U_commonDivisor_29 : decode b_U_commonDivisor 29 = .ok (.iload_n 3, 1) := by decide +kernel
theorem d_U_commonDivisor_30 : decode b_U_commonDivisor 30 = .ok (.istore_n 2, 1) := by decide +kernel
theorem d_U_commonDivisor_31 : decode b_U_commonDivisor 31 = .ok (.iload 5, 2) := by decide +kernel
theorem d_U_commonDivisor_33 : decode b_U_commonDivisor 33 = .ok (.istore_n 3, 1) := by decide +kernel
theorem d_U_commonDivisor_34 : decode b_U_commonDivisor 34 = .ok (.iinc 4 1, 3) := by decide +kernel
theorem d_U_commonDivisor_37 : decode b_U_commonDivisor 37 = .ok (.goto (-24), 3) := by decide +kernel
theorem d_U_commonDivisor_40 : decode b_U_commonDivisor 40 = .ok (.iload_n 2, 1) := by decide +kernel
theorem d_U_commonDivisor_41 : decode b_U_commonDivisor 41 = .ok (.ireturn, 1) := by decide +kernel
theorem d_U_become_0 : decode b_U_become 0 = .ok (.aload_n 0, 1) := by decide +kernel
theorem d_U_become_1 : decode b_U_become 1 = .ok (.iload_n 1, 1) := by decide +kernel
theorem d_U_become_2 : decode b_U_become 2 = .ok (.putfield 63, 3) := by decide +kernel
theorem d_U_become_5 : decode b_U_become 5 = .ok (.iload_n 1, 1) := by decide +kernel
theorem d_U_become_6 : decode b_U_become 6 = .ok (.ifCond .le 11, 3) := by decide +kernel
theorem d_U_become_9 : decode b_U_become 9 = .ok (.aload_n 0, 1) := by decide +kernel
theorem d_U_become_10 : decode b_U_become 10 = .ok (.iload_n 1, 1) := by decide +kernel
theorem d_U_become_11 : decode b_U_become 11 = .ok (.invokevirtual 136, 3) := by decide +kernel
theorem d_U_become_14 : decode b_U_become 14 = .ok (.goto 8, 3) := by decide +kernel
theorem d_U_become_17 : decode b_U_become 17 = .ok (.aload_n 0, 1) := by decide +kernel
theorem d_U_become_18 : decode b_U_become 18 = .ok (.iload_n 1, 1) := by decide +kernel
theorem d_U_become_19 : decode b_U_become 19 = .ok (.invokevirtual 139, 3) := by decide +kernel
theorem d_U_become_22 : decode b_U_become 22 = .ok (.iload_n 1, 1) := by decide +kernel
theorem d_U_become_23 : decode b_U_become 23 = .ok (.iconst 1, 1) := by decide +kernel
theorem d_U_become_24 : decode b_U_become 24 = .ok (.iand, 1) := by decide +kernel
theorem d_U_become_25 : decode b_U_become 25 = .ok (.istore_n 2, 1) := by decide +kernel
theorem d_U_become_26 : decode b_U_become 26 = .ok (.aload_n 0, 1) := by decide +kernel
theorem d_U_become_27 : decode b_U_become 27 = .ok (.iconst 1, 1) := by decide +kernel
theorem d_U_become_28 : decode b_U_become 28 = .ok (.iload_n 2, 1) := by decide +kernel
theorem d_U_become_29 : decode b_U_become 29 = .ok (.iload_n 2, 1) := by decide +kernel
theorem d_U_become_30 : decode b_U_become 30 = .ok (.iload_n 1, 1) := by decide +kernel
theorem d_U_become_31 : decode b_U_become 31 = .ok (.isub, 1) := by decide +kernel
theorem d_U_become_32 : decode b_U_become 32 = .ok (.iconst 4, 1) := by decide +kernel
theorem d_U_become_33 : decode b_U_become 33 = .ok (.idiv, 1) := by decide +kernel
theorem d_U_become_34 : decode b_U_become 34 = .ok (.invokevirtual 91, 3) := by decide +kernel
theorem d_U_become_37 : decode b_U_become 37 = .ok (.return_, 1) := by decide +kernel
theorem d_U_setUnitBelow_0 : decode b_U_setUnitBelow 0 = .ok (.aload_n 0, 1) := by decide +kernel
theorem d_U_setUnitBelow_1 : decode b_U_setUnitBelow 1 = .ok (.iconst 0, 1) := by decide +kernel
theorem d_U_setUnitBelow_2 : decode b_U_setUnitBelow 2 = .ok (.putfield 67, 3) := by decide +kernel
theorem d_U_setUnitBelow_5 : decode b_U_setUnitBelow 5 = .ok (.aload_n 0, 1) := by decide +kernel
theorem d_U_setUnitBelow_6 : decode b_U_setUnitBelow 6 = .ok (.getfield 31, 3) := by decide +kernel
theorem d_U_setUnitBelow_9 : decode b_U_setUnitBelow 9 = .ok (.iconst 0, 1) := by decide +kernel
theorem d_U_setUnitBelow_10 : decode b_U_setUnitBelow 10 = .ok (.invokevirtual 142, 3) := by decide +kernel
theorem d_U_setUnitBelow_13 : decode b_U_setUnitBelow 13 = .ok (.aload_n 0, 1) := by decide +kernel
theorem d_U_setUnitBelow_14 : decode b_U_setUnitBelow 14 = .ok (.getfield 34, 3) := by decide +kernel
theorem d_U_setUnitBelow_17 : decode b_U_setUnitBelow 17 = .ok (.iconst 0, 1) := by decide +kernel
theorem d_U_setUnitBelow_18 : decode b_U_setUnitBelow 18 = .ok (.invokevirtual 142, 3) := by decide +kernel
theorem d_U_setUnitBelow_21 : decode b_U_setUnitBelow 21 = .ok (.aload_n 0, 1) := by decide +kernel
theorem d_U_setUnitBelow_22 : decode b_U_setUnitBelow 22 = .ok (.getfield 16, 3) := by decide +kernel
theorem d_U_setUnitBelow_25 : decode b_U_setUnitBelow 25 = .ok (.iload_n 1, 1) := by decide +kernel
theorem d_U_setUnitBelow_26 : decode b_U_setUnitBelow 26 = .ok (.bipush (-4), 2) := by decide +kernel
theorem d_U_setUnitBelow_28 : decode b_U_setUnitBelow 28 = .ok (.if_icmp .lt 7, 3) := by decide +kernel
theorem d_U_setUnitBelow_31 : decode b_U_setUnitBelow 31 = .ok (.iconst 1, 1) := by decide +kernel
theorem d_U_setUnitBelow_32 : decode b_U_setUnitBelow 32 = .ok (.goto 4, 3) := by decide +kernel
theorem d_U_setUnitBelow_35 : decode b_U_setUnitBelow 35 = .ok (.iconst 0, 1) := by decide +kernel
theorem d_U_setUnitBelow_36 : decode b_U_setUnitBelow 36 = .ok (.invokevirtual 142, 3) := by decide +kernel
theorem d_U_setUnitBelow_39 : decode b_U_setUnitBelow 39 = .ok (.iload_n 1, 1) := by decide +kernel
theorem d_U_setUnitBelow_40 : decode b_U_setUnitBelow 40 = .ok (.bipush (-3), 2) := by decide +kernel
theorem d_U_setUnitBelow_42 : decode b_U_setUnitBelow 42 = .ok (.if_icmp .ne 14, 3) := by decide +kernel
theorem d_U_setUnitBelow_45 : decode b_U_setUnitBelow 45 = .ok (.aload_n 0, 1) := by decide +kernel
theorem d_U_setUnitBelow_46 : decode b_U_setUnitBelow 46 = .ok (.getfield 10, 3) := by decide +kernel
theorem d_U_setUnitBelow_49 : decode b_U_setUnitBelow 49 = .ok (.iconst 1, 1) := by decide +kernel
theorem d_U_setUnitBelow_50 : decode b_U_setUnitBelow 50 = .ok (.invokevirtual 142, 3) := by decide +kernel
theorem d_U_setUnitBelow_53 : decode b_U_setUnitBelow 53 = .ok (.goto 21, 3) := by decide +kernel
theorem d_U_setUnitBelow_56 : decode b_U_setUnitBelow 56 = .ok (.aload_n 0, 1) := by decide +kernel
theorem d_U_setUnitBelow_57 : decode b_U_setUnitBelow 57 = .ok (.getfield 10, 3) := by decide +kernel
theorem d_U_setUnitBelow_60 : decode b_U_setUnitBelow 60 = .ok (.iload_n 1, 1) := by decide +kernel
theorem d_U_setUnitBelow_61 : decode b_U_setUnitBelow 61 = .ok (.bipush (-4), 2) := by decide +kernel
theorem d_U_setUnitBelow_63 : decode b_U_setUnitBelow 63 = .ok (.if_icmp .ne 7, 3) := by decide +kernel
theorem d_U_setUnitBelow_66 : decode b_U_setUnitBelow 66 = .ok (.iconst 0, 1) := by decide +kernel
theorem d_U_setUnitBelow_67 : decode b_U_setUnitBelow 67 = .ok (.goto 4, 3) := by decide +kernel
theorem d_U_setUnitBelow_70 : decode b_U_setUnitBelow 70 = .ok (.iconst 2, 1) := by decide +kernel
theorem d_U_setUnitBelow_71 : decode b_U_setUnitBelow 71 = .ok (.invokevirtual 142, 3) := by decide +kernel
theorem d_U_setUnitBelow_74 : decode b_U_setUnitBelow 74 = .ok (.return_, 1) := by decide +kernel
theorem d_U_findUnitAbove_0 : decode b_U_findUnitAbove 0 = .ok (.aload_n 0, 1) := by decide +kernel
theorem d_U_findUnitAbove_1 : decode b_U_findUnitAbove 1 = .ok (.iload_n 1, 1) := by decide +kernel
theorem d_U_findUnitAbove_2 : decode b_U_findUnitAbove 2 = .ok (.invokevirtual 145, 3) := by decide +kernel
theorem d_U_findUnitAbove_5 : decode b_U_findUnitAbove 5 = .ok (.istore_n 2, 1) := by decide +kernel
theorem d_U_findUnitAbove_6 : decode b_U_findUnitAbove 6 = .ok (.aload_n 0, 1) := by decide +kernel
theorem d_U_findUnitAbove_7 : decode b_U_findUnitAbove 7 = .ok (.getfield 40, 3) := by decide +kernel
theorem d_U_findUnitAbove_10 : decode b_U_findUnitAbove 10 = .ok (.getfield 148, 3) := by decide +kernel
theorem d_U_findUnitAbove_13 : decode b_U_findUnitAbove 13 = .ok (.astore_n 3, 1) := by decide +kernel
theorem d_U_findUnitAbove_14 : decode b_U_findUnitAbove 14 = .ok (.aload_n 0, 1) := by decide +kernel
theorem d_U_findUnitAbove_15 : decode b_U_findUnitAbove 15 = .ok (.getfield 40, 3) := by decide +kernel
theorem d_U_findUnitAbove_18 : decode b_U_findUnitAbove 18 = .ok (.getfield 151, 3) := by decide +kernel
theorem d_U_findUnitAbove_21 : decode b_U_findUnitAbove 21 = .ok (.astore 4, 2) := by decide +kernel
theorem d_U_findUnitAbove_23 : decode b_U_findUnitAbove 23 = .ok (.iload_n 2, 1) := by decide +kernel
theorem d_U_findUnitAbove_24 : decode b_U_findUnitAbove 24 = .ok (.iconst 1, 1) := by decide +kernel
theorem d_U_findUnitAbove_25 : decode b_U_findUnitAbove 25 = .ok (.iand, 1) := by decide +kernel
theorem d_U_findUnitAbove_26 : decode b_U_findUnitAbove 26 = .ok (.iconst 1, 1) := by decide +kernel
theorem d_U_findUnitAbove_27 : decode b_U_findUnitAbove 27 = .ok (.if_icmp .ne 57, 3) := by decide +kernel
theorem d_U_findUnitAbove_30 : decode b_U_findUnitAbove 30 = .ok (.aload_n 0, 1) := by decide +kernel
theorem d_U_findUnitAbove_31 : decode b_U_findUnitAbove 31 = .ok (.iconst 2, 1) := by decide +kernel
theorem d_U_findUnitAbove_32 : decode b_U_findUnitAbove 32 = .ok (.iload_n 2, 1) := by decide +kernel
theorem d_U_findUnitAbove_33 : decode b_U_findUnitAbove 33 = .ok (.imul, 1) := by decide +kernel
theorem d_U_findUnitAbove_34 : decode b_U_findUnitAbove 34 = .ok (.putfield 67, 3) := by decide +kernel
theorem d_U_findUnitAbove_37 : decode b_U_findUnitAbove 37 = .ok (.aload_n 0, 1) := by decide +kernel
theorem d_U_findUnitAbove_38 : decode b_U_findUnitAbove 38 = .ok (.getfield 31, 3) := by decide +kernel
theorem d_U_findUnitAbove_41 : decode b_U_findUnitAbove 41 = .ok (.aload_n 3, 1) := by decide +kernel
theorem d_U_findUnitAbove_42 : decode b_U_findUnitAbove 42 = .ok (.invokevirtual 154, 3) := by decide +kernel
theorem d_U_findUnitAbove_45 : decode b_U_findUnitAbove 45 = .ok (.aload_n 0, 1) := by decide +kernel
theorem d_U_findUnitAbove_46 : decode b_U_findUnitAbove 46 = .ok (.getfield 34, 3) := by decide +kernel
theorem d_U_findUnitAbove_49 : decode b_U_findUnitAbove 49 = .ok (.aload 4, 2) := by decide +kernel
theorem d_U_findUnitAbove_51 : decode b_U_findUnitAbove 51 = .ok (.invokevirtual 154, 3) := by decide +kernel
theorem d_U_findUnitAbove_54 : decode b_U_findUnitAbove 54 = .ok (.aload_n 0, 1) := by decide +kernel
theorem d_U_findUnitAbove_55 : decode b_U_findUnitAbove 55 = .ok (.getfield 10, 3) := by decide +kernel
theorem d_U_findUnitAbove_58 : decode b_U_findUnitAbove 58 = .ok (.aload_n 3, 1) := by decide +kernel
theorem d_U_findUnitAbove_59 : decode b_U_findUnitAbove 59 = .ok (.aload_n 3, 1) := by decide +kernel
theorem d_U_findUnitAbove_60 : decode b_U_findUnitAbove 60 = .ok (.invokevirtual 158, 3) := by decide +kernel
theorem d_U_findUnitAbove_63 : decode b_U_findUnitAbove 63 = .ok (.aload_n 0, 1) := by decide +kernel
theorem d_U_findUnitAbove_64 : decode b_U_findUnitAbove 64 = .ok (.getfield 10, 3) := by decide +kernel
theorem d_U_findUnitAbove_67 : decode b_U_findUnitAbove 67 = .ok (.iconst 2, 1) := by decide +kernel
theorem d_U_findUnitAbove_68 : decode b_U_findUnitAbove 68 = .ok (.invokevirtual 162, 3) := by decide +kernel
theorem d_U_findUnitAbove_71 : decode b_U_findUnitAbove 71 = .ok (.aload_n 0, 1) := by decide +kernel
theorem d_U_findUnitAbove_72 : decode b_U_findUnitAbove 72 = .ok (.getfield 16, 3) := by decide +kernel
theorem d_U_findUnitAbove_75 : decode b_U_findUnitAbove 75 = .ok (.aload_n 3, 1) := by decide +kernel
theorem d_U_findUnitAbove_76 : decode b_U_findUnitAbove 76 = .ok (.aload 4, 2) := by decide +kernel
theorem d_U_findUnitAbove_78 : decode b_U_findUnitAbove 78 = .ok (.invokevirtual 158, 3) := by decide +kernel
theorem d_U_findUnitAbove_81 : decode b_U_findUnitAbove 81 = .ok (.goto 41, 3) := by decide +kernel
theorem d_U_findUnitAbove_84 : decode b_U_findUnitAbove 84 = .ok (.aload_n 0, 1) := by decide +kernel
theorem d_U_findUnitAbove_85 : decode b_U_findUnitAbove 85 = .ok (.iload_n 2, 1) := by decide +kernel
theorem d_U_findUnitAbove_86 : decode b_U_findUnitAbove 86 = .ok (.putfield 67, 3) := by decide +kernel
theorem d_U_findUnitAbove_89 : decode b_U_findUnitAbove 89 = .ok (.aload_n 0, 1) := by decide +kernel
theorem d_U_findUnitAbove_90 : decode b_U_findUnitAbove 90 = .ok (.getfield 31, 3) := by decide +kernel
theorem d_U_findUnitAbove_93 : decode b_U_findUnitAbove 93 = .ok (.iconst 0, 1) := by decide +kernel
theorem d_U_findUnitAbove_94 : decode b_U_findUnitAbove 94 = .ok (.invokevirtual 142, 3) := by decide +kernel
theorem d_U_findUnitAbove_97 : decode b_U_findUnitAbove 97 = .ok (.aload_n 0, 1) := by decide +kernel
theorem d_U_findUnitAbove_98 : decode b_U_findUnitAbove 98 = .ok (.getfield 34, 3) := by decide +kernel
theorem d_U_findUnitAbove_101 : decode b_U_findUnitAbove 101 = .ok (.iconst 0, 1) := by decide +kernel
theorem d_U_findUnitAbove_102 : decode b_U_findUnitAbove 102 = .ok (.invokevirtual 142, 3) := by decide +kernel
theorem d_U_findUnitAbove_105 : decode b_U_findUnitAbove 105 = .ok (.aload_n 0, 1) := by decide +kernel
theorem d_U_findUnitAbove_106 : decode b_U_findUnitAbove 106 = .ok (.getfield 10, 3) := by decide +kernel
theorem d_U_findUnitAbove_109 : decode b_U_findUnitAbove 109 = .ok (.aload_n 3, 1) := by decide +kernel
theorem d_U_findUnitAbove_110 : decode b_U_findUnitAbove 110 = .ok (.invokevirtual 154, 3) := by decide +kernel
theorem d_U_findUnitAbove_113 : decode b_U_findUnitAbove 113 = .ok (.aload_n 0, 1) := by decide +kernel
theorem d_U_findUnitAbove_114 : decode b_U_findUnitAbove 114 = .ok (.getfield 16, 3) := by decide +kernel
theorem d_U_findUnitAbove_117 : decode b_U_findUnitAbove 117 = .ok (.aload 4, 2) := by decide +kernel
theorem d_U_findUnitAbove_119 : decode b_U_findUnitAbove 119 = .ok (.invokevirtual 154, 3) := by decide +kernel
theorem d_U_findUnitAbove_122 : decode b_U_findUnitAbove 122 = .ok (.return_, 1) := by decide +kernel
theorem d_U_walkToOne_0 : decode b_U_walkToOne 0 = .ok (.iload_n 1, 1) := by decide +kernel
theorem d_U_walkToOne_1 : decode b_U_walkToOne 1 = .ok (.invokestatic 128, 3) := by decide +kernel
theorem d_U_walkToOne_4 : decode b_U_walkToOne 4 = .ok (.istore_n 2, 1) := by decide +kernel
theorem d_U_walkToOne_5 : decode b_U_walkToOne 5 = .ok (.iload_n 2, 1) := by decide +kernel
theorem d_U_walkToOne_6 : decode b_U_walkToOne 6 = .ok (.iload_n 2, 1) := by decide +kernel
theorem d_U_walkToOne_7 : decode b_U_walkToOne 7 = .ok (.iload_n 1, 1) := by decide +kernel
theorem d_U_walkToOne_8 : decode b_U_walkToOne 8 = .ok (.isub, 1) := by decide +kernel
theorem d_U_walkToOne_9 : decode b_U_walkToOne 9 = .ok (.iconst 1, 1) := by decide +kernel
theorem d_U_walkToOne_10 : decode b_U_walkToOne 10 = .ok (.iand, 1) := by decide +kernel
theorem d_U_walkToOne_11 : decode b_U_walkToOne 11 = .ok (.isub, 1) := by decide +kernel
theorem d_U_walkToOne_12 : decode b_U_walkToOne 12 = .ok (.istore_n 3, 1) := by decide +kernel
theorem d_U_walkToOne_13 : decode b_U_walkToOne 13 = .ok (.iload_n 3, 1) := by decide +kernel
theorem d_U_walkToOne_14 : decode b_U_walkToOne 14 = .ok (.istore 4, 2) := by decide +kernel
theorem d_U_walkToOne_16 : decode b_U_walkToOne 16 = .ok (.iload_n 1, 1) := by decide +kernel
theorem d_U_walkToOne_17 : decode b_U_walkToOne 17 = .ok (.iload 4, 2) := by decide +kernel
theorem d_U_walkToOne_19 : decode b_U_walkToOne 19 = .ok (.iload 4, 2) := by decide +kernel
theorem d_U_walkToOne_21 : decode b_U_walkToOne 21 = .ok (.imul, 1) := by decide +kernel
theorem d_U_walkToOne_22 : decode b_U_walkToOne 22 = .ok (.isub, 1) := by decide +kernel
theorem d_U_walkToOne_23 : decode b_U_walkToOne 23 = .ok (.iconst 4, 1) := by decide +kernel
theorem d_U_walkToOne_24 : decode b_U_walkToOne 24 = .ok (.idiv, 1) := by decide +kernel
theorem d_U_walkToOne_25 : decode b_U_walkToOne 25 = .ok (.istore 5, 2) := by decide +kernel
theorem d_U_walkToOne_27 : decode b_U_walkToOne 27 = .ok (.iconst 1, 1) := by decide +kernel
theorem d_U_walkToOne_28 : decode b_U_walkToOne 28 = .ok (.istore 6, 2) := by decide +kernel
theorem d_U_walkToOne_30 : decode b_U_walkToOne 30 = .ok (.aload_n 0, 1) := by decide +kernel
theorem d_U_walkToOne_31 : decode b_U_walkToOne 31 = .ok (.getfield 40, 3) := by decide +kernel
theorem d_U_walkToOne_34 : decode b_U_walkToOne 34 = .ok (.invokevirtual 165, 3) := by decide +kernel
theorem d_U_walkToOne_37 : decode b_U_walkToOne 37 = .ok (.iload 5, 2) := by decide +kernel
theorem d_U_walkToOne_39 : decode b_U_walkToOne 39 = .ok (.iconst 1, 1) := by decide +kernel
theorem d_U_walkToOne_40 : decode b_U_walkToOne 40 = .ok (.if_icmp .le 62, 3) := by decide +kernel
theorem d_U_walkToOne_43 : decode b_U_walkToOne 43 = .ok (.iload 6, 2) := by decide +kernel
theorem d_U_walkToOne_45 : decode b_U_walkToOne 45 = .ok (.ldc 168, 2) := by decide +kernel
theorem d_U_walkToOne_47 : decode b_U_walkToOne 47 = .ok (.if_icmp .ge 55, 3) := by decide +kernel
theorem d_U_walkToOne_50 : decode b_U_walkToOne 50 = .ok (.iload 4, 2) := by decide +kernel
theorem d_U_walkToOne_52 : decode b_U_walkToOne 52 = .ok (.iload_n 2, 1) := by decide +kernel
theorem d_U_walkToOne_53 : decode b_U_walkToOne 53 = .ok (.iadd, 1) := by decide +kernel
theorem d_U_walkToOne_54 : decode b_U_walkToOne 54 = .ok (.iconst 2, 1) := by decide +kernel
theorem d_U_walkToOne_55 : decode b_U_walkToOne 55 = .ok (.iload 5, 2) := by decide +kernel
theorem d_U_walkToOne_57 : decode b_U_walkToOne 57 = .ok (.imul, 1) := by decide +kernel
theorem d_U_walkToOne_58 : decode b_U_walkToOne 58 = .ok (.idiv, 1) := by decide +kernel
theorem d_U_walkToOne_59 : decode b_U_walkToOne 59 = .ok (.istore 7, 2) := by decide +kernel
theorem d_U_walkToOne_61 : decode b_U_walkToOne 61 = .ok (.aload_n 0, 1) := by decide +kernel
theorem d_U_walkToOne_62 : decode b_U_walkToOne 62 = .ok (.getfield 40, 3) := by decide +kernel
theorem d_U_walkToOne_65 : decode b_U_walkToOne 65 = .ok (.iload 7, 2) := by decide +kernel
theorem d_U_walkToOne_67 : decode b_U_walkToOne 67 = .ok (.invokevirtual 169, 3) := by decide +kernel
theorem d_U_walkToOne_70 : decode b_U_walkToOne 70 = .ok (.iconst 2, 1) := by decide +kernel
theorem d_U_walkToOne_71 : decode b_U_walkToOne 71 = .ok (.iload 5, 2) := by decide +kernel
theorem d_U_walkToOne_73 : decode b_U_walkToOne 73 = .ok (.imul, 1) := by decide +kernel
theorem d_U_walkToOne_74 : decode b_U_walkToOne 74 = .ok (.iload 7, 2) := by decide +kernel
theorem d_U_walkToOne_76 : decode b_U_walkToOne 76 = .ok (.imul, 1) := by decide +kernel
theorem d_U_walkToOne_77 : decode b_U_walkToOne 77 = .ok (.iload 4, 2) := by decide +kernel
theorem d_U_walkToOne_79 : decode b_U_walkToOne 79 = .ok (.isub, 1) := by decide +kernel
theorem d_U_walkToOne_80 : decode b_U_walkToOne 80 = .ok (.istore 4, 2) := by decide +kernel
theorem d_U_walkToOne_82 : decode b_U_walkToOne 82 = .ok (.iload_n 1, 1) := by decide +kernel
theorem d_U_walkToOne_83 : decode b_U_walkToOne 83 = .ok (.iload 4, 2) := by decide +kernel
theorem d_U_walkToOne_85 : decode b_U_walkToOne 85 = .ok (.iload 4, 2) := by decide +kernel
theorem d_U_walkToOne_87 : decode b_U_walkToOne 87 = .ok (.imul, 1) := by decide +kernel
theorem d_U_walkToOne_88 : decode b_U_walkToOne 88 = .ok (.isub, 1) := by decide +kernel
theorem d_U_walkToOne_89 : decode b_U_walkToOne 89 = .ok (.iconst 4, 1) := by decide +kernel
theorem d_U_walkToOne_90 : decode b_U_walkToOne 90 = .ok (.iload 5, 2) := by decide +kernel
theorem d_U_walkToOne_92 : decode b_U_walkToOne 92 = .ok (.imul, 1) := by decide +kernel
theorem d_U_walkToOne_93 : decode b_U_walkToOne 93 = .ok (.idiv, 1) := by decide +kernel
theorem d_U_walkToOne_94 : decode b_U_walkToOne 94 = .ok (.istore 5, 2) := by decide +kernel
theorem d_U_walkToOne_96 : decode b_U_walkToOne 96 = .ok (.iinc 6 1, 3) := by decide +kernel
theorem d_U_walkToOne_99 : decode b_U_walkToOne 99 = .ok (.goto (-62), 3) := by decide +kernel
theorem d_U_walkToOne_102 : decode b_U_walkToOne 102 = .ok (.aload_n 0, 1) := by decide +kernel
theorem d_U_walkToOne_103 : decode b_U_walkToOne 103 = .ok (.getfield 40, 3) := by decide +kernel
theorem d_U_walkToOne_106 : decode b_U_walkToOne 106 = .ok (.iload_n 3, 1) := by decide +kernel
theorem d_U_walkToOne_107 : decode b_U_walkToOne 107 = .ok (.invokevirtual 172, 3) := by decide +kernel
theorem d_U_walkToOne_110 : decode b_U_walkToOne 110 = .ok (.iload 6, 2) := by decide +kernel
theorem d_U_walkToOne_112 : decode b_U_walkToOne 112 = .ok (.ireturn, 1) := by decide +kernel
theorem d_U_makeAutomorph_0 : decode b_U_makeAutomorph 0 = .ok (.aload_n 0, 1) := by decide +kernel
theorem d_U_makeAutomorph_1 : decode b_U_makeAutomorph 1 = .ok (.getfield 22, 3) := by decide +kernel
theorem d_U_makeAutomorph_4 : decode b_U_makeAutomorph 4 = .ok (.aload_n 0, 1) := by decide +kernel
theorem d_U_makeAutomorph_5 : decode b_U_makeAutomorph 5 = .ok (.getfield 16, 3) := by decide +kernel
theorem d_U_makeAutomorph_8 : decode b_U_makeAutomorph 8 = .ok (.iload_n 3, 1) := by decide +kernel
theorem d_U_makeAutomorph_9 : decode b_U_makeAutomorph 9 = .ok (.ineg, 1) := by decide +kernel
theorem d_U_makeAutomorph_10 : decode b_U_makeAutomorph 10 = .ok (.invokevirtual 175, 3) := by decide +kernel
theorem d_U_makeAutomorph_13 : decode b_U_makeAutomorph 13 = .ok (.aload_n 0, 1) := by decide +kernel
theorem d_U_makeAutomorph_14 : decode b_U_makeAutomorph 14 = .ok (.getfield 25, 3) := by decide +kernel
theorem d_U_makeAutomorph_17 : decode b_U_makeAutomorph 17 = .ok (.aload_n 0, 1) := by decide +kernel
theorem d_U_makeAutomorph_18 : decode b_U_makeAutomorph 18 = .ok (.getfield 16, 3) := by decide +kernel
theorem d_U_makeAutomorph_21 : decode b_U_makeAutomorph 21 = .ok (.iload_n 1, 1) := by decide +kernel
theorem d_U_makeAutomorph_22 : decode b_U_makeAutomorph 22 = .ok (.invokevirtual 175, 3) := by decide +kernel
theorem d_U_makeAutomorph_25 : decode b_U_makeAutomorph 25 = .ok (.iload_n 2, 1) := by decide +kernel
theorem d_U_makeAutomorph_26 : decode b_U_makeAutomorph 26 = .ok (.ifCond .ge 10, 3) := by decide +kernel
theorem d_U_makeAutomorph_29 : decode b_U_makeAutomorph 29 = .ok (.aload_n 0, 1) := by decide +kernel
theorem d_U_makeAutomorph_30 : decode b_U_makeAutomorph 30 = .ok (.getfield 19, 3) := by decide +kernel
theorem d_U_makeAutomorph_33 : decode b_U_makeAutomorph 33 = .ok (.goto 7, 3) := by decide +kernel
theorem d_U_makeAutomorph_36 : decode b_U_makeAutomorph 36 = .ok (.aload_n 0, 1) := by decide +kernel
theorem d_U_makeAutomorph_37 : decode b_U_makeAutomorph 37 = .ok (.getfield 28, 3) := by decide +kernel
theorem d_U_makeAutomorph_40 : decode b_U_makeAutomorph 40 = .ok (.astore 4, 2) := by decide +kernel
theorem d_U_makeAutomorph_42 : decode b_U_makeAutomorph 42 = .ok (.iload_n 2, 1) := by decide +kernel
theorem d_U_makeAutomorph_43 : decode b_U_makeAutomorph 43 = .ok (.ifCond .ge 10, 3) := by decide +kernel
theorem d_U_makeAutomorph_46 : decode b_U_makeAutomorph 46 = .ok (.aload_n 0, 1) := by decide +kernel
theorem d_U_makeAutomorph_47 : decode b_U_makeAutomorph 47 = .ok (.getfield 28, 3) := by decide +kernel
theorem d_U_makeAutomorph_50 : decode b_U_makeAutomorph 50 = .ok (.goto 7, 3) := by decide +kernel
theorem d_U_makeAutomorph_53 : decode b_U_makeAutomorph 53 = .ok (.aload_n 0, 1) := by decide +kernel
theorem d_U_makeAutomorph_54 : decode b_U_makeAutomorph 54 = .ok (.getfield 19, 3) := by decide +kernel
theorem d_U_makeAutomorph_57 : decode b_U_makeAutomorph 57 = .ok (.astore 5, 2) := by decide +kernel
theorem d_U_makeAutomorph_59 : decode b_U_makeAutomorph 59 = .ok (.aload 4, 2) := by decide +kernel
theorem d_U_makeAutomorph_61 : decode b_U_makeAutomorph 61 = .ok (.aload_n 0, 1) := by decide +kernel
theorem d_U_makeAutomorph_62 : decode b_U_makeAutomorph 62 = .ok (.getfield 16, 3) := by decide +kernel
theorem d_U_makeAutomorph_65 : decode b_U_makeAutomorph 65 = .ok (.iload_n 2, 1) := by decide +kernel
theorem d_U_makeAutomorph_66 : decode b_U_makeAutomorph 66 = .ok (.invokestatic 133, 3) := by decide +kernel
theorem d_U_makeAutomorph_69 : decode b_U_makeAutomorph 69 = .ok (.invokevirtual 175, 3) := by decide +kernel
theorem d_U_makeAutomorph_72 : decode b_U_makeAutomorph 72 = .ok (.aload 5, 2) := by decide +kernel
theorem d_U_makeAutomorph_74 : decode b_U_makeAutomorph 74 = .ok (.aload_n 0, 1) := by decide +kernel
theorem d_U_makeAutomorph_75 : decode b_U_makeAutomorph 75 = .ok (.getfield 10, 3) := by decide +kernel
theorem d_U_makeAutomorph_78 : decode b_U_makeAutomorph 78 = .ok (.aload 4, 2) := by decide +kernel
theorem d_U_makeAutomorph_80 : decode b_U_makeAutomorph 80 = .ok (.invokevirtual 179, 3) := by decide +kernel
theorem d_U_makeAutomorph_83 : decode b_U_makeAutomorph 83 = .ok (.aload 4, 2) := by decide +kernel
theorem d_U_makeAutomorph_85 : decode b_U_makeAutomorph 85 = .ok (.aload_n 0, 1) := by decide +kernel
theorem d_U_makeAutomorph_86 : decode b_U_makeAutomorph 86 = .ok (.getfield 10, 3) := by decide +kernel
theorem d_U_makeAutomorph_89 : decode b_U_makeAutomorph 89 = .ok (.aload 4, 2) := by decide +kernel
theorem d_U_makeAutomorph_91 : decode b_U_makeAutomorph 91 = .ok (.invokevirtual 182, 3) := by decide +kernel
theorem d_U_makeAutomorph_94 : decode b_U_makeAutomorph 94 = .ok (.aload 5, 2) := by decide +kernel
theorem d_U_makeAutomorph_96 : decode b_U_makeAutomorph 96 = .ok (.invokevirtual 185, 3) := by decide +kernel
theorem d_U_makeAutomorph_99 : decode b_U_makeAutomorph 99 = .ok (.aload 4, 2) := by decide +kernel
theorem d_U_makeAutomorph_101 : decode b_U_makeAutomorph 101 = .ok (.invokevirtual 185, 3) := by decide +kernel
theorem d_U_makeAutomorph_104 : decode b_U_makeAutomorph 104 = .ok (.return_, 1) := by decide +kernel
