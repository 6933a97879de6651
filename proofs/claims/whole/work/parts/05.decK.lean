theorem d_K_init_0 : decode b_K_init 0 = .ok (.aload_n 0, 1) := by decide +kernel
theorem d_K_init_1 : decode b_K_init 1 = .ok (.invokespecial 3, 3) := by decide +kernel
theorem d_K_init_4 : decode b_K_init 4 = .ok (.aload_n 0, 1) := by decide +kernel
theorem d_K_init_5 : decode b_K_init 5 = .ok (.new 9, 3) := by decide +kernel
theorem d_K_init_8 : decode b_K_init 8 = .ok (.dup, 1) := by decide +kernel
theorem d_K_init_9 : decode b_K_init 9 = .ok (.invokespecial 11, 3) := by decide +kernel
theorem d_K_init_12 : decode b_K_init 12 = .ok (.putfield 12, 3) := by decide +kernel
theorem d_K_init_15 : decode b_K_init 15 = .ok (.aload_n 0, 1) := by decide +kernel
theorem d_K_init_16 : decode b_K_init 16 = .ok (.new 9, 3) := by decide +kernel
theorem d_K_init_19 : decode b_K_init 19 = .ok (.dup, 1) := by decide +kernel
theorem d_K_init_20 : decode b_K_init 20 = .ok (.invokespecial 11, 3) := by decide +kernel
theorem d_K_init_23 : decode b_K_init 23 = .ok (.putfield 18, 3) := by decide +kernel
theorem d_K_init_26 : decode b_K_init 26 = .ok (.return_, 1) := by decide +kernel
theorem d_K_start_0 : decode b_K_start 0 = .ok (.aload_n 0, 1) := by decide +kernel
theorem d_K_start_1 : decode b_K_start 1 = .ok (.getfield 12, 3) := by decide +kernel
theorem d_K_start_4 : decode b_K_start 4 = .ok (.iconst 1, 1) := by decide +kernel
theorem d_K_start_5 : decode b_K_start 5 = .ok (.invokevirtual 21, 3) := by decide +kernel
theorem d_K_start_8 : decode b_K_start 8 = .ok (.aload_n 0, 1) := by decide +kernel
theorem d_K_start_9 : decode b_K_start 9 = .ok (.getfield 18, 3) := by decide +kernel
theorem d_K_start_12 : decode b_K_start 12 = .ok (.iconst 0, 1) := by decide +kernel
theorem d_K_start_13 : decode b_K_start 13 = .ok (.invokevirtual 21, 3) := by decide +kernel
theorem d_K_start_16 : decode b_K_start 16 = .ok (.aload_n 0, 1) := by decide +kernel
theorem d_K_start_17 : decode b_K_start 17 = .ok (.invokevirtual 25, 3) := by decide +kernel
theorem d_K_start_20 : decode b_K_start 20 = .ok (.return_, 1) := by decide +kernel
theorem d_K_step_0 : decode b_K_step 0 = .ok (.iload_n 1, 1) := by decide +kernel
theorem d_K_step_1 : decode b_K_step 1 = .ok (.i2l, 1) := by decide +kernel
theorem d_K_step_2 : decode b_K_step 2 = .ok (.aload_n 0, 1) := by decide +kernel
theorem d_K_step_3 : decode b_K_step 3 = .ok (.getfield 28, 3) := by decide +kernel
theorem d_K_step_6 : decode b_K_step 6 = .ok (.lmul, 1) := by decide +kernel
theorem d_K_step_7 : decode b_K_step 7 = .ok (.aload_n 0, 1) := by decide +kernel
theorem d_K_step_8 : decode b_K_step 8 = .ok (.getfield 32, 3) := by decide +kernel
theorem d_K_step_11 : decode b_K_step 11 = .ok (.ladd, 1) := by decide +kernel
theorem d_K_step_12 : decode b_K_step 12 = .ok (.ldc2_w 35, 3) := by decide +kernel
theorem d_K_step_15 : decode b_K_step 15 = .ok (.lcmp, 1) := by decide +kernel
theorem d_K_step_16 : decode b_K_step 16 = .ok (.ifCond .ge 22, 3) := by decide +kernel
theorem d_K_step_19 : decode b_K_step 19 = .ok (.iload_n 1, 1) := by decide +kernel
theorem d_K_step_20 : decode b_K_step 20 = .ok (.i2l, 1) := by decide +kernel
theorem d_K_step_21 : decode b_K_step 21 = .ok (.aload_n 0, 1) := by decide +kernel
theorem d_K_step_22 : decode b_K_step 22 = .ok (.getfield 37, 3) := by decide +kernel
theorem d_K_step_25 : decode b_K_step 25 = .ok (.lmul, 1) := by decide +kernel
theorem d_K_step_26 : decode b_K_step 26 = .ok (.aload_n 0, 1) := by decide +kernel
theorem d_K_step_27 : decode b_K_step 27 = .ok (.getfield 40, 3) := by decide +kernel
theorem d_K_step_30 : decode b_K_step 30 = .ok (.ladd, 1) := by decide +kernel
theorem d_K_step_31 : decode b_K_step 31 = .ok (.ldc2_w 35, 3) := by decide +kernel
theorem d_K_step_34 : decode b_K_step 34 = .ok (.lcmp, 1) := by decide +kernel
theorem d_K_step_35 : decode b_K_step 35 = .ok (.ifCond .lt 7, 3) := by decide +kernel
theorem d_K_step_38 : decode b_K_step 38 = .ok (.aload_n 0, 1) := by decide +kernel
theorem d_K_step_39 : decode b_K_step 39 = .ok (.invokevirtual 43, 3) := by decide +kernel
theorem d_K_step_42 : decode b_K_step 42 = .ok (.iload_n 1, 1) := by decide +kernel
theorem d_K_step_43 : decode b_K_step 43 = .ok (.i2l, 1) := by decide +kernel
theorem d_K_step_44 : decode b_K_step 44 = .ok (.aload_n 0, 1) := by decide +kernel
theorem d_K_step_45 : decode b_K_step 45 = .ok (.getfield 28, 3) := by decide +kernel
theorem d_K_step_48 : decode b_K_step 48 = .ok (.lmul, 1) := by decide +kernel
theorem d_K_step_49 : decode b_K_step 49 = .ok (.aload_n 0, 1) := by decide +kernel
theorem d_K_step_50 : decode b_K_step 50 = .ok (.getfield 32, 3) := by decide +kernel
theorem d_K_step_53 : decode b_K_step 53 = .ok (.ladd, 1) := by decide +kernel
theorem d_K_step_54 : decode b_K_step 54 = .ok (.lstore_n 2, 1) := by decide +kernel
theorem d_K_step_55 : decode b_K_step 55 = .ok (.iload_n 1, 1) := by decide +kernel
theorem d_K_step_56 : decode b_K_step 56 = .ok (.i2l, 1) := by decide +kernel
theorem d_K_step_57 : decode b_K_step 57 = .ok (.aload_n 0, 1) := by decide +kernel
theorem d_K_step_58 : decode b_K_step 58 = .ok (.getfield 37, 3) := by decide +kernel
theorem d_K_step_61 : decode b_K_step 61 = .ok (.lmul, 1) := by decide +kernel
theorem d_K_step_62 : decode b_K_step 62 = .ok (.aload_n 0, 1) := by decide +kernel
theorem d_K_step_63 : decode b_K_step 63 = .ok (.getfield 40, 3) := by decide +kernel
theorem d_K_step_66 : decode b_K_step 66 = .ok (.ladd, 1) := by decide +kernel
theorem d_K_step_67 : decode b_K_step 67 = .ok (.lstore 4, 2) := by decide +kernel
theorem d_K_step_69 : decode b_K_step 69 = .ok (.aload_n 0, 1) := by decide +kernel
theorem d_K_step_70 : decode b_K_step 70 = .ok (.aload_n 0, 1) := by decide +kernel
theorem d_K_step_71 : decode b_K_step 71 = .ok (.getfield 28, 3) := by decide +kernel
theorem d_K_step_74 : decode b_K_step 74 = .ok (.putfield 32, 3) := by decide +kernel
theorem d_K_step_77 : decode b_K_step 77 = .ok (.aload_n 0, 1) := by decide +kernel
theorem d_K_step_78 : decode b_K_step 78 = .ok (.aload_n 0, 1) := by decide +kernel
theorem d_K_step_79 : decode b_K_step 79 = .ok (.getfield 37, 3) := by decide +kernel
theorem d_K_step_82 : decode b_K_step 82 = .ok (.putfield 40, 3) := by decide +kernel
theorem d_K_step_85 : decode b_K_step 85 = .ok (.aload_n 0, 1) := by decide +kernel
theorem d_K_step_86 : decode b_K_step 86 = .ok (.lload_n 2, 1) := by decide +kernel
theorem d_K_step_87 : decode b_K_step 87 = .ok (.putfield 28, 3) := by decide +kernel
theorem d_K_step_90 : decode b_K_step 90 = .ok (.aload_n 0, 1) := by decide +kernel
theorem d_K_step_91 : decode b_K_step 91 = .ok (.lload 4, 2) := by decide +kernel
theorem d_K_step_93 : decode b_K_step 93 = .ok (.putfield 37, 3) := by decide +kernel
theorem d_K_step_96 : decode b_K_step 96 = .ok (.return_, 1) := by decide +kernel
theorem d_K_finish_0 : decode b_K_finish 0 = .ok (.aload_n 0, 1) := by decide +kernel
theorem d_K_finish_1 : decode b_K_finish 1 = .ok (.invokevirtual 43, 3) := by decide +kernel
theorem d_K_finish_4 : decode b_K_finish 4 = .ok (.aload_n 0, 1) := by decide +kernel
theorem d_K_finish_5 : decode b_K_finish 5 = .ok (.iload_n 1, 1) := by decide +kernel
theorem d_K_finish_6 : decode b_K_finish 6 = .ok (.i2l, 1) := by decide +kernel
theorem d_K_finish_7 : decode b_K_finish 7 = .ok (.putfield 32, 3) := by decide +kernel
theorem d_K_finish_10 : decode b_K_finish 10 = .ok (.aload_n 0, 1) := by decide +kernel
theorem d_K_finish_11 : decode b_K_finish 11 = .ok (.ldc2_w 46, 3) := by decide +kernel
theorem d_K_finish_14 : decode b_K_finish 14 = .ok (.putfield 40, 3) := by decide +kernel
theorem d_K_finish_17 : decode b_K_finish 17 = .ok (.aload_n 0, 1) := by decide +kernel
theorem d_K_finish_18 : decode b_K_finish 18 = .ok (.invokevirtual 43, 3) := by decide +kernel
theorem d_K_finish_21 : decode b_K_finish 21 = .ok (.return_, 1) := by decide +kernel
theorem d_K_gatherNothing_0 : decode b_K_gatherNothing 0 = .ok (.aload_n 0, 1) := by decide +kernel
theorem d_K_gatherNothing_1 : decode b_K_gatherNothing 1 = .ok (.lconst 1, 1) := by decide +kernel
theorem d_K_gatherNothing_2 : decode b_K_gatherNothing 2 = .ok (.putfield 28, 3) := by decide +kernel
theorem d_K_gatherNothing_5 : decode b_K_gatherNothing 5 = .ok (.aload_n 0, 1) := by decide +kernel
theorem d_K_gatherNothing_6 : decode b_K_gatherNothing 6 = .ok (.lconst 0, 1) := by decide +kernel
theorem d_K_gatherNothing_7 : decode b_K_gatherNothing 7 = .ok (.putfield 37, 3) := by decide +kernel
theorem d_K_gatherNothing_10 : decode b_K_gatherNothing 10 = .ok (.aload_n 0, 1) := by decide +kernel
theorem d_K_gatherNothing_11 : decode b_K_gatherNothing 11 = .ok (.lconst 0, 1) := by decide +kernel
theorem d_K_gatherNothing_12 : decode b_K_gatherNothing 12 = .ok (.putfield 32, 3) := by decide +kernel
theorem d_K_gatherNothing_15 : decode b_K_gatherNothing 15 = .ok (.aload_n 0, 1) := by decide +kernel
theorem d_K_gatherNothing_16 : decode b_K_gatherNothing 16 = .ok (.lconst 1, 1) := by decide +kernel
theorem d_K_gatherNothing_17 : decode b_K_gatherNothing 17 = .ok (.putfield 40, 3) := by decide +kernel
theorem d_K_gatherNothing_20 : decode b_K_gatherNothing 20 = .ok (.return_, 1) := by decide +kernel
theorem d_K_settle_0 : decode b_K_settle 0 = .ok (.aload_n 0, 1) := by decide +kernel
theorem d_K_settle_1 : decode b_K_settle 1 = .ok (.getfield 12, 3) := by decide +kernel
theorem d_K_settle_4 : decode b_K_settle 4 = .ok (.getfield 48, 3) := by decide +kernel
theorem d_K_settle_7 : decode b_K_settle 7 = .ok (.aload_n 0, 1) := by decide +kernel
theorem d_K_settle_8 : decode b_K_settle 8 = .ok (.getfield 18, 3) := by decide +kernel
theorem d_K_settle_11 : decode b_K_settle 11 = .ok (.getfield 48, 3) := by decide +kernel
theorem d_K_settle_14 : decode b_K_settle 14 = .ok (.invokestatic 52, 3) := by decide +kernel
theorem d_K_settle_17 : decode b_K_settle 17 = .ok (.istore_n 1, 1) := by decide +kernel
theorem d_K_settle_18 : decode b_K_settle 18 = .ok (.lconst 0, 1) := by decide +kernel
theorem d_K_settle_19 : decode b_K_settle 19 = .ok (.lstore_n 2, 1) := by decide +kernel
theorem d_K_settle_20 : decode b_K_settle 20 = .ok (.lconst 0, 1) := by decide +kernel
theorem d_K_settle_21 : decode b_K_settle 21 = .ok (.lstore 4, 2) := by decide +kernel
theorem d_K_settle_23 : decode b_K_settle 23 = .ok (.iconst 0, 1) := by decide +kernel
theorem d_K_settle_24 : decode b_K_settle 24 = .ok (.istore 6, 2) := by decide +kernel
theorem d_K_settle_26 : decode b_K_settle 26 = .ok (.iload 6, 2) := by decide +kernel
theorem d_K_settle_28 : decode b_K_settle 28 = .ok (.iload_n 1, 1) := by decide +kernel
theorem d_K_settle_29 : decode b_K_settle 29 = .ok (.if_icmp .ge 116, 3) := by decide +kernel
theorem d_K_settle_32 : decode b_K_settle 32 = .ok (.aload_n 0, 1) := by decide +kernel
theorem d_K_settle_33 : decode b_K_settle 33 = .ok (.getfield 12, 3) := by decide +kernel
theorem d_K_settle_36 : decode b_K_settle 36 = .ok (.iload 6, 2) := by decide +kernel
theorem d_K_settle_38 : decode b_K_settle 38 = .ok (.invokevirtual 58, 3) := by decide +kernel
theorem d_K_settle_41 : decode b_K_settle 41 = .ok (.i2l, 1) := by decide +kernel
theorem d_K_settle_42 : decode b_K_settle 42 = .ok (.ldc2_w 62, 3) := by decide +kernel
theorem d_K_settle_45 : decode b_K_settle 45 = .ok (.land, 1) := by decide +kernel
theorem d_K_settle_46 : decode b_K_settle 46 = .ok (.lstore 7, 2) := by decide +kernel
theorem d_K_settle_48 : decode b_K_settle 48 = .ok (.aload_n 0, 1) := by decide +kernel
theorem d_K_settle_49 : decode b_K_settle 49 = .ok (.getfield 18, 3) := by decide +kernel
theorem d_K_settle_52 : decode b_K_settle 52 = .ok (.iload 6, 2) := by decide +kernel
theorem d_K_settle_54 : decode b_K_settle 54 = .ok (.invokevirtual 58, 3) := by decide +kernel
theorem d_K_settle_57 : decode b_K_settle 57 = .ok (.i2l, 1) := by decide +kernel
theorem d_K_settle_58 : decode b_K_settle 58 = .ok (.ldc2_w 62, 3) := by decide +kernel
theorem d_K_settle_61 : decode b_K_settle 61 = .ok (.land, 1) := by decide +kernel
theorem d_K_settle_62 : decode b_K_settle 62 = .ok (.lstore 9, 2) := by decide +kernel
theorem d_K_settle_64 : decode b_K_settle 64 = .ok (.lload_n 2, 1) := by decide +kernel
theorem d_K_settle_65 : decode b_K_settle 65 = .ok (.aload_n 0, 1) := by decide +kernel
theorem d_K_settle_66 : decode b_K_settle 66 = .ok (.getfield 28, 3) := by decide +kernel
theorem d_K_settle_69 : decode b_K_settle 69 = .ok (.lload 7, 2) := by decide +kernel
theorem d_K_settle_71 : decode b_K_settle 71 = .ok (.lmul, 1) := by decide +kernel
theorem d_K_settle_72 : decode b_K_settle 72 = .ok (.aload_n 0, 1) := by decide +kernel
theorem d_K_settle_73 : decode b_K_settle 73 = .ok (.getfield 37, 3) := by decide +kernel
theorem d_K_settle_76 : decode b_K_settle 76 = .ok (.lload 9, 2) := by decide +kernel
theorem d_K_settle_78 : decode b_K_settle 78 = .ok (.lmul, 1) := by decide +kernel
theorem d_K_settle_79 : decode b_K_settle 79 = .ok (.ladd, 1) := by decide +kernel
theorem d_K_settle_80 : decode b_K_settle 80 = .ok (.ladd, 1) := by decide +kernel
theorem d_K_settle_81 : decode b_K_settle 81 = .ok (.lstore_n 2, 1) := by decide +kernel
theorem d_K_settle_82 : decode b_K_settle 82 = .ok (.lload 4, 2) := by decide +kernel
theorem d_K_settle_84 : decode b_K_settle 84 = .ok (.aload_n 0, 1) := by decide +kernel
theorem d_K_settle_85 : decode b_K_settle 85 = .ok (.getfield 32, 3) := by decide +kernel
theorem d_K_settle_88 : decode b_K_settle 88 = .ok (.lload 7, 2) := by decide +kernel
theorem d_K_settle_90 : decode b_K_settle 90 = .ok (.lmul, 1) := by decide +kernel
theorem d_K_settle_91 : decode b_K_settle 91 = .ok (.aload_n 0, 1) := by decide +kernel
theorem d_K_settle_92 : decode b_K_settle 92 = .ok (.getfield 40, 3) := by decide +kernel
theorem d_K_settle_95 : decode b_K_settle 95 = .ok (.lload 9, 2) := by decide +kernel
theorem d_K_settle_97 : decode b_K_settle 97 = .ok (.lmul, 1) := by decide +kernel
theorem d_K_settle_98 : decode b_K_settle 98 = .ok (.ladd, 1) := by decide +kernel
theorem d_K_settle_99 : decode b_K_settle 99 = .ok (.ladd, 1) := by decide +kernel
theorem d_K_settle_100 : decode b_K_settle 100 = .ok (.lstore 4, 2) := by decide +kernel
theorem d_K_settle_102 : decode b_K_settle 102 = .ok (.aload_n 0, 1) := by decide +kernel
theorem d_K_settle_103 : decode b_K_settle 103 = .ok (.getfield 12, 3) := by decide +kernel
theorem d_K_settle_106 : decode b_K_settle 106 = .ok (.getfield 64, 3) := by decide +kernel
theorem d_K_settle_109 : decode b_K_settle 109 = .ok (.iload 6, 2) := by decide +kernel
theorem d_K_settle_111 : decode b_K_settle 111 = .ok (.lload_n 2, 1) := by decide +kernel
theorem d_K_settle_112 : decode b_K_settle 112 = .ok (.l2i, 1) := by decide +kernel
theorem d_K_settle_113 : decode b_K_settle 113 = .ok (.iastore, 1) := by decide +kernel
theorem d_K_settle_114 : decode b_K_settle 114 = .ok (.aload_n 0, 1) := by decide +kernel
theorem d_K_settle_115 : decode b_K_settle 115 = .ok (.getfield 18, 3) := by decide +kernel
theorem d_K_settle_118 : decode b_K_settle 118 = .ok (.getfield 64, 3) := by decide +kernel
theorem d_K_settle_121 : decode b_K_settle 121 = .ok (.iload 6, 2) := by decide +kernel
theorem d_K_settle_123 : decode b_K_settle 123 = .ok (.lload 4, 2) := by decide +kernel
theorem d_K_settle_125 : decode b_K_settle 125 = .ok (.l2i, 1) := by decide +kernel
theorem d_K_settle_126 : decode b_K_settle 126 = .ok (.iastore, 1) := by decide +kernel
theorem d_K_settle_127 : decode b_K_settle 127 = .ok (.lload_n 2, 1) := by decide +kernel
theorem d_K_settle_128 : decode b_K_settle 128 = .ok (.bipush 32, 2) := by decide +kernel
theorem d_K_settle_130 : decode b_K_settle 130 = .ok (.lushr, 1) := by decide +kernel
theorem d_K_settle_131 : decode b_K_settle 131 = .ok (.lstore_n 2, 1) := by decide +kernel
theorem d_K_settle_132 : decode b_K_settle 132 = .ok (.lload 4, 2) := by decide +kernel
theorem d_K_settle_134 : decode b_K_settle 134 = .ok (.bipush 32, 2) := by decide +kernel
theorem d_K_settle_136 : decode b_K_settle 136 = .ok (.lushr, 1) := by decide +kernel
theorem d_K_settle_137 : decode b_K_settle 137 = .ok (.lstore 4, 2) := by decide +kernel
theorem d_K_settle_139 : decode b_K_settle 139 = .ok (.iinc 6 1, 3) := by decide +kernel
theorem d_K_settle_142 : decode b_K_settle 142 = .ok (.goto (-116), 3) := by decide +kernel
theorem d_K_settle_145 : decode b_K_settle 145 = .ok (.aload_n 0, 1) := by decide +kernel
theorem d_K_settle_146 : decode b_K_settle 146 = .ok (.getfield 12, 3) := by decide +kernel
theorem d_K_settle_149 : decode b_K_settle 149 = .ok (.iload_n 1, 1) := by decide +kernel
theorem d_K_settle_150 : decode b_K_settle 150 = .ok (.lload_n 2, 1) := by decide +kernel
theorem d_K_settle_151 : decode b_K_settle 151 = .ok (.invokevirtual 68, 3) := by decide +kernel
theorem d_K_settle_154 : decode b_K_settle 154 = .ok (.aload_n 0, 1) := by decide +kernel
theorem d_K_settle_155 : decode b_K_settle 155 = .ok (.getfield 18, 3) := by decide +kernel
theorem d_K_settle_158 : decode b_K_settle 158 = .ok (.iload_n 1, 1) := by decide +kernel
theorem d_K_settle_159 : decode b_K_settle 159 = .ok (.lload 4, 2) := by decide +kernel
theorem d_K_settle_161 : decode b_K_settle 161 = .ok (.invokevirtual 68, 3) := by decide +kernel
theorem d_K_settle_164 : decode b_K_settle 164 = .ok (.aload_n 0, 1) := by decide +kernel
theorem d_K_settle_165 : decode b_K_settle 165 = .ok (.invokevirtual 25, 3) := by decide +kernel
theorem d_K_settle_168 : decode b_K_settle 168 = .ok (.return_, 1) := by decide +kernel
