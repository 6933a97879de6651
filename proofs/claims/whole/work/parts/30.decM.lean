theorem d_M_init_0 : decode b_M_init 0 = .ok (.aload_n 0, 1) := by decide +kernel
theorem d_M_init_1 : decode b_M_init 1 = .ok (.invokespecial 1, 3) := by decide +kernel
theorem d_M_init_4 : decode b_M_init 4 = .ok (.aload_n 0, 1) := by decide +kernel
theorem d_M_init_5 : decode b_M_init 5 = .ok (.ldc2_w 7, 3) := by decide +kernel
theorem d_M_init_8 : decode b_M_init 8 = .ok (.putfield 9, 3) := by decide +kernel
theorem d_M_init_11 : decode b_M_init 11 = .ok (.aload_n 0, 1) := by decide +kernel
theorem d_M_init_12 : decode b_M_init 12 = .ok (.sipush 12100, 3) := by decide +kernel
theorem d_M_init_15 : decode b_M_init 15 = .ok (.newarray .int, 2) := by decide +kernel
theorem d_M_init_17 : decode b_M_init 17 = .ok (.putfield 15, 3) := by decide +kernel
theorem d_M_init_20 : decode b_M_init 20 = .ok (.aload_n 0, 1) := by decide +kernel
theorem d_M_init_21 : decode b_M_init 21 = .ok (.ldc2_w 7, 3) := by decide +kernel
theorem d_M_init_24 : decode b_M_init 24 = .ok (.invokevirtual 19, 3) := by decide +kernel
theorem d_M_init_27 : decode b_M_init 27 = .ok (.return_, 1) := by decide +kernel
theorem d_M_thrown_0 : decode b_M_thrown 0 = .ok (.aload_n 0, 1) := by decide +kernel
theorem d_M_thrown_1 : decode b_M_thrown 1 = .ok (.getfield 23, 3) := by decide +kernel
theorem d_M_thrown_4 : decode b_M_thrown 4 = .ok (.ireturn, 1) := by decide +kernel
theorem d_M_raise_0 : decode b_M_raise 0 = .ok (.aload_n 0, 1) := by decide +kernel
theorem d_M_raise_1 : decode b_M_raise 1 = .ok (.iload_n 1, 1) := by decide +kernel
theorem d_M_raise_2 : decode b_M_raise 2 = .ok (.putfield 23, 3) := by decide +kernel
theorem d_M_raise_5 : decode b_M_raise 5 = .ok (.iconst 0, 1) := by decide +kernel
theorem d_M_raise_6 : decode b_M_raise 6 = .ok (.ireturn, 1) := by decide +kernel
theorem d_M_in_0 : decode b_M_in 0 = .ok (.lload_n 0, 1) := by decide +kernel
theorem d_M_in_1 : decode b_M_in 1 = .ok (.lload_n 2, 1) := by decide +kernel
theorem d_M_in_2 : decode b_M_in 2 = .ok (.lcmp, 1) := by decide +kernel
theorem d_M_in_3 : decode b_M_in 3 = .ok (.ifCond .lt 14, 3) := by decide +kernel
theorem d_M_in_6 : decode b_M_in 6 = .ok (.lload_n 0, 1) := by decide +kernel
theorem d_M_in_7 : decode b_M_in 7 = .ok (.lload 4, 2) := by decide +kernel
theorem d_M_in_9 : decode b_M_in 9 = .ok (.lcmp, 1) := by decide +kernel
theorem d_M_in_10 : decode b_M_in 10 = .ok (.ifCond .gt 7, 3) := by decide +kernel
theorem d_M_in_13 : decode b_M_in 13 = .ok (.iconst 1, 1) := by decide +kernel
theorem d_M_in_14 : decode b_M_in 14 = .ok (.goto 4, 3) := by decide +kernel
theorem d_M_in_17 : decode b_M_in 17 = .ok (.iconst 0, 1) := by decide +kernel
theorem d_M_in_18 : decode b_M_in 18 = .ok (.ireturn, 1) := by decide +kernel
theorem d_M_wholeRoot_0 : decode b_M_wholeRoot 0 = .ok (.lconst 0, 1) := by decide +kernel
theorem d_M_wholeRoot_1 : decode b_M_wholeRoot 1 = .ok (.lstore_n 2, 1) := by decide +kernel
theorem d_M_wholeRoot_2 : decode b_M_wholeRoot 2 = .ok (.lload_n 2, 1) := by decide +kernel
theorem d_M_wholeRoot_3 : decode b_M_wholeRoot 3 = .ok (.lconst 1, 1) := by decide +kernel
theorem d_M_wholeRoot_4 : decode b_M_wholeRoot 4 = .ok (.ladd, 1) := by decide +kernel
theorem d_M_wholeRoot_5 : decode b_M_wholeRoot 5 = .ok (.lload_n 2, 1) := by decide +kernel
theorem d_M_wholeRoot_6 : decode b_M_wholeRoot 6 = .ok (.lconst 1, 1) := by decide +kernel
theorem d_M_wholeRoot_7 : decode b_M_wholeRoot 7 = .ok (.ladd, 1) := by decide +kernel
theorem d_M_wholeRoot_8 : decode b_M_wholeRoot 8 = .ok (.lmul, 1) := by decide +kernel
theorem d_M_wholeRoot_9 : decode b_M_wholeRoot 9 = .ok (.lload_n 0, 1) := by decide +kernel
theorem d_M_wholeRoot_10 : decode b_M_wholeRoot 10 = .ok (.lcmp, 1) := by decide +kernel
theorem d_M_wholeRoot_11 : decode b_M_wholeRoot 11 = .ok (.ifCond .gt 10, 3) := by decide +kernel
theorem d_M_wholeRoot_14 : decode b_M_wholeRoot 14 = .ok (.lload_n 2, 1) := by decide +kernel
theorem d_M_wholeRoot_15 : decode b_M_wholeRoot 15 = .ok (.lconst 1, 1) := by decide +kernel
theorem d_M_wholeRoot_16 : decode b_M_wholeRoot 16 = .ok (.ladd, 1) := by decide +kernel
theorem d_M_wholeRoot_17 : decode b_M_wholeRoot 17 = .ok (.lstore_n 2, 1) := by decide +kernel
theorem d_M_wholeRoot_18 : decode b_M_wholeRoot 18 = .ok (.goto (-16), 3) := by decide +kernel
theorem d_M_wholeRoot_21 : decode b_M_wholeRoot 21 = .ok (.lload_n 2, 1) := by decide +kernel
theorem d_M_wholeRoot_22 : decode b_M_wholeRoot 22 = .ok (.lreturn, 1) := by decide +kernel
theorem d_M_get_0 : decode b_M_get 0 = .ok (.aload_n 0, 1) := by decide +kernel
theorem d_M_get_1 : decode b_M_get 1 = .ok (.getfield 15, 3) := by decide +kernel
theorem d_M_get_4 : decode b_M_get 4 = .ok (.sipush 1100, 3) := by decide +kernel
theorem d_M_get_7 : decode b_M_get 7 = .ok (.iload_n 1, 1) := by decide +kernel
theorem d_M_get_8 : decode b_M_get 8 = .ok (.imul, 1) := by decide +kernel
theorem d_M_get_9 : decode b_M_get 9 = .ok (.iload_n 2, 1) := by decide +kernel
theorem d_M_get_10 : decode b_M_get 10 = .ok (.iadd, 1) := by decide +kernel
theorem d_M_get_11 : decode b_M_get 11 = .ok (.iaload, 1) := by decide +kernel
theorem d_M_get_12 : decode b_M_get 12 = .ok (.ireturn, 1) := by decide +kernel
theorem d_M_put_0 : decode b_M_put 0 = .ok (.aload_n 0, 1) := by decide +kernel
theorem d_M_put_1 : decode b_M_put 1 = .ok (.getfield 15, 3) := by decide +kernel
theorem d_M_put_4 : decode b_M_put 4 = .ok (.sipush 1100, 3) := by decide +kernel
theorem d_M_put_7 : decode b_M_put 7 = .ok (.iload_n 1, 1) := by decide +kernel
theorem d_M_put_8 : decode b_M_put 8 = .ok (.imul, 1) := by decide +kernel
theorem d_M_put_9 : decode b_M_put 9 = .ok (.iload_n 2, 1) := by decide +kernel
theorem d_M_put_10 : decode b_M_put 10 = .ok (.iadd, 1) := by decide +kernel
theorem d_M_put_11 : decode b_M_put 11 = .ok (.iload_n 3, 1) := by decide +kernel
theorem d_M_put_12 : decode b_M_put 12 = .ok (.iastore, 1) := by decide +kernel
theorem d_M_put_13 : decode b_M_put 13 = .ok (.return_, 1) := by decide +kernel
theorem d_M_be_0 : decode b_M_be 0 = .ok (.iconst 0, 1) := by decide +kernel
theorem d_M_be_1 : decode b_M_be 1 = .ok (.istore 4, 2) := by decide +kernel
theorem d_M_be_3 : decode b_M_be 3 = .ok (.iload 4, 2) := by decide +kernel
theorem d_M_be_5 : decode b_M_be 5 = .ok (.sipush 1100, 3) := by decide +kernel
theorem d_M_be_8 : decode b_M_be 8 = .ok (.if_icmp .ge 41, 3) := by decide +kernel
theorem d_M_be_11 : decode b_M_be 11 = .ok (.aload_n 0, 1) := by decide +kernel
theorem d_M_be_12 : decode b_M_be 12 = .ok (.iload_n 1, 1) := by decide +kernel
theorem d_M_be_13 : decode b_M_be 13 = .ok (.iload 4, 2) := by decide +kernel
theorem d_M_be_15 : decode b_M_be 15 = .ok (.iload 4, 2) := by decide +kernel
theorem d_M_be_17 : decode b_M_be 17 = .ok (.iconst 4, 1) := by decide +kernel
theorem d_M_be_18 : decode b_M_be 18 = .ok (.if_icmp .ge 13, 3) := by decide +kernel
theorem d_M_be_21 : decode b_M_be 21 = .ok (.lload_n 2, 1) := by decide +kernel
theorem d_M_be_22 : decode b_M_be 22 = .ok (.bipush 16, 2) := by decide +kernel
theorem d_M_be_24 : decode b_M_be 24 = .ok (.iload 4, 2) := by decide +kernel
theorem d_M_be_26 : decode b_M_be 26 = .ok (.imul, 1) := by decide +kernel
theorem d_M_be_27 : decode b_M_be 27 = .ok (.lshr, 1) := by decide +kernel
theorem d_M_be_28 : decode b_M_be 28 = .ok (.goto 7, 3) := by decide +kernel
theorem d_M_be_31 : decode b_M_be 31 = .ok (.lload_n 2, 1) := by decide +kernel
theorem d_M_be_32 : decode b_M_be 32 = .ok (.bipush 63, 2) := by decide +kernel
theorem d_M_be_34 : decode b_M_be 34 = .ok (.lshr, 1) := by decide +kernel
theorem d_M_be_35 : decode b_M_be 35 = .ok (.ldc2_w 27, 3) := by decide +kernel
theorem d_M_be_38 : decode b_M_be 38 = .ok (.land, 1) := by decide +kernel
theorem d_M_be_39 : decode b_M_be 39 = .ok (.l2i, 1) := by decide +kernel
theorem d_M_be_40 : decode b_M_be 40 = .ok (.invokevirtual 29, 3) := by decide +kernel
theorem d_M_be_43 : decode b_M_be 43 = .ok (.iinc 4 1, 3) := by decide +kernel
theorem d_M_be_46 : decode b_M_be 46 = .ok (.goto (-43), 3) := by decide +kernel
theorem d_M_be_49 : decode b_M_be 49 = .ok (.return_, 1) := by decide +kernel
theorem d_M_copy_0 : decode b_M_copy 0 = .ok (.iconst 0, 1) := by decide +kernel
theorem d_M_copy_1 : decode b_M_copy 1 = .ok (.istore_n 3, 1) := by decide +kernel
theorem d_M_copy_2 : decode b_M_copy 2 = .ok (.iload_n 3, 1) := by decide +kernel
theorem d_M_copy_3 : decode b_M_copy 3 = .ok (.sipush 1100, 3) := by decide +kernel
theorem d_M_copy_6 : decode b_M_copy 6 = .ok (.if_icmp .ge 21, 3) := by decide +kernel
theorem d_M_copy_9 : decode b_M_copy 9 = .ok (.aload_n 0, 1) := by decide +kernel
theorem d_M_copy_10 : decode b_M_copy 10 = .ok (.iload_n 1, 1) := by decide +kernel
theorem d_M_copy_11 : decode b_M_copy 11 = .ok (.iload_n 3, 1) := by decide +kernel
theorem d_M_copy_12 : decode b_M_copy 12 = .ok (.aload_n 0, 1) := by decide +kernel
theorem d_M_copy_13 : decode b_M_copy 13 = .ok (.iload_n 2, 1) := by decide +kernel
theorem d_M_copy_14 : decode b_M_copy 14 = .ok (.iload_n 3, 1) := by decide +kernel
theorem d_M_copy_15 : decode b_M_copy 15 = .ok (.invokevirtual 33, 3) := by decide +kernel
theorem d_M_copy_18 : decode b_M_copy 18 = .ok (.invokevirtual 29, 3) := by decide +kernel
theorem d_M_copy_21 : decode b_M_copy 21 = .ok (.iinc 3 1, 3) := by decide +kernel
theorem d_M_copy_24 : decode b_M_copy 24 = .ok (.goto (-22), 3) := by decide +kernel
theorem d_M_copy_27 : decode b_M_copy 27 = .ok (.return_, 1) := by decide +kernel
theorem d_M_combine_0 : decode b_M_combine 0 = .ok (.lconst 0, 1) := by decide +kernel
theorem d_M_combine_1 : decode b_M_combine 1 = .ok (.lstore 8, 2) := by decide +kernel
theorem d_M_combine_3 : decode b_M_combine 3 = .ok (.iconst 0, 1) := by decide +kernel
theorem d_M_combine_4 : decode b_M_combine 4 = .ok (.istore 10, 2) := by decide +kernel
theorem d_M_combine_6 : decode b_M_combine 6 = .ok (.iload 10, 2) := by decide +kernel
theorem d_M_combine_8 : decode b_M_combine 8 = .ok (.sipush 1100, 3) := by decide +kernel
theorem d_M_combine_11 : decode b_M_combine 11 = .ok (.if_icmp .ge 59, 3) := by decide +kernel
theorem d_M_combine_14 : decode b_M_combine 14 = .ok (.lload_n 2, 1) := by decide +kernel
theorem d_M_combine_15 : decode b_M_combine 15 = .ok (.aload_n 0, 1) := by decide +kernel
theorem d_M_combine_16 : decode b_M_combine 16 = .ok (.iload 4, 2) := by decide +kernel
theorem d_M_combine_18 : decode b_M_combine 18 = .ok (.iload 10, 2) := by decide +kernel
theorem d_M_combine_20 : decode b_M_combine 20 = .ok (.invokevirtual 33, 3) := by decide +kernel
theorem d_M_combine_23 : decode b_M_combine 23 = .ok (.i2l, 1) := by decide +kernel
theorem d_M_combine_24 : decode b_M_combine 24 = .ok (.lmul, 1) := by decide +kernel
theorem d_M_combine_25 : decode b_M_combine 25 = .ok (.lload 5, 2) := by decide +kernel
theorem d_M_combine_27 : decode b_M_combine 27 = .ok (.aload_n 0, 1) := by decide +kernel
theorem d_M_combine_28 : decode b_M_combine 28 = .ok (.iload 7, 2) := by decide +kernel
theorem d_M_combine_30 : decode b_M_combine 30 = .ok (.iload 10, 2) := by decide +kernel
theorem d_M_combine_32 : decode b_M_combine 32 = .ok (.invokevirtual 33, 3) := by decide +kernel
theorem d_M_combine_35 : decode b_M_combine 35 = .ok (.i2l, 1) := by decide +kernel
theorem d_M_combine_36 : decode b_M_combine 36 = .ok (.lmul, 1) := by decide +kernel
theorem d_M_combine_37 : decode b_M_combine 37 = .ok (.ladd, 1) := by decide +kernel
theorem d_M_combine_38 : decode b_M_combine 38 = .ok (.lload 8, 2) := by decide +kernel
theorem d_M_combine_40 : decode b_M_combine 40 = .ok (.ladd, 1) := by decide +kernel
theorem d_M_combine_41 : decode b_M_combine 41 = .ok (.lstore 11, 2) := by decide +kernel
theorem d_M_combine_43 : decode b_M_combine 43 = .ok (.aload_n 0, 1) := by decide +kernel
theorem d_M_combine_44 : decode b_M_combine 44 = .ok (.iload_n 1, 1) := by decide +kernel
theorem d_M_combine_45 : decode b_M_combine 45 = .ok (.iload 10, 2) := by decide +kernel
theorem d_M_combine_47 : decode b_M_combine 47 = .ok (.lload 11, 2) := by decide +kernel
theorem d_M_combine_49 : decode b_M_combine 49 = .ok (.ldc2_w 27, 3) := by decide +kernel
theorem d_M_combine_52 : decode b_M_combine 52 = .ok (.land, 1) := by decide +kernel
theorem d_M_combine_53 : decode b_M_combine 53 = .ok (.l2i, 1) := by decide +kernel
theorem d_M_combine_54 : decode b_M_combine 54 = .ok (.invokevirtual 29, 3) := by decide +kernel
theorem d_M_combine_57 : decode b_M_combine 57 = .ok (.lload 11, 2) := by decide +kernel
theorem d_M_combine_59 : decode b_M_combine 59 = .ok (.bipush 16, 2) := by decide +kernel
theorem d_M_combine_61 : decode b_M_combine 61 = .ok (.lshr, 1) := by decide +kernel
theorem d_M_combine_62 : decode b_M_combine 62 = .ok (.lstore 8, 2) := by decide +kernel
theorem d_M_combine_64 : decode b_M_combine 64 = .ok (.iinc 10 1, 3) := by decide +kernel
theorem d_M_combine_67 : decode b_M_combine 67 = .ok (.goto (-61), 3) := by decide +kernel
theorem d_M_combine_70 : decode b_M_combine 70 = .ok (.return_, 1) := by decide +kernel
theorem d_M_halve_0 : decode b_M_halve 0 = .ok (.iconst 0, 1) := by decide +kernel
theorem d_M_halve_1 : decode b_M_halve 1 = .ok (.istore_n 2, 1) := by decide +kernel
theorem d_M_halve_2 : decode b_M_halve 2 = .ok (.iload_n 2, 1) := by decide +kernel
theorem d_M_halve_3 : decode b_M_halve 3 = .ok (.sipush 1100, 3) := by decide +kernel
theorem d_M_halve_6 : decode b_M_halve 6 = .ok (.if_icmp .ge 68, 3) := by decide +kernel
theorem d_M_halve_9 : decode b_M_halve 9 = .ok (.iload_n 2, 1) := by decide +kernel
theorem d_M_halve_10 : decode b_M_halve 10 = .ok (.iconst 1, 1) := by decide +kernel
theorem d_M_halve_11 : decode b_M_halve 11 = .ok (.iadd, 1) := by decide +kernel
theorem d_M_halve_12 : decode b_M_halve 12 = .ok (.sipush 1100, 3) := by decide +kernel
theorem d_M_halve_15 : decode b_M_halve 15 = .ok (.if_icmp .ge 14, 3) := by decide +kernel
theorem d_M_halve_18 : decode b_M_halve 18 = .ok (.aload_n 0, 1) := by decide +kernel
theorem d_M_halve_19 : decode b_M_halve 19 = .ok (.iload_n 1, 1) := by decide +kernel
theorem d_M_halve_20 : decode b_M_halve 20 = .ok (.iload_n 2, 1) := by decide +kernel
theorem d_M_halve_21 : decode b_M_halve 21 = .ok (.iconst 1, 1) := by decide +kernel
theorem d_M_halve_22 : decode b_M_halve 22 = .ok (.iadd, 1) := by decide +kernel
theorem d_M_halve_23 : decode b_M_halve 23 = .ok (.invokevirtual 33, 3) := by decide +kernel
theorem d_M_halve_26 : decode b_M_halve 26 = .ok (.goto 20, 3) := by decide +kernel
theorem d_M_halve_29 : decode b_M_halve 29 = .ok (.aload_n 0, 1) := by decide +kernel
theorem d_M_halve_30 : decode b_M_halve 30 = .ok (.iload_n 1, 1) := by decide +kernel
theorem d_M_halve_31 : decode b_M_halve 31 = .ok (.iload_n 2, 1) := by decide +kernel
theorem d_M_halve_32 : decode b_M_halve 32 = .ok (.invokevirtual 33, 3) := by decide +kernel
theorem d_M_halve_35 : decode b_M_halve 35 = .ok (.sipush 32767, 3) := by decide +kernel
theorem d_M_halve_38 : decode b_M_halve 38 = .ok (.if_icmp .le 7, 3) := by decide +kernel
theorem d_M_halve_41 : decode b_M_halve 41 = .ok (.iconst 1, 1) := by decide +kernel
theorem d_M_halve_42 : decode b_M_halve 42 = .ok (.goto 4, 3) := by decide +kernel
theorem d_M_halve_45 : decode b_M_halve 45 = .ok (.iconst 0, 1) := by decide +kernel
theorem d_M_halve_46 : decode b_M_halve 46 = .ok (.istore_n 3, 1) := by decide +kernel
theorem d_M_halve_47 : decode b_M_halve 47 = .ok (.aload_n 0, 1) := by decide +kernel
theorem d_M_halve_48 : decode b_M_halve 48 = .ok (.iload_n 1, 1) := by decide +kernel
theorem d_M_halve_49 : decode b_M_halve 49 = .ok (.iload_n 2, 1) := by decide +kernel
theorem d_M_halve_50 : decode b_M_halve 50 = .ok (.aload_n 0, 1) := by decide +kernel
theorem d_M_halve_51 : decode b_M_halve 51 = .ok (.iload_n 1, 1) := by decide +kernel
theorem d_M_halve_52 : decode b_M_halve 52 = .ok (.iload_n 2, 1) := by decide +kernel
theorem d_M_halve_53 : decode b_M_halve 53 = .ok (.invokevirtual 33, 3) := by decide +kernel
theorem d_M_halve_56 : decode b_M_halve 56 = .ok (.iconst 1, 1) := by decide +kernel
theorem d_M_halve_57 : decode b_M_halve 57 = .ok (.ishr, 1) := by decide +kernel
theorem d_M_halve_58 : decode b_M_halve 58 = .ok (.iload_n 3, 1) := by decide +kernel
theorem d_M_halve_59 : decode b_M_halve 59 = .ok (.iconst 1, 1) := by decide +kernel
theorem d_M_halve_60 : decode b_M_halve 60 = .ok (.iand, 1) := by decide +kernel
theorem d_M_halve_61 : decode b_M_halve 61 = .ok (.bipush 15, 2) := by decide +kernel
theorem d_M_halve_63 : decode b_M_halve 63 = .ok (.ishl, 1) := by decide +kernel
theorem d_M_halve_64 : decode b_M_halve 64 = .ok (.ior, 1) := by decide +kernel
theorem d_M_halve_65 : decode b_M_halve 65 = .ok (.invokevirtual 29, 3) := by decide +kernel
theorem d_M_halve_68 : decode b_M_halve 68 = .ok (.iinc 2 1, 3) := by decide +kernel
theorem d_M_halve_71 : decode b_M_halve 71 = .ok (.goto (-69), 3) := by decide +kernel
theorem d_M_halve_74 : decode b_M_halve 74 = .ok (.return_, 1) := by decide +kernel
theorem d_M_multiply_0 : decode b_M_multiply 0 = .ok (.lconst 0, 1) := by decide +kernel
theorem d_M_multiply_1 : decode b_M_multiply 1 = .ok (.lstore 4, 2) := by decide +kernel
theorem d_M_multiply_3 : decode b_M_multiply 3 = .ok (.aload_n 0, 1) := by decide +kernel
theorem d_M_multiply_4 : decode b_M_multiply 4 = .ok (.iload_n 2, 1) := by decide +kernel
theorem d_M_multiply_5 : decode b_M_multiply 5 = .ok (.invokevirtual 37, 3) := by decide +kernel
theorem d_M_multiply_8 : decode b_M_multiply 8 = .ok (.istore 6, 2) := by decide +kernel
theorem d_M_multiply_10 : decode b_M_multiply 10 = .ok (.aload_n 0, 1) := by decide +kernel
theorem d_M_multiply_11 : decode b_M_multiply 11 = .ok (.iload_n 3, 1) := by decide +kernel
theorem d_M_multiply_12 : decode b_M_multiply 12 = .ok (.invokevirtual 37, 3) := by decide +kernel
theorem d_M_multiply_15 : decode b_M_multiply 15 = .ok (.istore 7, 2) := by decide +kernel
theorem d_M_multiply_17 : decode b_M_multiply 17 = .ok (.iconst 0, 1) := by decide +kernel
theorem d_M_multiply_18 : decode b_M_multiply 18 = .ok (.istore 8, 2) := by decide +kernel
theorem d_M_multiply_20 : decode b_M_multiply 20 = .ok (.iload 8, 2) := by decide +kernel
theorem d_M_multiply_22 : decode b_M_multiply 22 = .ok (.sipush 1100, 3) := by decide +kernel
theorem d_M_multiply_25 : decode b_M_multiply 25 = .ok (.if_icmp .ge 99, 3) := by decide +kernel
theorem d_M_multiply_28 : decode b_M_multiply 28 = .ok (.lload 4, 2) := by decide +kernel
theorem d_M_multiply_30 : decode b_M_multiply 30 = .ok (.lstore 9, 2) := by decide +kernel
theorem d_M_multiply_32 : decode b_M_multiply 32 = .ok (.iload 8, 2) := by decide +kernel
theorem d_M_multiply_34 : decode b_M_multiply 34 = .ok (.iload 7, 2) := by decide +kernel
theorem d_M_multiply_36 : decode b_M_multiply 36 = .ok (.if_icmp .ge 7, 3) := by decide +kernel
theorem d_M_multiply_39 : decode b_M_multiply 39 = .ok (.iconst 0, 1) := by decide +kernel
theorem d_M_multiply_40 : decode b_M_multiply 40 = .ok (.goto 10, 3) := by decide +kernel
theorem d_M_multiply_43 : decode b_M_multiply 43 = .ok (.iload 8, 2) := by decide +kernel
theorem d_M_multiply_45 : decode b_M_multiply 45 = .ok (.iload 7, 2) := by decide +kernel
theorem d_M_multiply_47 : decode b_M_multiply 47 = .ok (.isub, 1) := by decide +kernel
theorem d_M_multiply_48 : decode b_M_multiply 48 = .ok (.iconst 1, 1) := by decide +kernel
theorem d_M_multiply_49 : decode b_M_multiply 49 = .ok (.iadd, 1) := by decide +kernel
theorem d_M_multiply_50 : decode b_M_multiply 50 = .ok (.istore 11, 2) := by decide +kernel
theorem d_M_multiply_52 : decode b_M_multiply 52 = .ok (.iload 11, 2) := by decide +kernel
theorem d_M_multiply_54 : decode b_M_multiply 54 = .ok (.iload 8, 2) := by decide +kernel
theorem d_M_multiply_56 : decode b_M_multiply 56 = .ok (.if_icmp .gt 41, 3) := by decide +kernel
theorem d_M_multiply_59 : decode b_M_multiply 59 = .ok (.iload 11, 2) := by decide +kernel
theorem d_M_multiply_61 : decode b_M_multiply 61 = .ok (.iload 6, 2) := by decide +kernel
theorem d_M_multiply_63 : decode b_M_multiply 63 = .ok (.if_icmp .ge 34, 3) := by decide +kernel
theorem d_M_multiply_66 : decode b_M_multiply 66 = .ok (.lload 9, 2) := by decide +kernel
theorem d_M_multiply_68 : decode b_M_multiply 68 = .ok (.aload_n 0, 1) := by decide +kernel
theorem d_M_multiply_69 : decode b_M_multiply 69 = .ok (.iload_n 2, 1) := by decide +kernel
theorem d_M_multiply_70 : decode b_M_multiply 70 = .ok (.iload 11, 2) := by decide +kernel
theorem d_M_multiply_72 : decode b_M_multiply 72 = .ok (.invokevirtual 33, 3) := by decide +kernel
theorem d_M_multiply_75 : decode b_M_multiply 75 = .ok (.i2l, 1) := by decide +kernel
theorem d_M_multiply_76 : decode b_M_multiply 76 = .ok (.aload_n 0, 1) := by decide +kernel
theorem d_M_multiply_77 : decode b_M_multiply 77 = .ok (.iload_n 3, 1) := by decide +kernel
theorem d_M_multiply_78 : decode b_M_multiply 78 = .ok (.iload 8, 2) := by decide +kernel
theorem d_M_multiply_80 : decode b_M_multiply 80 = .ok (.iload 11, 2) := by decide +kernel
theorem d_M_multiply_82 : decode b_M_multiply 82 = .ok (.isub, 1) := by decide +kernel
theorem d_M_multiply_83 : decode b_M_multiply 83 = .ok (.invokevirtual 33, 3) := by decide +kernel
theorem d_M_multiply_86 : decode b_M_multiply 86 = .ok (.i2l, 1) := by decide +kernel
theorem d_M_multiply_87 : decode b_M_multiply 87 = .ok (.lmul, 1) := by decide +kernel
theorem d_M_multiply_88 : decode b_M_multiply 88 = .ok (.ladd, 1) := by decide +kernel
theorem d_M_multiply_89 : decode b_M_multiply 89 = .ok (.lstore 9, 2) := by decide +kernel
theorem d_M_multiply_91 : decode b_M_multiply 91 = .ok (.iinc 11 1, 3) := by decide +kernel
theorem d_M_multiply_94 : decode b_M_multiply 94 = .ok (.goto (-42), 3) := by decide +kernel
theorem d_M_multiply_97 : decode b_M_multiply 97 = .ok (.aload_n 0, 1) := by decide +kernel
theorem d_M_multiply_98 : decode b_M_multiply 98 = .ok (.iload_n 1, 1) := by decide +kernel
theorem d_M_multiply_99 : decode b_M_multiply 99 = .ok (.iload 8, 2) := by decide +kernel
theorem d_M_multiply_101 : decode b_M_multiply 101 = .ok (.lload 9, 2) := by decide +kernel
theorem d_M_multiply_103 : decode b_M_multiply 103 = .ok (.ldc2_w 27, 3) := by decide +kernel
theorem d_M_multiply_106 : decode b_M_multiply 106 = .ok (.land, 1) := by decide +kernel
theorem d_M_multiply_107 : decode b_M_multiply 107 = .ok (.l2i, 1) := by decide +kernel
theorem d_M_multiply_108 : decode b_M_multiply 108 = .ok (.invokevirtual 29, 3) := by decide +kernel
theorem d_M_multiply_111 : decode b_M_multiply 111 = .ok (.lload 9, 2) := by decide +kernel
theorem d_M_multiply_113 : decode b_M_multiply 113 = .ok (.bipush 16, 2) := by decide +kernel
theorem d_M_multiply_115 : decode b_M_multiply 115 = .ok (.lshr, 1) := by decide +kernel
theorem d_M_multiply_116 : decode b_M_multiply 116 = .ok (.lstore 4, 2) := by decide +kernel
theorem d_M_multiply_118 : decode b_M_multiply 118 = .ok (.iinc 8 1, 3) := by decide +kernel
theorem d_M_multiply_121 : decode b_M_multiply 121 = .ok (.goto (-101), 3) := by decide +kernel
theorem d_M_multiply_124 : decode b_M_multiply 124 = .ok (.return_, 1) := by decide +kernel
theorem d_M_length_0 : decode b_M_length 0 = .ok (.sipush 1100, 3) := by decide +kernel
theorem d_M_length_3 : decode b_M_length 3 = .ok (.istore_n 2, 1) := by decide +kernel
theorem d_M_length_4 : decode b_M_length 4 = .ok (.iload_n 2, 1) := by decide +kernel
theorem d_M_length_5 : decode b_M_length 5 = .ok (.ifCond .le 20, 3) := by decide +kernel
theorem d_M_length_8 : decode b_M_length 8 = .ok (.aload_n 0, 1) := by decide +kernel
theorem d_M_length_9 : decode b_M_length 9 = .ok (.iload_n 1, 1) := by decide +kernel
theorem d_M_length_10 : decode b_M_length 10 = .ok (.iload_n 2, 1) := by decide +kernel
theorem d_M_length_11 : decode b_M_length 11 = .ok (.iconst 1, 1) := by decide +kernel
theorem d_M_length_12 : decode b_M_length 12 = .ok (.isub, 1) := by decide +kernel
theorem d_M_length_13 : decode b_M_length 13 = .ok (.invokevirtual 33, 3) := by decide +kernel
theorem d_M_length_16 : decode b_M_length 16 = .ok (.ifCond .ne 9, 3) := by decide +kernel
theorem d_M_length_19 : decode b_M_length 19 = .ok (.iinc 2 (-1), 3) := by decide +kernel
theorem d_M_length_22 : decode b_M_length 22 = .ok (.goto (-18), 3) := by decide +kernel
theorem d_M_length_25 : decode b_M_length 25 = .ok (.iload_n 2, 1) := by decide +kernel
theorem d_M_length_26 : decode b_M_length 26 = .ok (.ireturn, 1) := by decide +kernel
theorem d_M_isBelow_0 : decode b_M_isBelow 0 = .ok (.aload_n 0, 1) := by decide +kernel
theorem d_M_isBelow_1 : decode b_M_isBelow 1 = .ok (.iload_n 1, 1) := by decide +kernel
theorem d_M_isBelow_2 : decode b_M_isBelow 2 = .ok (.sipush 1099, 3) := by decide +kernel
theorem d_M_isBelow_5 : decode b_M_isBelow 5 = .ok (.invokevirtual 33, 3) := by decide +kernel
theorem d_M_isBelow_8 : decode b_M_isBelow 8 = .ok (.sipush 32767, 3) := by decide +kernel
theorem d_M_isBelow_11 : decode b_M_isBelow 11 = .ok (.if_icmp .le 7, 3) := by decide +kernel
theorem d_M_isBelow_14 : decode b_M_isBelow 14 = .ok (.iconst 1, 1) := by decide +kernel
theorem d_M_isBelow_15 : decode b_M_isBelow 15 = .ok (.goto 4, 3) := by decide +kernel
theorem d_M_isBelow_18 : decode b_M_isBelow 18 = .ok (.iconst 0, 1) := by decide +kernel
theorem d_M_isBelow_19 : decode b_M_isBelow 19 = .ok (.ireturn, 1) := by decide +kernel
theorem d_M_begin_0 : decode b_M_begin 0 = .ok (.aload_n 0, 1) := by decide +kernel
theorem d_M_begin_1 : decode b_M_begin 1 = .ok (.lload_n 1, 1) := by decide +kernel
theorem d_M_begin_2 : decode b_M_begin 2 = .ok (.putfield 9, 3) := by decide +kernel
theorem d_M_begin_5 : decode b_M_begin 5 = .ok (.aload_n 0, 1) := by decide +kernel
theorem d_M_begin_6 : decode b_M_begin 6 = .ok (.iconst 0, 1) := by decide +kernel
theorem d_M_begin_7 : decode b_M_begin 7 = .ok (.putfield 41, 3) := by decide +kernel
theorem d_M_begin_10 : decode b_M_begin 10 = .ok (.aload_n 0, 1) := by decide +kernel
theorem d_M_begin_11 : decode b_M_begin 11 = .ok (.iconst 0, 1) := by decide +kernel
theorem d_M_begin_12 : decode b_M_begin 12 = .ok (.putfield 44, 3) := by decide +kernel
theorem d_M_begin_15 : decode b_M_begin 15 = .ok (.aload_n 0, 1) := by decide +kernel
theorem d_M_begin_16 : decode b_M_begin 16 = .ok (.bipush 6, 2) := by decide +kernel
theorem d_M_begin_18 : decode b_M_begin 18 = .ok (.lconst 0, 1) := by decide +kernel
theorem d_M_begin_19 : decode b_M_begin 19 = .ok (.invokevirtual 48, 3) := by decide +kernel
theorem d_M_begin_22 : decode b_M_begin 22 = .ok (.aload_n 0, 1) := by decide +kernel
theorem d_M_begin_23 : decode b_M_begin 23 = .ok (.bipush 7, 2) := by decide +kernel
theorem d_M_begin_25 : decode b_M_begin 25 = .ok (.lconst 0, 1) := by decide +kernel
theorem d_M_begin_26 : decode b_M_begin 26 = .ok (.invokevirtual 48, 3) := by decide +kernel
theorem d_M_begin_29 : decode b_M_begin 29 = .ok (.aload_n 0, 1) := by decide +kernel
theorem d_M_begin_30 : decode b_M_begin 30 = .ok (.getfield 9, 3) := by decide +kernel
theorem d_M_begin_33 : decode b_M_begin 33 = .ok (.lconst 0, 1) := by decide +kernel
theorem d_M_begin_34 : decode b_M_begin 34 = .ok (.lcmp, 1) := by decide +kernel
theorem d_M_begin_35 : decode b_M_begin 35 = .ok (.ifCond .ge 76, 3) := by decide +kernel
theorem d_M_begin_38 : decode b_M_begin 38 = .ok (.aload_n 0, 1) := by decide +kernel
theorem d_M_begin_39 : decode b_M_begin 39 = .ok (.iconst 0, 1) := by decide +kernel
theorem d_M_begin_40 : decode b_M_begin 40 = .ok (.aload_n 0, 1) := by decide +kernel
theorem d_M_begin_41 : decode b_M_begin 41 = .ok (.getfield 9, 3) := by decide +kernel
theorem d_M_begin_44 : decode b_M_begin 44 = .ok (.ldc2_w 52, 3) := by decide +kernel
theorem d_M_begin_47 : decode b_M_begin 47 = .ok (.lcmp, 1) := by decide +kernel
theorem d_M_begin_48 : decode b_M_begin 48 = .ok (.ifCond .ne 7, 3) := by decide +kernel
theorem d_M_begin_51 : decode b_M_begin 51 = .ok (.lconst 1, 1) := by decide +kernel
theorem d_M_begin_52 : decode b_M_begin 52 = .ok (.goto 21, 3) := by decide +kernel
theorem d_M_begin_55 : decode b_M_begin 55 = .ok (.aload_n 0, 1) := by decide +kernel
theorem d_M_begin_56 : decode b_M_begin 56 = .ok (.getfield 9, 3) := by decide +kernel
theorem d_M_begin_59 : decode b_M_begin 59 = .ok (.ldc2_w 7, 3) := by decide +kernel
theorem d_M_begin_62 : decode b_M_begin 62 = .ok (.lcmp, 1) := by decide +kernel
theorem d_M_begin_63 : decode b_M_begin 63 = .ok (.ifCond .ne 7, 3) := by decide +kernel
theorem d_M_begin_66 : decode b_M_begin 66 = .ok (.lconst 0, 1) := by decide +kernel
theorem d_M_begin_67 : decode b_M_begin 67 = .ok (.goto 6, 3) := by decide +kernel
theorem d_M_begin_70 : decode b_M_begin 70 = .ok (.ldc2_w 54, 3) := by decide +kernel
theorem d_M_begin_73 : decode b_M_begin 73 = .ok (.invokevirtual 48, 3) := by decide +kernel
theorem d_M_begin_76 : decode b_M_begin 76 = .ok (.aload_n 0, 1) := by decide +kernel
theorem d_M_begin_77 : decode b_M_begin 77 = .ok (.iconst 1, 1) := by decide +kernel
theorem d_M_begin_78 : decode b_M_begin 78 = .ok (.aload_n 0, 1) := by decide +kernel
theorem d_M_begin_79 : decode b_M_begin 79 = .ok (.getfield 9, 3) := by decide +kernel
theorem d_M_begin_82 : decode b_M_begin 82 = .ok (.ldc2_w 52, 3) := by decide +kernel
theorem d_M_begin_85 : decode b_M_begin 85 = .ok (.lcmp, 1) := by decide +kernel
theorem d_M_begin_86 : decode b_M_begin 86 = .ok (.ifCond .eq 14, 3) := by decide +kernel
theorem d_M_begin_89 : decode b_M_begin 89 = .ok (.aload_n 0, 1) := by decide +kernel
theorem d_M_begin_90 : decode b_M_begin 90 = .ok (.getfield 9, 3) := by decide +kernel
theorem d_M_begin_93 : decode b_M_begin 93 = .ok (.ldc2_w 7, 3) := by decide +kernel
theorem d_M_begin_96 : decode b_M_begin 96 = .ok (.lcmp, 1) := by decide +kernel
theorem d_M_begin_97 : decode b_M_begin 97 = .ok (.ifCond .ne 7, 3) := by decide +kernel
theorem d_M_begin_100 : decode b_M_begin 100 = .ok (.lconst 1, 1) := by decide +kernel
theorem d_M_begin_101 : decode b_M_begin 101 = .ok (.goto 4, 3) := by decide +kernel
theorem d_M_begin_104 : decode b_M_begin 104 = .ok (.lconst 0, 1) := by decide +kernel
theorem d_M_begin_105 : decode b_M_begin 105 = .ok (.invokevirtual 48, 3) := by decide +kernel
theorem d_M_begin_108 : decode b_M_begin 108 = .ok (.goto 7, 3) := by decide +kernel
theorem d_M_begin_111 : decode b_M_begin 111 = .ok (.aload_n 0, 1) := by decide +kernel
theorem d_M_begin_112 : decode b_M_begin 112 = .ok (.invokevirtual 56, 3) := by decide +kernel
theorem d_M_begin_115 : decode b_M_begin 115 = .ok (.aload_n 0, 1) := by decide +kernel
theorem d_M_begin_116 : decode b_M_begin 116 = .ok (.getfield 9, 3) := by decide +kernel
theorem d_M_begin_119 : decode b_M_begin 119 = .ok (.ldc2_w 54, 3) := by decide +kernel
theorem d_M_begin_122 : decode b_M_begin 122 = .ok (.lrem, 1) := by decide +kernel
theorem d_M_begin_123 : decode b_M_begin 123 = .ok (.lconst 0, 1) := by decide +kernel
theorem d_M_begin_124 : decode b_M_begin 124 = .ok (.lcmp, 1) := by decide +kernel
theorem d_M_begin_125 : decode b_M_begin 125 = .ok (.ifCond .ne 7, 3) := by decide +kernel
theorem d_M_begin_128 : decode b_M_begin 128 = .ok (.lconst 0, 1) := by decide +kernel
theorem d_M_begin_129 : decode b_M_begin 129 = .ok (.goto 4, 3) := by decide +kernel
theorem d_M_begin_132 : decode b_M_begin 132 = .ok (.lconst 1, 1) := by decide +kernel
theorem d_M_begin_133 : decode b_M_begin 133 = .ok (.lstore_n 3, 1) := by decide +kernel
theorem d_M_begin_134 : decode b_M_begin 134 = .ok (.aload_n 0, 1) := by decide +kernel
theorem d_M_begin_135 : decode b_M_begin 135 = .ok (.lconst 1, 1) := by decide +kernel
theorem d_M_begin_136 : decode b_M_begin 136 = .ok (.lload_n 3, 1) := by decide +kernel
theorem d_M_begin_137 : decode b_M_begin 137 = .ok (.lload_n 3, 1) := by decide +kernel
theorem d_M_begin_138 : decode b_M_begin 138 = .ok (.aload_n 0, 1) := by decide +kernel
theorem d_M_begin_139 : decode b_M_begin 139 = .ok (.getfield 9, 3) := by decide +kernel
theorem d_M_begin_142 : decode b_M_begin 142 = .ok (.lsub, 1) := by decide +kernel
theorem d_M_begin_143 : decode b_M_begin 143 = .ok (.ldc2_w 59, 3) := by decide +kernel
theorem d_M_begin_146 : decode b_M_begin 146 = .ok (.ldiv, 1) := by decide +kernel
theorem d_M_begin_147 : decode b_M_begin 147 = .ok (.invokevirtual 61, 3) := by decide +kernel
theorem d_M_begin_150 : decode b_M_begin 150 = .ok (.return_, 1) := by decide +kernel
theorem d_M_find_0 : decode b_M_find 0 = .ok (.aload_n 0, 1) := by decide +kernel
theorem d_M_find_1 : decode b_M_find 1 = .ok (.getfield 9, 3) := by decide +kernel
theorem d_M_find_4 : decode b_M_find 4 = .ok (.invokestatic 65, 3) := by decide +kernel
theorem d_M_find_7 : decode b_M_find 7 = .ok (.lstore_n 1, 1) := by decide +kernel
theorem d_M_find_8 : decode b_M_find 8 = .ok (.lload_n 1, 1) := by decide +kernel
theorem d_M_find_9 : decode b_M_find 9 = .ok (.ldc2_w 54, 3) := by decide +kernel
theorem d_M_find_12 : decode b_M_find 12 = .ok (.lrem, 1) := by decide +kernel
theorem d_M_find_13 : decode b_M_find 13 = .ok (.aload_n 0, 1) := by decide +kernel
theorem d_M_find_14 : decode b_M_find 14 = .ok (.getfield 9, 3) := by decide +kernel
theorem d_M_find_17 : decode b_M_find 17 = .ok (.ldc2_w 54, 3) := by decide +kernel
theorem d_M_find_20 : decode b_M_find 20 = .ok (.lrem, 1) := by decide +kernel
theorem d_M_find_21 : decode b_M_find 21 = .ok (.lcmp, 1) := by decide +kernel
theorem d_M_find_22 : decode b_M_find 22 = .ok (.ifCond .ne 7, 3) := by decide +kernel
theorem d_M_find_25 : decode b_M_find 25 = .ok (.lload_n 1, 1) := by decide +kernel
theorem d_M_find_26 : decode b_M_find 26 = .ok (.goto 6, 3) := by decide +kernel
theorem d_M_find_29 : decode b_M_find 29 = .ok (.lload_n 1, 1) := by decide +kernel
theorem d_M_find_30 : decode b_M_find 30 = .ok (.lconst 1, 1) := by decide +kernel
theorem d_M_find_31 : decode b_M_find 31 = .ok (.lsub, 1) := by decide +kernel
theorem d_M_find_32 : decode b_M_find 32 = .ok (.lstore_n 3, 1) := by decide +kernel
theorem d_M_find_33 : decode b_M_find 33 = .ok (.lload_n 3, 1) := by decide +kernel
theorem d_M_find_34 : decode b_M_find 34 = .ok (.lstore 5, 2) := by decide +kernel
theorem d_M_find_36 : decode b_M_find 36 = .ok (.ldc2_w 54, 3) := by decide +kernel
theorem d_M_find_39 : decode b_M_find 39 = .ok (.lstore 7, 2) := by decide +kernel
theorem d_M_find_41 : decode b_M_find 41 = .ok (.aload_n 0, 1) := by decide +kernel
theorem d_M_find_42 : decode b_M_find 42 = .ok (.bipush 8, 2) := by decide +kernel
theorem d_M_find_44 : decode b_M_find 44 = .ok (.lconst 0, 1) := by decide +kernel
theorem d_M_find_45 : decode b_M_find 45 = .ok (.invokevirtual 48, 3) := by decide +kernel
theorem d_M_find_48 : decode b_M_find 48 = .ok (.aload_n 0, 1) := by decide +kernel
theorem d_M_find_49 : decode b_M_find 49 = .ok (.bipush 9, 2) := by decide +kernel
theorem d_M_find_51 : decode b_M_find 51 = .ok (.lconst 1, 1) := by decide +kernel
theorem d_M_find_52 : decode b_M_find 52 = .ok (.invokevirtual 48, 3) := by decide +kernel
theorem d_M_find_55 : decode b_M_find 55 = .ok (.iconst 0, 1) := by decide +kernel
theorem d_M_find_56 : decode b_M_find 56 = .ok (.istore 9, 2) := by decide +kernel
theorem d_M_find_58 : decode b_M_find 58 = .ok (.iconst 1, 1) := by decide +kernel
theorem d_M_find_59 : decode b_M_find 59 = .ok (.istore 10, 2) := by decide +kernel
theorem d_M_find_61 : decode b_M_find 61 = .ok (.iload 10, 2) := by decide +kernel
theorem d_M_find_63 : decode b_M_find 63 = .ok (.ifCond .eq 95, 3) := by decide +kernel
theorem d_M_find_66 : decode b_M_find 66 = .ok (.lload 5, 2) := by decide +kernel
theorem d_M_find_68 : decode b_M_find 68 = .ok (.lload_n 1, 1) := by decide +kernel
theorem d_M_find_69 : decode b_M_find 69 = .ok (.ladd, 1) := by decide +kernel
theorem d_M_find_70 : decode b_M_find 70 = .ok (.lload 7, 2) := by decide +kernel
theorem d_M_find_72 : decode b_M_find 72 = .ok (.ldiv, 1) := by decide +kernel
theorem d_M_find_73 : decode b_M_find 73 = .ok (.lstore 11, 2) := by decide +kernel
theorem d_M_find_75 : decode b_M_find 75 = .ok (.aload_n 0, 1) := by decide +kernel
theorem d_M_find_76 : decode b_M_find 76 = .ok (.bipush 10, 2) := by decide +kernel
theorem d_M_find_78 : decode b_M_find 78 = .ok (.lload 11, 2) := by decide +kernel
theorem d_M_find_80 : decode b_M_find 80 = .ok (.bipush 8, 2) := by decide +kernel
theorem d_M_find_82 : decode b_M_find 82 = .ok (.lconst 1, 1) := by decide +kernel
theorem d_M_find_83 : decode b_M_find 83 = .ok (.bipush 9, 2) := by decide +kernel
theorem d_M_find_85 : decode b_M_find 85 = .ok (.invokevirtual 69, 3) := by decide +kernel
theorem d_M_find_88 : decode b_M_find 88 = .ok (.aload_n 0, 1) := by decide +kernel
theorem d_M_find_89 : decode b_M_find 89 = .ok (.bipush 9, 2) := by decide +kernel
theorem d_M_find_91 : decode b_M_find 91 = .ok (.bipush 8, 2) := by decide +kernel
theorem d_M_find_93 : decode b_M_find 93 = .ok (.invokevirtual 73, 3) := by decide +kernel
theorem d_M_find_96 : decode b_M_find 96 = .ok (.aload_n 0, 1) := by decide +kernel
theorem d_M_find_97 : decode b_M_find 97 = .ok (.bipush 8, 2) := by decide +kernel
theorem d_M_find_99 : decode b_M_find 99 = .ok (.bipush 10, 2) := by decide +kernel
theorem d_M_find_101 : decode b_M_find 101 = .ok (.invokevirtual 73, 3) := by decide +kernel
theorem d_M_find_104 : decode b_M_find 104 = .ok (.lload 11, 2) := by decide +kernel
theorem d_M_find_106 : decode b_M_find 106 = .ok (.lload 7, 2) := by decide +kernel
theorem d_M_find_108 : decode b_M_find 108 = .ok (.lmul, 1) := by decide +kernel
theorem d_M_find_109 : decode b_M_find 109 = .ok (.lload 5, 2) := by decide +kernel
theorem d_M_find_111 : decode b_M_find 111 = .ok (.lsub, 1) := by decide +kernel
theorem d_M_find_112 : decode b_M_find 112 = .ok (.lstore 5, 2) := by decide +kernel
theorem d_M_find_114 : decode b_M_find 114 = .ok (.aload_n 0, 1) := by decide +kernel
theorem d_M_find_115 : decode b_M_find 115 = .ok (.getfield 9, 3) := by decide +kernel
theorem d_M_find_118 : decode b_M_find 118 = .ok (.lload 5, 2) := by decide +kernel
theorem d_M_find_120 : decode b_M_find 120 = .ok (.lload 5, 2) := by decide +kernel
theorem d_M_find_122 : decode b_M_find 122 = .ok (.lmul, 1) := by decide +kernel
theorem d_M_find_123 : decode b_M_find 123 = .ok (.lsub, 1) := by decide +kernel
theorem d_M_find_124 : decode b_M_find 124 = .ok (.lload 7, 2) := by decide +kernel
theorem d_M_find_126 : decode b_M_find 126 = .ok (.ldiv, 1) := by decide +kernel
theorem d_M_find_127 : decode b_M_find 127 = .ok (.lstore 7, 2) := by decide +kernel
theorem d_M_find_129 : decode b_M_find 129 = .ok (.iinc 9 1, 3) := by decide +kernel
theorem d_M_find_132 : decode b_M_find 132 = .ok (.lload 5, 2) := by decide +kernel
theorem d_M_find_134 : decode b_M_find 134 = .ok (.lload_n 3, 1) := by decide +kernel
theorem d_M_find_135 : decode b_M_find 135 = .ok (.lcmp, 1) := by decide +kernel
theorem d_M_find_136 : decode b_M_find 136 = .ok (.ifCond .ne 12, 3) := by decide +kernel
theorem d_M_find_139 : decode b_M_find 139 = .ok (.lload 7, 2) := by decide +kernel
theorem d_M_find_141 : decode b_M_find 141 = .ok (.ldc2_w 54, 3) := by decide +kernel
theorem d_M_find_144 : decode b_M_find 144 = .ok (.lcmp, 1) := by decide +kernel
theorem d_M_find_145 : decode b_M_find 145 = .ok (.ifCond .eq 7, 3) := by decide +kernel
theorem d_M_find_148 : decode b_M_find 148 = .ok (.iconst 1, 1) := by decide +kernel
theorem d_M_find_149 : decode b_M_find 149 = .ok (.goto 4, 3) := by decide +kernel
theorem d_M_find_152 : decode b_M_find 152 = .ok (.iconst 0, 1) := by decide +kernel
theorem d_M_find_153 : decode b_M_find 153 = .ok (.istore 10, 2) := by decide +kernel
theorem d_M_find_155 : decode b_M_find 155 = .ok (.goto (-94), 3) := by decide +kernel
theorem d_M_find_158 : decode b_M_find 158 = .ok (.aload_n 0, 1) := by decide +kernel
theorem d_M_find_159 : decode b_M_find 159 = .ok (.iconst 0, 1) := by decide +kernel
theorem d_M_find_160 : decode b_M_find 160 = .ok (.ldc2_w 54, 3) := by decide +kernel
theorem d_M_find_163 : decode b_M_find 163 = .ok (.bipush 9, 2) := by decide +kernel
theorem d_M_find_165 : decode b_M_find 165 = .ok (.lload_n 3, 1) := by decide +kernel
theorem d_M_find_166 : decode b_M_find 166 = .ok (.bipush 8, 2) := by decide +kernel
theorem d_M_find_168 : decode b_M_find 168 = .ok (.invokevirtual 69, 3) := by decide +kernel
theorem d_M_find_171 : decode b_M_find 171 = .ok (.aload_n 0, 1) := by decide +kernel
theorem d_M_find_172 : decode b_M_find 172 = .ok (.iconst 1, 1) := by decide +kernel
theorem d_M_find_173 : decode b_M_find 173 = .ok (.bipush 8, 2) := by decide +kernel
theorem d_M_find_175 : decode b_M_find 175 = .ok (.invokevirtual 73, 3) := by decide +kernel
theorem d_M_find_178 : decode b_M_find 178 = .ok (.aload_n 0, 1) := by decide +kernel
theorem d_M_find_179 : decode b_M_find 179 = .ok (.iload 9, 2) := by decide +kernel
theorem d_M_find_181 : decode b_M_find 181 = .ok (.putfield 41, 3) := by decide +kernel
theorem d_M_find_184 : decode b_M_find 184 = .ok (.iload 9, 2) := by decide +kernel
theorem d_M_find_186 : decode b_M_find 186 = .ok (.iconst 2, 1) := by decide +kernel
theorem d_M_find_187 : decode b_M_find 187 = .ok (.irem, 1) := by decide +kernel
theorem d_M_find_188 : decode b_M_find 188 = .ok (.ifCond .ne 4, 3) := by decide +kernel
theorem d_M_find_191 : decode b_M_find 191 = .ok (.return_, 1) := by decide +kernel
theorem d_M_find_192 : decode b_M_find 192 = .ok (.aload_n 0, 1) := by decide +kernel
theorem d_M_find_193 : decode b_M_find 193 = .ok (.iconst 2, 1) := by decide +kernel
theorem d_M_find_194 : decode b_M_find 194 = .ok (.iload 9, 2) := by decide +kernel
theorem d_M_find_196 : decode b_M_find 196 = .ok (.imul, 1) := by decide +kernel
theorem d_M_find_197 : decode b_M_find 197 = .ok (.putfield 41, 3) := by decide +kernel
theorem d_M_find_200 : decode b_M_find 200 = .ok (.aload_n 0, 1) := by decide +kernel
theorem d_M_find_201 : decode b_M_find 201 = .ok (.iconst 1, 1) := by decide +kernel
theorem d_M_find_202 : decode b_M_find 202 = .ok (.putfield 44, 3) := by decide +kernel
theorem d_M_find_205 : decode b_M_find 205 = .ok (.aload_n 0, 1) := by decide +kernel
theorem d_M_find_206 : decode b_M_find 206 = .ok (.bipush 6, 2) := by decide +kernel
theorem d_M_find_208 : decode b_M_find 208 = .ok (.iconst 0, 1) := by decide +kernel
theorem d_M_find_209 : decode b_M_find 209 = .ok (.invokevirtual 73, 3) := by decide +kernel
theorem d_M_find_212 : decode b_M_find 212 = .ok (.aload_n 0, 1) := by decide +kernel
theorem d_M_find_213 : decode b_M_find 213 = .ok (.bipush 7, 2) := by decide +kernel
theorem d_M_find_215 : decode b_M_find 215 = .ok (.iconst 1, 1) := by decide +kernel
theorem d_M_find_216 : decode b_M_find 216 = .ok (.invokevirtual 73, 3) := by decide +kernel
theorem d_M_find_219 : decode b_M_find 219 = .ok (.aload_n 0, 1) := by decide +kernel
theorem d_M_find_220 : decode b_M_find 220 = .ok (.iconst 1, 1) := by decide +kernel
theorem d_M_find_221 : decode b_M_find 221 = .ok (.bipush 6, 2) := by decide +kernel
theorem d_M_find_223 : decode b_M_find 223 = .ok (.bipush 7, 2) := by decide +kernel
theorem d_M_find_225 : decode b_M_find 225 = .ok (.invokevirtual 77, 3) := by decide +kernel
theorem d_M_find_228 : decode b_M_find 228 = .ok (.aload_n 0, 1) := by decide +kernel
theorem d_M_find_229 : decode b_M_find 229 = .ok (.iconst 0, 1) := by decide +kernel
theorem d_M_find_230 : decode b_M_find 230 = .ok (.bipush 6, 2) := by decide +kernel
theorem d_M_find_232 : decode b_M_find 232 = .ok (.bipush 6, 2) := by decide +kernel
theorem d_M_find_234 : decode b_M_find 234 = .ok (.invokevirtual 77, 3) := by decide +kernel
theorem d_M_find_237 : decode b_M_find 237 = .ok (.aload_n 0, 1) := by decide +kernel
theorem d_M_find_238 : decode b_M_find 238 = .ok (.bipush 10, 2) := by decide +kernel
theorem d_M_find_240 : decode b_M_find 240 = .ok (.lconst 1, 1) := by decide +kernel
theorem d_M_find_241 : decode b_M_find 241 = .ok (.invokevirtual 48, 3) := by decide +kernel
theorem d_M_find_244 : decode b_M_find 244 = .ok (.aload_n 0, 1) := by decide +kernel
theorem d_M_find_245 : decode b_M_find 245 = .ok (.iconst 0, 1) := by decide +kernel
theorem d_M_find_246 : decode b_M_find 246 = .ok (.lconst 1, 1) := by decide +kernel
theorem d_M_find_247 : decode b_M_find 247 = .ok (.iconst 0, 1) := by decide +kernel
theorem d_M_find_248 : decode b_M_find 248 = .ok (.ldc2_w 54, 3) := by decide +kernel
theorem d_M_find_251 : decode b_M_find 251 = .ok (.bipush 10, 2) := by decide +kernel
theorem d_M_find_253 : decode b_M_find 253 = .ok (.invokevirtual 69, 3) := by decide +kernel
theorem d_M_find_256 : decode b_M_find 256 = .ok (.return_, 1) := by decide +kernel
theorem d_M_turn_0 : decode b_M_turn 0 = .ok (.aload_n 0, 1) := by decide +kernel
theorem d_M_turn_1 : decode b_M_turn 1 = .ok (.iconst 2, 1) := by decide +kernel
theorem d_M_turn_2 : decode b_M_turn 2 = .ok (.lconst 1, 1) := by decide +kernel
theorem d_M_turn_3 : decode b_M_turn 3 = .ok (.iconst 0, 1) := by decide +kernel
theorem d_M_turn_4 : decode b_M_turn 4 = .ok (.lload_n 3, 1) := by decide +kernel
theorem d_M_turn_5 : decode b_M_turn 5 = .ok (.lneg, 1) := by decide +kernel
theorem d_M_turn_6 : decode b_M_turn 6 = .ok (.iconst 1, 1) := by decide +kernel
theorem d_M_turn_7 : decode b_M_turn 7 = .ok (.invokevirtual 69, 3) := by decide +kernel
theorem d_M_turn_10 : decode b_M_turn 10 = .ok (.aload_n 0, 1) := by decide +kernel
theorem d_M_turn_11 : decode b_M_turn 11 = .ok (.iconst 2, 1) := by decide +kernel
theorem d_M_turn_12 : decode b_M_turn 12 = .ok (.invokevirtual 80, 3) := by decide +kernel
theorem d_M_turn_15 : decode b_M_turn 15 = .ok (.aload_n 0, 1) := by decide +kernel
theorem d_M_turn_16 : decode b_M_turn 16 = .ok (.iconst 3, 1) := by decide +kernel
theorem d_M_turn_17 : decode b_M_turn 17 = .ok (.lload 5, 2) := by decide +kernel
theorem d_M_turn_19 : decode b_M_turn 19 = .ok (.lneg, 1) := by decide +kernel
theorem d_M_turn_20 : decode b_M_turn 20 = .ok (.iconst 1, 1) := by decide +kernel
theorem d_M_turn_21 : decode b_M_turn 21 = .ok (.lconst 0, 1) := by decide +kernel
theorem d_M_turn_22 : decode b_M_turn 22 = .ok (.iconst 1, 1) := by decide +kernel
theorem d_M_turn_23 : decode b_M_turn 23 = .ok (.invokevirtual 69, 3) := by decide +kernel
theorem d_M_turn_26 : decode b_M_turn 26 = .ok (.aload_n 0, 1) := by decide +kernel
theorem d_M_turn_27 : decode b_M_turn 27 = .ok (.iconst 4, 1) := by decide +kernel
theorem d_M_turn_28 : decode b_M_turn 28 = .ok (.lload_n 1, 1) := by decide +kernel
theorem d_M_turn_29 : decode b_M_turn 29 = .ok (.iconst 1, 1) := by decide +kernel
theorem d_M_turn_30 : decode b_M_turn 30 = .ok (.lconst 0, 1) := by decide +kernel
theorem d_M_turn_31 : decode b_M_turn 31 = .ok (.iconst 1, 1) := by decide +kernel
theorem d_M_turn_32 : decode b_M_turn 32 = .ok (.invokevirtual 69, 3) := by decide +kernel
theorem d_M_turn_35 : decode b_M_turn 35 = .ok (.aload_n 0, 1) := by decide +kernel
theorem d_M_turn_36 : decode b_M_turn 36 = .ok (.iconst 5, 1) := by decide +kernel
theorem d_M_turn_37 : decode b_M_turn 37 = .ok (.lconst 1, 1) := by decide +kernel
theorem d_M_turn_38 : decode b_M_turn 38 = .ok (.iconst 0, 1) := by decide +kernel
theorem d_M_turn_39 : decode b_M_turn 39 = .ok (.lload_n 3, 1) := by decide +kernel
theorem d_M_turn_40 : decode b_M_turn 40 = .ok (.iconst 1, 1) := by decide +kernel
theorem d_M_turn_41 : decode b_M_turn 41 = .ok (.invokevirtual 69, 3) := by decide +kernel
theorem d_M_turn_44 : decode b_M_turn 44 = .ok (.aload_n 0, 1) := by decide +kernel
theorem d_M_turn_45 : decode b_M_turn 45 = .ok (.iconst 5, 1) := by decide +kernel
theorem d_M_turn_46 : decode b_M_turn 46 = .ok (.invokevirtual 80, 3) := by decide +kernel
theorem d_M_turn_49 : decode b_M_turn 49 = .ok (.return_, 1) := by decide +kernel
theorem d_M_take_0 : decode b_M_take 0 = .ok (.iload_n 1, 1) := by decide +kernel
theorem d_M_take_1 : decode b_M_take 1 = .ok (.ifCond .ge 7, 3) := by decide +kernel
theorem d_M_take_4 : decode b_M_take 4 = .ok (.lconst 0, 1) := by decide +kernel
theorem d_M_take_5 : decode b_M_take 5 = .ok (.goto 8, 3) := by decide +kernel
theorem d_M_take_8 : decode b_M_take 8 = .ok (.iload_n 1, 1) := by decide +kernel
theorem d_M_take_9 : decode b_M_take 9 = .ok (.i2l, 1) := by decide +kernel
theorem d_M_take_10 : decode b_M_take 10 = .ok (.invokestatic 65, 3) := by decide +kernel
theorem d_M_take_13 : decode b_M_take 13 = .ok (.lstore_n 2, 1) := by decide +kernel
theorem d_M_take_14 : decode b_M_take 14 = .ok (.iload_n 1, 1) := by decide +kernel
theorem d_M_take_15 : decode b_M_take 15 = .ok (.iconst 4, 1) := by decide +kernel
theorem d_M_take_16 : decode b_M_take 16 = .ok (.irem, 1) := by decide +kernel
theorem d_M_take_17 : decode b_M_take 17 = .ok (.ifCond .ge 11, 3) := by decide +kernel
theorem d_M_take_20 : decode b_M_take 20 = .ok (.iload_n 1, 1) := by decide +kernel
theorem d_M_take_21 : decode b_M_take 21 = .ok (.iconst 4, 1) := by decide +kernel
theorem d_M_take_22 : decode b_M_take 22 = .ok (.irem, 1) := by decide +kernel
theorem d_M_take_23 : decode b_M_take 23 = .ok (.iconst 4, 1) := by decide +kernel
theorem d_M_take_24 : decode b_M_take 24 = .ok (.iadd, 1) := by decide +kernel
theorem d_M_take_25 : decode b_M_take 25 = .ok (.goto 6, 3) := by decide +kernel
theorem d_M_take_28 : decode b_M_take 28 = .ok (.iload_n 1, 1) := by decide +kernel
theorem d_M_take_29 : decode b_M_take 29 = .ok (.iconst 4, 1) := by decide +kernel
theorem d_M_take_30 : decode b_M_take 30 = .ok (.irem, 1) := by decide +kernel
theorem d_M_take_31 : decode b_M_take 31 = .ok (.istore 4, 2) := by decide +kernel
theorem d_M_take_33 : decode b_M_take 33 = .ok (.aload_n 0, 1) := by decide +kernel
theorem d_M_take_34 : decode b_M_take 34 = .ok (.iload_n 1, 1) := by decide +kernel
theorem d_M_take_35 : decode b_M_take 35 = .ok (.i2l, 1) := by decide +kernel
theorem d_M_take_36 : decode b_M_take 36 = .ok (.ldc2_w 84, 3) := by decide +kernel
theorem d_M_take_39 : decode b_M_take 39 = .ok (.ldc2_w 86, 3) := by decide +kernel
theorem d_M_take_42 : decode b_M_take 42 = .ok (.invokestatic 88, 3) := by decide +kernel
theorem d_M_take_45 : decode b_M_take 45 = .ok (.ifCond .eq 26, 3) := by decide +kernel
theorem d_M_take_48 : decode b_M_take 48 = .ok (.iload 4, 2) := by decide +kernel
theorem d_M_take_50 : decode b_M_take 50 = .ok (.iconst 2, 1) := by decide +kernel
theorem d_M_take_51 : decode b_M_take 51 = .ok (.if_icmp .ge 20, 3) := by decide +kernel
theorem d_M_take_54 : decode b_M_take 54 = .ok (.iload_n 1, 1) := by decide +kernel
theorem d_M_take_55 : decode b_M_take 55 = .ok (.ifCond .lt 12, 3) := by decide +kernel
theorem d_M_take_58 : decode b_M_take 58 = .ok (.lload_n 2, 1) := by decide +kernel
theorem d_M_take_59 : decode b_M_take 59 = .ok (.lload_n 2, 1) := by decide +kernel
theorem d_M_take_60 : decode b_M_take 60 = .ok (.lmul, 1) := by decide +kernel
theorem d_M_take_61 : decode b_M_take 61 = .ok (.iload_n 1, 1) := by decide +kernel
theorem d_M_take_62 : decode b_M_take 62 = .ok (.i2l, 1) := by decide +kernel
theorem d_M_take_63 : decode b_M_take 63 = .ok (.lcmp, 1) := by decide +kernel
theorem d_M_take_64 : decode b_M_take 64 = .ok (.ifCond .eq 7, 3) := by decide +kernel
theorem d_M_take_67 : decode b_M_take 67 = .ok (.iconst 0, 1) := by decide +kernel
theorem d_M_take_68 : decode b_M_take 68 = .ok (.goto 4, 3) := by decide +kernel
theorem d_M_take_71 : decode b_M_take 71 = .ok (.iconst 1, 1) := by decide +kernel
theorem d_M_take_72 : decode b_M_take 72 = .ok (.putfield 23, 3) := by decide +kernel
theorem d_M_take_75 : decode b_M_take 75 = .ok (.aload_n 0, 1) := by decide +kernel
theorem d_M_take_76 : decode b_M_take 76 = .ok (.getfield 23, 3) := by decide +kernel
theorem d_M_take_79 : decode b_M_take 79 = .ok (.ifCond .le 5, 3) := by decide +kernel
theorem d_M_take_82 : decode b_M_take 82 = .ok (.iconst 0, 1) := by decide +kernel
theorem d_M_take_83 : decode b_M_take 83 = .ok (.ireturn, 1) := by decide +kernel
theorem d_M_take_84 : decode b_M_take 84 = .ok (.aload_n 0, 1) := by decide +kernel
theorem d_M_take_85 : decode b_M_take 85 = .ok (.iload_n 1, 1) := by decide +kernel
theorem d_M_take_86 : decode b_M_take 86 = .ok (.i2l, 1) := by decide +kernel
theorem d_M_take_87 : decode b_M_take 87 = .ok (.invokevirtual 19, 3) := by decide +kernel
theorem d_M_take_90 : decode b_M_take 90 = .ok (.aload_n 0, 1) := by decide +kernel
theorem d_M_take_91 : decode b_M_take 91 = .ok (.iconst 0, 1) := by decide +kernel
theorem d_M_take_92 : decode b_M_take 92 = .ok (.invokevirtual 92, 3) := by decide +kernel
theorem d_M_take_95 : decode b_M_take 95 = .ok (.ireturn, 1) := by decide +kernel
theorem d_M_count_0 : decode b_M_count 0 = .ok (.aload_n 0, 1) := by decide +kernel
theorem d_M_count_1 : decode b_M_count 1 = .ok (.iconst 0, 1) := by decide +kernel
theorem d_M_count_2 : decode b_M_count 2 = .ok (.putfield 23, 3) := by decide +kernel
theorem d_M_count_5 : decode b_M_count 5 = .ok (.iload_n 1, 1) := by decide +kernel
theorem d_M_count_6 : decode b_M_count 6 = .ok (.tableswitch 100 0 3 #[30, 36, 41, 54], 30) := by decide +kernel
theorem d_M_count_36 : decode b_M_count 36 = .ok (.aload_n 0, 1) := by decide +kernel
theorem d_M_count_37 : decode b_M_count 37 = .ok (.getfield 9, 3) := by decide +kernel
theorem d_M_count_40 : decode b_M_count 40 = .ok (.l2i, 1) := by decide +kernel
theorem d_M_count_41 : decode b_M_count 41 = .ok (.ireturn, 1) := by decide +kernel
theorem d_M_count_42 : decode b_M_count 42 = .ok (.aload_n 0, 1) := by decide +kernel
theorem d_M_count_43 : decode b_M_count 43 = .ok (.getfield 41, 3) := by decide +kernel
theorem d_M_count_46 : decode b_M_count 46 = .ok (.ireturn, 1) := by decide +kernel
theorem d_M_count_47 : decode b_M_count 47 = .ok (.aload_n 0, 1) := by decide +kernel
theorem d_M_count_48 : decode b_M_count 48 = .ok (.getfield 44, 3) := by decide +kernel
theorem d_M_count_51 : decode b_M_count 51 = .ok (.ifCond .eq 7, 3) := by decide +kernel
theorem d_M_count_54 : decode b_M_count 54 = .ok (.iconst 1, 1) := by decide +kernel
theorem d_M_count_55 : decode b_M_count 55 = .ok (.goto 4, 3) := by decide +kernel
theorem d_M_count_58 : decode b_M_count 58 = .ok (.iconst 0, 1) := by decide +kernel
theorem d_M_count_59 : decode b_M_count 59 = .ok (.ireturn, 1) := by decide +kernel
theorem d_M_count_60 : decode b_M_count 60 = .ok (.aload_n 0, 1) := by decide +kernel
theorem d_M_count_61 : decode b_M_count 61 = .ok (.getfield 9, 3) := by decide +kernel
theorem d_M_count_64 : decode b_M_count 64 = .ok (.lconst 0, 1) := by decide +kernel
theorem d_M_count_65 : decode b_M_count 65 = .ok (.lcmp, 1) := by decide +kernel
theorem d_M_count_66 : decode b_M_count 66 = .ok (.ifCond .le 7, 3) := by decide +kernel
theorem d_M_count_69 : decode b_M_count 69 = .ok (.iconst (-1), 1) := by decide +kernel
theorem d_M_count_70 : decode b_M_count 70 = .ok (.goto 35, 3) := by decide +kernel
theorem d_M_count_73 : decode b_M_count 73 = .ok (.aload_n 0, 1) := by decide +kernel
theorem d_M_count_74 : decode b_M_count 74 = .ok (.getfield 9, 3) := by decide +kernel
theorem d_M_count_77 : decode b_M_count 77 = .ok (.ldc2_w 52, 3) := by decide +kernel
theorem d_M_count_80 : decode b_M_count 80 = .ok (.lcmp, 1) := by decide +kernel
theorem d_M_count_81 : decode b_M_count 81 = .ok (.ifCond .ne 8, 3) := by decide +kernel
theorem d_M_count_84 : decode b_M_count 84 = .ok (.bipush 6, 2) := by decide +kernel
theorem d_M_count_86 : decode b_M_count 86 = .ok (.goto 19, 3) := by decide +kernel
theorem d_M_count_89 : decode b_M_count 89 = .ok (.aload_n 0, 1) := by decide +kernel
theorem d_M_count_90 : decode b_M_count 90 = .ok (.getfield 9, 3) := by decide +kernel
theorem d_M_count_93 : decode b_M_count 93 = .ok (.ldc2_w 7, 3) := by decide +kernel
theorem d_M_count_96 : decode b_M_count 96 = .ok (.lcmp, 1) := by decide +kernel
theorem d_M_count_97 : decode b_M_count 97 = .ok (.ifCond .ne 7, 3) := by decide +kernel
theorem d_M_count_100 : decode b_M_count 100 = .ok (.iconst 4, 1) := by decide +kernel
theorem d_M_count_101 : decode b_M_count 101 = .ok (.goto 4, 3) := by decide +kernel
theorem d_M_count_104 : decode b_M_count 104 = .ok (.iconst 2, 1) := by decide +kernel
theorem d_M_count_105 : decode b_M_count 105 = .ok (.ireturn, 1) := by decide +kernel
theorem d_M_count_106 : decode b_M_count 106 = .ok (.iconst (-1), 1) := by decide +kernel
theorem d_M_count_107 : decode b_M_count 107 = .ok (.ireturn, 1) := by decide +kernel
theorem d_M_common_0 : decode b_M_common 0 = .ok (.lload_n 0, 1) := by decide +kernel
theorem d_M_common_1 : decode b_M_common 1 = .ok (.lconst 0, 1) := by decide +kernel
theorem d_M_common_2 : decode b_M_common 2 = .ok (.lcmp, 1) := by decide +kernel
theorem d_M_common_3 : decode b_M_common 3 = .ok (.ifCond .ge 8, 3) := by decide +kernel
theorem d_M_common_6 : decode b_M_common 6 = .ok (.lload_n 0, 1) := by decide +kernel
theorem d_M_common_7 : decode b_M_common 7 = .ok (.lneg, 1) := by decide +kernel
theorem d_M_common_8 : decode b_M_common 8 = .ok (.goto 4, 3) := by decide +kernel
theorem d_M_common_11 : decode b_M_common 11 = .ok (.lload_n 0, 1) := by decide +kernel
theorem d_M_common_12 : decode b_M_common 12 = .ok (.lstore 4, 2) := by decide +kernel
theorem d_M_common_14 : decode b_M_common 14 = .ok (.lload_n 2, 1) := by decide +kernel
theorem d_M_common_15 : decode b_M_common 15 = .ok (.lconst 0, 1) := by decide +kernel
theorem d_M_common_16 : decode b_M_common 16 = .ok (.lcmp, 1) := by decide +kernel
theorem d_M_common_17 : decode b_M_common 17 = .ok (.ifCond .ge 8, 3) := by decide +kernel
theorem d_M_common_20 : decode b_M_common 20 = .ok (.lload_n 2, 1) := by decide +kernel
theorem d_M_common_21 : decode b_M_common 21 = .ok (.lneg, 1) := by decide +kernel
theorem d_M_common_22 : decode b_M_common 22 = .ok (.goto 4, 3) := by decide +kernel
theorem d_M_common_25 : decode b_M_common 25 = .ok (.lload_n 2, 1) := by decide +kernel
theorem d_M_common_26 : decode b_M_common 26 = .ok (.lstore 6, 2) := by decide +kernel
theorem d_M_common_28 : decode b_M_common 28 = .ok (.lload 6, 2) := by decide +kernel
theorem d_M_common_30 : decode b_M_common 30 = .ok (.lconst 0, 1) := by decide +kernel
theorem d_M_common_31 : decode b_M_common 31 = .ok (.lcmp, 1) := by decide +kernel
theorem d_M_common_32 : decode b_M_common 32 = .ok (.ifCond .le 21, 3) := by decide +kernel
theorem d_M_common_35 : decode b_M_common 35 = .ok (.lload 4, 2) := by decide +kernel
theorem d_M_common_37 : decode b_M_common 37 = .ok (.lload 6, 2) := by decide +kernel
theorem d_M_common_39 : decode b_M_common 39 = .ok (.lrem, 1) := by decide +kernel
theorem d_M_common_40 : decode b_M_common 40 = .ok (.lstore 8, 2) := by decide +kernel
theorem d_M_common_42 : decode b_M_common 42 = .ok (.lload 6, 2) := by decide +kernel
theorem d_M_common_44 : decode b_M_common 44 = .ok (.lstore 4, 2) := by decide +kernel
theorem d_M_common_46 : decode b_M_common 46 = .ok (.lload 8, 2) := by decide +kernel
theorem d_M_common_48 : decode b_M_common 48 = .ok (.lstore 6, 2) := by decide +kernel
theorem d_M_common_50 : decode b_M_common 50 = .ok (.goto (-22), 3) := by decide +kernel
theorem d_M_common_53 : decode b_M_common 53 = .ok (.lload 4, 2) := by decide +kernel
theorem d_M_common_55 : decode b_M_common 55 = .ok (.lreturn, 1) := by decide +kernel
theorem d_M_ask_0 : decode b_M_ask 0 = .ok (.iload_n 1, 1) := by decide +kernel
theorem d_M_ask_1 : decode b_M_ask 1 = .ok (.i2l, 1) := by decide +kernel
theorem d_M_ask_2 : decode b_M_ask 2 = .ok (.ldc2_w 95, 3) := by decide +kernel
theorem d_M_ask_5 : decode b_M_ask 5 = .ok (.ldc2_w 97, 3) := by decide +kernel
theorem d_M_ask_8 : decode b_M_ask 8 = .ok (.invokestatic 88, 3) := by decide +kernel
theorem d_M_ask_11 : decode b_M_ask 11 = .ok (.ifCond .eq 35, 3) := by decide +kernel
theorem d_M_ask_14 : decode b_M_ask 14 = .ok (.iload_n 2, 1) := by decide +kernel
theorem d_M_ask_15 : decode b_M_ask 15 = .ok (.i2l, 1) := by decide +kernel
theorem d_M_ask_16 : decode b_M_ask 16 = .ok (.ldc2_w 95, 3) := by decide +kernel
theorem d_M_ask_19 : decode b_M_ask 19 = .ok (.ldc2_w 97, 3) := by decide +kernel
theorem d_M_ask_22 : decode b_M_ask 22 = .ok (.invokestatic 88, 3) := by decide +kernel
theorem d_M_ask_25 : decode b_M_ask 25 = .ok (.ifCond .eq 21, 3) := by decide +kernel
theorem d_M_ask_28 : decode b_M_ask 28 = .ok (.iload_n 3, 1) := by decide +kernel
theorem d_M_ask_29 : decode b_M_ask 29 = .ok (.i2l, 1) := by decide +kernel
theorem d_M_ask_30 : decode b_M_ask 30 = .ok (.ldc2_w 95, 3) := by decide +kernel
theorem d_M_ask_33 : decode b_M_ask 33 = .ok (.ldc2_w 97, 3) := by decide +kernel
theorem d_M_ask_36 : decode b_M_ask 36 = .ok (.invokestatic 88, 3) := by decide +kernel
theorem d_M_ask_39 : decode b_M_ask 39 = .ok (.ifCond .eq 7, 3) := by decide +kernel
theorem d_M_ask_42 : decode b_M_ask 42 = .ok (.iconst 1, 1) := by decide +kernel
theorem d_M_ask_43 : decode b_M_ask 43 = .ok (.goto 4, 3) := by decide +kernel
theorem d_M_ask_46 : decode b_M_ask 46 = .ok (.iconst 0, 1) := by decide +kernel
theorem d_M_ask_47 : decode b_M_ask 47 = .ok (.istore 4, 2) := by decide +kernel
theorem d_M_ask_49 : decode b_M_ask 49 = .ok (.iload 4, 2) := by decide +kernel
theorem d_M_ask_51 : decode b_M_ask 51 = .ok (.ifCond .eq 47, 3) := by decide +kernel
theorem d_M_ask_54 : decode b_M_ask 54 = .ok (.iload_n 2, 1) := by decide +kernel
theorem d_M_ask_55 : decode b_M_ask 55 = .ok (.i2l, 1) := by decide +kernel
theorem d_M_ask_56 : decode b_M_ask 56 = .ok (.iload_n 2, 1) := by decide +kernel
theorem d_M_ask_57 : decode b_M_ask 57 = .ok (.i2l, 1) := by decide +kernel
theorem d_M_ask_58 : decode b_M_ask 58 = .ok (.lmul, 1) := by decide +kernel
theorem d_M_ask_59 : decode b_M_ask 59 = .ok (.ldc2_w 59, 3) := by decide +kernel
theorem d_M_ask_62 : decode b_M_ask 62 = .ok (.iload_n 1, 1) := by decide +kernel
theorem d_M_ask_63 : decode b_M_ask 63 = .ok (.i2l, 1) := by decide +kernel
theorem d_M_ask_64 : decode b_M_ask 64 = .ok (.lmul, 1) := by decide +kernel
theorem d_M_ask_65 : decode b_M_ask 65 = .ok (.iload_n 3, 1) := by decide +kernel
theorem d_M_ask_66 : decode b_M_ask 66 = .ok (.i2l, 1) := by decide +kernel
theorem d_M_ask_67 : decode b_M_ask 67 = .ok (.lmul, 1) := by decide +kernel
theorem d_M_ask_68 : decode b_M_ask 68 = .ok (.lsub, 1) := by decide +kernel
theorem d_M_ask_69 : decode b_M_ask 69 = .ok (.aload_n 0, 1) := by decide +kernel
theorem d_M_ask_70 : decode b_M_ask 70 = .ok (.getfield 9, 3) := by decide +kernel
theorem d_M_ask_73 : decode b_M_ask 73 = .ok (.lcmp, 1) := by decide +kernel
theorem d_M_ask_74 : decode b_M_ask 74 = .ok (.ifCond .ne 24, 3) := by decide +kernel
theorem d_M_ask_77 : decode b_M_ask 77 = .ok (.iload_n 1, 1) := by decide +kernel
theorem d_M_ask_78 : decode b_M_ask 78 = .ok (.i2l, 1) := by decide +kernel
theorem d_M_ask_79 : decode b_M_ask 79 = .ok (.iload_n 2, 1) := by decide +kernel
theorem d_M_ask_80 : decode b_M_ask 80 = .ok (.i2l, 1) := by decide +kernel
theorem d_M_ask_81 : decode b_M_ask 81 = .ok (.invokestatic 99, 3) := by decide +kernel
theorem d_M_ask_84 : decode b_M_ask 84 = .ok (.iload_n 3, 1) := by decide +kernel
theorem d_M_ask_85 : decode b_M_ask 85 = .ok (.i2l, 1) := by decide +kernel
theorem d_M_ask_86 : decode b_M_ask 86 = .ok (.invokestatic 99, 3) := by decide +kernel
theorem d_M_ask_89 : decode b_M_ask 89 = .ok (.lconst 1, 1) := by decide +kernel
theorem d_M_ask_90 : decode b_M_ask 90 = .ok (.lcmp, 1) := by decide +kernel
theorem d_M_ask_91 : decode b_M_ask 91 = .ok (.ifCond .ne 7, 3) := by decide +kernel
theorem d_M_ask_94 : decode b_M_ask 94 = .ok (.iconst 1, 1) := by decide +kernel
theorem d_M_ask_95 : decode b_M_ask 95 = .ok (.goto 4, 3) := by decide +kernel
theorem d_M_ask_98 : decode b_M_ask 98 = .ok (.iconst 0, 1) := by decide +kernel
theorem d_M_ask_99 : decode b_M_ask 99 = .ok (.istore 4, 2) := by decide +kernel
theorem d_M_ask_101 : decode b_M_ask 101 = .ok (.aload_n 0, 1) := by decide +kernel
theorem d_M_ask_102 : decode b_M_ask 102 = .ok (.iload 4, 2) := by decide +kernel
theorem d_M_ask_104 : decode b_M_ask 104 = .ok (.ifCond .eq 7, 3) := by decide +kernel
theorem d_M_ask_107 : decode b_M_ask 107 = .ok (.iconst 0, 1) := by decide +kernel
theorem d_M_ask_108 : decode b_M_ask 108 = .ok (.goto 4, 3) := by decide +kernel
theorem d_M_ask_111 : decode b_M_ask 111 = .ok (.iconst 1, 1) := by decide +kernel
theorem d_M_ask_112 : decode b_M_ask 112 = .ok (.putfield 23, 3) := by decide +kernel
theorem d_M_ask_115 : decode b_M_ask 115 = .ok (.iload 4, 2) := by decide +kernel
theorem d_M_ask_117 : decode b_M_ask 117 = .ok (.ifCond .eq 13, 3) := by decide +kernel
theorem d_M_ask_120 : decode b_M_ask 120 = .ok (.aload_n 0, 1) := by decide +kernel
theorem d_M_ask_121 : decode b_M_ask 121 = .ok (.iload_n 1, 1) := by decide +kernel
theorem d_M_ask_122 : decode b_M_ask 122 = .ok (.i2l, 1) := by decide +kernel
theorem d_M_ask_123 : decode b_M_ask 123 = .ok (.iload_n 2, 1) := by decide +kernel
theorem d_M_ask_124 : decode b_M_ask 124 = .ok (.i2l, 1) := by decide +kernel
theorem d_M_ask_125 : decode b_M_ask 125 = .ok (.iload_n 3, 1) := by decide +kernel
theorem d_M_ask_126 : decode b_M_ask 126 = .ok (.i2l, 1) := by decide +kernel
theorem d_M_ask_127 : decode b_M_ask 127 = .ok (.invokevirtual 61, 3) := by decide +kernel
theorem d_M_ask_130 : decode b_M_ask 130 = .ok (.return_, 1) := by decide +kernel
theorem d_M_times_0 : decode b_M_times 0 = .ok (.aload_n 0, 1) := by decide +kernel
theorem d_M_times_1 : decode b_M_times 1 = .ok (.getfield 103, 3) := by decide +kernel
theorem d_M_times_4 : decode b_M_times 4 = .ok (.lload_n 1, 1) := by decide +kernel
theorem d_M_times_5 : decode b_M_times 5 = .ok (.lmul, 1) := by decide +kernel
theorem d_M_times_6 : decode b_M_times 6 = .ok (.lload 9, 2) := by decide +kernel
theorem d_M_times_8 : decode b_M_times 8 = .ok (.lrem, 1) := by decide +kernel
theorem d_M_times_9 : decode b_M_times 9 = .ok (.aload_n 0, 1) := by decide +kernel
theorem d_M_times_10 : decode b_M_times 10 = .ok (.getfield 106, 3) := by decide +kernel
theorem d_M_times_13 : decode b_M_times 13 = .ok (.lload 5, 2) := by decide +kernel
theorem d_M_times_15 : decode b_M_times 15 = .ok (.lmul, 1) := by decide +kernel
theorem d_M_times_16 : decode b_M_times 16 = .ok (.lload 9, 2) := by decide +kernel
theorem d_M_times_18 : decode b_M_times 18 = .ok (.lrem, 1) := by decide +kernel
theorem d_M_times_19 : decode b_M_times 19 = .ok (.ladd, 1) := by decide +kernel
theorem d_M_times_20 : decode b_M_times 20 = .ok (.lload 9, 2) := by decide +kernel
theorem d_M_times_22 : decode b_M_times 22 = .ok (.lrem, 1) := by decide +kernel
theorem d_M_times_23 : decode b_M_times 23 = .ok (.lstore 11, 2) := by decide +kernel
theorem d_M_times_25 : decode b_M_times 25 = .ok (.aload_n 0, 1) := by decide +kernel
theorem d_M_times_26 : decode b_M_times 26 = .ok (.getfield 103, 3) := by decide +kernel
theorem d_M_times_29 : decode b_M_times 29 = .ok (.lload_n 3, 1) := by decide +kernel
theorem d_M_times_30 : decode b_M_times 30 = .ok (.lmul, 1) := by decide +kernel
theorem d_M_times_31 : decode b_M_times 31 = .ok (.lload 9, 2) := by decide +kernel
theorem d_M_times_33 : decode b_M_times 33 = .ok (.lrem, 1) := by decide +kernel
theorem d_M_times_34 : decode b_M_times 34 = .ok (.aload_n 0, 1) := by decide +kernel
theorem d_M_times_35 : decode b_M_times 35 = .ok (.getfield 106, 3) := by decide +kernel
theorem d_M_times_38 : decode b_M_times 38 = .ok (.lload 7, 2) := by decide +kernel
theorem d_M_times_40 : decode b_M_times 40 = .ok (.lmul, 1) := by decide +kernel
theorem d_M_times_41 : decode b_M_times 41 = .ok (.lload 9, 2) := by decide +kernel
theorem d_M_times_43 : decode b_M_times 43 = .ok (.lrem, 1) := by decide +kernel
theorem d_M_times_44 : decode b_M_times 44 = .ok (.ladd, 1) := by decide +kernel
theorem d_M_times_45 : decode b_M_times 45 = .ok (.lload 9, 2) := by decide +kernel
theorem d_M_times_47 : decode b_M_times 47 = .ok (.lrem, 1) := by decide +kernel
theorem d_M_times_48 : decode b_M_times 48 = .ok (.lstore 13, 2) := by decide +kernel
theorem d_M_times_50 : decode b_M_times 50 = .ok (.aload_n 0, 1) := by decide +kernel
theorem d_M_times_51 : decode b_M_times 51 = .ok (.getfield 109, 3) := by decide +kernel
theorem d_M_times_54 : decode b_M_times 54 = .ok (.lload_n 1, 1) := by decide +kernel
theorem d_M_times_55 : decode b_M_times 55 = .ok (.lmul, 1) := by decide +kernel
theorem d_M_times_56 : decode b_M_times 56 = .ok (.lload 9, 2) := by decide +kernel
theorem d_M_times_58 : decode b_M_times 58 = .ok (.lrem, 1) := by decide +kernel
theorem d_M_times_59 : decode b_M_times 59 = .ok (.aload_n 0, 1) := by decide +kernel
theorem d_M_times_60 : decode b_M_times 60 = .ok (.getfield 112, 3) := by decide +kernel
theorem d_M_times_63 : decode b_M_times 63 = .ok (.lload 5, 2) := by decide +kernel
theorem d_M_times_65 : decode b_M_times 65 = .ok (.lmul, 1) := by decide +kernel
theorem d_M_times_66 : decode b_M_times 66 = .ok (.lload 9, 2) := by decide +kernel
theorem d_M_times_68 : decode b_M_times 68 = .ok (.lrem, 1) := by decide +kernel
theorem d_M_times_69 : decode b_M_times 69 = .ok (.ladd, 1) := by decide +kernel
theorem d_M_times_70 : decode b_M_times 70 = .ok (.lload 9, 2) := by decide +kernel
theorem d_M_times_72 : decode b_M_times 72 = .ok (.lrem, 1) := by decide +kernel
theorem d_M_times_73 : decode b_M_times 73 = .ok (.lstore 15, 2) := by decide +kernel
theorem d_M_times_75 : decode b_M_times 75 = .ok (.aload_n 0, 1) := by decide +kernel
theorem d_M_times_76 : decode b_M_times 76 = .ok (.getfield 109, 3) := by decide +kernel
theorem d_M_times_79 : decode b_M_times 79 = .ok (.lload_n 3, 1) := by decide +kernel
theorem d_M_times_80 : decode b_M_times 80 = .ok (.lmul, 1) := by decide +kernel
theorem d_M_times_81 : decode b_M_times 81 = .ok (.lload 9, 2) := by decide +kernel
theorem d_M_times_83 : decode b_M_times 83 = .ok (.lrem, 1) := by decide +kernel
theorem d_M_times_84 : decode b_M_times 84 = .ok (.aload_n 0, 1) := by decide +kernel
theorem d_M_times_85 : decode b_M_times 85 = .ok (.getfield 112, 3) := by decide +kernel
theorem d_M_times_88 : decode b_M_times 88 = .ok (.lload 7, 2) := by decide +kernel
theorem d_M_times_90 : decode b_M_times 90 = .ok (.lmul, 1) := by decide +kernel
theorem d_M_times_91 : decode b_M_times 91 = .ok (.lload 9, 2) := by decide +kernel
theorem d_M_times_93 : decode b_M_times 93 = .ok (.lrem, 1) := by decide +kernel
theorem d_M_times_94 : decode b_M_times 94 = .ok (.ladd, 1) := by decide +kernel
theorem d_M_times_95 : decode b_M_times 95 = .ok (.lload 9, 2) := by decide +kernel
theorem d_M_times_97 : decode b_M_times 97 = .ok (.lrem, 1) := by decide +kernel
theorem d_M_times_98 : decode b_M_times 98 = .ok (.lstore 17, 2) := by decide +kernel
theorem d_M_times_100 : decode b_M_times 100 = .ok (.aload_n 0, 1) := by decide +kernel
theorem d_M_times_101 : decode b_M_times 101 = .ok (.lload 11, 2) := by decide +kernel
theorem d_M_times_103 : decode b_M_times 103 = .ok (.putfield 103, 3) := by decide +kernel
theorem d_M_times_106 : decode b_M_times 106 = .ok (.aload_n 0, 1) := by decide +kernel
theorem d_M_times_107 : decode b_M_times 107 = .ok (.lload 13, 2) := by decide +kernel
theorem d_M_times_109 : decode b_M_times 109 = .ok (.putfield 106, 3) := by decide +kernel
theorem d_M_times_112 : decode b_M_times 112 = .ok (.aload_n 0, 1) := by decide +kernel
theorem d_M_times_113 : decode b_M_times 113 = .ok (.lload 15, 2) := by decide +kernel
theorem d_M_times_115 : decode b_M_times 115 = .ok (.putfield 109, 3) := by decide +kernel
theorem d_M_times_118 : decode b_M_times 118 = .ok (.aload_n 0, 1) := by decide +kernel
theorem d_M_times_119 : decode b_M_times 119 = .ok (.lload 17, 2) := by decide +kernel
theorem d_M_times_121 : decode b_M_times 121 = .ok (.putfield 112, 3) := by decide +kernel
theorem d_M_times_124 : decode b_M_times 124 = .ok (.return_, 1) := by decide +kernel
theorem d_M_power_0 : decode b_M_power 0 = .ok (.aload_n 0, 1) := by decide +kernel
theorem d_M_power_1 : decode b_M_power 1 = .ok (.iload_n 1, 1) := by decide +kernel
theorem d_M_power_2 : decode b_M_power 2 = .ok (.ifCond .lt 18, 3) := by decide +kernel
theorem d_M_power_5 : decode b_M_power 5 = .ok (.iload_n 2, 1) := by decide +kernel
theorem d_M_power_6 : decode b_M_power 6 = .ok (.iconst 1, 1) := by decide +kernel
theorem d_M_power_7 : decode b_M_power 7 = .ok (.if_icmp .lt 13, 3) := by decide +kernel
theorem d_M_power_10 : decode b_M_power 10 = .ok (.iload_n 3, 1) := by decide +kernel
theorem d_M_power_11 : decode b_M_power 11 = .ok (.i2l, 1) := by decide +kernel
theorem d_M_power_12 : decode b_M_power 12 = .ok (.lconst 0, 1) := by decide +kernel
theorem d_M_power_13 : decode b_M_power 13 = .ok (.lconst 1, 1) := by decide +kernel
theorem d_M_power_14 : decode b_M_power 14 = .ok (.invokestatic 88, 3) := by decide +kernel
theorem d_M_power_17 : decode b_M_power 17 = .ok (.ifCond .ne 7, 3) := by decide +kernel
theorem d_M_power_20 : decode b_M_power 20 = .ok (.iconst 1, 1) := by decide +kernel
theorem d_M_power_21 : decode b_M_power 21 = .ok (.goto 4, 3) := by decide +kernel
theorem d_M_power_24 : decode b_M_power 24 = .ok (.iconst 0, 1) := by decide +kernel
theorem d_M_power_25 : decode b_M_power 25 = .ok (.putfield 23, 3) := by decide +kernel
theorem d_M_power_28 : decode b_M_power 28 = .ok (.aload_n 0, 1) := by decide +kernel
theorem d_M_power_29 : decode b_M_power 29 = .ok (.getfield 23, 3) := by decide +kernel
theorem d_M_power_32 : decode b_M_power 32 = .ok (.ifCond .le 5, 3) := by decide +kernel
theorem d_M_power_35 : decode b_M_power 35 = .ok (.iconst 0, 1) := by decide +kernel
theorem d_M_power_36 : decode b_M_power 36 = .ok (.ireturn, 1) := by decide +kernel
theorem d_M_power_37 : decode b_M_power 37 = .ok (.aload_n 0, 1) := by decide +kernel
theorem d_M_power_38 : decode b_M_power 38 = .ok (.iconst 0, 1) := by decide +kernel
theorem d_M_power_39 : decode b_M_power 39 = .ok (.iload_n 2, 1) := by decide +kernel
theorem d_M_power_40 : decode b_M_power 40 = .ok (.i2l, 1) := by decide +kernel
theorem d_M_power_41 : decode b_M_power 41 = .ok (.invokevirtual 115, 3) := by decide +kernel
theorem d_M_power_44 : decode b_M_power 44 = .ok (.lstore 4, 2) := by decide +kernel
theorem d_M_power_46 : decode b_M_power 46 = .ok (.aload_n 0, 1) := by decide +kernel
theorem d_M_power_47 : decode b_M_power 47 = .ok (.iconst 1, 1) := by decide +kernel
theorem d_M_power_48 : decode b_M_power 48 = .ok (.iload_n 2, 1) := by decide +kernel
theorem d_M_power_49 : decode b_M_power 49 = .ok (.i2l, 1) := by decide +kernel
theorem d_M_power_50 : decode b_M_power 50 = .ok (.invokevirtual 115, 3) := by decide +kernel
theorem d_M_power_53 : decode b_M_power 53 = .ok (.lstore 6, 2) := by decide +kernel
theorem d_M_power_55 : decode b_M_power 55 = .ok (.aload_n 0, 1) := by decide +kernel
theorem d_M_power_56 : decode b_M_power 56 = .ok (.lconst 1, 1) := by decide +kernel
theorem d_M_power_57 : decode b_M_power 57 = .ok (.iload_n 2, 1) := by decide +kernel
theorem d_M_power_58 : decode b_M_power 58 = .ok (.i2l, 1) := by decide +kernel
theorem d_M_power_59 : decode b_M_power 59 = .ok (.lrem, 1) := by decide +kernel
theorem d_M_power_60 : decode b_M_power 60 = .ok (.putfield 103, 3) := by decide +kernel
theorem d_M_power_63 : decode b_M_power 63 = .ok (.aload_n 0, 1) := by decide +kernel
theorem d_M_power_64 : decode b_M_power 64 = .ok (.lconst 0, 1) := by decide +kernel
theorem d_M_power_65 : decode b_M_power 65 = .ok (.putfield 106, 3) := by decide +kernel
theorem d_M_power_68 : decode b_M_power 68 = .ok (.aload_n 0, 1) := by decide +kernel
theorem d_M_power_69 : decode b_M_power 69 = .ok (.lconst 0, 1) := by decide +kernel
theorem d_M_power_70 : decode b_M_power 70 = .ok (.putfield 109, 3) := by decide +kernel
theorem d_M_power_73 : decode b_M_power 73 = .ok (.aload_n 0, 1) := by decide +kernel
theorem d_M_power_74 : decode b_M_power 74 = .ok (.lconst 1, 1) := by decide +kernel
theorem d_M_power_75 : decode b_M_power 75 = .ok (.iload_n 2, 1) := by decide +kernel
theorem d_M_power_76 : decode b_M_power 76 = .ok (.i2l, 1) := by decide +kernel
theorem d_M_power_77 : decode b_M_power 77 = .ok (.lrem, 1) := by decide +kernel
theorem d_M_power_78 : decode b_M_power 78 = .ok (.putfield 112, 3) := by decide +kernel
theorem d_M_power_81 : decode b_M_power 81 = .ok (.bipush 30, 2) := by decide +kernel
theorem d_M_power_83 : decode b_M_power 83 = .ok (.istore 8, 2) := by decide +kernel
theorem d_M_power_85 : decode b_M_power 85 = .ok (.iload 8, 2) := by decide +kernel
theorem d_M_power_87 : decode b_M_power 87 = .ok (.ifCond .lt 58, 3) := by decide +kernel
theorem d_M_power_90 : decode b_M_power 90 = .ok (.aload_n 0, 1) := by decide +kernel
theorem d_M_power_91 : decode b_M_power 91 = .ok (.aload_n 0, 1) := by decide +kernel
theorem d_M_power_92 : decode b_M_power 92 = .ok (.getfield 103, 3) := by decide +kernel
theorem d_M_power_95 : decode b_M_power 95 = .ok (.aload_n 0, 1) := by decide +kernel
theorem d_M_power_96 : decode b_M_power 96 = .ok (.getfield 106, 3) := by decide +kernel
theorem d_M_power_99 : decode b_M_power 99 = .ok (.aload_n 0, 1) := by decide +kernel
theorem d_M_power_100 : decode b_M_power 100 = .ok (.getfield 109, 3) := by decide +kernel
theorem d_M_power_103 : decode b_M_power 103 = .ok (.aload_n 0, 1) := by decide +kernel
theorem d_M_power_104 : decode b_M_power 104 = .ok (.getfield 112, 3) := by decide +kernel
theorem d_M_power_107 : decode b_M_power 107 = .ok (.iload_n 2, 1) := by decide +kernel
theorem d_M_power_108 : decode b_M_power 108 = .ok (.i2l, 1) := by decide +kernel
theorem d_M_power_109 : decode b_M_power 109 = .ok (.invokevirtual 119, 3) := by decide +kernel
theorem d_M_power_112 : decode b_M_power 112 = .ok (.iload_n 1, 1) := by decide +kernel
theorem d_M_power_113 : decode b_M_power 113 = .ok (.iload 8, 2) := by decide +kernel
theorem d_M_power_115 : decode b_M_power 115 = .ok (.ishr, 1) := by decide +kernel
theorem d_M_power_116 : decode b_M_power 116 = .ok (.iconst 1, 1) := by decide +kernel
theorem d_M_power_117 : decode b_M_power 117 = .ok (.iand, 1) := by decide +kernel
theorem d_M_power_118 : decode b_M_power 118 = .ok (.iconst 1, 1) := by decide +kernel
theorem d_M_power_119 : decode b_M_power 119 = .ok (.if_icmp .ne 20, 3) := by decide +kernel
theorem d_M_power_122 : decode b_M_power 122 = .ok (.aload_n 0, 1) := by decide +kernel
theorem d_M_power_123 : decode b_M_power 123 = .ok (.lload 4, 2) := by decide +kernel
theorem d_M_power_125 : decode b_M_power 125 = .ok (.iload_n 2, 1) := by decide +kernel
theorem d_M_power_126 : decode b_M_power 126 = .ok (.i2l, 1) := by decide +kernel
theorem d_M_power_127 : decode b_M_power 127 = .ok (.lconst 1, 1) := by decide +kernel
theorem d_M_power_128 : decode b_M_power 128 = .ok (.lsub, 1) := by decide +kernel
theorem d_M_power_129 : decode b_M_power 129 = .ok (.lconst 1, 1) := by decide +kernel
theorem d_M_power_130 : decode b_M_power 130 = .ok (.iload_n 2, 1) := by decide +kernel
theorem d_M_power_131 : decode b_M_power 131 = .ok (.i2l, 1) := by decide +kernel
theorem d_M_power_132 : decode b_M_power 132 = .ok (.lrem, 1) := by decide +kernel
theorem d_M_power_133 : decode b_M_power 133 = .ok (.lconst 0, 1) := by decide +kernel
theorem d_M_power_134 : decode b_M_power 134 = .ok (.iload_n 2, 1) := by decide +kernel
theorem d_M_power_135 : decode b_M_power 135 = .ok (.i2l, 1) := by decide +kernel
theorem d_M_power_136 : decode b_M_power 136 = .ok (.invokevirtual 119, 3) := by decide +kernel
theorem d_M_power_139 : decode b_M_power 139 = .ok (.iinc 8 (-1), 3) := by decide +kernel
theorem d_M_power_142 : decode b_M_power 142 = .ok (.goto (-57), 3) := by decide +kernel
theorem d_M_power_145 : decode b_M_power 145 = .ok (.iload_n 3, 1) := by decide +kernel
theorem d_M_power_146 : decode b_M_power 146 = .ok (.ifCond .ne 8, 3) := by decide +kernel
theorem d_M_power_149 : decode b_M_power 149 = .ok (.lload 4, 2) := by decide +kernel
theorem d_M_power_151 : decode b_M_power 151 = .ok (.goto 5, 3) := by decide +kernel
theorem d_M_power_154 : decode b_M_power 154 = .ok (.lload 6, 2) := by decide +kernel
theorem d_M_power_156 : decode b_M_power 156 = .ok (.lstore 8, 2) := by decide +kernel
theorem d_M_power_158 : decode b_M_power 158 = .ok (.iload_n 3, 1) := by decide +kernel
theorem d_M_power_159 : decode b_M_power 159 = .ok (.ifCond .ne 12, 3) := by decide +kernel
theorem d_M_power_162 : decode b_M_power 162 = .ok (.ldc2_w 54, 3) := by decide +kernel
theorem d_M_power_165 : decode b_M_power 165 = .ok (.iload_n 2, 1) := by decide +kernel
theorem d_M_power_166 : decode b_M_power 166 = .ok (.i2l, 1) := by decide +kernel
theorem d_M_power_167 : decode b_M_power 167 = .ok (.lrem, 1) := by decide +kernel
theorem d_M_power_168 : decode b_M_power 168 = .ok (.goto 4, 3) := by decide +kernel
theorem d_M_power_171 : decode b_M_power 171 = .ok (.lconst 0, 1) := by decide +kernel
theorem d_M_power_172 : decode b_M_power 172 = .ok (.lstore 10, 2) := by decide +kernel
theorem d_M_power_174 : decode b_M_power 174 = .ok (.aload_n 0, 1) := by decide +kernel
theorem d_M_power_175 : decode b_M_power 175 = .ok (.getfield 109, 3) := by decide +kernel
theorem d_M_power_178 : decode b_M_power 178 = .ok (.lload 8, 2) := by decide +kernel
theorem d_M_power_180 : decode b_M_power 180 = .ok (.lmul, 1) := by decide +kernel
theorem d_M_power_181 : decode b_M_power 181 = .ok (.iload_n 2, 1) := by decide +kernel
theorem d_M_power_182 : decode b_M_power 182 = .ok (.i2l, 1) := by decide +kernel
theorem d_M_power_183 : decode b_M_power 183 = .ok (.lrem, 1) := by decide +kernel
theorem d_M_power_184 : decode b_M_power 184 = .ok (.aload_n 0, 1) := by decide +kernel
theorem d_M_power_185 : decode b_M_power 185 = .ok (.getfield 112, 3) := by decide +kernel
theorem d_M_power_188 : decode b_M_power 188 = .ok (.lload 10, 2) := by decide +kernel
theorem d_M_power_190 : decode b_M_power 190 = .ok (.lmul, 1) := by decide +kernel
theorem d_M_power_191 : decode b_M_power 191 = .ok (.iload_n 2, 1) := by decide +kernel
theorem d_M_power_192 : decode b_M_power 192 = .ok (.i2l, 1) := by decide +kernel
theorem d_M_power_193 : decode b_M_power 193 = .ok (.lrem, 1) := by decide +kernel
theorem d_M_power_194 : decode b_M_power 194 = .ok (.ladd, 1) := by decide +kernel
theorem d_M_power_195 : decode b_M_power 195 = .ok (.iload_n 2, 1) := by decide +kernel
theorem d_M_power_196 : decode b_M_power 196 = .ok (.i2l, 1) := by decide +kernel
theorem d_M_power_197 : decode b_M_power 197 = .ok (.lrem, 1) := by decide +kernel
theorem d_M_power_198 : decode b_M_power 198 = .ok (.l2i, 1) := by decide +kernel
theorem d_M_power_199 : decode b_M_power 199 = .ok (.ireturn, 1) := by decide +kernel
theorem d_M_sized_0 : decode b_M_sized 0 = .ok (.aload_n 0, 1) := by decide +kernel
theorem d_M_sized_1 : decode b_M_sized 1 = .ok (.iload_n 1, 1) := by decide +kernel
theorem d_M_sized_2 : decode b_M_sized 2 = .ok (.invokevirtual 123, 3) := by decide +kernel
theorem d_M_sized_5 : decode b_M_sized 5 = .ok (.ifCond .eq 18, 3) := by decide +kernel
theorem d_M_sized_8 : decode b_M_sized 8 = .ok (.aload_n 0, 1) := by decide +kernel
theorem d_M_sized_9 : decode b_M_sized 9 = .ok (.bipush 10, 2) := by decide +kernel
theorem d_M_sized_11 : decode b_M_sized 11 = .ok (.ldc2_w 127, 3) := by decide +kernel
theorem d_M_sized_14 : decode b_M_sized 14 = .ok (.iload_n 1, 1) := by decide +kernel
theorem d_M_sized_15 : decode b_M_sized 15 = .ok (.lconst 0, 1) := by decide +kernel
theorem d_M_sized_16 : decode b_M_sized 16 = .ok (.iload_n 1, 1) := by decide +kernel
theorem d_M_sized_17 : decode b_M_sized 17 = .ok (.invokevirtual 69, 3) := by decide +kernel
theorem d_M_sized_20 : decode b_M_sized 20 = .ok (.goto 10, 3) := by decide +kernel
theorem d_M_sized_23 : decode b_M_sized 23 = .ok (.aload_n 0, 1) := by decide +kernel
theorem d_M_sized_24 : decode b_M_sized 24 = .ok (.bipush 10, 2) := by decide +kernel
theorem d_M_sized_26 : decode b_M_sized 26 = .ok (.iload_n 1, 1) := by decide +kernel
theorem d_M_sized_27 : decode b_M_sized 27 = .ok (.invokevirtual 73, 3) := by decide +kernel
theorem d_M_sized_30 : decode b_M_sized 30 = .ok (.aload_n 0, 1) := by decide +kernel
theorem d_M_sized_31 : decode b_M_sized 31 = .ok (.bipush 10, 2) := by decide +kernel
theorem d_M_sized_33 : decode b_M_sized 33 = .ok (.invokevirtual 37, 3) := by decide +kernel
theorem d_M_sized_36 : decode b_M_sized 36 = .ok (.ireturn, 1) := by decide +kernel
theorem d_M_bitsOf_0 : decode b_M_bitsOf 0 = .ok (.aload_n 0, 1) := by decide +kernel
theorem d_M_bitsOf_1 : decode b_M_bitsOf 1 = .ok (.iload_n 1, 1) := by decide +kernel
theorem d_M_bitsOf_2 : decode b_M_bitsOf 2 = .ok (.invokevirtual 129, 3) := by decide +kernel
theorem d_M_bitsOf_5 : decode b_M_bitsOf 5 = .ok (.istore_n 2, 1) := by decide +kernel
theorem d_M_bitsOf_6 : decode b_M_bitsOf 6 = .ok (.iload_n 2, 1) := by decide +kernel
theorem d_M_bitsOf_7 : decode b_M_bitsOf 7 = .ok (.ifCond .ne 7, 3) := by decide +kernel
theorem d_M_bitsOf_10 : decode b_M_bitsOf 10 = .ok (.iconst 0, 1) := by decide +kernel
theorem d_M_bitsOf_11 : decode b_M_bitsOf 11 = .ok (.goto 9, 3) := by decide +kernel
theorem d_M_bitsOf_14 : decode b_M_bitsOf 14 = .ok (.bipush 16, 2) := by decide +kernel
theorem d_M_bitsOf_16 : decode b_M_bitsOf 16 = .ok (.iload_n 2, 1) := by decide +kernel
theorem d_M_bitsOf_17 : decode b_M_bitsOf 17 = .ok (.iconst 1, 1) := by decide +kernel
theorem d_M_bitsOf_18 : decode b_M_bitsOf 18 = .ok (.isub, 1) := by decide +kernel
theorem d_M_bitsOf_19 : decode b_M_bitsOf 19 = .ok (.imul, 1) := by decide +kernel
theorem d_M_bitsOf_20 : decode b_M_bitsOf 20 = .ok (.istore_n 3, 1) := by decide +kernel
theorem d_M_bitsOf_21 : decode b_M_bitsOf 21 = .ok (.iload_n 2, 1) := by decide +kernel
theorem d_M_bitsOf_22 : decode b_M_bitsOf 22 = .ok (.ifCond .ne 7, 3) := by decide +kernel
theorem d_M_bitsOf_25 : decode b_M_bitsOf 25 = .ok (.iconst 0, 1) := by decide +kernel
theorem d_M_bitsOf_26 : decode b_M_bitsOf 26 = .ok (.goto 12, 3) := by decide +kernel
theorem d_M_bitsOf_29 : decode b_M_bitsOf 29 = .ok (.aload_n 0, 1) := by decide +kernel
theorem d_M_bitsOf_30 : decode b_M_bitsOf 30 = .ok (.bipush 10, 2) := by decide +kernel
theorem d_M_bitsOf_32 : decode b_M_bitsOf 32 = .ok (.iload_n 2, 1) := by decide +kernel
theorem d_M_bitsOf_33 : decode b_M_bitsOf 33 = .ok (.iconst 1, 1) := by decide +kernel
theorem d_M_bitsOf_34 : decode b_M_bitsOf 34 = .ok (.isub, 1) := by decide +kernel
theorem d_M_bitsOf_35 : decode b_M_bitsOf 35 = .ok (.invokevirtual 33, 3) := by decide +kernel
theorem d_M_bitsOf_38 : decode b_M_bitsOf 38 = .ok (.istore 4, 2) := by decide +kernel
theorem d_M_bitsOf_40 : decode b_M_bitsOf 40 = .ok (.iload 4, 2) := by decide +kernel
theorem d_M_bitsOf_42 : decode b_M_bitsOf 42 = .ok (.ifCond .le 15, 3) := by decide +kernel
theorem d_M_bitsOf_45 : decode b_M_bitsOf 45 = .ok (.iinc 3 1, 3) := by decide +kernel
theorem d_M_bitsOf_48 : decode b_M_bitsOf 48 = .ok (.iload 4, 2) := by decide +kernel
theorem d_M_bitsOf_50 : decode b_M_bitsOf 50 = .ok (.iconst 1, 1) := by decide +kernel
theorem d_M_bitsOf_51 : decode b_M_bitsOf 51 = .ok (.ishr, 1) := by decide +kernel
theorem d_M_bitsOf_52 : decode b_M_bitsOf 52 = .ok (.istore 4, 2) := by decide +kernel
theorem d_M_bitsOf_54 : decode b_M_bitsOf 54 = .ok (.goto (-14), 3) := by decide +kernel
theorem d_M_bitsOf_57 : decode b_M_bitsOf 57 = .ok (.iload_n 3, 1) := by decide +kernel
theorem d_M_bitsOf_58 : decode b_M_bitsOf 58 = .ok (.ireturn, 1) := by decide +kernel
theorem d_M_left_0 : decode b_M_left 0 = .ok (.lconst 0, 1) := by decide +kernel
theorem d_M_left_1 : decode b_M_left 1 = .ok (.lstore 4, 2) := by decide +kernel
theorem d_M_left_3 : decode b_M_left 3 = .ok (.aload_n 0, 1) := by decide +kernel
theorem d_M_left_4 : decode b_M_left 4 = .ok (.iload_n 1, 1) := by decide +kernel
theorem d_M_left_5 : decode b_M_left 5 = .ok (.invokevirtual 129, 3) := by decide +kernel
theorem d_M_left_8 : decode b_M_left 8 = .ok (.iconst 1, 1) := by decide +kernel
theorem d_M_left_9 : decode b_M_left 9 = .ok (.isub, 1) := by decide +kernel
theorem d_M_left_10 : decode b_M_left 10 = .ok (.istore 6, 2) := by decide +kernel
theorem d_M_left_12 : decode b_M_left 12 = .ok (.iload 6, 2) := by decide +kernel
theorem d_M_left_14 : decode b_M_left 14 = .ok (.ifCond .lt 29, 3) := by decide +kernel
theorem d_M_left_17 : decode b_M_left 17 = .ok (.lload 4, 2) := by decide +kernel
theorem d_M_left_19 : decode b_M_left 19 = .ok (.ldc2_w 132, 3) := by decide +kernel
theorem d_M_left_22 : decode b_M_left 22 = .ok (.lmul, 1) := by decide +kernel
theorem d_M_left_23 : decode b_M_left 23 = .ok (.aload_n 0, 1) := by decide +kernel
theorem d_M_left_24 : decode b_M_left 24 = .ok (.bipush 10, 2) := by decide +kernel
theorem d_M_left_26 : decode b_M_left 26 = .ok (.iload 6, 2) := by decide +kernel
theorem d_M_left_28 : decode b_M_left 28 = .ok (.invokevirtual 33, 3) := by decide +kernel
theorem d_M_left_31 : decode b_M_left 31 = .ok (.i2l, 1) := by decide +kernel
theorem d_M_left_32 : decode b_M_left 32 = .ok (.ladd, 1) := by decide +kernel
theorem d_M_left_33 : decode b_M_left 33 = .ok (.lload_n 2, 1) := by decide +kernel
theorem d_M_left_34 : decode b_M_left 34 = .ok (.lrem, 1) := by decide +kernel
theorem d_M_left_35 : decode b_M_left 35 = .ok (.lstore 4, 2) := by decide +kernel
theorem d_M_left_37 : decode b_M_left 37 = .ok (.iinc 6 (-1), 3) := by decide +kernel
theorem d_M_left_40 : decode b_M_left 40 = .ok (.goto (-28), 3) := by decide +kernel
theorem d_M_left_43 : decode b_M_left 43 = .ok (.aload_n 0, 1) := by decide +kernel
theorem d_M_left_44 : decode b_M_left 44 = .ok (.iload_n 1, 1) := by decide +kernel
theorem d_M_left_45 : decode b_M_left 45 = .ok (.invokevirtual 123, 3) := by decide +kernel
theorem d_M_left_48 : decode b_M_left 48 = .ok (.ifCond .eq 17, 3) := by decide +kernel
theorem d_M_left_51 : decode b_M_left 51 = .ok (.lload 4, 2) := by decide +kernel
theorem d_M_left_53 : decode b_M_left 53 = .ok (.lconst 0, 1) := by decide +kernel
theorem d_M_left_54 : decode b_M_left 54 = .ok (.lcmp, 1) := by decide +kernel
theorem d_M_left_55 : decode b_M_left 55 = .ok (.ifCond .le 10, 3) := by decide +kernel
theorem d_M_left_58 : decode b_M_left 58 = .ok (.lload_n 2, 1) := by decide +kernel
theorem d_M_left_59 : decode b_M_left 59 = .ok (.lload 4, 2) := by decide +kernel
theorem d_M_left_61 : decode b_M_left 61 = .ok (.lsub, 1) := by decide +kernel
theorem d_M_left_62 : decode b_M_left 62 = .ok (.goto 5, 3) := by decide +kernel
theorem d_M_left_65 : decode b_M_left 65 = .ok (.lload 4, 2) := by decide +kernel
theorem d_M_left_67 : decode b_M_left 67 = .ok (.lreturn, 1) := by decide +kernel
theorem d_M_sign_0 : decode b_M_sign 0 = .ok (.aload_n 0, 1) := by decide +kernel
theorem d_M_sign_1 : decode b_M_sign 1 = .ok (.iload_n 1, 1) := by decide +kernel
theorem d_M_sign_2 : decode b_M_sign 2 = .ok (.i2l, 1) := by decide +kernel
theorem d_M_sign_3 : decode b_M_sign 3 = .ok (.lconst 0, 1) := by decide +kernel
theorem d_M_sign_4 : decode b_M_sign 4 = .ok (.ldc2_w 134, 3) := by decide +kernel
theorem d_M_sign_7 : decode b_M_sign 7 = .ok (.invokestatic 88, 3) := by decide +kernel
theorem d_M_sign_10 : decode b_M_sign 10 = .ok (.ifCond .eq 7, 3) := by decide +kernel
theorem d_M_sign_13 : decode b_M_sign 13 = .ok (.iconst 0, 1) := by decide +kernel
theorem d_M_sign_14 : decode b_M_sign 14 = .ok (.goto 4, 3) := by decide +kernel
theorem d_M_sign_17 : decode b_M_sign 17 = .ok (.iconst 1, 1) := by decide +kernel
theorem d_M_sign_18 : decode b_M_sign 18 = .ok (.putfield 23, 3) := by decide +kernel
theorem d_M_sign_21 : decode b_M_sign 21 = .ok (.aload_n 0, 1) := by decide +kernel
theorem d_M_sign_22 : decode b_M_sign 22 = .ok (.getfield 23, 3) := by decide +kernel
theorem d_M_sign_25 : decode b_M_sign 25 = .ok (.ifCond .le 5, 3) := by decide +kernel
theorem d_M_sign_28 : decode b_M_sign 28 = .ok (.iconst 0, 1) := by decide +kernel
theorem d_M_sign_29 : decode b_M_sign 29 = .ok (.ireturn, 1) := by decide +kernel
theorem d_M_sign_30 : decode b_M_sign 30 = .ok (.aload_n 0, 1) := by decide +kernel
theorem d_M_sign_31 : decode b_M_sign 31 = .ok (.iload_n 1, 1) := by decide +kernel
theorem d_M_sign_32 : decode b_M_sign 32 = .ok (.invokevirtual 123, 3) := by decide +kernel
theorem d_M_sign_35 : decode b_M_sign 35 = .ok (.ifCond .eq 7, 3) := by decide +kernel
theorem d_M_sign_38 : decode b_M_sign 38 = .ok (.iconst (-1), 1) := by decide +kernel
theorem d_M_sign_39 : decode b_M_sign 39 = .ok (.goto 16, 3) := by decide +kernel
theorem d_M_sign_42 : decode b_M_sign 42 = .ok (.aload_n 0, 1) := by decide +kernel
theorem d_M_sign_43 : decode b_M_sign 43 = .ok (.iload_n 1, 1) := by decide +kernel
theorem d_M_sign_44 : decode b_M_sign 44 = .ok (.invokevirtual 37, 3) := by decide +kernel
theorem d_M_sign_47 : decode b_M_sign 47 = .ok (.ifCond .le 7, 3) := by decide +kernel
theorem d_M_sign_50 : decode b_M_sign 50 = .ok (.iconst 1, 1) := by decide +kernel
theorem d_M_sign_51 : decode b_M_sign 51 = .ok (.goto 4, 3) := by decide +kernel
theorem d_M_sign_54 : decode b_M_sign 54 = .ok (.iconst 0, 1) := by decide +kernel
theorem d_M_sign_55 : decode b_M_sign 55 = .ok (.ireturn, 1) := by decide +kernel
theorem d_M_bits_0 : decode b_M_bits 0 = .ok (.aload_n 0, 1) := by decide +kernel
theorem d_M_bits_1 : decode b_M_bits 1 = .ok (.iload_n 1, 1) := by decide +kernel
theorem d_M_bits_2 : decode b_M_bits 2 = .ok (.i2l, 1) := by decide +kernel
theorem d_M_bits_3 : decode b_M_bits 3 = .ok (.lconst 0, 1) := by decide +kernel
theorem d_M_bits_4 : decode b_M_bits 4 = .ok (.ldc2_w 134, 3) := by decide +kernel
theorem d_M_bits_7 : decode b_M_bits 7 = .ok (.invokestatic 88, 3) := by decide +kernel
theorem d_M_bits_10 : decode b_M_bits 10 = .ok (.ifCond .eq 7, 3) := by decide +kernel
theorem d_M_bits_13 : decode b_M_bits 13 = .ok (.iconst 0, 1) := by decide +kernel
theorem d_M_bits_14 : decode b_M_bits 14 = .ok (.goto 4, 3) := by decide +kernel
theorem d_M_bits_17 : decode b_M_bits 17 = .ok (.iconst 1, 1) := by decide +kernel
theorem d_M_bits_18 : decode b_M_bits 18 = .ok (.putfield 23, 3) := by decide +kernel
theorem d_M_bits_21 : decode b_M_bits 21 = .ok (.aload_n 0, 1) := by decide +kernel
theorem d_M_bits_22 : decode b_M_bits 22 = .ok (.getfield 23, 3) := by decide +kernel
theorem d_M_bits_25 : decode b_M_bits 25 = .ok (.ifCond .le 7, 3) := by decide +kernel
theorem d_M_bits_28 : decode b_M_bits 28 = .ok (.iconst 0, 1) := by decide +kernel
theorem d_M_bits_29 : decode b_M_bits 29 = .ok (.goto 8, 3) := by decide +kernel
theorem d_M_bits_32 : decode b_M_bits 32 = .ok (.aload_n 0, 1) := by decide +kernel
theorem d_M_bits_33 : decode b_M_bits 33 = .ok (.iload_n 1, 1) := by decide +kernel
theorem d_M_bits_34 : decode b_M_bits 34 = .ok (.invokevirtual 92, 3) := by decide +kernel
theorem d_M_bits_37 : decode b_M_bits 37 = .ok (.ireturn, 1) := by decide +kernel
theorem d_M_word_0 : decode b_M_word 0 = .ok (.aload_n 0, 1) := by decide +kernel
theorem d_M_word_1 : decode b_M_word 1 = .ok (.iload_n 1, 1) := by decide +kernel
theorem d_M_word_2 : decode b_M_word 2 = .ok (.i2l, 1) := by decide +kernel
theorem d_M_word_3 : decode b_M_word 3 = .ok (.lconst 0, 1) := by decide +kernel
theorem d_M_word_4 : decode b_M_word 4 = .ok (.ldc2_w 134, 3) := by decide +kernel
theorem d_M_word_7 : decode b_M_word 7 = .ok (.invokestatic 88, 3) := by decide +kernel
theorem d_M_word_10 : decode b_M_word 10 = .ok (.ifCond .eq 19, 3) := by decide +kernel
theorem d_M_word_13 : decode b_M_word 13 = .ok (.iload_n 2, 1) := by decide +kernel
theorem d_M_word_14 : decode b_M_word 14 = .ok (.i2l, 1) := by decide +kernel
theorem d_M_word_15 : decode b_M_word 15 = .ok (.lconst 0, 1) := by decide +kernel
theorem d_M_word_16 : decode b_M_word 16 = .ok (.ldc2_w 136, 3) := by decide +kernel
theorem d_M_word_19 : decode b_M_word 19 = .ok (.invokestatic 88, 3) := by decide +kernel
theorem d_M_word_22 : decode b_M_word 22 = .ok (.ifCond .eq 7, 3) := by decide +kernel
theorem d_M_word_25 : decode b_M_word 25 = .ok (.iconst 0, 1) := by decide +kernel
theorem d_M_word_26 : decode b_M_word 26 = .ok (.goto 4, 3) := by decide +kernel
theorem d_M_word_29 : decode b_M_word 29 = .ok (.iconst 1, 1) := by decide +kernel
theorem d_M_word_30 : decode b_M_word 30 = .ok (.putfield 23, 3) := by decide +kernel
theorem d_M_word_33 : decode b_M_word 33 = .ok (.aload_n 0, 1) := by decide +kernel
theorem d_M_word_34 : decode b_M_word 34 = .ok (.getfield 23, 3) := by decide +kernel
theorem d_M_word_37 : decode b_M_word 37 = .ok (.ifCond .le 5, 3) := by decide +kernel
theorem d_M_word_40 : decode b_M_word 40 = .ok (.iconst 0, 1) := by decide +kernel
theorem d_M_word_41 : decode b_M_word 41 = .ok (.ireturn, 1) := by decide +kernel
theorem d_M_word_42 : decode b_M_word 42 = .ok (.aload_n 0, 1) := by decide +kernel
theorem d_M_word_43 : decode b_M_word 43 = .ok (.iload_n 1, 1) := by decide +kernel
theorem d_M_word_44 : decode b_M_word 44 = .ok (.invokevirtual 129, 3) := by decide +kernel
theorem d_M_word_47 : decode b_M_word 47 = .ok (.istore_n 3, 1) := by decide +kernel
theorem d_M_word_48 : decode b_M_word 48 = .ok (.aload_n 0, 1) := by decide +kernel
theorem d_M_word_49 : decode b_M_word 49 = .ok (.bipush 10, 2) := by decide +kernel
theorem d_M_word_51 : decode b_M_word 51 = .ok (.iconst 2, 1) := by decide +kernel
theorem d_M_word_52 : decode b_M_word 52 = .ok (.iload_n 2, 1) := by decide +kernel
theorem d_M_word_53 : decode b_M_word 53 = .ok (.imul, 1) := by decide +kernel
theorem d_M_word_54 : decode b_M_word 54 = .ok (.invokevirtual 33, 3) := by decide +kernel
theorem d_M_word_57 : decode b_M_word 57 = .ok (.aload_n 0, 1) := by decide +kernel
theorem d_M_word_58 : decode b_M_word 58 = .ok (.bipush 10, 2) := by decide +kernel
theorem d_M_word_60 : decode b_M_word 60 = .ok (.iconst 2, 1) := by decide +kernel
theorem d_M_word_61 : decode b_M_word 61 = .ok (.iload_n 2, 1) := by decide +kernel
theorem d_M_word_62 : decode b_M_word 62 = .ok (.imul, 1) := by decide +kernel
theorem d_M_word_63 : decode b_M_word 63 = .ok (.iconst 1, 1) := by decide +kernel
theorem d_M_word_64 : decode b_M_word 64 = .ok (.iadd, 1) := by decide +kernel
theorem d_M_word_65 : decode b_M_word 65 = .ok (.invokevirtual 33, 3) := by decide +kernel
theorem d_M_word_68 : decode b_M_word 68 = .ok (.bipush 16, 2) := by decide +kernel
theorem d_M_word_70 : decode b_M_word 70 = .ok (.ishl, 1) := by decide +kernel
theorem d_M_word_71 : decode b_M_word 71 = .ok (.ior, 1) := by decide +kernel
theorem d_M_word_72 : decode b_M_word 72 = .ok (.ireturn, 1) := by decide +kernel
theorem d_M_residue_0 : decode b_M_residue 0 = .ok (.iload_n 1, 1) := by decide +kernel
theorem d_M_residue_1 : decode b_M_residue 1 = .ok (.i2l, 1) := by decide +kernel
theorem d_M_residue_2 : decode b_M_residue 2 = .ok (.lconst 0, 1) := by decide +kernel
theorem d_M_residue_3 : decode b_M_residue 3 = .ok (.ldc2_w 134, 3) := by decide +kernel
theorem d_M_residue_6 : decode b_M_residue 6 = .ok (.invokestatic 88, 3) := by decide +kernel
theorem d_M_residue_9 : decode b_M_residue 9 = .ok (.ifCond .ne 9, 3) := by decide +kernel
theorem d_M_residue_12 : decode b_M_residue 12 = .ok (.aload_n 0, 1) := by decide +kernel
theorem d_M_residue_13 : decode b_M_residue 13 = .ok (.iconst 1, 1) := by decide +kernel
theorem d_M_residue_14 : decode b_M_residue 14 = .ok (.invokevirtual 138, 3) := by decide +kernel
theorem d_M_residue_17 : decode b_M_residue 17 = .ok (.ireturn, 1) := by decide +kernel
theorem d_M_residue_18 : decode b_M_residue 18 = .ok (.iload_n 2, 1) := by decide +kernel
theorem d_M_residue_19 : decode b_M_residue 19 = .ok (.iconst 1, 1) := by decide +kernel
theorem d_M_residue_20 : decode b_M_residue 20 = .ok (.if_icmp .ge 9, 3) := by decide +kernel
theorem d_M_residue_23 : decode b_M_residue 23 = .ok (.aload_n 0, 1) := by decide +kernel
theorem d_M_residue_24 : decode b_M_residue 24 = .ok (.iconst 2, 1) := by decide +kernel
theorem d_M_residue_25 : decode b_M_residue 25 = .ok (.invokevirtual 138, 3) := by decide +kernel
theorem d_M_residue_28 : decode b_M_residue 28 = .ok (.ireturn, 1) := by decide +kernel
theorem d_M_residue_29 : decode b_M_residue 29 = .ok (.aload_n 0, 1) := by decide +kernel
theorem d_M_residue_30 : decode b_M_residue 30 = .ok (.iconst 0, 1) := by decide +kernel
theorem d_M_residue_31 : decode b_M_residue 31 = .ok (.putfield 23, 3) := by decide +kernel
theorem d_M_residue_34 : decode b_M_residue 34 = .ok (.aload_n 0, 1) := by decide +kernel
theorem d_M_residue_35 : decode b_M_residue 35 = .ok (.iload_n 1, 1) := by decide +kernel
theorem d_M_residue_36 : decode b_M_residue 36 = .ok (.iload_n 2, 1) := by decide +kernel
theorem d_M_residue_37 : decode b_M_residue 37 = .ok (.i2l, 1) := by decide +kernel
theorem d_M_residue_38 : decode b_M_residue 38 = .ok (.invokevirtual 115, 3) := by decide +kernel
theorem d_M_residue_41 : decode b_M_residue 41 = .ok (.l2i, 1) := by decide +kernel
theorem d_M_residue_42 : decode b_M_residue 42 = .ok (.ireturn, 1) := by decide +kernel
