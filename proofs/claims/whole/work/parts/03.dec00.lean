theorem dX0_init_0 : decode cX0_init 0 = .ok (.aload_n 0, 1) := by decide +kernel
theorem dX0_init_1 : decode cX0_init 1 = .ok (.invokespecial 3, 3) := by decide +kernel
theorem dX0_init_4 : decode cX0_init 4 = .ok (.aload_n 0, 1) := by decide +kernel
theorem dX0_init_5 : decode cX0_init 5 = .ok (.iconst 5, 1) := by decide +kernel
theorem dX0_init_6 : decode cX0_init 6 = .ok (.newarray .int, 2) := by decide +kernel
theorem dX0_init_8 : decode cX0_init 8 = .ok (.putfield 9, 3) := by decide +kernel
theorem dX0_init_11 : decode cX0_init 11 = .ok (.aload_n 0, 1) := by decide +kernel
theorem dX0_init_12 : decode cX0_init 12 = .ok (.sipush 1000, 3) := by decide +kernel
theorem dX0_init_15 : decode cX0_init 15 = .ok (.newarray .int, 2) := by decide +kernel
theorem dX0_init_17 : decode cX0_init 17 = .ok (.putfield 15, 3) := by decide +kernel
theorem dX0_init_20 : decode cX0_init 20 = .ok (.aload_n 0, 1) := by decide +kernel
theorem dX0_init_21 : decode cX0_init 21 = .ok (.bipush 32, 2) := by decide +kernel
theorem dX0_init_23 : decode cX0_init 23 = .ok (.newarray .int, 2) := by decide +kernel
theorem dX0_init_25 : decode cX0_init 25 = .ok (.putfield 18, 3) := by decide +kernel
theorem dX0_init_28 : decode cX0_init 28 = .ok (.aload_n 0, 1) := by decide +kernel
theorem dX0_init_29 : decode cX0_init 29 = .ok (.aload_n 1, 1) := by decide +kernel
theorem dX0_init_30 : decode cX0_init 30 = .ok (.putfield 21, 3) := by decide +kernel
theorem dX0_init_33 : decode cX0_init 33 = .ok (.return_, 1) := by decide +kernel
theorem dX0_begin_0 : decode cX0_begin 0 = .ok (.aload_n 0, 1) := by decide +kernel
theorem dX0_begin_1 : decode cX0_begin 1 = .ok (.iload_n 1, 1) := by decide +kernel
theorem dX0_begin_2 : decode cX0_begin 2 = .ok (.putfield 25, 3) := by decide +kernel
theorem dX0_begin_5 : decode cX0_begin 5 = .ok (.aload_n 0, 1) := by decide +kernel
theorem dX0_begin_6 : decode cX0_begin 6 = .ok (.iconst 0, 1) := by decide +kernel
theorem dX0_begin_7 : decode cX0_begin 7 = .ok (.putfield 29, 3) := by decide +kernel
theorem dX0_begin_10 : decode cX0_begin 10 = .ok (.return_, 1) := by decide +kernel
theorem dX0_put_0 : decode cX0_put 0 = .ok (.aload_n 0, 1) := by decide +kernel
theorem dX0_put_1 : decode cX0_put 1 = .ok (.getfield 29, 3) := by decide +kernel
theorem dX0_put_4 : decode cX0_put 4 = .ok (.sipush 1000, 3) := by decide +kernel
theorem dX0_put_7 : decode cX0_put 7 = .ok (.if_icmp .ge 23, 3) := by decide +kernel
theorem dX0_put_10 : decode cX0_put 10 = .ok (.aload_n 0, 1) := by decide +kernel
theorem dX0_put_11 : decode cX0_put 11 = .ok (.getfield 15, 3) := by decide +kernel
theorem dX0_put_14 : decode cX0_put 14 = .ok (.aload_n 0, 1) := by decide +kernel
theorem dX0_put_15 : decode cX0_put 15 = .ok (.getfield 29, 3) := by decide +kernel
theorem dX0_put_18 : decode cX0_put 18 = .ok (.iload_n 1, 1) := by decide +kernel
theorem dX0_put_19 : decode cX0_put 19 = .ok (.iastore, 1) := by decide +kernel
theorem dX0_put_20 : decode cX0_put 20 = .ok (.aload_n 0, 1) := by decide +kernel
theorem dX0_put_21 : decode cX0_put 21 = .ok (.dup, 1) := by decide +kernel
theorem dX0_put_22 : decode cX0_put 22 = .ok (.getfield 29, 3) := by decide +kernel
theorem dX0_put_25 : decode cX0_put 25 = .ok (.iconst 1, 1) := by decide +kernel
theorem dX0_put_26 : decode cX0_put 26 = .ok (.iadd, 1) := by decide +kernel
theorem dX0_put_27 : decode cX0_put 27 = .ok (.putfield 29, 3) := by decide +kernel
theorem dX0_put_30 : decode cX0_put 30 = .ok (.return_, 1) := by decide +kernel
theorem dX0_readTests_0 : decode cX0_readTests 0 = .ok (.aload_n 0, 1) := by decide +kernel
theorem dX0_readTests_1 : decode cX0_readTests 1 = .ok (.iload_n 1, 1) := by decide +kernel
theorem dX0_readTests_2 : decode cX0_readTests 2 = .ok (.invokevirtual 32, 3) := by decide +kernel
theorem dX0_readTests_5 : decode cX0_readTests 5 = .ok (.istore_n 2, 1) := by decide +kernel
theorem dX0_readTests_6 : decode cX0_readTests 6 = .ok (.iconst 0, 1) := by decide +kernel
theorem dX0_readTests_7 : decode cX0_readTests 7 = .ok (.istore_n 3, 1) := by decide +kernel
theorem dX0_readTests_8 : decode cX0_readTests 8 = .ok (.iload_n 2, 1) := by decide +kernel
theorem dX0_readTests_9 : decode cX0_readTests 9 = .ok (.ifCond .eq 80, 3) := by decide +kernel
theorem dX0_readTests_12 : decode cX0_readTests 12 = .ok (.iload_n 3, 1) := by decide +kernel
theorem dX0_readTests_13 : decode cX0_readTests 13 = .ok (.sipush 1000, 3) := by decide +kernel
theorem dX0_readTests_16 : decode cX0_readTests 16 = .ok (.if_icmp .ge 73, 3) := by decide +kernel
theorem dX0_readTests_19 : decode cX0_readTests 19 = .ok (.aload_n 0, 1) := by decide +kernel
theorem dX0_readTests_20 : decode cX0_readTests 20 = .ok (.getfield 21, 3) := by decide +kernel
theorem dX0_readTests_23 : decode cX0_readTests 23 = .ok (.bipush 23, 2) := by decide +kernel
theorem dX0_readTests_25 : decode cX0_readTests 25 = .ok (.invokevirtual 36, 3) := by decide +kernel
theorem dX0_readTests_28 : decode cX0_readTests 28 = .ok (.ifCond .ne 15, 3) := by decide +kernel
theorem dX0_readTests_31 : decode cX0_readTests 31 = .ok (.aload_n 0, 1) := by decide +kernel
theorem dX0_readTests_32 : decode cX0_readTests 32 = .ok (.getfield 21, 3) := by decide +kernel
theorem dX0_readTests_35 : decode cX0_readTests 35 = .ok (.bipush 24, 2) := by decide +kernel
theorem dX0_readTests_37 : decode cX0_readTests 37 = .ok (.invokevirtual 36, 3) := by decide +kernel
theorem dX0_readTests_40 : decode cX0_readTests 40 = .ok (.ifCond .eq 49, 3) := by decide +kernel
theorem dX0_readTests_43 : decode cX0_readTests 43 = .ok (.aload_n 0, 1) := by decide +kernel
theorem dX0_readTests_44 : decode cX0_readTests 44 = .ok (.getfield 21, 3) := by decide +kernel
theorem dX0_readTests_47 : decode cX0_readTests 47 = .ok (.getfield 41, 3) := by decide +kernel
theorem dX0_readTests_50 : decode cX0_readTests 50 = .ok (.bipush 23, 2) := by decide +kernel
theorem dX0_readTests_52 : decode cX0_readTests 52 = .ok (.if_icmp .ne 8, 3) := by decide +kernel
theorem dX0_readTests_55 : decode cX0_readTests 55 = .ok (.bipush (-11), 2) := by decide +kernel
theorem dX0_readTests_57 : decode cX0_readTests 57 = .ok (.goto 5, 3) := by decide +kernel
theorem dX0_readTests_60 : decode cX0_readTests 60 = .ok (.bipush (-12), 2) := by decide +kernel
theorem dX0_readTests_62 : decode cX0_readTests 62 = .ok (.istore 4, 2) := by decide +kernel
theorem dX0_readTests_64 : decode cX0_readTests 64 = .ok (.aload_n 0, 1) := by decide +kernel
theorem dX0_readTests_65 : decode cX0_readTests 65 = .ok (.getfield 21, 3) := by decide +kernel
theorem dX0_readTests_68 : decode cX0_readTests 68 = .ok (.invokevirtual 44, 3) := by decide +kernel
theorem dX0_readTests_71 : decode cX0_readTests 71 = .ok (.aload_n 0, 1) := by decide +kernel
theorem dX0_readTests_72 : decode cX0_readTests 72 = .ok (.iload_n 1, 1) := by decide +kernel
theorem dX0_readTests_73 : decode cX0_readTests 73 = .ok (.invokevirtual 32, 3) := by decide +kernel
theorem dX0_readTests_76 : decode cX0_readTests 76 = .ok (.istore_n 2, 1) := by decide +kernel
theorem dX0_readTests_77 : decode cX0_readTests 77 = .ok (.aload_n 0, 1) := by decide +kernel
theorem dX0_readTests_78 : decode cX0_readTests 78 = .ok (.iload 4, 2) := by decide +kernel
theorem dX0_readTests_80 : decode cX0_readTests 80 = .ok (.invokevirtual 47, 3) := by decide +kernel
theorem dX0_readTests_83 : decode cX0_readTests 83 = .ok (.iinc 3 1, 3) := by decide +kernel
theorem dX0_readTests_86 : decode cX0_readTests 86 = .ok (.goto (-78), 3) := by decide +kernel
theorem dX0_readTests_89 : decode cX0_readTests 89 = .ok (.iload_n 2, 1) := by decide +kernel
theorem dX0_readTests_90 : decode cX0_readTests 90 = .ok (.ireturn, 1) := by decide +kernel
theorem dX0_readTest_0 : decode cX0_readTest 0 = .ok (.aload_n 0, 1) := by decide +kernel
theorem dX0_readTest_1 : decode cX0_readTest 1 = .ok (.iload_n 1, 1) := by decide +kernel
theorem dX0_readTest_2 : decode cX0_readTest 2 = .ok (.invokevirtual 51, 3) := by decide +kernel
theorem dX0_readTest_5 : decode cX0_readTest 5 = .ok (.istore_n 2, 1) := by decide +kernel
theorem dX0_readTest_6 : decode cX0_readTest 6 = .ok (.iload_n 2, 1) := by decide +kernel
theorem dX0_readTest_7 : decode cX0_readTest 7 = .ok (.ifCond .eq 65, 3) := by decide +kernel
theorem dX0_readTest_10 : decode cX0_readTest 10 = .ok (.aload_n 0, 1) := by decide +kernel
theorem dX0_readTest_11 : decode cX0_readTest 11 = .ok (.getfield 21, 3) := by decide +kernel
theorem dX0_readTest_14 : decode cX0_readTest 14 = .ok (.getfield 54, 3) := by decide +kernel
theorem dX0_readTest_17 : decode cX0_readTest 17 = .ok (.bipush 60, 2) := by decide +kernel
theorem dX0_readTest_19 : decode cX0_readTest 19 = .ok (.if_icmp .eq 15, 3) := by decide +kernel
theorem dX0_readTest_22 : decode cX0_readTest 22 = .ok (.aload_n 0, 1) := by decide +kernel
theorem dX0_readTest_23 : decode cX0_readTest 23 = .ok (.getfield 21, 3) := by decide +kernel
theorem dX0_readTest_26 : decode cX0_readTest 26 = .ok (.getfield 54, 3) := by decide +kernel
theorem dX0_readTest_29 : decode cX0_readTest 29 = .ok (.bipush 61, 2) := by decide +kernel
theorem dX0_readTest_31 : decode cX0_readTest 31 = .ok (.if_icmp .ne 41, 3) := by decide +kernel
theorem dX0_readTest_34 : decode cX0_readTest 34 = .ok (.aload_n 0, 1) := by decide +kernel
theorem dX0_readTest_35 : decode cX0_readTest 35 = .ok (.getfield 21, 3) := by decide +kernel
theorem dX0_readTest_38 : decode cX0_readTest 38 = .ok (.getfield 54, 3) := by decide +kernel
theorem dX0_readTest_41 : decode cX0_readTest 41 = .ok (.bipush 60, 2) := by decide +kernel
theorem dX0_readTest_43 : decode cX0_readTest 43 = .ok (.if_icmp .ne 8, 3) := by decide +kernel
theorem dX0_readTest_46 : decode cX0_readTest 46 = .ok (.bipush (-13), 2) := by decide +kernel
theorem dX0_readTest_48 : decode cX0_readTest 48 = .ok (.goto 5, 3) := by decide +kernel
theorem dX0_readTest_51 : decode cX0_readTest 51 = .ok (.bipush (-14), 2) := by decide +kernel
theorem dX0_readTest_53 : decode cX0_readTest 53 = .ok (.istore_n 3, 1) := by decide +kernel
theorem dX0_readTest_54 : decode cX0_readTest 54 = .ok (.aload_n 0, 1) := by decide +kernel
theorem dX0_readTest_55 : decode cX0_readTest 55 = .ok (.getfield 21, 3) := by decide +kernel
theorem dX0_readTest_58 : decode cX0_readTest 58 = .ok (.invokevirtual 44, 3) := by decide +kernel
theorem dX0_readTest_61 : decode cX0_readTest 61 = .ok (.aload_n 0, 1) := by decide +kernel
theorem dX0_readTest_62 : decode cX0_readTest 62 = .ok (.iload_n 1, 1) := by decide +kernel
theorem dX0_readTest_63 : decode cX0_readTest 63 = .ok (.invokevirtual 51, 3) := by decide +kernel
theorem dX0_readTest_66 : decode cX0_readTest 66 = .ok (.istore_n 2, 1) := by decide +kernel
theorem dX0_readTest_67 : decode cX0_readTest 67 = .ok (.aload_n 0, 1) := by decide +kernel
theorem dX0_readTest_68 : decode cX0_readTest 68 = .ok (.iload_n 3, 1) := by decide +kernel
theorem dX0_readTest_69 : decode cX0_readTest 69 = .ok (.invokevirtual 47, 3) := by decide +kernel
theorem dX0_readTest_72 : decode cX0_readTest 72 = .ok (.iload_n 2, 1) := by decide +kernel
theorem dX0_readTest_73 : decode cX0_readTest 73 = .ok (.ireturn, 1) := by decide +kernel
theorem dX0_readSum_0 : decode cX0_readSum 0 = .ok (.aload_n 0, 1) := by decide +kernel
theorem dX0_readSum_1 : decode cX0_readSum 1 = .ok (.iload_n 1, 1) := by decide +kernel
theorem dX0_readSum_2 : decode cX0_readSum 2 = .ok (.invokevirtual 57, 3) := by decide +kernel
theorem dX0_readSum_5 : decode cX0_readSum 5 = .ok (.istore_n 2, 1) := by decide +kernel
theorem dX0_readSum_6 : decode cX0_readSum 6 = .ok (.iconst 0, 1) := by decide +kernel
theorem dX0_readSum_7 : decode cX0_readSum 7 = .ok (.istore_n 3, 1) := by decide +kernel
theorem dX0_readSum_8 : decode cX0_readSum 8 = .ok (.iload_n 2, 1) := by decide +kernel
theorem dX0_readSum_9 : decode cX0_readSum 9 = .ok (.ifCond .eq 80, 3) := by decide +kernel
theorem dX0_readSum_12 : decode cX0_readSum 12 = .ok (.iload_n 3, 1) := by decide +kernel
theorem dX0_readSum_13 : decode cX0_readSum 13 = .ok (.sipush 1000, 3) := by decide +kernel
theorem dX0_readSum_16 : decode cX0_readSum 16 = .ok (.if_icmp .ge 73, 3) := by decide +kernel
theorem dX0_readSum_19 : decode cX0_readSum 19 = .ok (.aload_n 0, 1) := by decide +kernel
theorem dX0_readSum_20 : decode cX0_readSum 20 = .ok (.getfield 21, 3) := by decide +kernel
theorem dX0_readSum_23 : decode cX0_readSum 23 = .ok (.getfield 54, 3) := by decide +kernel
theorem dX0_readSum_26 : decode cX0_readSum 26 = .ok (.bipush 43, 2) := by decide +kernel
theorem dX0_readSum_28 : decode cX0_readSum 28 = .ok (.if_icmp .eq 15, 3) := by decide +kernel
theorem dX0_readSum_31 : decode cX0_readSum 31 = .ok (.aload_n 0, 1) := by decide +kernel
theorem dX0_readSum_32 : decode cX0_readSum 32 = .ok (.getfield 21, 3) := by decide +kernel
theorem dX0_readSum_35 : decode cX0_readSum 35 = .ok (.getfield 54, 3) := by decide +kernel
theorem dX0_readSum_38 : decode cX0_readSum 38 = .ok (.bipush 45, 2) := by decide +kernel
theorem dX0_readSum_40 : decode cX0_readSum 40 = .ok (.if_icmp .ne 49, 3) := by decide +kernel
theorem dX0_readSum_43 : decode cX0_readSum 43 = .ok (.aload_n 0, 1) := by decide +kernel
theorem dX0_readSum_44 : decode cX0_readSum 44 = .ok (.getfield 21, 3) := by decide +kernel
theorem dX0_readSum_47 : decode cX0_readSum 47 = .ok (.getfield 54, 3) := by decide +kernel
theorem dX0_readSum_50 : decode cX0_readSum 50 = .ok (.bipush 43, 2) := by decide +kernel
theorem dX0_readSum_52 : decode cX0_readSum 52 = .ok (.if_icmp .ne 8, 3) := by decide +kernel
theorem dX0_readSum_55 : decode cX0_readSum 55 = .ok (.bipush (-15), 2) := by decide +kernel
theorem dX0_readSum_57 : decode cX0_readSum 57 = .ok (.goto 5, 3) := by decide +kernel
theorem dX0_readSum_60 : decode cX0_readSum 60 = .ok (.bipush (-16), 2) := by decide +kernel
theorem dX0_readSum_62 : decode cX0_readSum 62 = .ok (.istore 4, 2) := by decide +kernel
theorem dX0_readSum_64 : decode cX0_readSum 64 = .ok (.aload_n 0, 1) := by decide +kernel
theorem dX0_readSum_65 : decode cX0_readSum 65 = .ok (.getfield 21, 3) := by decide +kernel
theorem dX0_readSum_68 : decode cX0_readSum 68 = .ok (.invokevirtual 44, 3) := by decide +kernel
theorem dX0_readSum_71 : decode cX0_readSum 71 = .ok (.aload_n 0, 1) := by decide +kernel
theorem dX0_readSum_72 : decode cX0_readSum 72 = .ok (.iload_n 1, 1) := by decide +kernel
theorem dX0_readSum_73 : decode cX0_readSum 73 = .ok (.invokevirtual 57, 3) := by decide +kernel
theorem dX0_readSum_76 : decode cX0_readSum 76 = .ok (.istore_n 2, 1) := by decide +kernel
theorem dX0_readSum_77 : decode cX0_readSum 77 = .ok (.aload_n 0, 1) := by decide +kernel
theorem dX0_readSum_78 : decode cX0_readSum 78 = .ok (.iload 4, 2) := by decide +kernel
theorem dX0_readSum_80 : decode cX0_readSum 80 = .ok (.invokevirtual 47, 3) := by decide +kernel
theorem dX0_readSum_83 : decode cX0_readSum 83 = .ok (.iinc 3 1, 3) := by decide +kernel
theorem dX0_readSum_86 : decode cX0_readSum 86 = .ok (.goto (-78), 3) := by decide +kernel
theorem dX0_readSum_89 : decode cX0_readSum 89 = .ok (.iload_n 2, 1) := by decide +kernel
theorem dX0_readSum_90 : decode cX0_readSum 90 = .ok (.ireturn, 1) := by decide +kernel
theorem dX0_readProduct_0 : decode cX0_readProduct 0 = .ok (.aload_n 0, 1) := by decide +kernel
theorem dX0_readProduct_1 : decode cX0_readProduct 1 = .ok (.iload_n 1, 1) := by decide +kernel
theorem dX0_readProduct_2 : decode cX0_readProduct 2 = .ok (.invokevirtual 60, 3) := by decide +kernel
theorem dX0_readProduct_5 : decode cX0_readProduct 5 = .ok (.istore_n 2, 1) := by decide +kernel
theorem dX0_readProduct_6 : decode cX0_readProduct 6 = .ok (.iconst 0, 1) := by decide +kernel
theorem dX0_readProduct_7 : decode cX0_readProduct 7 = .ok (.istore_n 3, 1) := by decide +kernel
theorem dX0_readProduct_8 : decode cX0_readProduct 8 = .ok (.iload_n 2, 1) := by decide +kernel
theorem dX0_readProduct_9 : decode cX0_readProduct 9 = .ok (.ifCond .eq 47, 3) := by decide +kernel
theorem dX0_readProduct_12 : decode cX0_readProduct 12 = .ok (.iload_n 3, 1) := by decide +kernel
theorem dX0_readProduct_13 : decode cX0_readProduct 13 = .ok (.sipush 1000, 3) := by decide +kernel
theorem dX0_readProduct_16 : decode cX0_readProduct 16 = .ok (.if_icmp .ge 40, 3) := by decide +kernel
theorem dX0_readProduct_19 : decode cX0_readProduct 19 = .ok (.aload_n 0, 1) := by decide +kernel
theorem dX0_readProduct_20 : decode cX0_readProduct 20 = .ok (.getfield 21, 3) := by decide +kernel
theorem dX0_readProduct_23 : decode cX0_readProduct 23 = .ok (.getfield 54, 3) := by decide +kernel
theorem dX0_readProduct_26 : decode cX0_readProduct 26 = .ok (.bipush 42, 2) := by decide +kernel
theorem dX0_readProduct_28 : decode cX0_readProduct 28 = .ok (.if_icmp .ne 28, 3) := by decide +kernel
theorem dX0_readProduct_31 : decode cX0_readProduct 31 = .ok (.aload_n 0, 1) := by decide +kernel
theorem dX0_readProduct_32 : decode cX0_readProduct 32 = .ok (.getfield 21, 3) := by decide +kernel
theorem dX0_readProduct_35 : decode cX0_readProduct 35 = .ok (.invokevirtual 44, 3) := by decide +kernel
theorem dX0_readProduct_38 : decode cX0_readProduct 38 = .ok (.aload_n 0, 1) := by decide +kernel
theorem dX0_readProduct_39 : decode cX0_readProduct 39 = .ok (.iload_n 1, 1) := by decide +kernel
theorem dX0_readProduct_40 : decode cX0_readProduct 40 = .ok (.invokevirtual 60, 3) := by decide +kernel
theorem dX0_readProduct_43 : decode cX0_readProduct 43 = .ok (.istore_n 2, 1) := by decide +kernel
theorem dX0_readProduct_44 : decode cX0_readProduct 44 = .ok (.aload_n 0, 1) := by decide +kernel
theorem dX0_readProduct_45 : decode cX0_readProduct 45 = .ok (.bipush (-17), 2) := by decide +kernel
theorem dX0_readProduct_47 : decode cX0_readProduct 47 = .ok (.invokevirtual 47, 3) := by decide +kernel
theorem dX0_readProduct_50 : decode cX0_readProduct 50 = .ok (.iinc 3 1, 3) := by decide +kernel
theorem dX0_readProduct_53 : decode cX0_readProduct 53 = .ok (.goto (-45), 3) := by decide +kernel
theorem dX0_readProduct_56 : decode cX0_readProduct 56 = .ok (.iload_n 2, 1) := by decide +kernel
theorem dX0_readProduct_57 : decode cX0_readProduct 57 = .ok (.ireturn, 1) := by decide +kernel
theorem dX0_readPart_0 : decode cX0_readPart 0 = .ok (.aload_n 0, 1) := by decide +kernel
theorem dX0_readPart_1 : decode cX0_readPart 1 = .ok (.invokevirtual 63, 3) := by decide +kernel
theorem dX0_readPart_4 : decode cX0_readPart 4 = .ok (.istore_n 2, 1) := by decide +kernel
theorem dX0_readPart_5 : decode cX0_readPart 5 = .ok (.aload_n 0, 1) := by decide +kernel
theorem dX0_readPart_6 : decode cX0_readPart 6 = .ok (.getfield 21, 3) := by decide +kernel
theorem dX0_readPart_9 : decode cX0_readPart 9 = .ok (.getfield 54, 3) := by decide +kernel
theorem dX0_readPart_12 : decode cX0_readPart 12 = .ok (.bipush 40, 2) := by decide +kernel
theorem dX0_readPart_14 : decode cX0_readPart 14 = .ok (.if_icmp .ne 7, 3) := by decide +kernel
theorem dX0_readPart_17 : decode cX0_readPart 17 = .ok (.iconst 1, 1) := by decide +kernel
theorem dX0_readPart_18 : decode cX0_readPart 18 = .ok (.goto 4, 3) := by decide +kernel
theorem dX0_readPart_21 : decode cX0_readPart 21 = .ok (.iconst 0, 1) := by decide +kernel
theorem dX0_readPart_22 : decode cX0_readPart 22 = .ok (.istore_n 3, 1) := by decide +kernel
theorem dX0_readPart_23 : decode cX0_readPart 23 = .ok (.aload_n 0, 1) := by decide +kernel
theorem dX0_readPart_24 : decode cX0_readPart 24 = .ok (.getfield 21, 3) := by decide +kernel
theorem dX0_readPart_27 : decode cX0_readPart 27 = .ok (.bipush 22, 2) := by decide +kernel
theorem dX0_readPart_29 : decode cX0_readPart 29 = .ok (.invokevirtual 36, 3) := by decide +kernel
theorem dX0_readPart_32 : decode cX0_readPart 32 = .ok (.istore 4, 2) := by decide +kernel
theorem dX0_readPart_34 : decode cX0_readPart 34 = .ok (.iload_n 2, 1) := by decide +kernel
theorem dX0_readPart_35 : decode cX0_readPart 35 = .ok (.ifCond .ne 32, 3) := by decide +kernel
theorem dX0_readPart_38 : decode cX0_readPart 38 = .ok (.iload_n 3, 1) := by decide +kernel
theorem dX0_readPart_39 : decode cX0_readPart 39 = .ok (.ifCond .ne 28, 3) := by decide +kernel
theorem dX0_readPart_42 : decode cX0_readPart 42 = .ok (.iload 4, 2) := by decide +kernel
theorem dX0_readPart_44 : decode cX0_readPart 44 = .ok (.ifCond .ne 23, 3) := by decide +kernel
theorem dX0_readPart_47 : decode cX0_readPart 47 = .ok (.aload_n 0, 1) := by decide +kernel
theorem dX0_readPart_48 : decode cX0_readPart 48 = .ok (.getfield 21, 3) := by decide +kernel
theorem dX0_readPart_51 : decode cX0_readPart 51 = .ok (.getfield 54, 3) := by decide +kernel
theorem dX0_readPart_54 : decode cX0_readPart 54 = .ok (.iconst 2, 1) := by decide +kernel
theorem dX0_readPart_55 : decode cX0_readPart 55 = .ok (.if_icmp .eq 12, 3) := by decide +kernel
theorem dX0_readPart_58 : decode cX0_readPart 58 = .ok (.aload_n 0, 1) := by decide +kernel
theorem dX0_readPart_59 : decode cX0_readPart 59 = .ok (.getfield 21, 3) := by decide +kernel
theorem dX0_readPart_62 : decode cX0_readPart 62 = .ok (.iconst 1, 1) := by decide +kernel
theorem dX0_readPart_63 : decode cX0_readPart 63 = .ok (.invokevirtual 67, 3) := by decide +kernel
theorem dX0_readPart_66 : decode cX0_readPart 66 = .ok (.ireturn, 1) := by decide +kernel
theorem dX0_readPart_67 : decode cX0_readPart 67 = .ok (.iload_n 1, 1) := by decide +kernel
theorem dX0_readPart_68 : decode cX0_readPart 68 = .ok (.iconst 5, 1) := by decide +kernel
theorem dX0_readPart_69 : decode cX0_readPart 69 = .ok (.if_icmp .lt 12, 3) := by decide +kernel
theorem dX0_readPart_72 : decode cX0_readPart 72 = .ok (.aload_n 0, 1) := by decide +kernel
theorem dX0_readPart_73 : decode cX0_readPart 73 = .ok (.getfield 21, 3) := by decide +kernel
theorem dX0_readPart_76 : decode cX0_readPart 76 = .ok (.iconst 5, 1) := by decide +kernel
theorem dX0_readPart_77 : decode cX0_readPart 77 = .ok (.invokevirtual 67, 3) := by decide +kernel
theorem dX0_readPart_80 : decode cX0_readPart 80 = .ok (.ireturn, 1) := by decide +kernel
theorem dX0_readPart_81 : decode cX0_readPart 81 = .ok (.iload_n 2, 1) := by decide +kernel
theorem dX0_readPart_82 : decode cX0_readPart 82 = .ok (.ifCond .ne 14, 3) := by decide +kernel
theorem dX0_readPart_85 : decode cX0_readPart 85 = .ok (.aload_n 0, 1) := by decide +kernel
theorem dX0_readPart_86 : decode cX0_readPart 86 = .ok (.getfield 21, 3) := by decide +kernel
theorem dX0_readPart_89 : decode cX0_readPart 89 = .ok (.getfield 54, 3) := by decide +kernel
theorem dX0_readPart_92 : decode cX0_readPart 92 = .ok (.iconst 2, 1) := by decide +kernel
theorem dX0_readPart_93 : decode cX0_readPart 93 = .ok (.if_icmp .ne 40, 3) := by decide +kernel
theorem dX0_readPart_96 : decode cX0_readPart 96 = .ok (.aload_n 0, 1) := by decide +kernel
theorem dX0_readPart_97 : decode cX0_readPart 97 = .ok (.iload_n 2, 1) := by decide +kernel
theorem dX0_readPart_98 : decode cX0_readPart 98 = .ok (.ifCond .eq 16, 3) := by decide +kernel
theorem dX0_readPart_101 : decode cX0_readPart 101 = .ok (.bipush 24, 2) := by decide +kernel
theorem dX0_readPart_103 : decode cX0_readPart 103 = .ok (.aload_n 0, 1) := by decide +kernel
theorem dX0_readPart_104 : decode cX0_readPart 104 = .ok (.getfield 21, 3) := by decide +kernel
theorem dX0_readPart_107 : decode cX0_readPart 107 = .ok (.getfield 41, 3) := by decide +kernel
theorem dX0_readPart_110 : decode cX0_readPart 110 = .ok (.isub, 1) := by decide +kernel
theorem dX0_readPart_111 : decode cX0_readPart 111 = .ok (.goto 10, 3) := by decide +kernel
theorem dX0_readPart_114 : decode cX0_readPart 114 = .ok (.aload_n 0, 1) := by decide +kernel
theorem dX0_readPart_115 : decode cX0_readPart 115 = .ok (.getfield 21, 3) := by decide +kernel
theorem dX0_readPart_118 : decode cX0_readPart 118 = .ok (.getfield 70, 3) := by decide +kernel
theorem dX0_readPart_121 : decode cX0_readPart 121 = .ok (.invokevirtual 47, 3) := by decide +kernel
theorem dX0_readPart_124 : decode cX0_readPart 124 = .ok (.aload_n 0, 1) := by decide +kernel
theorem dX0_readPart_125 : decode cX0_readPart 125 = .ok (.getfield 21, 3) := by decide +kernel
theorem dX0_readPart_128 : decode cX0_readPart 128 = .ok (.invokevirtual 44, 3) := by decide +kernel
theorem dX0_readPart_131 : decode cX0_readPart 131 = .ok (.iconst 1, 1) := by decide +kernel
theorem dX0_readPart_132 : decode cX0_readPart 132 = .ok (.ireturn, 1) := by decide +kernel
theorem dX0_readPart_133 : decode cX0_readPart 133 = .ok (.aload_n 0, 1) := by decide +kernel
theorem dX0_readPart_134 : decode cX0_readPart 134 = .ok (.getfield 21, 3) := by decide +kernel
theorem dX0_readPart_137 : decode cX0_readPart 137 = .ok (.invokevirtual 44, 3) := by decide +kernel
theorem dX0_readPart_140 : decode cX0_readPart 140 = .ok (.iload_n 3, 1) := by decide +kernel
theorem dX0_readPart_141 : decode cX0_readPart 141 = .ok (.ifCond .eq 13, 3) := by decide +kernel
theorem dX0_readPart_144 : decode cX0_readPart 144 = .ok (.aload_n 0, 1) := by decide +kernel
theorem dX0_readPart_145 : decode cX0_readPart 145 = .ok (.iload_n 1, 1) := by decide +kernel
theorem dX0_readPart_146 : decode cX0_readPart 146 = .ok (.iconst 1, 1) := by decide +kernel
theorem dX0_readPart_147 : decode cX0_readPart 147 = .ok (.iadd, 1) := by decide +kernel
theorem dX0_readPart_148 : decode cX0_readPart 148 = .ok (.invokevirtual 73, 3) := by decide +kernel
theorem dX0_readPart_151 : decode cX0_readPart 151 = .ok (.goto 10, 3) := by decide +kernel
theorem dX0_readPart_154 : decode cX0_readPart 154 = .ok (.aload_n 0, 1) := by decide +kernel
theorem dX0_readPart_155 : decode cX0_readPart 155 = .ok (.iload_n 1, 1) := by decide +kernel
theorem dX0_readPart_156 : decode cX0_readPart 156 = .ok (.iconst 1, 1) := by decide +kernel
theorem dX0_readPart_157 : decode cX0_readPart 157 = .ok (.iadd, 1) := by decide +kernel
theorem dX0_readPart_158 : decode cX0_readPart 158 = .ok (.invokevirtual 60, 3) := by decide +kernel
theorem dX0_readPart_161 : decode cX0_readPart 161 = .ok (.istore 5, 2) := by decide +kernel
theorem dX0_readPart_163 : decode cX0_readPart 163 = .ok (.iload 4, 2) := by decide +kernel
theorem dX0_readPart_165 : decode cX0_readPart 165 = .ok (.ifCond .eq 12, 3) := by decide +kernel
theorem dX0_readPart_168 : decode cX0_readPart 168 = .ok (.aload_n 0, 1) := by decide +kernel
theorem dX0_readPart_169 : decode cX0_readPart 169 = .ok (.bipush (-10), 2) := by decide +kernel
theorem dX0_readPart_171 : decode cX0_readPart 171 = .ok (.invokevirtual 47, 3) := by decide +kernel
theorem dX0_readPart_174 : decode cX0_readPart 174 = .ok (.goto 45, 3) := by decide +kernel
theorem dX0_readPart_177 : decode cX0_readPart 177 = .ok (.iload 5, 2) := by decide +kernel
theorem dX0_readPart_179 : decode cX0_readPart 179 = .ok (.ifCond .eq 28, 3) := by decide +kernel
theorem dX0_readPart_182 : decode cX0_readPart 182 = .ok (.aload_n 0, 1) := by decide +kernel
theorem dX0_readPart_183 : decode cX0_readPart 183 = .ok (.getfield 21, 3) := by decide +kernel
theorem dX0_readPart_186 : decode cX0_readPart 186 = .ok (.getfield 54, 3) := by decide +kernel
theorem dX0_readPart_189 : decode cX0_readPart 189 = .ok (.bipush 41, 2) := by decide +kernel
theorem dX0_readPart_191 : decode cX0_readPart 191 = .ok (.if_icmp .eq 16, 3) := by decide +kernel
theorem dX0_readPart_194 : decode cX0_readPart 194 = .ok (.aload_n 0, 1) := by decide +kernel
theorem dX0_readPart_195 : decode cX0_readPart 195 = .ok (.getfield 21, 3) := by decide +kernel
theorem dX0_readPart_198 : decode cX0_readPart 198 = .ok (.iconst 1, 1) := by decide +kernel
theorem dX0_readPart_199 : decode cX0_readPart 199 = .ok (.invokevirtual 67, 3) := by decide +kernel
theorem dX0_readPart_202 : decode cX0_readPart 202 = .ok (.istore 5, 2) := by decide +kernel
theorem dX0_readPart_204 : decode cX0_readPart 204 = .ok (.goto 15, 3) := by decide +kernel
theorem dX0_readPart_207 : decode cX0_readPart 207 = .ok (.iload 5, 2) := by decide +kernel
theorem dX0_readPart_209 : decode cX0_readPart 209 = .ok (.ifCond .eq 10, 3) := by decide +kernel
theorem dX0_readPart_212 : decode cX0_readPart 212 = .ok (.aload_n 0, 1) := by decide +kernel
theorem dX0_readPart_213 : decode cX0_readPart 213 = .ok (.getfield 21, 3) := by decide +kernel
theorem dX0_readPart_216 : decode cX0_readPart 216 = .ok (.invokevirtual 44, 3) := by decide +kernel
theorem dX0_readPart_219 : decode cX0_readPart 219 = .ok (.iload 5, 2) := by decide +kernel
theorem dX0_readPart_221 : decode cX0_readPart 221 = .ok (.ireturn, 1) := by decide +kernel
theorem dX0_isFact_0 : decode cX0_isFact 0 = .ok (.aload_n 0, 1) := by decide +kernel
theorem dX0_isFact_1 : decode cX0_isFact 1 = .ok (.getfield 21, 3) := by decide +kernel
theorem dX0_isFact_4 : decode cX0_isFact 4 = .ok (.getfield 54, 3) := by decide +kernel
theorem dX0_isFact_7 : decode cX0_isFact 7 = .ok (.iconst 1, 1) := by decide +kernel
theorem dX0_isFact_8 : decode cX0_isFact 8 = .ok (.if_icmp .ne 39, 3) := by decide +kernel
theorem dX0_isFact_11 : decode cX0_isFact 11 = .ok (.aload_n 0, 1) := by decide +kernel
theorem dX0_isFact_12 : decode cX0_isFact 12 = .ok (.getfield 21, 3) := by decide +kernel
theorem dX0_isFact_15 : decode cX0_isFact 15 = .ok (.getfield 41, 3) := by decide +kernel
theorem dX0_isFact_18 : decode cX0_isFact 18 = .ok (.bipush 25, 2) := by decide +kernel
theorem dX0_isFact_20 : decode cX0_isFact 20 = .ok (.if_icmp .lt 27, 3) := by decide +kernel
theorem dX0_isFact_23 : decode cX0_isFact 23 = .ok (.aload_n 0, 1) := by decide +kernel
theorem dX0_isFact_24 : decode cX0_isFact 24 = .ok (.getfield 25, 3) := by decide +kernel
theorem dX0_isFact_27 : decode cX0_isFact 27 = .ok (.aload_n 0, 1) := by decide +kernel
theorem dX0_isFact_28 : decode cX0_isFact 28 = .ok (.getfield 21, 3) := by decide +kernel
theorem dX0_isFact_31 : decode cX0_isFact 31 = .ok (.getfield 41, 3) := by decide +kernel
theorem dX0_isFact_34 : decode cX0_isFact 34 = .ok (.bipush 25, 2) := by decide +kernel
theorem dX0_isFact_36 : decode cX0_isFact 36 = .ok (.isub, 1) := by decide +kernel
theorem dX0_isFact_37 : decode cX0_isFact 37 = .ok (.ishr, 1) := by decide +kernel
theorem dX0_isFact_38 : decode cX0_isFact 38 = .ok (.iconst 1, 1) := by decide +kernel
theorem dX0_isFact_39 : decode cX0_isFact 39 = .ok (.iand, 1) := by decide +kernel
theorem dX0_isFact_40 : decode cX0_isFact 40 = .ok (.ifCond .eq 7, 3) := by decide +kernel
theorem dX0_isFact_43 : decode cX0_isFact 43 = .ok (.iconst 1, 1) := by decide +kernel
theorem dX0_isFact_44 : decode cX0_isFact 44 = .ok (.goto 4, 3) := by decide +kernel
theorem dX0_isFact_47 : decode cX0_isFact 47 = .ok (.iconst 0, 1) := by decide +kernel
theorem dX0_isFact_48 : decode cX0_isFact 48 = .ok (.ireturn, 1) := by decide +kernel
theorem dX0_value_0 : decode cX0_value 0 = .ok (.iconst 0, 1) := by decide +kernel
theorem dX0_value_1 : decode cX0_value 1 = .ok (.istore_n 1, 1) := by decide +kernel
theorem dX0_value_2 : decode cX0_value 2 = .ok (.iconst 0, 1) := by decide +kernel
theorem dX0_value_3 : decode cX0_value 3 = .ok (.istore_n 2, 1) := by decide +kernel
theorem dX0_value_4 : decode cX0_value 4 = .ok (.iload_n 2, 1) := by decide +kernel
theorem dX0_value_5 : decode cX0_value 5 = .ok (.aload_n 0, 1) := by decide +kernel
theorem dX0_value_6 : decode cX0_value 6 = .ok (.getfield 29, 3) := by decide +kernel
theorem dX0_value_9 : decode cX0_value 9 = .ok (.if_icmp .ge 127, 3) := by decide +kernel
theorem dX0_value_12 : decode cX0_value 12 = .ok (.aload_n 0, 1) := by decide +kernel
theorem dX0_value_13 : decode cX0_value 13 = .ok (.getfield 15, 3) := by decide +kernel
theorem dX0_value_16 : decode cX0_value 16 = .ok (.iload_n 2, 1) := by decide +kernel
theorem dX0_value_17 : decode cX0_value 17 = .ok (.iaload, 1) := by decide +kernel
theorem dX0_value_18 : decode cX0_value 18 = .ok (.istore_n 3, 1) := by decide +kernel
theorem dX0_value_19 : decode cX0_value 19 = .ok (.iload_n 3, 1) := by decide +kernel
theorem dX0_value_20 : decode cX0_value 20 = .ok (.bipush (-10), 2) := by decide +kernel
theorem dX0_value_22 : decode cX0_value 22 = .ok (.if_icmp .le 36, 3) := by decide +kernel
theorem dX0_value_25 : decode cX0_value 25 = .ok (.iload_n 1, 1) := by decide +kernel
theorem dX0_value_26 : decode cX0_value 26 = .ok (.bipush 32, 2) := by decide +kernel
theorem dX0_value_28 : decode cX0_value 28 = .ok (.if_icmp .ge 102, 3) := by decide +kernel
theorem dX0_value_31 : decode cX0_value 31 = .ok (.aload_n 0, 1) := by decide +kernel
theorem dX0_value_32 : decode cX0_value 32 = .ok (.getfield 18, 3) := by decide +kernel
theorem dX0_value_35 : decode cX0_value 35 = .ok (.iload_n 1, 1) := by decide +kernel
theorem dX0_value_36 : decode cX0_value 36 = .ok (.iload_n 3, 1) := by decide +kernel
theorem dX0_value_37 : decode cX0_value 37 = .ok (.ifCond .lt 7, 3) := by decide +kernel
theorem dX0_value_40 : decode cX0_value 40 = .ok (.iload_n 3, 1) := by decide +kernel
theorem dX0_value_41 : decode cX0_value 41 = .ok (.goto 10, 3) := by decide +kernel
theorem dX0_value_44 : decode cX0_value 44 = .ok (.aload_n 0, 1) := by decide +kernel
theorem dX0_value_45 : decode cX0_value 45 = .ok (.iconst (-1), 1) := by decide +kernel
theorem dX0_value_46 : decode cX0_value 46 = .ok (.iload_n 3, 1) := by decide +kernel
theorem dX0_value_47 : decode cX0_value 47 = .ok (.isub, 1) := by decide +kernel
theorem dX0_value_48 : decode cX0_value 48 = .ok (.invokevirtual 76, 3) := by decide +kernel
theorem dX0_value_51 : decode cX0_value 51 = .ok (.iastore, 1) := by decide +kernel
theorem dX0_value_52 : decode cX0_value 52 = .ok (.iinc 1 1, 3) := by decide +kernel
theorem dX0_value_55 : decode cX0_value 55 = .ok (.goto 75, 3) := by decide +kernel
theorem dX0_value_58 : decode cX0_value 58 = .ok (.iload_n 3, 1) := by decide +kernel
theorem dX0_value_59 : decode cX0_value 59 = .ok (.bipush (-10), 2) := by decide +kernel
theorem dX0_value_61 : decode cX0_value 61 = .ok (.if_icmp .ne 35, 3) := by decide +kernel
theorem dX0_value_64 : decode cX0_value 64 = .ok (.iload_n 1, 1) := by decide +kernel
theorem dX0_value_65 : decode cX0_value 65 = .ok (.iconst 1, 1) := by decide +kernel
theorem dX0_value_66 : decode cX0_value 66 = .ok (.if_icmp .lt 64, 3) := by decide +kernel
theorem dX0_value_69 : decode cX0_value 69 = .ok (.aload_n 0, 1) := by decide +kernel
theorem dX0_value_70 : decode cX0_value 70 = .ok (.getfield 18, 3) := by decide +kernel
theorem dX0_value_73 : decode cX0_value 73 = .ok (.iload_n 1, 1) := by decide +kernel
theorem dX0_value_74 : decode cX0_value 74 = .ok (.iconst 1, 1) := by decide +kernel
theorem dX0_value_75 : decode cX0_value 75 = .ok (.isub, 1) := by decide +kernel
theorem dX0_value_76 : decode cX0_value 76 = .ok (.aload_n 0, 1) := by decide +kernel
theorem dX0_value_77 : decode cX0_value 77 = .ok (.getfield 18, 3) := by decide +kernel
theorem dX0_value_80 : decode cX0_value 80 = .ok (.iload_n 1, 1) := by decide +kernel
theorem dX0_value_81 : decode cX0_value 81 = .ok (.iconst 1, 1) := by decide +kernel
theorem dX0_value_82 : decode cX0_value 82 = .ok (.isub, 1) := by decide +kernel
theorem dX0_value_83 : decode cX0_value 83 = .ok (.iaload, 1) := by decide +kernel
theorem dX0_value_84 : decode cX0_value 84 = .ok (.ifCond .ne 7, 3) := by decide +kernel
theorem dX0_value_87 : decode cX0_value 87 = .ok (.iconst 1, 1) := by decide +kernel
theorem dX0_value_88 : decode cX0_value 88 = .ok (.goto 4, 3) := by decide +kernel
theorem dX0_value_91 : decode cX0_value 91 = .ok (.iconst 0, 1) := by decide +kernel
theorem dX0_value_92 : decode cX0_value 92 = .ok (.iastore, 1) := by decide +kernel
theorem dX0_value_93 : decode cX0_value 93 = .ok (.goto 37, 3) := by decide +kernel
theorem dX0_value_96 : decode cX0_value 96 = .ok (.iload_n 1, 1) := by decide +kernel
theorem dX0_value_97 : decode cX0_value 97 = .ok (.iconst 2, 1) := by decide +kernel
theorem dX0_value_98 : decode cX0_value 98 = .ok (.if_icmp .lt 32, 3) := by decide +kernel
theorem dX0_value_101 : decode cX0_value 101 = .ok (.iinc 1 (-1), 3) := by decide +kernel
theorem dX0_value_104 : decode cX0_value 104 = .ok (.aload_n 0, 1) := by decide +kernel
theorem dX0_value_105 : decode cX0_value 105 = .ok (.getfield 18, 3) := by decide +kernel
theorem dX0_value_108 : decode cX0_value 108 = .ok (.iload_n 1, 1) := by decide +kernel
theorem dX0_value_109 : decode cX0_value 109 = .ok (.iconst 1, 1) := by decide +kernel
theorem dX0_value_110 : decode cX0_value 110 = .ok (.isub, 1) := by decide +kernel
theorem dX0_value_111 : decode cX0_value 111 = .ok (.iload_n 3, 1) := by decide +kernel
theorem dX0_value_112 : decode cX0_value 112 = .ok (.aload_n 0, 1) := by decide +kernel
theorem dX0_value_113 : decode cX0_value 113 = .ok (.getfield 18, 3) := by decide +kernel
theorem dX0_value_116 : decode cX0_value 116 = .ok (.iload_n 1, 1) := by decide +kernel
theorem dX0_value_117 : decode cX0_value 117 = .ok (.iconst 1, 1) := by decide +kernel
theorem dX0_value_118 : decode cX0_value 118 = .ok (.isub, 1) := by decide +kernel
theorem dX0_value_119 : decode cX0_value 119 = .ok (.iaload, 1) := by decide +kernel
theorem dX0_value_120 : decode cX0_value 120 = .ok (.aload_n 0, 1) := by decide +kernel
theorem dX0_value_121 : decode cX0_value 121 = .ok (.getfield 18, 3) := by decide +kernel
theorem dX0_value_124 : decode cX0_value 124 = .ok (.iload_n 1, 1) := by decide +kernel
theorem dX0_value_125 : decode cX0_value 125 = .ok (.iaload, 1) := by decide +kernel
theorem dX0_value_126 : decode cX0_value 126 = .ok (.invokestatic 80, 3) := by decide +kernel
theorem dX0_value_129 : decode cX0_value 129 = .ok (.iastore, 1) := by decide +kernel
theorem dX0_value_130 : decode cX0_value 130 = .ok (.iinc 2 1, 3) := by decide +kernel
theorem dX0_value_133 : decode cX0_value 133 = .ok (.goto (-129), 3) := by decide +kernel
theorem dX0_value_136 : decode cX0_value 136 = .ok (.aload_n 0, 1) := by decide +kernel
theorem dX0_value_137 : decode cX0_value 137 = .ok (.getfield 18, 3) := by decide +kernel
theorem dX0_value_140 : decode cX0_value 140 = .ok (.iconst 0, 1) := by decide +kernel
theorem dX0_value_141 : decode cX0_value 141 = .ok (.iaload, 1) := by decide +kernel
theorem dX0_value_142 : decode cX0_value 142 = .ok (.ireturn, 1) := by decide +kernel
theorem dX0_factAt_0 : decode cX0_factAt 0 = .ok (.iload_n 1, 1) := by decide +kernel
theorem dX0_factAt_1 : decode cX0_factAt 1 = .ok (.iconst 5, 1) := by decide +kernel
theorem dX0_factAt_2 : decode cX0_factAt 2 = .ok (.if_icmp .ge 12, 3) := by decide +kernel
theorem dX0_factAt_5 : decode cX0_factAt 5 = .ok (.aload_n 0, 1) := by decide +kernel
theorem dX0_factAt_6 : decode cX0_factAt 6 = .ok (.getfield 9, 3) := by decide +kernel
theorem dX0_factAt_9 : decode cX0_factAt 9 = .ok (.iload_n 1, 1) := by decide +kernel
theorem dX0_factAt_10 : decode cX0_factAt 10 = .ok (.iaload, 1) := by decide +kernel
theorem dX0_factAt_11 : decode cX0_factAt 11 = .ok (.goto 4, 3) := by decide +kernel
theorem dX0_factAt_14 : decode cX0_factAt 14 = .ok (.iconst 0, 1) := by decide +kernel
theorem dX0_factAt_15 : decode cX0_factAt 15 = .ok (.ireturn, 1) := by decide +kernel
theorem dX0_joined_0 : decode cX0_joined 0 = .ok (.iload_n 0, 1) := by decide +kernel
theorem dX0_joined_1 : decode cX0_joined 1 = .ok (.tableswitch 97 (-16) (-11) #[93, 89, 78, 67, 53, 39], 39) := by decide +kernel
theorem dX0_joined_40 : decode cX0_joined 40 = .ok (.iload_n 1, 1) := by decide +kernel
theorem dX0_joined_41 : decode cX0_joined 41 = .ok (.ifCond .eq 11, 3) := by decide +kernel
theorem dX0_joined_44 : decode cX0_joined 44 = .ok (.iload_n 2, 1) := by decide +kernel
theorem dX0_joined_45 : decode cX0_joined 45 = .ok (.ifCond .eq 7, 3) := by decide +kernel
theorem dX0_joined_48 : decode cX0_joined 48 = .ok (.iconst 1, 1) := by decide +kernel
theorem dX0_joined_49 : decode cX0_joined 49 = .ok (.goto 4, 3) := by decide +kernel
theorem dX0_joined_52 : decode cX0_joined 52 = .ok (.iconst 0, 1) := by decide +kernel
theorem dX0_joined_53 : decode cX0_joined 53 = .ok (.ireturn, 1) := by decide +kernel
theorem dX0_joined_54 : decode cX0_joined 54 = .ok (.iload_n 1, 1) := by decide +kernel
theorem dX0_joined_55 : decode cX0_joined 55 = .ok (.ifCond .ne 7, 3) := by decide +kernel
theorem dX0_joined_58 : decode cX0_joined 58 = .ok (.iload_n 2, 1) := by decide +kernel
theorem dX0_joined_59 : decode cX0_joined 59 = .ok (.ifCond .eq 7, 3) := by decide +kernel
theorem dX0_joined_62 : decode cX0_joined 62 = .ok (.iconst 1, 1) := by decide +kernel
theorem dX0_joined_63 : decode cX0_joined 63 = .ok (.goto 4, 3) := by decide +kernel
theorem dX0_joined_66 : decode cX0_joined 66 = .ok (.iconst 0, 1) := by decide +kernel
theorem dX0_joined_67 : decode cX0_joined 67 = .ok (.ireturn, 1) := by decide +kernel
theorem dX0_joined_68 : decode cX0_joined 68 = .ok (.iload_n 1, 1) := by decide +kernel
theorem dX0_joined_69 : decode cX0_joined 69 = .ok (.iload_n 2, 1) := by decide +kernel
theorem dX0_joined_70 : decode cX0_joined 70 = .ok (.if_icmp .ge 7, 3) := by decide +kernel
theorem dX0_joined_73 : decode cX0_joined 73 = .ok (.iconst 1, 1) := by decide +kernel
theorem dX0_joined_74 : decode cX0_joined 74 = .ok (.goto 4, 3) := by decide +kernel
theorem dX0_joined_77 : decode cX0_joined 77 = .ok (.iconst 0, 1) := by decide +kernel
theorem dX0_joined_78 : decode cX0_joined 78 = .ok (.ireturn, 1) := by decide +kernel
theorem dX0_joined_79 : decode cX0_joined 79 = .ok (.iload_n 1, 1) := by decide +kernel
theorem dX0_joined_80 : decode cX0_joined 80 = .ok (.iload_n 2, 1) := by decide +kernel
theorem dX0_joined_81 : decode cX0_joined 81 = .ok (.if_icmp .ne 7, 3) := by decide +kernel
theorem dX0_joined_84 : decode cX0_joined 84 = .ok (.iconst 1, 1) := by decide +kernel
theorem dX0_joined_85 : decode cX0_joined 85 = .ok (.goto 4, 3) := by decide +kernel
theorem dX0_joined_88 : decode cX0_joined 88 = .ok (.iconst 0, 1) := by decide +kernel
theorem dX0_joined_89 : decode cX0_joined 89 = .ok (.ireturn, 1) := by decide +kernel
theorem dX0_joined_90 : decode cX0_joined 90 = .ok (.iload_n 1, 1) := by decide +kernel
theorem dX0_joined_91 : decode cX0_joined 91 = .ok (.iload_n 2, 1) := by decide +kernel
theorem dX0_joined_92 : decode cX0_joined 92 = .ok (.iadd, 1) := by decide +kernel
theorem dX0_joined_93 : decode cX0_joined 93 = .ok (.ireturn, 1) := by decide +kernel
theorem dX0_joined_94 : decode cX0_joined 94 = .ok (.iload_n 1, 1) := by decide +kernel
theorem dX0_joined_95 : decode cX0_joined 95 = .ok (.iload_n 2, 1) := by decide +kernel
theorem dX0_joined_96 : decode cX0_joined 96 = .ok (.isub, 1) := by decide +kernel
theorem dX0_joined_97 : decode cX0_joined 97 = .ok (.ireturn, 1) := by decide +kernel
theorem dX0_joined_98 : decode cX0_joined 98 = .ok (.iload_n 1, 1) := by decide +kernel
theorem dX0_joined_99 : decode cX0_joined 99 = .ok (.iload_n 2, 1) := by decide +kernel
theorem dX0_joined_100 : decode cX0_joined 100 = .ok (.imul, 1) := by decide +kernel
theorem dX0_joined_101 : decode cX0_joined 101 = .ok (.ireturn, 1) := by decide +kernel
theorem dX1_init_0 : decode cX1_init 0 = .ok (.aload_n 0, 1) := by decide +kernel
theorem dX1_init_1 : decode cX1_init 1 = .ok (.invokespecial 3, 3) := by decide +kernel
theorem dX1_init_4 : decode cX1_init 4 = .ok (.aload_n 0, 1) := by decide +kernel
theorem dX1_init_5 : decode cX1_init 5 = .ok (.bipush 6, 2) := by decide +kernel
theorem dX1_init_7 : decode cX1_init 7 = .ok (.newarray .int, 2) := by decide +kernel
theorem dX1_init_9 : decode cX1_init 9 = .ok (.putfield 9, 3) := by decide +kernel
theorem dX1_init_12 : decode cX1_init 12 = .ok (.aload_n 0, 1) := by decide +kernel
theorem dX1_init_13 : decode cX1_init 13 = .ok (.bipush 6, 2) := by decide +kernel
theorem dX1_init_15 : decode cX1_init 15 = .ok (.newarray .int, 2) := by decide +kernel
theorem dX1_init_17 : decode cX1_init 17 = .ok (.putfield 15, 3) := by decide +kernel
theorem dX1_init_20 : decode cX1_init 20 = .ok (.aload_n 0, 1) := by decide +kernel
theorem dX1_init_21 : decode cX1_init 21 = .ok (.bipush 24, 2) := by decide +kernel
theorem dX1_init_23 : decode cX1_init 23 = .ok (.newarray .int, 2) := by decide +kernel
theorem dX1_init_25 : decode cX1_init 25 = .ok (.putfield 18, 3) := by decide +kernel
theorem dX1_init_28 : decode cX1_init 28 = .ok (.aload_n 0, 1) := by decide +kernel
theorem dX1_init_29 : decode cX1_init 29 = .ok (.bipush 6, 2) := by decide +kernel
theorem dX1_init_31 : decode cX1_init 31 = .ok (.newarray .int, 2) := by decide +kernel
theorem dX1_init_33 : decode cX1_init 33 = .ok (.putfield 21, 3) := by decide +kernel
theorem dX1_init_36 : decode cX1_init 36 = .ok (.aload_n 0, 1) := by decide +kernel
theorem dX1_init_37 : decode cX1_init 37 = .ok (.bipush 6, 2) := by decide +kernel
theorem dX1_init_39 : decode cX1_init 39 = .ok (.newarray .int, 2) := by decide +kernel
theorem dX1_init_41 : decode cX1_init 41 = .ok (.putfield 24, 3) := by decide +kernel
theorem dX1_init_44 : decode cX1_init 44 = .ok (.aload_n 0, 1) := by decide +kernel
theorem dX1_init_45 : decode cX1_init 45 = .ok (.iconst 5, 1) := by decide +kernel
theorem dX1_init_46 : decode cX1_init 46 = .ok (.newarray .int, 2) := by decide +kernel
theorem dX1_init_48 : decode cX1_init 48 = .ok (.putfield 27, 3) := by decide +kernel
theorem dX1_init_51 : decode cX1_init 51 = .ok (.aload_n 0, 1) := by decide +kernel
theorem dX1_init_52 : decode cX1_init 52 = .ok (.iconst 5, 1) := by decide +kernel
theorem dX1_init_53 : decode cX1_init 53 = .ok (.newarray .int, 2) := by decide +kernel
theorem dX1_init_55 : decode cX1_init 55 = .ok (.putfield 30, 3) := by decide +kernel
theorem dX1_init_58 : decode cX1_init 58 = .ok (.aload_n 0, 1) := by decide +kernel
theorem dX1_init_59 : decode cX1_init 59 = .ok (.bipush 6, 2) := by decide +kernel
theorem dX1_init_61 : decode cX1_init 61 = .ok (.newarray .int, 2) := by decide +kernel
theorem dX1_init_63 : decode cX1_init 63 = .ok (.putfield 33, 3) := by decide +kernel
theorem dX1_init_66 : decode cX1_init 66 = .ok (.return_, 1) := by decide +kernel
theorem dX1_weigh_0 : decode cX1_weigh 0 = .ok (.iconst 0, 1) := by decide +kernel
theorem dX1_weigh_1 : decode cX1_weigh 1 = .ok (.istore_n 3, 1) := by decide +kernel
theorem dX1_weigh_2 : decode cX1_weigh 2 = .ok (.iload_n 3, 1) := by decide +kernel
theorem dX1_weigh_3 : decode cX1_weigh 3 = .ok (.bipush 6, 2) := by decide +kernel
theorem dX1_weigh_5 : decode cX1_weigh 5 = .ok (.if_icmp .ge 23, 3) := by decide +kernel
theorem dX1_weigh_8 : decode cX1_weigh 8 = .ok (.aload_n 0, 1) := by decide +kernel
theorem dX1_weigh_9 : decode cX1_weigh 9 = .ok (.getfield 9, 3) := by decide +kernel
theorem dX1_weigh_12 : decode cX1_weigh 12 = .ok (.iload_n 3, 1) := by decide +kernel
theorem dX1_weigh_13 : decode cX1_weigh 13 = .ok (.iconst 0, 1) := by decide +kernel
theorem dX1_weigh_14 : decode cX1_weigh 14 = .ok (.iastore, 1) := by decide +kernel
theorem dX1_weigh_15 : decode cX1_weigh 15 = .ok (.aload_n 0, 1) := by decide +kernel
theorem dX1_weigh_16 : decode cX1_weigh 16 = .ok (.getfield 15, 3) := by decide +kernel
theorem dX1_weigh_19 : decode cX1_weigh 19 = .ok (.iload_n 3, 1) := by decide +kernel
theorem dX1_weigh_20 : decode cX1_weigh 20 = .ok (.iconst 0, 1) := by decide +kernel
theorem dX1_weigh_21 : decode cX1_weigh 21 = .ok (.iastore, 1) := by decide +kernel
theorem dX1_weigh_22 : decode cX1_weigh 22 = .ok (.iinc 3 1, 3) := by decide +kernel
theorem dX1_weigh_25 : decode cX1_weigh 25 = .ok (.goto (-23), 3) := by decide +kernel
theorem dX1_weigh_28 : decode cX1_weigh 28 = .ok (.iconst 0, 1) := by decide +kernel
theorem dX1_weigh_29 : decode cX1_weigh 29 = .ok (.istore_n 3, 1) := by decide +kernel
theorem dX1_weigh_30 : decode cX1_weigh 30 = .ok (.iload_n 3, 1) := by decide +kernel
theorem dX1_weigh_31 : decode cX1_weigh 31 = .ok (.bipush 24, 2) := by decide +kernel
theorem dX1_weigh_33 : decode cX1_weigh 33 = .ok (.if_icmp .ge 16, 3) := by decide +kernel
theorem dX1_weigh_36 : decode cX1_weigh 36 = .ok (.aload_n 0, 1) := by decide +kernel
theorem dX1_weigh_37 : decode cX1_weigh 37 = .ok (.getfield 18, 3) := by decide +kernel
theorem dX1_weigh_40 : decode cX1_weigh 40 = .ok (.iload_n 3, 1) := by decide +kernel
theorem dX1_weigh_41 : decode cX1_weigh 41 = .ok (.iconst 0, 1) := by decide +kernel
theorem dX1_weigh_42 : decode cX1_weigh 42 = .ok (.iastore, 1) := by decide +kernel
theorem dX1_weigh_43 : decode cX1_weigh 43 = .ok (.iinc 3 1, 3) := by decide +kernel
theorem dX1_weigh_46 : decode cX1_weigh 46 = .ok (.goto (-16), 3) := by decide +kernel
theorem dX1_weigh_49 : decode cX1_weigh 49 = .ok (.iconst 0, 1) := by decide +kernel
theorem dX1_weigh_50 : decode cX1_weigh 50 = .ok (.istore_n 3, 1) := by decide +kernel
theorem dX1_weigh_51 : decode cX1_weigh 51 = .ok (.iload_n 3, 1) := by decide +kernel
theorem dX1_weigh_52 : decode cX1_weigh 52 = .ok (.aload_n 1, 1) := by decide +kernel
theorem dX1_weigh_53 : decode cX1_weigh 53 = .ok (.getfield 36, 3) := by decide +kernel
theorem dX1_weigh_56 : decode cX1_weigh 56 = .ok (.if_icmp .ge 24, 3) := by decide +kernel
theorem dX1_weigh_59 : decode cX1_weigh 59 = .ok (.aload_n 0, 1) := by decide +kernel
theorem dX1_weigh_60 : decode cX1_weigh 60 = .ok (.getfield 9, 3) := by decide +kernel
theorem dX1_weigh_63 : decode cX1_weigh 63 = .ok (.aload_n 2, 1) := by decide +kernel
theorem dX1_weigh_64 : decode cX1_weigh 64 = .ok (.getfield 42, 3) := by decide +kernel
theorem dX1_weigh_67 : decode cX1_weigh 67 = .ok (.iload_n 3, 1) := by decide +kernel
theorem dX1_weigh_68 : decode cX1_weigh 68 = .ok (.iaload, 1) := by decide +kernel
theorem dX1_weigh_69 : decode cX1_weigh 69 = .ok (.dup2, 1) := by decide +kernel
theorem dX1_weigh_70 : decode cX1_weigh 70 = .ok (.iaload, 1) := by decide +kernel
theorem dX1_weigh_71 : decode cX1_weigh 71 = .ok (.iconst 1, 1) := by decide +kernel
theorem dX1_weigh_72 : decode cX1_weigh 72 = .ok (.iadd, 1) := by decide +kernel
theorem dX1_weigh_73 : decode cX1_weigh 73 = .ok (.iastore, 1) := by decide +kernel
theorem dX1_weigh_74 : decode cX1_weigh 74 = .ok (.iinc 3 1, 3) := by decide +kernel
theorem dX1_weigh_77 : decode cX1_weigh 77 = .ok (.goto (-26), 3) := by decide +kernel
theorem dX1_weigh_80 : decode cX1_weigh 80 = .ok (.iconst 0, 1) := by decide +kernel
theorem dX1_weigh_81 : decode cX1_weigh 81 = .ok (.istore_n 3, 1) := by decide +kernel
theorem dX1_weigh_82 : decode cX1_weigh 82 = .ok (.iload_n 3, 1) := by decide +kernel
theorem dX1_weigh_83 : decode cX1_weigh 83 = .ok (.aload_n 1, 1) := by decide +kernel
theorem dX1_weigh_84 : decode cX1_weigh 84 = .ok (.getfield 36, 3) := by decide +kernel
theorem dX1_weigh_87 : decode cX1_weigh 87 = .ok (.if_icmp .ge 98, 3) := by decide +kernel
theorem dX1_weigh_90 : decode cX1_weigh 90 = .ok (.aload_n 2, 1) := by decide +kernel
theorem dX1_weigh_91 : decode cX1_weigh 91 = .ok (.getfield 42, 3) := by decide +kernel
theorem dX1_weigh_94 : decode cX1_weigh 94 = .ok (.iload_n 3, 1) := by decide +kernel
theorem dX1_weigh_95 : decode cX1_weigh 95 = .ok (.iaload, 1) := by decide +kernel
theorem dX1_weigh_96 : decode cX1_weigh 96 = .ok (.istore 4, 2) := by decide +kernel
theorem dX1_weigh_98 : decode cX1_weigh 98 = .ok (.aload_n 1, 1) := by decide +kernel
theorem dX1_weigh_99 : decode cX1_weigh 99 = .ok (.iconst 0, 1) := by decide +kernel
theorem dX1_weigh_100 : decode cX1_weigh 100 = .ok (.aload_n 2, 1) := by decide +kernel
theorem dX1_weigh_101 : decode cX1_weigh 101 = .ok (.getfield 47, 3) := by decide +kernel
theorem dX1_weigh_104 : decode cX1_weigh 104 = .ok (.iload_n 3, 1) := by decide +kernel
theorem dX1_weigh_105 : decode cX1_weigh 105 = .ok (.iaload, 1) := by decide +kernel
theorem dX1_weigh_106 : decode cX1_weigh 106 = .ok (.aload_n 0, 1) := by decide +kernel
theorem dX1_weigh_107 : decode cX1_weigh 107 = .ok (.getfield 9, 3) := by decide +kernel
theorem dX1_weigh_110 : decode cX1_weigh 110 = .ok (.iload 4, 2) := by decide +kernel
theorem dX1_weigh_112 : decode cX1_weigh 112 = .ok (.iaload, 1) := by decide +kernel
theorem dX1_weigh_113 : decode cX1_weigh 113 = .ok (.iconst 1, 1) := by decide +kernel
theorem dX1_weigh_114 : decode cX1_weigh 114 = .ok (.isub, 1) := by decide +kernel
theorem dX1_weigh_115 : decode cX1_weigh 115 = .ok (.invokevirtual 50, 3) := by decide +kernel
theorem dX1_weigh_118 : decode cX1_weigh 118 = .ok (.istore 5, 2) := by decide +kernel
theorem dX1_weigh_120 : decode cX1_weigh 120 = .ok (.aload_n 1, 1) := by decide +kernel
theorem dX1_weigh_121 : decode cX1_weigh 121 = .ok (.iconst 1, 1) := by decide +kernel
theorem dX1_weigh_122 : decode cX1_weigh 122 = .ok (.aload_n 2, 1) := by decide +kernel
theorem dX1_weigh_123 : decode cX1_weigh 123 = .ok (.getfield 47, 3) := by decide +kernel
theorem dX1_weigh_126 : decode cX1_weigh 126 = .ok (.iload_n 3, 1) := by decide +kernel
theorem dX1_weigh_127 : decode cX1_weigh 127 = .ok (.iaload, 1) := by decide +kernel
theorem dX1_weigh_128 : decode cX1_weigh 128 = .ok (.aload_n 0, 1) := by decide +kernel
theorem dX1_weigh_129 : decode cX1_weigh 129 = .ok (.getfield 9, 3) := by decide +kernel
theorem dX1_weigh_132 : decode cX1_weigh 132 = .ok (.iload 4, 2) := by decide +kernel
theorem dX1_weigh_134 : decode cX1_weigh 134 = .ok (.iaload, 1) := by decide +kernel
theorem dX1_weigh_135 : decode cX1_weigh 135 = .ok (.iconst 1, 1) := by decide +kernel
theorem dX1_weigh_136 : decode cX1_weigh 136 = .ok (.isub, 1) := by decide +kernel
theorem dX1_weigh_137 : decode cX1_weigh 137 = .ok (.invokevirtual 50, 3) := by decide +kernel
theorem dX1_weigh_140 : decode cX1_weigh 140 = .ok (.istore 6, 2) := by decide +kernel
theorem dX1_weigh_142 : decode cX1_weigh 142 = .ok (.aload_n 0, 1) := by decide +kernel
theorem dX1_weigh_143 : decode cX1_weigh 143 = .ok (.getfield 15, 3) := by decide +kernel
theorem dX1_weigh_146 : decode cX1_weigh 146 = .ok (.iload 4, 2) := by decide +kernel
theorem dX1_weigh_148 : decode cX1_weigh 148 = .ok (.dup2, 1) := by decide +kernel
theorem dX1_weigh_149 : decode cX1_weigh 149 = .ok (.iaload, 1) := by decide +kernel
theorem dX1_weigh_150 : decode cX1_weigh 150 = .ok (.iload 5, 2) := by decide +kernel
theorem dX1_weigh_152 : decode cX1_weigh 152 = .ok (.iadd, 1) := by decide +kernel
theorem dX1_weigh_153 : decode cX1_weigh 153 = .ok (.iastore, 1) := by decide +kernel
theorem dX1_weigh_154 : decode cX1_weigh 154 = .ok (.aload_n 0, 1) := by decide +kernel
theorem dX1_weigh_155 : decode cX1_weigh 155 = .ok (.getfield 18, 3) := by decide +kernel
theorem dX1_weigh_158 : decode cX1_weigh 158 = .ok (.aload_n 1, 1) := by decide +kernel
theorem dX1_weigh_159 : decode cX1_weigh 159 = .ok (.getfield 54, 3) := by decide +kernel
theorem dX1_weigh_162 : decode cX1_weigh 162 = .ok (.iload_n 3, 1) := by decide +kernel
theorem dX1_weigh_163 : decode cX1_weigh 163 = .ok (.iaload, 1) := by decide +kernel
theorem dX1_weigh_164 : decode cX1_weigh 164 = .ok (.bipush 6, 2) := by decide +kernel
theorem dX1_weigh_166 : decode cX1_weigh 166 = .ok (.imul, 1) := by decide +kernel
theorem dX1_weigh_167 : decode cX1_weigh 167 = .ok (.iload 4, 2) := by decide +kernel
theorem dX1_weigh_169 : decode cX1_weigh 169 = .ok (.iadd, 1) := by decide +kernel
theorem dX1_weigh_170 : decode cX1_weigh 170 = .ok (.dup2, 1) := by decide +kernel
theorem dX1_weigh_171 : decode cX1_weigh 171 = .ok (.iaload, 1) := by decide +kernel
theorem dX1_weigh_172 : decode cX1_weigh 172 = .ok (.iload 6, 2) := by decide +kernel
theorem dX1_weigh_174 : decode cX1_weigh 174 = .ok (.iload 5, 2) := by decide +kernel
theorem dX1_weigh_176 : decode cX1_weigh 176 = .ok (.isub, 1) := by decide +kernel
theorem dX1_weigh_177 : decode cX1_weigh 177 = .ok (.iadd, 1) := by decide +kernel
theorem dX1_weigh_178 : decode cX1_weigh 178 = .ok (.iastore, 1) := by decide +kernel
theorem dX1_weigh_179 : decode cX1_weigh 179 = .ok (.iinc 3 1, 3) := by decide +kernel
theorem dX1_weigh_182 : decode cX1_weigh 182 = .ok (.goto (-100), 3) := by decide +kernel
theorem dX1_weigh_185 : decode cX1_weigh 185 = .ok (.return_, 1) := by decide +kernel
theorem dX1_worthTo_0 : decode cX1_worthTo 0 = .ok (.aload_n 0, 1) := by decide +kernel
theorem dX1_worthTo_1 : decode cX1_worthTo 1 = .ok (.getfield 15, 3) := by decide +kernel
theorem dX1_worthTo_4 : decode cX1_worthTo 4 = .ok (.iload_n 2, 1) := by decide +kernel
theorem dX1_worthTo_5 : decode cX1_worthTo 5 = .ok (.iaload, 1) := by decide +kernel
theorem dX1_worthTo_6 : decode cX1_worthTo 6 = .ok (.istore_n 3, 1) := by decide +kernel
theorem dX1_worthTo_7 : decode cX1_worthTo 7 = .ok (.iconst 0, 1) := by decide +kernel
theorem dX1_worthTo_8 : decode cX1_worthTo 8 = .ok (.istore 4, 2) := by decide +kernel
theorem dX1_worthTo_10 : decode cX1_worthTo 10 = .ok (.iload 4, 2) := by decide +kernel
theorem dX1_worthTo_12 : decode cX1_worthTo 12 = .ok (.iconst 4, 1) := by decide +kernel
theorem dX1_worthTo_13 : decode cX1_worthTo 13 = .ok (.if_icmp .ge 33, 3) := by decide +kernel
theorem dX1_worthTo_16 : decode cX1_worthTo 16 = .ok (.iload_n 1, 1) := by decide +kernel
theorem dX1_worthTo_17 : decode cX1_worthTo 17 = .ok (.iload 4, 2) := by decide +kernel
theorem dX1_worthTo_19 : decode cX1_worthTo 19 = .ok (.ishr, 1) := by decide +kernel
theorem dX1_worthTo_20 : decode cX1_worthTo 20 = .ok (.iconst 1, 1) := by decide +kernel
theorem dX1_worthTo_21 : decode cX1_worthTo 21 = .ok (.iand, 1) := by decide +kernel
theorem dX1_worthTo_22 : decode cX1_worthTo 22 = .ok (.ifCond .eq 18, 3) := by decide +kernel
theorem dX1_worthTo_25 : decode cX1_worthTo 25 = .ok (.iload_n 3, 1) := by decide +kernel
theorem dX1_worthTo_26 : decode cX1_worthTo 26 = .ok (.aload_n 0, 1) := by decide +kernel
theorem dX1_worthTo_27 : decode cX1_worthTo 27 = .ok (.getfield 18, 3) := by decide +kernel
theorem dX1_worthTo_30 : decode cX1_worthTo 30 = .ok (.iload 4, 2) := by decide +kernel
theorem dX1_worthTo_32 : decode cX1_worthTo 32 = .ok (.bipush 6, 2) := by decide +kernel
theorem dX1_worthTo_34 : decode cX1_worthTo 34 = .ok (.imul, 1) := by decide +kernel
theorem dX1_worthTo_35 : decode cX1_worthTo 35 = .ok (.iload_n 2, 1) := by decide +kernel
theorem dX1_worthTo_36 : decode cX1_worthTo 36 = .ok (.iadd, 1) := by decide +kernel
theorem dX1_worthTo_37 : decode cX1_worthTo 37 = .ok (.iaload, 1) := by decide +kernel
theorem dX1_worthTo_38 : decode cX1_worthTo 38 = .ok (.iadd, 1) := by decide +kernel
theorem dX1_worthTo_39 : decode cX1_worthTo 39 = .ok (.istore_n 3, 1) := by decide +kernel
theorem dX1_worthTo_40 : decode cX1_worthTo 40 = .ok (.iinc 4 1, 3) := by decide +kernel
theorem dX1_worthTo_43 : decode cX1_worthTo 43 = .ok (.goto (-33), 3) := by decide +kernel
theorem dX1_worthTo_46 : decode cX1_worthTo 46 = .ok (.iload_n 3, 1) := by decide +kernel
theorem dX1_worthTo_47 : decode cX1_worthTo 47 = .ok (.ireturn, 1) := by decide +kernel
theorem dX1_freeSeats_0 : decode cX1_freeSeats 0 = .ok (.iconst 0, 1) := by decide +kernel
theorem dX1_freeSeats_1 : decode cX1_freeSeats 1 = .ok (.istore_n 2, 1) := by decide +kernel
theorem dX1_freeSeats_2 : decode cX1_freeSeats 2 = .ok (.iload_n 2, 1) := by decide +kernel
theorem dX1_freeSeats_3 : decode cX1_freeSeats 3 = .ok (.bipush 6, 2) := by decide +kernel
theorem dX1_freeSeats_5 : decode cX1_freeSeats 5 = .ok (.if_icmp .ge 28, 3) := by decide +kernel
theorem dX1_freeSeats_8 : decode cX1_freeSeats 8 = .ok (.aload_n 0, 1) := by decide +kernel
theorem dX1_freeSeats_9 : decode cX1_freeSeats 9 = .ok (.getfield 21, 3) := by decide +kernel
theorem dX1_freeSeats_12 : decode cX1_freeSeats 12 = .ok (.iload_n 2, 1) := by decide +kernel
theorem dX1_freeSeats_13 : decode cX1_freeSeats 13 = .ok (.aload_n 1, 1) := by decide +kernel
theorem dX1_freeSeats_14 : decode cX1_freeSeats 14 = .ok (.getfield 57, 3) := by decide +kernel
theorem dX1_freeSeats_17 : decode cX1_freeSeats 17 = .ok (.iload_n 2, 1) := by decide +kernel
theorem dX1_freeSeats_18 : decode cX1_freeSeats 18 = .ok (.iaload, 1) := by decide +kernel
theorem dX1_freeSeats_19 : decode cX1_freeSeats 19 = .ok (.iastore, 1) := by decide +kernel
theorem dX1_freeSeats_20 : decode cX1_freeSeats 20 = .ok (.aload_n 0, 1) := by decide +kernel
theorem dX1_freeSeats_21 : decode cX1_freeSeats 21 = .ok (.getfield 24, 3) := by decide +kernel
theorem dX1_freeSeats_24 : decode cX1_freeSeats 24 = .ok (.iload_n 2, 1) := by decide +kernel
theorem dX1_freeSeats_25 : decode cX1_freeSeats 25 = .ok (.iconst 0, 1) := by decide +kernel
theorem dX1_freeSeats_26 : decode cX1_freeSeats 26 = .ok (.iastore, 1) := by decide +kernel
theorem dX1_freeSeats_27 : decode cX1_freeSeats 27 = .ok (.iinc 2 1, 3) := by decide +kernel
theorem dX1_freeSeats_30 : decode cX1_freeSeats 30 = .ok (.goto (-28), 3) := by decide +kernel
theorem dX1_freeSeats_33 : decode cX1_freeSeats 33 = .ok (.return_, 1) := by decide +kernel
theorem dX1_choice_0 : decode cX1_choice 0 = .ok (.iconst (-1), 1) := by decide +kernel
theorem dX1_choice_1 : decode cX1_choice 1 = .ok (.istore_n 3, 1) := by decide +kernel
theorem dX1_choice_2 : decode cX1_choice 2 = .ok (.iconst 0, 1) := by decide +kernel
theorem dX1_choice_3 : decode cX1_choice 3 = .ok (.istore 4, 2) := by decide +kernel
theorem dX1_choice_5 : decode cX1_choice 5 = .ok (.iconst 0, 1) := by decide +kernel
theorem dX1_choice_6 : decode cX1_choice 6 = .ok (.istore 5, 2) := by decide +kernel
theorem dX1_choice_8 : decode cX1_choice 8 = .ok (.iload 5, 2) := by decide +kernel
theorem dX1_choice_10 : decode cX1_choice 10 = .ok (.aload_n 1, 1) := by decide +kernel
theorem dX1_choice_11 : decode cX1_choice 11 = .ok (.getfield 60, 3) := by decide +kernel
theorem dX1_choice_14 : decode cX1_choice 14 = .ok (.if_icmp .ge 46, 3) := by decide +kernel
theorem dX1_choice_17 : decode cX1_choice 17 = .ok (.aload_n 0, 1) := by decide +kernel
theorem dX1_choice_18 : decode cX1_choice 18 = .ok (.getfield 21, 3) := by decide +kernel
theorem dX1_choice_21 : decode cX1_choice 21 = .ok (.iload 5, 2) := by decide +kernel
theorem dX1_choice_23 : decode cX1_choice 23 = .ok (.iaload, 1) := by decide +kernel
theorem dX1_choice_24 : decode cX1_choice 24 = .ok (.ifCond .le 13, 3) := by decide +kernel
theorem dX1_choice_27 : decode cX1_choice 27 = .ok (.aload_n 0, 1) := by decide +kernel
theorem dX1_choice_28 : decode cX1_choice 28 = .ok (.iload_n 2, 1) := by decide +kernel
theorem dX1_choice_29 : decode cX1_choice 29 = .ok (.iload 5, 2) := by decide +kernel
theorem dX1_choice_31 : decode cX1_choice 31 = .ok (.invokevirtual 63, 3) := by decide +kernel
theorem dX1_choice_34 : decode cX1_choice 34 = .ok (.goto 4, 3) := by decide +kernel
theorem dX1_choice_37 : decode cX1_choice 37 = .ok (.iconst 0, 1) := by decide +kernel
theorem dX1_choice_38 : decode cX1_choice 38 = .ok (.istore 6, 2) := by decide +kernel
theorem dX1_choice_40 : decode cX1_choice 40 = .ok (.iload 6, 2) := by decide +kernel
theorem dX1_choice_42 : decode cX1_choice 42 = .ok (.iload 4, 2) := by decide +kernel
theorem dX1_choice_44 : decode cX1_choice 44 = .ok (.if_icmp .le 10, 3) := by decide +kernel
theorem dX1_choice_47 : decode cX1_choice 47 = .ok (.iload 6, 2) := by decide +kernel
theorem dX1_choice_49 : decode cX1_choice 49 = .ok (.istore 4, 2) := by decide +kernel
theorem dX1_choice_51 : decode cX1_choice 51 = .ok (.iload 5, 2) := by decide +kernel
theorem dX1_choice_53 : decode cX1_choice 53 = .ok (.istore_n 3, 1) := by decide +kernel
theorem dX1_choice_54 : decode cX1_choice 54 = .ok (.iinc 5 1, 3) := by decide +kernel
theorem dX1_choice_57 : decode cX1_choice 57 = .ok (.goto (-49), 3) := by decide +kernel
theorem dX1_choice_60 : decode cX1_choice 60 = .ok (.iload_n 3, 1) := by decide +kernel
theorem dX1_choice_61 : decode cX1_choice 61 = .ok (.ireturn, 1) := by decide +kernel
theorem dX1_foresee_0 : decode cX1_foresee 0 = .ok (.aload_n 0, 1) := by decide +kernel
theorem dX1_foresee_1 : decode cX1_foresee 1 = .ok (.aload_n 1, 1) := by decide +kernel
theorem dX1_foresee_2 : decode cX1_foresee 2 = .ok (.aload_n 2, 1) := by decide +kernel
theorem dX1_foresee_3 : decode cX1_foresee 3 = .ok (.invokevirtual 67, 3) := by decide +kernel
theorem dX1_foresee_6 : decode cX1_foresee 6 = .ok (.aload_n 0, 1) := by decide +kernel
theorem dX1_foresee_7 : decode cX1_foresee 7 = .ok (.aload_n 1, 1) := by decide +kernel
theorem dX1_foresee_8 : decode cX1_foresee 8 = .ok (.invokevirtual 71, 3) := by decide +kernel
theorem dX1_foresee_11 : decode cX1_foresee 11 = .ok (.aload_n 0, 1) := by decide +kernel
theorem dX1_foresee_12 : decode cX1_foresee 12 = .ok (.iconst 0, 1) := by decide +kernel
theorem dX1_foresee_13 : decode cX1_foresee 13 = .ok (.putfield 75, 3) := by decide +kernel
theorem dX1_foresee_16 : decode cX1_foresee 16 = .ok (.iconst 0, 1) := by decide +kernel
theorem dX1_foresee_17 : decode cX1_foresee 17 = .ok (.istore 4, 2) := by decide +kernel
theorem dX1_foresee_19 : decode cX1_foresee 19 = .ok (.iload 4, 2) := by decide +kernel
theorem dX1_foresee_21 : decode cX1_foresee 21 = .ok (.aload_n 1, 1) := by decide +kernel
theorem dX1_foresee_22 : decode cX1_foresee 22 = .ok (.getfield 78, 3) := by decide +kernel
theorem dX1_foresee_25 : decode cX1_foresee 25 = .ok (.if_icmp .ge 126, 3) := by decide +kernel
theorem dX1_foresee_28 : decode cX1_foresee 28 = .ok (.iconst 1, 1) := by decide +kernel
theorem dX1_foresee_29 : decode cX1_foresee 29 = .ok (.aload_n 1, 1) := by decide +kernel
theorem dX1_foresee_30 : decode cX1_foresee 30 = .ok (.getfield 81, 3) := by decide +kernel
theorem dX1_foresee_33 : decode cX1_foresee 33 = .ok (.iload 4, 2) := by decide +kernel
theorem dX1_foresee_35 : decode cX1_foresee 35 = .ok (.iaload, 1) := by decide +kernel
theorem dX1_foresee_36 : decode cX1_foresee 36 = .ok (.ishl, 1) := by decide +kernel
theorem dX1_foresee_37 : decode cX1_foresee 37 = .ok (.istore 5, 2) := by decide +kernel
theorem dX1_foresee_39 : decode cX1_foresee 39 = .ok (.iload_n 3, 1) := by decide +kernel
theorem dX1_foresee_40 : decode cX1_foresee 40 = .ok (.ifCond .eq 13, 3) := by decide +kernel
theorem dX1_foresee_43 : decode cX1_foresee 43 = .ok (.aload_n 0, 1) := by decide +kernel
theorem dX1_foresee_44 : decode cX1_foresee 44 = .ok (.aload_n 1, 1) := by decide +kernel
theorem dX1_foresee_45 : decode cX1_foresee 45 = .ok (.iload 5, 2) := by decide +kernel
theorem dX1_foresee_47 : decode cX1_foresee 47 = .ok (.invokevirtual 84, 3) := by decide +kernel
theorem dX1_foresee_50 : decode cX1_foresee 50 = .ok (.goto 4, 3) := by decide +kernel
theorem dX1_foresee_53 : decode cX1_foresee 53 = .ok (.iconst (-1), 1) := by decide +kernel
theorem dX1_foresee_54 : decode cX1_foresee 54 = .ok (.istore 6, 2) := by decide +kernel
theorem dX1_foresee_56 : decode cX1_foresee 56 = .ok (.aload_n 0, 1) := by decide +kernel
theorem dX1_foresee_57 : decode cX1_foresee 57 = .ok (.getfield 27, 3) := by decide +kernel
theorem dX1_foresee_60 : decode cX1_foresee 60 = .ok (.iload 4, 2) := by decide +kernel
theorem dX1_foresee_62 : decode cX1_foresee 62 = .ok (.iload 6, 2) := by decide +kernel
theorem dX1_foresee_64 : decode cX1_foresee 64 = .ok (.iastore, 1) := by decide +kernel
theorem dX1_foresee_65 : decode cX1_foresee 65 = .ok (.aload_n 0, 1) := by decide +kernel
theorem dX1_foresee_66 : decode cX1_foresee 66 = .ok (.getfield 30, 3) := by decide +kernel
theorem dX1_foresee_69 : decode cX1_foresee 69 = .ok (.iload 4, 2) := by decide +kernel
theorem dX1_foresee_71 : decode cX1_foresee 71 = .ok (.iconst 0, 1) := by decide +kernel
theorem dX1_foresee_72 : decode cX1_foresee 72 = .ok (.iastore, 1) := by decide +kernel
theorem dX1_foresee_73 : decode cX1_foresee 73 = .ok (.iload 6, 2) := by decide +kernel
theorem dX1_foresee_75 : decode cX1_foresee 75 = .ok (.iconst (-1), 1) := by decide +kernel
theorem dX1_foresee_76 : decode cX1_foresee 76 = .ok (.if_icmp .eq 53, 3) := by decide +kernel
theorem dX1_foresee_79 : decode cX1_foresee 79 = .ok (.aload_n 0, 1) := by decide +kernel
theorem dX1_foresee_80 : decode cX1_foresee 80 = .ok (.getfield 30, 3) := by decide +kernel
theorem dX1_foresee_83 : decode cX1_foresee 83 = .ok (.iload 4, 2) := by decide +kernel
theorem dX1_foresee_85 : decode cX1_foresee 85 = .ok (.aload_n 2, 1) := by decide +kernel
theorem dX1_foresee_86 : decode cX1_foresee 86 = .ok (.getfield 88, 3) := by decide +kernel
theorem dX1_foresee_89 : decode cX1_foresee 89 = .ok (.iload 4, 2) := by decide +kernel
theorem dX1_foresee_91 : decode cX1_foresee 91 = .ok (.iaload, 1) := by decide +kernel
theorem dX1_foresee_92 : decode cX1_foresee 92 = .ok (.aload_n 0, 1) := by decide +kernel
theorem dX1_foresee_93 : decode cX1_foresee 93 = .ok (.iload 5, 2) := by decide +kernel
theorem dX1_foresee_95 : decode cX1_foresee 95 = .ok (.iload 6, 2) := by decide +kernel
theorem dX1_foresee_97 : decode cX1_foresee 97 = .ok (.invokevirtual 63, 3) := by decide +kernel
theorem dX1_foresee_100 : decode cX1_foresee 100 = .ok (.invokestatic 91, 3) := by decide +kernel
theorem dX1_foresee_103 : decode cX1_foresee 103 = .ok (.iastore, 1) := by decide +kernel
theorem dX1_foresee_104 : decode cX1_foresee 104 = .ok (.aload_n 0, 1) := by decide +kernel
theorem dX1_foresee_105 : decode cX1_foresee 105 = .ok (.getfield 21, 3) := by decide +kernel
theorem dX1_foresee_108 : decode cX1_foresee 108 = .ok (.iload 6, 2) := by decide +kernel
theorem dX1_foresee_110 : decode cX1_foresee 110 = .ok (.dup2, 1) := by decide +kernel
theorem dX1_foresee_111 : decode cX1_foresee 111 = .ok (.iaload, 1) := by decide +kernel
theorem dX1_foresee_112 : decode cX1_foresee 112 = .ok (.iconst 1, 1) := by decide +kernel
theorem dX1_foresee_113 : decode cX1_foresee 113 = .ok (.isub, 1) := by decide +kernel
theorem dX1_foresee_114 : decode cX1_foresee 114 = .ok (.iastore, 1) := by decide +kernel
theorem dX1_foresee_115 : decode cX1_foresee 115 = .ok (.aload_n 0, 1) := by decide +kernel
theorem dX1_foresee_116 : decode cX1_foresee 116 = .ok (.getfield 24, 3) := by decide +kernel
theorem dX1_foresee_119 : decode cX1_foresee 119 = .ok (.iload 6, 2) := by decide +kernel
theorem dX1_foresee_121 : decode cX1_foresee 121 = .ok (.dup2, 1) := by decide +kernel
theorem dX1_foresee_122 : decode cX1_foresee 122 = .ok (.iaload, 1) := by decide +kernel
theorem dX1_foresee_123 : decode cX1_foresee 123 = .ok (.iconst 1, 1) := by decide +kernel
theorem dX1_foresee_124 : decode cX1_foresee 124 = .ok (.iload 4, 2) := by decide +kernel
theorem dX1_foresee_126 : decode cX1_foresee 126 = .ok (.ishl, 1) := by decide +kernel
theorem dX1_foresee_127 : decode cX1_foresee 127 = .ok (.ior, 1) := by decide +kernel
theorem dX1_foresee_128 : decode cX1_foresee 128 = .ok (.iastore, 1) := by decide +kernel
theorem dX1_foresee_129 : decode cX1_foresee 129 = .ok (.aload_n 0, 1) := by decide +kernel
theorem dX1_foresee_130 : decode cX1_foresee 130 = .ok (.dup, 1) := by decide +kernel
theorem dX1_foresee_131 : decode cX1_foresee 131 = .ok (.getfield 75, 3) := by decide +kernel
theorem dX1_foresee_134 : decode cX1_foresee 134 = .ok (.aload_n 0, 1) := by decide +kernel
theorem dX1_foresee_135 : decode cX1_foresee 135 = .ok (.getfield 30, 3) := by decide +kernel
theorem dX1_foresee_138 : decode cX1_foresee 138 = .ok (.iload 4, 2) := by decide +kernel
theorem dX1_foresee_140 : decode cX1_foresee 140 = .ok (.iaload, 1) := by decide +kernel
theorem dX1_foresee_141 : decode cX1_foresee 141 = .ok (.iadd, 1) := by decide +kernel
theorem dX1_foresee_142 : decode cX1_foresee 142 = .ok (.putfield 75, 3) := by decide +kernel
theorem dX1_foresee_145 : decode cX1_foresee 145 = .ok (.iinc 4 1, 3) := by decide +kernel
theorem dX1_foresee_148 : decode cX1_foresee 148 = .ok (.goto (-129), 3) := by decide +kernel
theorem dX1_foresee_151 : decode cX1_foresee 151 = .ok (.aload_n 2, 1) := by decide +kernel
theorem dX1_foresee_152 : decode cX1_foresee 152 = .ok (.getfield 96, 3) := by decide +kernel
theorem dX1_foresee_155 : decode cX1_foresee 155 = .ok (.bipush 10, 2) := by decide +kernel
theorem dX1_foresee_157 : decode cX1_foresee 157 = .ok (.irem, 1) := by decide +kernel
theorem dX1_foresee_158 : decode cX1_foresee 158 = .ok (.aload_n 1, 1) := by decide +kernel
theorem dX1_foresee_159 : decode cX1_foresee 159 = .ok (.getfield 99, 3) := by decide +kernel
theorem dX1_foresee_162 : decode cX1_foresee 162 = .ok (.if_icmp .ne 7, 3) := by decide +kernel
theorem dX1_foresee_165 : decode cX1_foresee 165 = .ok (.iconst 1, 1) := by decide +kernel
theorem dX1_foresee_166 : decode cX1_foresee 166 = .ok (.goto 4, 3) := by decide +kernel
theorem dX1_foresee_169 : decode cX1_foresee 169 = .ok (.iconst 0, 1) := by decide +kernel
theorem dX1_foresee_170 : decode cX1_foresee 170 = .ok (.istore 4, 2) := by decide +kernel
theorem dX1_foresee_172 : decode cX1_foresee 172 = .ok (.iconst 0, 1) := by decide +kernel
theorem dX1_foresee_173 : decode cX1_foresee 173 = .ok (.istore 5, 2) := by decide +kernel
theorem dX1_foresee_175 : decode cX1_foresee 175 = .ok (.iload 5, 2) := by decide +kernel
theorem dX1_foresee_177 : decode cX1_foresee 177 = .ok (.aload_n 1, 1) := by decide +kernel
theorem dX1_foresee_178 : decode cX1_foresee 178 = .ok (.getfield 36, 3) := by decide +kernel
theorem dX1_foresee_181 : decode cX1_foresee 181 = .ok (.if_icmp .ge 61, 3) := by decide +kernel
theorem dX1_foresee_184 : decode cX1_foresee 184 = .ok (.aload_n 2, 1) := by decide +kernel
theorem dX1_foresee_185 : decode cX1_foresee 185 = .ok (.getfield 42, 3) := by decide +kernel
theorem dX1_foresee_188 : decode cX1_foresee 188 = .ok (.iload 5, 2) := by decide +kernel
theorem dX1_foresee_190 : decode cX1_foresee 190 = .ok (.iaload, 1) := by decide +kernel
theorem dX1_foresee_191 : decode cX1_foresee 191 = .ok (.istore 6, 2) := by decide +kernel
theorem dX1_foresee_193 : decode cX1_foresee 193 = .ok (.aload_n 0, 1) := by decide +kernel
theorem dX1_foresee_194 : decode cX1_foresee 194 = .ok (.getfield 24, 3) := by decide +kernel
theorem dX1_foresee_197 : decode cX1_foresee 197 = .ok (.iload 6, 2) := by decide +kernel
theorem dX1_foresee_199 : decode cX1_foresee 199 = .ok (.iaload, 1) := by decide +kernel
theorem dX1_foresee_200 : decode cX1_foresee 200 = .ok (.invokestatic 102, 3) := by decide +kernel
theorem dX1_foresee_203 : decode cX1_foresee 203 = .ok (.istore 7, 2) := by decide +kernel
theorem dX1_foresee_205 : decode cX1_foresee 205 = .ok (.aload_n 0, 1) := by decide +kernel
theorem dX1_foresee_206 : decode cX1_foresee 206 = .ok (.getfield 33, 3) := by decide +kernel
theorem dX1_foresee_209 : decode cX1_foresee 209 = .ok (.iload 5, 2) := by decide +kernel
theorem dX1_foresee_211 : decode cX1_foresee 211 = .ok (.aload_n 1, 1) := by decide +kernel
theorem dX1_foresee_212 : decode cX1_foresee 212 = .ok (.iload 4, 2) := by decide +kernel
theorem dX1_foresee_214 : decode cX1_foresee 214 = .ok (.aload_n 2, 1) := by decide +kernel
theorem dX1_foresee_215 : decode cX1_foresee 215 = .ok (.getfield 47, 3) := by decide +kernel
theorem dX1_foresee_218 : decode cX1_foresee 218 = .ok (.iload 5, 2) := by decide +kernel
theorem dX1_foresee_220 : decode cX1_foresee 220 = .ok (.iaload, 1) := by decide +kernel
theorem dX1_foresee_221 : decode cX1_foresee 221 = .ok (.aload_n 0, 1) := by decide +kernel
theorem dX1_foresee_222 : decode cX1_foresee 222 = .ok (.getfield 9, 3) := by decide +kernel
theorem dX1_foresee_225 : decode cX1_foresee 225 = .ok (.iload 6, 2) := by decide +kernel
theorem dX1_foresee_227 : decode cX1_foresee 227 = .ok (.iaload, 1) := by decide +kernel
theorem dX1_foresee_228 : decode cX1_foresee 228 = .ok (.iconst 1, 1) := by decide +kernel
theorem dX1_foresee_229 : decode cX1_foresee 229 = .ok (.isub, 1) := by decide +kernel
theorem dX1_foresee_230 : decode cX1_foresee 230 = .ok (.iload 7, 2) := by decide +kernel
theorem dX1_foresee_232 : decode cX1_foresee 232 = .ok (.invokevirtual 108, 3) := by decide +kernel
theorem dX1_foresee_235 : decode cX1_foresee 235 = .ok (.iastore, 1) := by decide +kernel
theorem dX1_foresee_236 : decode cX1_foresee 236 = .ok (.iinc 5 1, 3) := by decide +kernel
theorem dX1_foresee_239 : decode cX1_foresee 239 = .ok (.goto (-64), 3) := by decide +kernel
theorem dX1_foresee_242 : decode cX1_foresee 242 = .ok (.return_, 1) := by decide +kernel
theorem dX1_pass_0 : decode cX1_pass 0 = .ok (.aload_n 0, 1) := by decide +kernel
theorem dX1_pass_1 : decode cX1_pass 1 = .ok (.aload_n 1, 1) := by decide +kernel
theorem dX1_pass_2 : decode cX1_pass 2 = .ok (.aload_n 2, 1) := by decide +kernel
theorem dX1_pass_3 : decode cX1_pass 3 = .ok (.iload_n 3, 1) := by decide +kernel
theorem dX1_pass_4 : decode cX1_pass 4 = .ok (.invokevirtual 112, 3) := by decide +kernel
theorem dX1_pass_7 : decode cX1_pass 7 = .ok (.iconst 0, 1) := by decide +kernel
theorem dX1_pass_8 : decode cX1_pass 8 = .ok (.istore 4, 2) := by decide +kernel
theorem dX1_pass_10 : decode cX1_pass 10 = .ok (.iload 4, 2) := by decide +kernel
theorem dX1_pass_12 : decode cX1_pass 12 = .ok (.aload_n 1, 1) := by decide +kernel
theorem dX1_pass_13 : decode cX1_pass 13 = .ok (.getfield 78, 3) := by decide +kernel
theorem dX1_pass_16 : decode cX1_pass 16 = .ok (.if_icmp .ge 26, 3) := by decide +kernel
theorem dX1_pass_19 : decode cX1_pass 19 = .ok (.aload_n 2, 1) := by decide +kernel
theorem dX1_pass_20 : decode cX1_pass 20 = .ok (.getfield 88, 3) := by decide +kernel
theorem dX1_pass_23 : decode cX1_pass 23 = .ok (.iload 4, 2) := by decide +kernel
theorem dX1_pass_25 : decode cX1_pass 25 = .ok (.dup2, 1) := by decide +kernel
theorem dX1_pass_26 : decode cX1_pass 26 = .ok (.iaload, 1) := by decide +kernel
theorem dX1_pass_27 : decode cX1_pass 27 = .ok (.aload_n 0, 1) := by decide +kernel
theorem dX1_pass_28 : decode cX1_pass 28 = .ok (.getfield 30, 3) := by decide +kernel
theorem dX1_pass_31 : decode cX1_pass 31 = .ok (.iload 4, 2) := by decide +kernel
theorem dX1_pass_33 : decode cX1_pass 33 = .ok (.iaload, 1) := by decide +kernel
theorem dX1_pass_34 : decode cX1_pass 34 = .ok (.isub, 1) := by decide +kernel
theorem dX1_pass_35 : decode cX1_pass 35 = .ok (.iastore, 1) := by decide +kernel
theorem dX1_pass_36 : decode cX1_pass 36 = .ok (.iinc 4 1, 3) := by decide +kernel
theorem dX1_pass_39 : decode cX1_pass 39 = .ok (.goto (-29), 3) := by decide +kernel
theorem dX1_pass_42 : decode cX1_pass 42 = .ok (.iconst 0, 1) := by decide +kernel
theorem dX1_pass_43 : decode cX1_pass 43 = .ok (.istore 4, 2) := by decide +kernel
theorem dX1_pass_45 : decode cX1_pass 45 = .ok (.iload 4, 2) := by decide +kernel
theorem dX1_pass_47 : decode cX1_pass 47 = .ok (.aload_n 1, 1) := by decide +kernel
theorem dX1_pass_48 : decode cX1_pass 48 = .ok (.getfield 36, 3) := by decide +kernel
theorem dX1_pass_51 : decode cX1_pass 51 = .ok (.if_icmp .ge 23, 3) := by decide +kernel
theorem dX1_pass_54 : decode cX1_pass 54 = .ok (.aload_n 2, 1) := by decide +kernel
theorem dX1_pass_55 : decode cX1_pass 55 = .ok (.getfield 47, 3) := by decide +kernel
theorem dX1_pass_58 : decode cX1_pass 58 = .ok (.iload 4, 2) := by decide +kernel
theorem dX1_pass_60 : decode cX1_pass 60 = .ok (.aload_n 0, 1) := by decide +kernel
theorem dX1_pass_61 : decode cX1_pass 61 = .ok (.getfield 33, 3) := by decide +kernel
theorem dX1_pass_64 : decode cX1_pass 64 = .ok (.iload 4, 2) := by decide +kernel
theorem dX1_pass_66 : decode cX1_pass 66 = .ok (.iaload, 1) := by decide +kernel
theorem dX1_pass_67 : decode cX1_pass 67 = .ok (.iastore, 1) := by decide +kernel
theorem dX1_pass_68 : decode cX1_pass 68 = .ok (.iinc 4 1, 3) := by decide +kernel
theorem dX1_pass_71 : decode cX1_pass 71 = .ok (.goto (-26), 3) := by decide +kernel
theorem dX1_pass_74 : decode cX1_pass 74 = .ok (.aload_n 2, 1) := by decide +kernel
theorem dX1_pass_75 : decode cX1_pass 75 = .ok (.dup, 1) := by decide +kernel
theorem dX1_pass_76 : decode cX1_pass 76 = .ok (.getfield 116, 3) := by decide +kernel
theorem dX1_pass_79 : decode cX1_pass 79 = .ok (.aload_n 0, 1) := by decide +kernel
theorem dX1_pass_80 : decode cX1_pass 80 = .ok (.getfield 75, 3) := by decide +kernel
theorem dX1_pass_83 : decode cX1_pass 83 = .ok (.iadd, 1) := by decide +kernel
theorem dX1_pass_84 : decode cX1_pass 84 = .ok (.putfield 116, 3) := by decide +kernel
theorem dX1_pass_87 : decode cX1_pass 87 = .ok (.aload_n 2, 1) := by decide +kernel
theorem dX1_pass_88 : decode cX1_pass 88 = .ok (.dup, 1) := by decide +kernel
theorem dX1_pass_89 : decode cX1_pass 89 = .ok (.getfield 96, 3) := by decide +kernel
theorem dX1_pass_92 : decode cX1_pass 92 = .ok (.iconst 1, 1) := by decide +kernel
theorem dX1_pass_93 : decode cX1_pass 93 = .ok (.iadd, 1) := by decide +kernel
theorem dX1_pass_94 : decode cX1_pass 94 = .ok (.putfield 96, 3) := by decide +kernel
theorem dX1_pass_97 : decode cX1_pass 97 = .ok (.return_, 1) := by decide +kernel
theorem dX1_pacingAfter_0 : decode cX1_pacingAfter 0 = .ok (.iconst 0, 1) := by decide +kernel
theorem dX1_pacingAfter_1 : decode cX1_pacingAfter 1 = .ok (.istore_n 2, 1) := by decide +kernel
theorem dX1_pacingAfter_2 : decode cX1_pacingAfter 2 = .ok (.iconst 0, 1) := by decide +kernel
theorem dX1_pacingAfter_3 : decode cX1_pacingAfter 3 = .ok (.istore_n 3, 1) := by decide +kernel
theorem dX1_pacingAfter_4 : decode cX1_pacingAfter 4 = .ok (.iload_n 3, 1) := by decide +kernel
theorem dX1_pacingAfter_5 : decode cX1_pacingAfter 5 = .ok (.iload_n 1, 1) := by decide +kernel
theorem dX1_pacingAfter_6 : decode cX1_pacingAfter 6 = .ok (.if_icmp .ge 21, 3) := by decide +kernel
theorem dX1_pacingAfter_9 : decode cX1_pacingAfter 9 = .ok (.aload_n 0, 1) := by decide +kernel
theorem dX1_pacingAfter_10 : decode cX1_pacingAfter 10 = .ok (.getfield 33, 3) := by decide +kernel
theorem dX1_pacingAfter_13 : decode cX1_pacingAfter 13 = .ok (.iload_n 3, 1) := by decide +kernel
theorem dX1_pacingAfter_14 : decode cX1_pacingAfter 14 = .ok (.iaload, 1) := by decide +kernel
theorem dX1_pacingAfter_15 : decode cX1_pacingAfter 15 = .ok (.ifCond .ne 6, 3) := by decide +kernel
theorem dX1_pacingAfter_18 : decode cX1_pacingAfter 18 = .ok (.iinc 2 1, 3) := by decide +kernel
theorem dX1_pacingAfter_21 : decode cX1_pacingAfter 21 = .ok (.iinc 3 1, 3) := by decide +kernel
theorem dX1_pacingAfter_24 : decode cX1_pacingAfter 24 = .ok (.goto (-20), 3) := by decide +kernel
theorem dX1_pacingAfter_27 : decode cX1_pacingAfter 27 = .ok (.iload_n 2, 1) := by decide +kernel
theorem dX1_pacingAfter_28 : decode cX1_pacingAfter 28 = .ok (.ireturn, 1) := by decide +kernel
theorem dX1_setsChoosing_0 : decode cX1_setsChoosing 0 = .ok (.aload_n 0, 1) := by decide +kernel
theorem dX1_setsChoosing_1 : decode cX1_setsChoosing 1 = .ok (.aload_n 1, 1) := by decide +kernel
theorem dX1_setsChoosing_2 : decode cX1_setsChoosing 2 = .ok (.aload_n 2, 1) := by decide +kernel
theorem dX1_setsChoosing_3 : decode cX1_setsChoosing 3 = .ok (.invokevirtual 67, 3) := by decide +kernel
theorem dX1_setsChoosing_6 : decode cX1_setsChoosing 6 = .ok (.aload_n 0, 1) := by decide +kernel
theorem dX1_setsChoosing_7 : decode cX1_setsChoosing 7 = .ok (.aload_n 1, 1) := by decide +kernel
theorem dX1_setsChoosing_8 : decode cX1_setsChoosing 8 = .ok (.invokevirtual 71, 3) := by decide +kernel
theorem dX1_setsChoosing_11 : decode cX1_setsChoosing 11 = .ok (.iconst 0, 1) := by decide +kernel
theorem dX1_setsChoosing_12 : decode cX1_setsChoosing 12 = .ok (.istore 4, 2) := by decide +kernel
theorem dX1_setsChoosing_14 : decode cX1_setsChoosing 14 = .ok (.iconst 0, 1) := by decide +kernel
theorem dX1_setsChoosing_15 : decode cX1_setsChoosing 15 = .ok (.istore 5, 2) := by decide +kernel
theorem dX1_setsChoosing_17 : decode cX1_setsChoosing 17 = .ok (.iload 5, 2) := by decide +kernel
theorem dX1_setsChoosing_19 : decode cX1_setsChoosing 19 = .ok (.bipush 16, 2) := by decide +kernel
theorem dX1_setsChoosing_21 : decode cX1_setsChoosing 21 = .ok (.if_icmp .ge 29, 3) := by decide +kernel
theorem dX1_setsChoosing_24 : decode cX1_setsChoosing 24 = .ok (.aload_n 0, 1) := by decide +kernel
theorem dX1_setsChoosing_25 : decode cX1_setsChoosing 25 = .ok (.aload_n 1, 1) := by decide +kernel
theorem dX1_setsChoosing_26 : decode cX1_setsChoosing 26 = .ok (.iload 5, 2) := by decide +kernel
theorem dX1_setsChoosing_28 : decode cX1_setsChoosing 28 = .ok (.invokevirtual 84, 3) := by decide +kernel
theorem dX1_setsChoosing_31 : decode cX1_setsChoosing 31 = .ok (.iload_n 3, 1) := by decide +kernel
theorem dX1_setsChoosing_32 : decode cX1_setsChoosing 32 = .ok (.if_icmp .ne 12, 3) := by decide +kernel
theorem dX1_setsChoosing_35 : decode cX1_setsChoosing 35 = .ok (.iload 4, 2) := by decide +kernel
theorem dX1_setsChoosing_37 : decode cX1_setsChoosing 37 = .ok (.iconst 1, 1) := by decide +kernel
theorem dX1_setsChoosing_38 : decode cX1_setsChoosing 38 = .ok (.iload 5, 2) := by decide +kernel
theorem dX1_setsChoosing_40 : decode cX1_setsChoosing 40 = .ok (.ishl, 1) := by decide +kernel
theorem dX1_setsChoosing_41 : decode cX1_setsChoosing 41 = .ok (.ior, 1) := by decide +kernel
theorem dX1_setsChoosing_42 : decode cX1_setsChoosing 42 = .ok (.istore 4, 2) := by decide +kernel
theorem dX1_setsChoosing_44 : decode cX1_setsChoosing 44 = .ok (.iinc 5 1, 3) := by decide +kernel
theorem dX1_setsChoosing_47 : decode cX1_setsChoosing 47 = .ok (.goto (-30), 3) := by decide +kernel
theorem dX1_setsChoosing_50 : decode cX1_setsChoosing 50 = .ok (.iload 4, 2) := by decide +kernel
theorem dX1_setsChoosing_52 : decode cX1_setsChoosing 52 = .ok (.ireturn, 1) := by decide +kernel
theorem dX1_obey_0 : decode cX1_obey 0 = .ok (.iload_n 3, 1) := by decide +kernel
theorem dX1_obey_1 : decode cX1_obey 1 = .ok (.iconst 2, 1) := by decide +kernel
theorem dX1_obey_2 : decode cX1_obey 2 = .ok (.ishr, 1) := by decide +kernel
theorem dX1_obey_3 : decode cX1_obey 3 = .ok (.bipush 7, 2) := by decide +kernel
theorem dX1_obey_5 : decode cX1_obey 5 = .ok (.iand, 1) := by decide +kernel
theorem dX1_obey_6 : decode cX1_obey 6 = .ok (.istore 4, 2) := by decide +kernel
theorem dX1_obey_8 : decode cX1_obey 8 = .ok (.iload_n 3, 1) := by decide +kernel
theorem dX1_obey_9 : decode cX1_obey 9 = .ok (.iconst 5, 1) := by decide +kernel
theorem dX1_obey_10 : decode cX1_obey 10 = .ok (.ishr, 1) := by decide +kernel
theorem dX1_obey_11 : decode cX1_obey 11 = .ok (.bipush 7, 2) := by decide +kernel
theorem dX1_obey_13 : decode cX1_obey 13 = .ok (.iand, 1) := by decide +kernel
theorem dX1_obey_14 : decode cX1_obey 14 = .ok (.istore 5, 2) := by decide +kernel
theorem dX1_obey_16 : decode cX1_obey 16 = .ok (.iload_n 3, 1) := by decide +kernel
theorem dX1_obey_17 : decode cX1_obey 17 = .ok (.iconst 3, 1) := by decide +kernel
theorem dX1_obey_18 : decode cX1_obey 18 = .ok (.iand, 1) := by decide +kernel
theorem dX1_obey_19 : decode cX1_obey 19 = .ok (.lookupswitch 112 #[(0, 25), (1, 68)], 25) := by decide +kernel
theorem dX1_obey_44 : decode cX1_obey 44 = .ok (.iload 4, 2) := by decide +kernel
theorem dX1_obey_46 : decode cX1_obey 46 = .ok (.aload_n 1, 1) := by decide +kernel
theorem dX1_obey_47 : decode cX1_obey 47 = .ok (.getfield 36, 3) := by decide +kernel
theorem dX1_obey_50 : decode cX1_obey 50 = .ok (.if_icmp .ge 24, 3) := by decide +kernel
theorem dX1_obey_53 : decode cX1_obey 53 = .ok (.iload 5, 2) := by decide +kernel
theorem dX1_obey_55 : decode cX1_obey 55 = .ok (.aload_n 1, 1) := by decide +kernel
theorem dX1_obey_56 : decode cX1_obey 56 = .ok (.getfield 60, 3) := by decide +kernel
theorem dX1_obey_59 : decode cX1_obey 59 = .ok (.if_icmp .ge 15, 3) := by decide +kernel
theorem dX1_obey_62 : decode cX1_obey 62 = .ok (.aload_n 1, 1) := by decide +kernel
theorem dX1_obey_63 : decode cX1_obey 63 = .ok (.aload_n 2, 1) := by decide +kernel
theorem dX1_obey_64 : decode cX1_obey 64 = .ok (.iload 4, 2) := by decide +kernel
theorem dX1_obey_66 : decode cX1_obey 66 = .ok (.iload 5, 2) := by decide +kernel
theorem dX1_obey_68 : decode cX1_obey 68 = .ok (.invokevirtual 117, 3) := by decide +kernel
theorem dX1_obey_71 : decode cX1_obey 71 = .ok (.ifCond .ne 5, 3) := by decide +kernel
theorem dX1_obey_74 : decode cX1_obey 74 = .ok (.iconst 0, 1) := by decide +kernel
theorem dX1_obey_75 : decode cX1_obey 75 = .ok (.ireturn, 1) := by decide +kernel
theorem dX1_obey_76 : decode cX1_obey 76 = .ok (.aload_n 2, 1) := by decide +kernel
theorem dX1_obey_77 : decode cX1_obey 77 = .ok (.getfield 42, 3) := by decide +kernel
theorem dX1_obey_80 : decode cX1_obey 80 = .ok (.iload 4, 2) := by decide +kernel
theorem dX1_obey_82 : decode cX1_obey 82 = .ok (.iload 5, 2) := by decide +kernel
theorem dX1_obey_84 : decode cX1_obey 84 = .ok (.iastore, 1) := by decide +kernel
theorem dX1_obey_85 : decode cX1_obey 85 = .ok (.iconst 1, 1) := by decide +kernel
theorem dX1_obey_86 : decode cX1_obey 86 = .ok (.ireturn, 1) := by decide +kernel
theorem dX1_obey_87 : decode cX1_obey 87 = .ok (.iload 4, 2) := by decide +kernel
theorem dX1_obey_89 : decode cX1_obey 89 = .ok (.aload_n 1, 1) := by decide +kernel
theorem dX1_obey_90 : decode cX1_obey 90 = .ok (.getfield 36, 3) := by decide +kernel
theorem dX1_obey_93 : decode cX1_obey 93 = .ok (.if_icmp .ge 14, 3) := by decide +kernel
theorem dX1_obey_96 : decode cX1_obey 96 = .ok (.aload_n 2, 1) := by decide +kernel
theorem dX1_obey_97 : decode cX1_obey 97 = .ok (.getfield 116, 3) := by decide +kernel
theorem dX1_obey_100 : decode cX1_obey 100 = .ok (.aload_n 1, 1) := by decide +kernel
theorem dX1_obey_101 : decode cX1_obey 101 = .ok (.getfield 121, 3) := by decide +kernel
theorem dX1_obey_104 : decode cX1_obey 104 = .ok (.if_icmp .ge 5, 3) := by decide +kernel
theorem dX1_obey_107 : decode cX1_obey 107 = .ok (.iconst 0, 1) := by decide +kernel
theorem dX1_obey_108 : decode cX1_obey 108 = .ok (.ireturn, 1) := by decide +kernel
theorem dX1_obey_109 : decode cX1_obey 109 = .ok (.aload_n 1, 1) := by decide +kernel
theorem dX1_obey_110 : decode cX1_obey 110 = .ok (.aload_n 2, 1) := by decide +kernel
theorem dX1_obey_111 : decode cX1_obey 111 = .ok (.iload 4, 2) := by decide +kernel
theorem dX1_obey_113 : decode cX1_obey 113 = .ok (.invokevirtual 124, 3) := by decide +kernel
theorem dX1_obey_116 : decode cX1_obey 116 = .ok (.aload_n 2, 1) := by decide +kernel
theorem dX1_obey_117 : decode cX1_obey 117 = .ok (.dup, 1) := by decide +kernel
theorem dX1_obey_118 : decode cX1_obey 118 = .ok (.getfield 116, 3) := by decide +kernel
theorem dX1_obey_121 : decode cX1_obey 121 = .ok (.aload_n 1, 1) := by decide +kernel
theorem dX1_obey_122 : decode cX1_obey 122 = .ok (.getfield 121, 3) := by decide +kernel
theorem dX1_obey_125 : decode cX1_obey 125 = .ok (.isub, 1) := by decide +kernel
theorem dX1_obey_126 : decode cX1_obey 126 = .ok (.putfield 116, 3) := by decide +kernel
theorem dX1_obey_129 : decode cX1_obey 129 = .ok (.iconst 1, 1) := by decide +kernel
theorem dX1_obey_130 : decode cX1_obey 130 = .ok (.ireturn, 1) := by decide +kernel
theorem dX1_obey_131 : decode cX1_obey 131 = .ok (.aload_n 0, 1) := by decide +kernel
theorem dX1_obey_132 : decode cX1_obey 132 = .ok (.aload_n 1, 1) := by decide +kernel
theorem dX1_obey_133 : decode cX1_obey 133 = .ok (.aload_n 2, 1) := by decide +kernel
theorem dX1_obey_134 : decode cX1_obey 134 = .ok (.iconst 1, 1) := by decide +kernel
theorem dX1_obey_135 : decode cX1_obey 135 = .ok (.invokevirtual 128, 3) := by decide +kernel
theorem dX1_obey_138 : decode cX1_obey 138 = .ok (.iconst 1, 1) := by decide +kernel
theorem dX1_obey_139 : decode cX1_obey 139 = .ok (.ireturn, 1) := by decide +kernel
theorem dX2_init_0 : decode cX2_init 0 = .ok (.aload_n 0, 1) := by decide +kernel
theorem dX2_init_1 : decode cX2_init 1 = .ok (.invokespecial 3, 3) := by decide +kernel
theorem dX2_init_4 : decode cX2_init 4 = .ok (.aload_n 0, 1) := by decide +kernel
theorem dX2_init_5 : decode cX2_init 5 = .ok (.new 9, 3) := by decide +kernel
theorem dX2_init_8 : decode cX2_init 8 = .ok (.dup, 1) := by decide +kernel
theorem dX2_init_9 : decode cX2_init 9 = .ok (.invokespecial 11, 3) := by decide +kernel
theorem dX2_init_12 : decode cX2_init 12 = .ok (.putfield 12, 3) := by decide +kernel
theorem dX2_init_15 : decode cX2_init 15 = .ok (.aload_n 0, 1) := by decide +kernel
theorem dX2_init_16 : decode cX2_init 16 = .ok (.bipush 40, 2) := by decide +kernel
theorem dX2_init_18 : decode cX2_init 18 = .ok (.newarray .int, 2) := by decide +kernel
theorem dX2_init_20 : decode cX2_init 20 = .ok (.putfield 18, 3) := by decide +kernel
theorem dX2_init_23 : decode cX2_init 23 = .ok (.aload_n 0, 1) := by decide +kernel
theorem dX2_init_24 : decode cX2_init 24 = .ok (.ldc 22, 2) := by decide +kernel
theorem dX2_init_26 : decode cX2_init 26 = .ok (.putfield 23, 3) := by decide +kernel
theorem dX2_init_29 : decode cX2_init 29 = .ok (.return_, 1) := by decide +kernel
theorem dX2_begin_0 : decode cX2_begin 0 = .ok (.aload_n 0, 1) := by decide +kernel
theorem dX2_begin_1 : decode cX2_begin 1 = .ok (.getfield 12, 3) := by decide +kernel
theorem dX2_begin_4 : decode cX2_begin 4 = .ok (.aload_n 1, 1) := by decide +kernel
theorem dX2_begin_5 : decode cX2_begin 5 = .ok (.invokevirtual 27, 3) := by decide +kernel
theorem dX2_begin_8 : decode cX2_begin 8 = .ok (.aload_n 0, 1) := by decide +kernel
theorem dX2_begin_9 : decode cX2_begin 9 = .ok (.iconst 0, 1) := by decide +kernel
theorem dX2_begin_10 : decode cX2_begin 10 = .ok (.putfield 31, 3) := by decide +kernel
theorem dX2_begin_13 : decode cX2_begin 13 = .ok (.aload_n 0, 1) := by decide +kernel
theorem dX2_begin_14 : decode cX2_begin 14 = .ok (.iconst 0, 1) := by decide +kernel
theorem dX2_begin_15 : decode cX2_begin 15 = .ok (.putfield 34, 3) := by decide +kernel
theorem dX2_begin_18 : decode cX2_begin 18 = .ok (.aload_n 0, 1) := by decide +kernel
theorem dX2_begin_19 : decode cX2_begin 19 = .ok (.ldc 22, 2) := by decide +kernel
theorem dX2_begin_21 : decode cX2_begin 21 = .ok (.putfield 23, 3) := by decide +kernel
theorem dX2_begin_24 : decode cX2_begin 24 = .ok (.return_, 1) := by decide +kernel
theorem dX2_takeDays_0 : decode cX2_takeDays 0 = .ok (.aload_n 1, 1) := by decide +kernel
theorem dX2_takeDays_1 : decode cX2_takeDays 1 = .ok (.iconst 0, 1) := by decide +kernel
theorem dX2_takeDays_2 : decode cX2_takeDays 2 = .ok (.aload_n 0, 1) := by decide +kernel
theorem dX2_takeDays_3 : decode cX2_takeDays 3 = .ok (.getfield 18, 3) := by decide +kernel
theorem dX2_takeDays_6 : decode cX2_takeDays 6 = .ok (.iconst 0, 1) := by decide +kernel
theorem dX2_takeDays_7 : decode cX2_takeDays 7 = .ok (.bipush 40, 2) := by decide +kernel
theorem dX2_takeDays_9 : decode cX2_takeDays 9 = .ok (.invokestatic 37, 3) := by decide +kernel
theorem dX2_takeDays_12 : decode cX2_takeDays 12 = .ok (.aload_n 0, 1) := by decide +kernel
theorem dX2_takeDays_13 : decode cX2_takeDays 13 = .ok (.iload_n 2, 1) := by decide +kernel
theorem dX2_takeDays_14 : decode cX2_takeDays 14 = .ok (.putfield 31, 3) := by decide +kernel
theorem dX2_takeDays_17 : decode cX2_takeDays 17 = .ok (.return_, 1) := by decide +kernel
theorem dX2_copy_0 : decode cX2_copy 0 = .ok (.aload_n 0, 1) := by decide +kernel
theorem dX2_copy_1 : decode cX2_copy 1 = .ok (.getfield 12, 3) := by decide +kernel
theorem dX2_copy_4 : decode cX2_copy 4 = .ok (.aload_n 1, 1) := by decide +kernel
theorem dX2_copy_5 : decode cX2_copy 5 = .ok (.getfield 12, 3) := by decide +kernel
theorem dX2_copy_8 : decode cX2_copy 8 = .ok (.invokevirtual 27, 3) := by decide +kernel
theorem dX2_copy_11 : decode cX2_copy 11 = .ok (.aload_n 0, 1) := by decide +kernel
theorem dX2_copy_12 : decode cX2_copy 12 = .ok (.aload_n 1, 1) := by decide +kernel
theorem dX2_copy_13 : decode cX2_copy 13 = .ok (.getfield 18, 3) := by decide +kernel
theorem dX2_copy_16 : decode cX2_copy 16 = .ok (.aload_n 1, 1) := by decide +kernel
theorem dX2_copy_17 : decode cX2_copy 17 = .ok (.getfield 31, 3) := by decide +kernel
theorem dX2_copy_20 : decode cX2_copy 20 = .ok (.invokevirtual 43, 3) := by decide +kernel
theorem dX2_copy_23 : decode cX2_copy 23 = .ok (.aload_n 0, 1) := by decide +kernel
theorem dX2_copy_24 : decode cX2_copy 24 = .ok (.aload_n 1, 1) := by decide +kernel
theorem dX2_copy_25 : decode cX2_copy 25 = .ok (.getfield 34, 3) := by decide +kernel
theorem dX2_copy_28 : decode cX2_copy 28 = .ok (.putfield 34, 3) := by decide +kernel
theorem dX2_copy_31 : decode cX2_copy 31 = .ok (.aload_n 0, 1) := by decide +kernel
theorem dX2_copy_32 : decode cX2_copy 32 = .ok (.aload_n 1, 1) := by decide +kernel
theorem dX2_copy_33 : decode cX2_copy 33 = .ok (.getfield 23, 3) := by decide +kernel
theorem dX2_copy_36 : decode cX2_copy 36 = .ok (.putfield 23, 3) := by decide +kernel
theorem dX2_copy_39 : decode cX2_copy 39 = .ok (.return_, 1) := by decide +kernel
theorem dX3_init_0 : decode cX3_init 0 = .ok (.aload_n 0, 1) := by decide +kernel
theorem dX3_init_1 : decode cX3_init 1 = .ok (.invokespecial 3, 3) := by decide +kernel
theorem dX3_init_4 : decode cX3_init 4 = .ok (.aload_n 0, 1) := by decide +kernel
theorem dX3_init_5 : decode cX3_init 5 = .ok (.bipush 40, 2) := by decide +kernel
theorem dX3_init_7 : decode cX3_init 7 = .ok (.newarray .int, 2) := by decide +kernel
theorem dX3_init_9 : decode cX3_init 9 = .ok (.putfield 9, 3) := by decide +kernel
theorem dX3_init_12 : decode cX3_init 12 = .ok (.aload_n 0, 1) := by decide +kernel
theorem dX3_init_13 : decode cX3_init 13 = .ok (.aload_n 1, 1) := by decide +kernel
theorem dX3_init_14 : decode cX3_init 14 = .ok (.putfield 15, 3) := by decide +kernel
theorem dX3_init_17 : decode cX3_init 17 = .ok (.aload_n 0, 1) := by decide +kernel
theorem dX3_init_18 : decode cX3_init 18 = .ok (.new 19, 3) := by decide +kernel
theorem dX3_init_21 : decode cX3_init 21 = .ok (.dup, 1) := by decide +kernel
theorem dX3_init_22 : decode cX3_init 22 = .ok (.aload_n 1, 1) := by decide +kernel
theorem dX3_init_23 : decode cX3_init 23 = .ok (.invokespecial 21, 3) := by decide +kernel
theorem dX3_init_26 : decode cX3_init 26 = .ok (.putfield 24, 3) := by decide +kernel
theorem dX3_init_29 : decode cX3_init 29 = .ok (.return_, 1) := by decide +kernel
theorem dX3_readZoo_0 : decode cX3_readZoo 0 = .ok (.aload_n 1, 1) := by decide +kernel
theorem dX3_readZoo_1 : decode cX3_readZoo 1 = .ok (.invokevirtual 28, 3) := by decide +kernel
theorem dX3_readZoo_4 : decode cX3_readZoo 4 = .ok (.aload_n 0, 1) := by decide +kernel
theorem dX3_readZoo_5 : decode cX3_readZoo 5 = .ok (.getfield 15, 3) := by decide +kernel
theorem dX3_readZoo_8 : decode cX3_readZoo 8 = .ok (.invokevirtual 33, 3) := by decide +kernel
theorem dX3_readZoo_11 : decode cX3_readZoo 11 = .ok (.iconst 1, 1) := by decide +kernel
theorem dX3_readZoo_12 : decode cX3_readZoo 12 = .ok (.istore_n 2, 1) := by decide +kernel
theorem dX3_readZoo_13 : decode cX3_readZoo 13 = .ok (.iconst 0, 1) := by decide +kernel
theorem dX3_readZoo_14 : decode cX3_readZoo 14 = .ok (.istore_n 3, 1) := by decide +kernel
theorem dX3_readZoo_15 : decode cX3_readZoo 15 = .ok (.iload_n 3, 1) := by decide +kernel
theorem dX3_readZoo_16 : decode cX3_readZoo 16 = .ok (.sipush 1000, 3) := by decide +kernel
theorem dX3_readZoo_19 : decode cX3_readZoo 19 = .ok (.if_icmp .gt 49, 3) := by decide +kernel
theorem dX3_readZoo_22 : decode cX3_readZoo 22 = .ok (.iload_n 2, 1) := by decide +kernel
theorem dX3_readZoo_23 : decode cX3_readZoo 23 = .ok (.ifCond .eq 45, 3) := by decide +kernel
theorem dX3_readZoo_26 : decode cX3_readZoo 26 = .ok (.aload_n 0, 1) := by decide +kernel
theorem dX3_readZoo_27 : decode cX3_readZoo 27 = .ok (.getfield 15, 3) := by decide +kernel
theorem dX3_readZoo_30 : decode cX3_readZoo 30 = .ok (.getfield 38, 3) := by decide +kernel
theorem dX3_readZoo_33 : decode cX3_readZoo 33 = .ok (.ifCond .eq 35, 3) := by decide +kernel
theorem dX3_readZoo_36 : decode cX3_readZoo 36 = .ok (.aload_n 0, 1) := by decide +kernel
theorem dX3_readZoo_37 : decode cX3_readZoo 37 = .ok (.aload_n 1, 1) := by decide +kernel
theorem dX3_readZoo_38 : decode cX3_readZoo 38 = .ok (.invokevirtual 42, 3) := by decide +kernel
theorem dX3_readZoo_41 : decode cX3_readZoo 41 = .ok (.ifCond .eq 19, 3) := by decide +kernel
theorem dX3_readZoo_44 : decode cX3_readZoo 44 = .ok (.aload_n 0, 1) := by decide +kernel
theorem dX3_readZoo_45 : decode cX3_readZoo 45 = .ok (.getfield 15, 3) := by decide +kernel
theorem dX3_readZoo_48 : decode cX3_readZoo 48 = .ok (.bipush 59, 2) := by decide +kernel
theorem dX3_readZoo_50 : decode cX3_readZoo 50 = .ok (.invokevirtual 46, 3) := by decide +kernel
theorem dX3_readZoo_53 : decode cX3_readZoo 53 = .ok (.ifCond .eq 7, 3) := by decide +kernel
theorem dX3_readZoo_56 : decode cX3_readZoo 56 = .ok (.iconst 1, 1) := by decide +kernel
theorem dX3_readZoo_57 : decode cX3_readZoo 57 = .ok (.goto 4, 3) := by decide +kernel
theorem dX3_readZoo_60 : decode cX3_readZoo 60 = .ok (.iconst 0, 1) := by decide +kernel
theorem dX3_readZoo_61 : decode cX3_readZoo 61 = .ok (.istore_n 2, 1) := by decide +kernel
theorem dX3_readZoo_62 : decode cX3_readZoo 62 = .ok (.iinc 3 1, 3) := by decide +kernel
theorem dX3_readZoo_65 : decode cX3_readZoo 65 = .ok (.goto (-50), 3) := by decide +kernel
theorem dX3_readZoo_68 : decode cX3_readZoo 68 = .ok (.iload_n 2, 1) := by decide +kernel
theorem dX3_readZoo_69 : decode cX3_readZoo 69 = .ok (.ifCond .eq 7, 3) := by decide +kernel
theorem dX3_readZoo_72 : decode cX3_readZoo 72 = .ok (.aload_n 1, 1) := by decide +kernel
theorem dX3_readZoo_73 : decode cX3_readZoo 73 = .ok (.invokevirtual 50, 3) := by decide +kernel
theorem dX3_readZoo_76 : decode cX3_readZoo 76 = .ok (.aload_n 0, 1) := by decide +kernel
theorem dX3_readZoo_77 : decode cX3_readZoo 77 = .ok (.getfield 15, 3) := by decide +kernel
theorem dX3_readZoo_80 : decode cX3_readZoo 80 = .ok (.invokevirtual 53, 3) := by decide +kernel
theorem dX3_readZoo_83 : decode cX3_readZoo 83 = .ok (.ireturn, 1) := by decide +kernel
theorem dX3_readLine_0 : decode cX3_readLine 0 = .ok (.aload_n 0, 1) := by decide +kernel
theorem dX3_readLine_1 : decode cX3_readLine 1 = .ok (.getfield 15, 3) := by decide +kernel
theorem dX3_readLine_4 : decode cX3_readLine 4 = .ok (.getfield 38, 3) := by decide +kernel
theorem dX3_readLine_7 : decode cX3_readLine 7 = .ok (.iconst 1, 1) := by decide +kernel
theorem dX3_readLine_8 : decode cX3_readLine 8 = .ok (.if_icmp .eq 12, 3) := by decide +kernel
theorem dX3_readLine_11 : decode cX3_readLine 11 = .ok (.aload_n 0, 1) := by decide +kernel
theorem dX3_readLine_12 : decode cX3_readLine 12 = .ok (.getfield 15, 3) := by decide +kernel
theorem dX3_readLine_15 : decode cX3_readLine 15 = .ok (.iconst 1, 1) := by decide +kernel
theorem dX3_readLine_16 : decode cX3_readLine 16 = .ok (.invokevirtual 57, 3) := by decide +kernel
theorem dX3_readLine_19 : decode cX3_readLine 19 = .ok (.ireturn, 1) := by decide +kernel
theorem dX3_readLine_20 : decode cX3_readLine 20 = .ok (.aload_n 0, 1) := by decide +kernel
theorem dX3_readLine_21 : decode cX3_readLine 21 = .ok (.getfield 15, 3) := by decide +kernel
theorem dX3_readLine_24 : decode cX3_readLine 24 = .ok (.getfield 60, 3) := by decide +kernel
theorem dX3_readLine_27 : decode cX3_readLine 27 = .ok (.tableswitch 217 0 15 #[77, 217, 83, 89, 217, 217, 95, 217, 217, 101, 107, 129, 217, 151, 173, 195], 77) := by decide +kernel
theorem dX3_readLine_104 : decode cX3_readLine 104 = .ok (.aload_n 0, 1) := by decide +kernel
theorem dX3_readLine_105 : decode cX3_readLine 105 = .ok (.aload_n 1, 1) := by decide +kernel
theorem dX3_readLine_106 : decode cX3_readLine 106 = .ok (.invokevirtual 63, 3) := by decide +kernel
theorem dX3_readLine_109 : decode cX3_readLine 109 = .ok (.ireturn, 1) := by decide +kernel
theorem dX3_readLine_110 : decode cX3_readLine 110 = .ok (.aload_n 0, 1) := by decide +kernel
theorem dX3_readLine_111 : decode cX3_readLine 111 = .ok (.aload_n 1, 1) := by decide +kernel
theorem dX3_readLine_112 : decode cX3_readLine 112 = .ok (.invokevirtual 66, 3) := by decide +kernel
theorem dX3_readLine_115 : decode cX3_readLine 115 = .ok (.ireturn, 1) := by decide +kernel
theorem dX3_readLine_116 : decode cX3_readLine 116 = .ok (.aload_n 0, 1) := by decide +kernel
theorem dX3_readLine_117 : decode cX3_readLine 117 = .ok (.aload_n 1, 1) := by decide +kernel
theorem dX3_readLine_118 : decode cX3_readLine 118 = .ok (.invokevirtual 69, 3) := by decide +kernel
theorem dX3_readLine_121 : decode cX3_readLine 121 = .ok (.ireturn, 1) := by decide +kernel
theorem dX3_readLine_122 : decode cX3_readLine 122 = .ok (.aload_n 0, 1) := by decide +kernel
theorem dX3_readLine_123 : decode cX3_readLine 123 = .ok (.aload_n 1, 1) := by decide +kernel
theorem dX3_readLine_124 : decode cX3_readLine 124 = .ok (.invokevirtual 72, 3) := by decide +kernel
theorem dX3_readLine_127 : decode cX3_readLine 127 = .ok (.ireturn, 1) := by decide +kernel
theorem dX3_readLine_128 : decode cX3_readLine 128 = .ok (.aload_n 0, 1) := by decide +kernel
theorem dX3_readLine_129 : decode cX3_readLine 129 = .ok (.aload_n 1, 1) := by decide +kernel
theorem dX3_readLine_130 : decode cX3_readLine 130 = .ok (.invokevirtual 75, 3) := by decide +kernel
theorem dX3_readLine_133 : decode cX3_readLine 133 = .ok (.ireturn, 1) := by decide +kernel
theorem dX3_readLine_134 : decode cX3_readLine 134 = .ok (.aload_n 0, 1) := by decide +kernel
theorem dX3_readLine_135 : decode cX3_readLine 135 = .ok (.aload_n 1, 1) := by decide +kernel
theorem dX3_readLine_136 : decode cX3_readLine 136 = .ok (.invokevirtual 78, 3) := by decide +kernel
theorem dX3_readLine_139 : decode cX3_readLine 139 = .ok (.ifCond .eq 15, 3) := by decide +kernel
theorem dX3_readLine_142 : decode cX3_readLine 142 = .ok (.aload_n 0, 1) := by decide +kernel
theorem dX3_readLine_143 : decode cX3_readLine 143 = .ok (.aload_n 1, 1) := by decide +kernel
theorem dX3_readLine_144 : decode cX3_readLine 144 = .ok (.invokevirtual 81, 3) := by decide +kernel
theorem dX3_readLine_147 : decode cX3_readLine 147 = .ok (.ifCond .eq 7, 3) := by decide +kernel
theorem dX3_readLine_150 : decode cX3_readLine 150 = .ok (.iconst 1, 1) := by decide +kernel
theorem dX3_readLine_151 : decode cX3_readLine 151 = .ok (.goto 4, 3) := by decide +kernel
theorem dX3_readLine_154 : decode cX3_readLine 154 = .ok (.iconst 0, 1) := by decide +kernel
theorem dX3_readLine_155 : decode cX3_readLine 155 = .ok (.ireturn, 1) := by decide +kernel
theorem dX3_readLine_156 : decode cX3_readLine 156 = .ok (.aload_n 0, 1) := by decide +kernel
theorem dX3_readLine_157 : decode cX3_readLine 157 = .ok (.aload_n 1, 1) := by decide +kernel
theorem dX3_readLine_158 : decode cX3_readLine 158 = .ok (.invokevirtual 78, 3) := by decide +kernel
theorem dX3_readLine_161 : decode cX3_readLine 161 = .ok (.ifCond .eq 15, 3) := by decide +kernel
theorem dX3_readLine_164 : decode cX3_readLine 164 = .ok (.aload_n 0, 1) := by decide +kernel
theorem dX3_readLine_165 : decode cX3_readLine 165 = .ok (.aload_n 1, 1) := by decide +kernel
theorem dX3_readLine_166 : decode cX3_readLine 166 = .ok (.invokevirtual 84, 3) := by decide +kernel
theorem dX3_readLine_169 : decode cX3_readLine 169 = .ok (.ifCond .eq 7, 3) := by decide +kernel
theorem dX3_readLine_172 : decode cX3_readLine 172 = .ok (.iconst 1, 1) := by decide +kernel
theorem dX3_readLine_173 : decode cX3_readLine 173 = .ok (.goto 4, 3) := by decide +kernel
theorem dX3_readLine_176 : decode cX3_readLine 176 = .ok (.iconst 0, 1) := by decide +kernel
theorem dX3_readLine_177 : decode cX3_readLine 177 = .ok (.ireturn, 1) := by decide +kernel
theorem dX3_readLine_178 : decode cX3_readLine 178 = .ok (.aload_n 0, 1) := by decide +kernel
theorem dX3_readLine_179 : decode cX3_readLine 179 = .ok (.aload_n 1, 1) := by decide +kernel
theorem dX3_readLine_180 : decode cX3_readLine 180 = .ok (.invokevirtual 78, 3) := by decide +kernel
theorem dX3_readLine_183 : decode cX3_readLine 183 = .ok (.ifCond .eq 15, 3) := by decide +kernel
theorem dX3_readLine_186 : decode cX3_readLine 186 = .ok (.aload_n 0, 1) := by decide +kernel
theorem dX3_readLine_187 : decode cX3_readLine 187 = .ok (.aload_n 1, 1) := by decide +kernel
theorem dX3_readLine_188 : decode cX3_readLine 188 = .ok (.invokevirtual 87, 3) := by decide +kernel
theorem dX3_readLine_191 : decode cX3_readLine 191 = .ok (.ifCond .eq 7, 3) := by decide +kernel
theorem dX3_readLine_194 : decode cX3_readLine 194 = .ok (.iconst 1, 1) := by decide +kernel
theorem dX3_readLine_195 : decode cX3_readLine 195 = .ok (.goto 4, 3) := by decide +kernel
theorem dX3_readLine_198 : decode cX3_readLine 198 = .ok (.iconst 0, 1) := by decide +kernel
theorem dX3_readLine_199 : decode cX3_readLine 199 = .ok (.ireturn, 1) := by decide +kernel
theorem dX3_readLine_200 : decode cX3_readLine 200 = .ok (.aload_n 0, 1) := by decide +kernel
theorem dX3_readLine_201 : decode cX3_readLine 201 = .ok (.aload_n 1, 1) := by decide +kernel
theorem dX3_readLine_202 : decode cX3_readLine 202 = .ok (.invokevirtual 78, 3) := by decide +kernel
theorem dX3_readLine_205 : decode cX3_readLine 205 = .ok (.ifCond .eq 15, 3) := by decide +kernel
theorem dX3_readLine_208 : decode cX3_readLine 208 = .ok (.aload_n 0, 1) := by decide +kernel
theorem dX3_readLine_209 : decode cX3_readLine 209 = .ok (.aload_n 1, 1) := by decide +kernel
theorem dX3_readLine_210 : decode cX3_readLine 210 = .ok (.invokevirtual 90, 3) := by decide +kernel
theorem dX3_readLine_213 : decode cX3_readLine 213 = .ok (.ifCond .eq 7, 3) := by decide +kernel
theorem dX3_readLine_216 : decode cX3_readLine 216 = .ok (.iconst 1, 1) := by decide +kernel
theorem dX3_readLine_217 : decode cX3_readLine 217 = .ok (.goto 4, 3) := by decide +kernel
theorem dX3_readLine_220 : decode cX3_readLine 220 = .ok (.iconst 0, 1) := by decide +kernel
theorem dX3_readLine_221 : decode cX3_readLine 221 = .ok (.ireturn, 1) := by decide +kernel
theorem dX3_readLine_222 : decode cX3_readLine 222 = .ok (.aload_n 0, 1) := by decide +kernel
theorem dX3_readLine_223 : decode cX3_readLine 223 = .ok (.aload_n 1, 1) := by decide +kernel
theorem dX3_readLine_224 : decode cX3_readLine 224 = .ok (.invokevirtual 78, 3) := by decide +kernel
theorem dX3_readLine_227 : decode cX3_readLine 227 = .ok (.ifCond .eq 15, 3) := by decide +kernel
theorem dX3_readLine_230 : decode cX3_readLine 230 = .ok (.aload_n 0, 1) := by decide +kernel
theorem dX3_readLine_231 : decode cX3_readLine 231 = .ok (.aload_n 1, 1) := by decide +kernel
theorem dX3_readLine_232 : decode cX3_readLine 232 = .ok (.invokevirtual 93, 3) := by decide +kernel
theorem dX3_readLine_235 : decode cX3_readLine 235 = .ok (.ifCond .eq 7, 3) := by decide +kernel
theorem dX3_readLine_238 : decode cX3_readLine 238 = .ok (.iconst 1, 1) := by decide +kernel
theorem dX3_readLine_239 : decode cX3_readLine 239 = .ok (.goto 4, 3) := by decide +kernel
theorem dX3_readLine_242 : decode cX3_readLine 242 = .ok (.iconst 0, 1) := by decide +kernel
theorem dX3_readLine_243 : decode cX3_readLine 243 = .ok (.ireturn, 1) := by decide +kernel
theorem dX3_readLine_244 : decode cX3_readLine 244 = .ok (.aload_n 0, 1) := by decide +kernel
theorem dX3_readLine_245 : decode cX3_readLine 245 = .ok (.getfield 15, 3) := by decide +kernel
theorem dX3_readLine_248 : decode cX3_readLine 248 = .ok (.iconst 1, 1) := by decide +kernel
theorem dX3_readLine_249 : decode cX3_readLine 249 = .ok (.invokevirtual 57, 3) := by decide +kernel
theorem dX3_readLine_252 : decode cX3_readLine 252 = .ok (.ireturn, 1) := by decide +kernel
theorem dX3_readPen_0 : decode cX3_readPen 0 = .ok (.aload_n 1, 1) := by decide +kernel
theorem dX3_readPen_1 : decode cX3_readPen 1 = .ok (.getfield 96, 3) := by decide +kernel
theorem dX3_readPen_4 : decode cX3_readPen 4 = .ok (.bipush 6, 2) := by decide +kernel
theorem dX3_readPen_6 : decode cX3_readPen 6 = .ok (.if_icmp .lt 12, 3) := by decide +kernel
theorem dX3_readPen_9 : decode cX3_readPen 9 = .ok (.aload_n 0, 1) := by decide +kernel
theorem dX3_readPen_10 : decode cX3_readPen 10 = .ok (.getfield 15, 3) := by decide +kernel
theorem dX3_readPen_13 : decode cX3_readPen 13 = .ok (.iconst 5, 1) := by decide +kernel
theorem dX3_readPen_14 : decode cX3_readPen 14 = .ok (.invokevirtual 57, 3) := by decide +kernel
theorem dX3_readPen_17 : decode cX3_readPen 17 = .ok (.ireturn, 1) := by decide +kernel
theorem dX3_readPen_18 : decode cX3_readPen 18 = .ok (.aload_n 0, 1) := by decide +kernel
theorem dX3_readPen_19 : decode cX3_readPen 19 = .ok (.getfield 15, 3) := by decide +kernel
theorem dX3_readPen_22 : decode cX3_readPen 22 = .ok (.invokevirtual 99, 3) := by decide +kernel
theorem dX3_readPen_25 : decode cX3_readPen 25 = .ok (.aload_n 0, 1) := by decide +kernel
theorem dX3_readPen_26 : decode cX3_readPen 26 = .ok (.aload_n 1, 1) := by decide +kernel
theorem dX3_readPen_27 : decode cX3_readPen 27 = .ok (.invokevirtual 102, 3) := by decide +kernel
theorem dX3_readPen_30 : decode cX3_readPen 30 = .ok (.ifCond .eq 24, 3) := by decide +kernel
theorem dX3_readPen_33 : decode cX3_readPen 33 = .ok (.aload_n 0, 1) := by decide +kernel
theorem dX3_readPen_34 : decode cX3_readPen 34 = .ok (.getfield 15, 3) := by decide +kernel
theorem dX3_readPen_37 : decode cX3_readPen 37 = .ok (.iconst 1, 1) := by decide +kernel
theorem dX3_readPen_38 : decode cX3_readPen 38 = .ok (.invokevirtual 105, 3) := by decide +kernel
theorem dX3_readPen_41 : decode cX3_readPen 41 = .ok (.ifCond .eq 13, 3) := by decide +kernel
theorem dX3_readPen_44 : decode cX3_readPen 44 = .ok (.aload_n 0, 1) := by decide +kernel
theorem dX3_readPen_45 : decode cX3_readPen 45 = .ok (.iconst 0, 1) := by decide +kernel
theorem dX3_readPen_46 : decode cX3_readPen 46 = .ok (.bipush 9, 2) := by decide +kernel
theorem dX3_readPen_48 : decode cX3_readPen 48 = .ok (.invokevirtual 108, 3) := by decide +kernel
theorem dX3_readPen_51 : decode cX3_readPen 51 = .ok (.ifCond .ne 5, 3) := by decide +kernel
theorem dX3_readPen_54 : decode cX3_readPen 54 = .ok (.iconst 0, 1) := by decide +kernel
theorem dX3_readPen_55 : decode cX3_readPen 55 = .ok (.ireturn, 1) := by decide +kernel
theorem dX3_readPen_56 : decode cX3_readPen 56 = .ok (.aload_n 1, 1) := by decide +kernel
theorem dX3_readPen_57 : decode cX3_readPen 57 = .ok (.getfield 112, 3) := by decide +kernel
theorem dX3_readPen_60 : decode cX3_readPen 60 = .ok (.aload_n 1, 1) := by decide +kernel
theorem dX3_readPen_61 : decode cX3_readPen 61 = .ok (.getfield 96, 3) := by decide +kernel
theorem dX3_readPen_64 : decode cX3_readPen 64 = .ok (.aload_n 0, 1) := by decide +kernel
theorem dX3_readPen_65 : decode cX3_readPen 65 = .ok (.getfield 116, 3) := by decide +kernel
theorem dX3_readPen_68 : decode cX3_readPen 68 = .ok (.lastore, 1) := by decide +kernel
theorem dX3_readPen_69 : decode cX3_readPen 69 = .ok (.aload_n 1, 1) := by decide +kernel
theorem dX3_readPen_70 : decode cX3_readPen 70 = .ok (.getfield 120, 3) := by decide +kernel
theorem dX3_readPen_73 : decode cX3_readPen 73 = .ok (.aload_n 1, 1) := by decide +kernel
theorem dX3_readPen_74 : decode cX3_readPen 74 = .ok (.getfield 96, 3) := by decide +kernel
theorem dX3_readPen_77 : decode cX3_readPen 77 = .ok (.aload_n 0, 1) := by decide +kernel
theorem dX3_readPen_78 : decode cX3_readPen 78 = .ok (.getfield 123, 3) := by decide +kernel
theorem dX3_readPen_81 : decode cX3_readPen 81 = .ok (.iastore, 1) := by decide +kernel
theorem dX3_readPen_82 : decode cX3_readPen 82 = .ok (.aload_n 1, 1) := by decide +kernel
theorem dX3_readPen_83 : decode cX3_readPen 83 = .ok (.dup, 1) := by decide +kernel
theorem dX3_readPen_84 : decode cX3_readPen 84 = .ok (.getfield 96, 3) := by decide +kernel
theorem dX3_readPen_87 : decode cX3_readPen 87 = .ok (.iconst 1, 1) := by decide +kernel
theorem dX3_readPen_88 : decode cX3_readPen 88 = .ok (.iadd, 1) := by decide +kernel
theorem dX3_readPen_89 : decode cX3_readPen 89 = .ok (.putfield 96, 3) := by decide +kernel
theorem dX3_readPen_92 : decode cX3_readPen 92 = .ok (.iconst 1, 1) := by decide +kernel
theorem dX3_readPen_93 : decode cX3_readPen 93 = .ok (.ireturn, 1) := by decide +kernel
theorem dX3_readPath_0 : decode cX3_readPath 0 = .ok (.aload_n 0, 1) := by decide +kernel
theorem dX3_readPath_1 : decode cX3_readPath 1 = .ok (.aload_n 1, 1) := by decide +kernel
theorem dX3_readPath_2 : decode cX3_readPath 2 = .ok (.getfield 112, 3) := by decide +kernel
theorem dX3_readPath_5 : decode cX3_readPath 5 = .ok (.aload_n 1, 1) := by decide +kernel
theorem dX3_readPath_6 : decode cX3_readPath 6 = .ok (.getfield 96, 3) := by decide +kernel
theorem dX3_readPath_9 : decode cX3_readPath 9 = .ok (.invokevirtual 126, 3) := by decide +kernel
theorem dX3_readPath_12 : decode cX3_readPath 12 = .ok (.ifCond .ne 5, 3) := by decide +kernel
theorem dX3_readPath_15 : decode cX3_readPath 15 = .ok (.iconst 0, 1) := by decide +kernel
theorem dX3_readPath_16 : decode cX3_readPath 16 = .ok (.ireturn, 1) := by decide +kernel
theorem dX3_readPath_17 : decode cX3_readPath 17 = .ok (.aload_n 0, 1) := by decide +kernel
theorem dX3_readPath_18 : decode cX3_readPath 18 = .ok (.getfield 130, 3) := by decide +kernel
theorem dX3_readPath_21 : decode cX3_readPath 21 = .ok (.bipush 6, 2) := by decide +kernel
theorem dX3_readPath_23 : decode cX3_readPath 23 = .ok (.imul, 1) := by decide +kernel
theorem dX3_readPath_24 : decode cX3_readPath 24 = .ok (.aload_n 0, 1) := by decide +kernel
theorem dX3_readPath_25 : decode cX3_readPath 25 = .ok (.getfield 133, 3) := by decide +kernel
theorem dX3_readPath_28 : decode cX3_readPath 28 = .ok (.iadd, 1) := by decide +kernel
theorem dX3_readPath_29 : decode cX3_readPath 29 = .ok (.istore_n 2, 1) := by decide +kernel
theorem dX3_readPath_30 : decode cX3_readPath 30 = .ok (.aload_n 0, 1) := by decide +kernel
theorem dX3_readPath_31 : decode cX3_readPath 31 = .ok (.getfield 133, 3) := by decide +kernel
theorem dX3_readPath_34 : decode cX3_readPath 34 = .ok (.bipush 6, 2) := by decide +kernel
theorem dX3_readPath_36 : decode cX3_readPath 36 = .ok (.imul, 1) := by decide +kernel
theorem dX3_readPath_37 : decode cX3_readPath 37 = .ok (.aload_n 0, 1) := by decide +kernel
theorem dX3_readPath_38 : decode cX3_readPath 38 = .ok (.getfield 130, 3) := by decide +kernel
theorem dX3_readPath_41 : decode cX3_readPath 41 = .ok (.iadd, 1) := by decide +kernel
theorem dX3_readPath_42 : decode cX3_readPath 42 = .ok (.istore_n 3, 1) := by decide +kernel
theorem dX3_readPath_43 : decode cX3_readPath 43 = .ok (.aload_n 1, 1) := by decide +kernel
theorem dX3_readPath_44 : decode cX3_readPath 44 = .ok (.getfield 136, 3) := by decide +kernel
theorem dX3_readPath_47 : decode cX3_readPath 47 = .ok (.iload_n 2, 1) := by decide +kernel
theorem dX3_readPath_48 : decode cX3_readPath 48 = .ok (.iaload, 1) := by decide +kernel
theorem dX3_readPath_49 : decode cX3_readPath 49 = .ok (.sipush 1000, 3) := by decide +kernel
theorem dX3_readPath_52 : decode cX3_readPath 52 = .ok (.if_icmp .ge 12, 3) := by decide +kernel
theorem dX3_readPath_55 : decode cX3_readPath 55 = .ok (.aload_n 0, 1) := by decide +kernel
theorem dX3_readPath_56 : decode cX3_readPath 56 = .ok (.getfield 15, 3) := by decide +kernel
theorem dX3_readPath_59 : decode cX3_readPath 59 = .ok (.iconst 3, 1) := by decide +kernel
theorem dX3_readPath_60 : decode cX3_readPath 60 = .ok (.invokevirtual 57, 3) := by decide +kernel
theorem dX3_readPath_63 : decode cX3_readPath 63 = .ok (.ireturn, 1) := by decide +kernel
theorem dX3_readPath_64 : decode cX3_readPath 64 = .ok (.aload_n 0, 1) := by decide +kernel
theorem dX3_readPath_65 : decode cX3_readPath 65 = .ok (.getfield 15, 3) := by decide +kernel
theorem dX3_readPath_68 : decode cX3_readPath 68 = .ok (.invokevirtual 99, 3) := by decide +kernel
theorem dX3_readPath_71 : decode cX3_readPath 71 = .ok (.aload_n 0, 1) := by decide +kernel
theorem dX3_readPath_72 : decode cX3_readPath 72 = .ok (.iconst 1, 1) := by decide +kernel
theorem dX3_readPath_73 : decode cX3_readPath 73 = .ok (.bipush 30, 2) := by decide +kernel
theorem dX3_readPath_75 : decode cX3_readPath 75 = .ok (.invokevirtual 108, 3) := by decide +kernel
theorem dX3_readPath_78 : decode cX3_readPath 78 = .ok (.ifCond .ne 5, 3) := by decide +kernel
theorem dX3_readPath_81 : decode cX3_readPath 81 = .ok (.iconst 0, 1) := by decide +kernel
theorem dX3_readPath_82 : decode cX3_readPath 82 = .ok (.ireturn, 1) := by decide +kernel
theorem dX3_readPath_83 : decode cX3_readPath 83 = .ok (.aload_n 1, 1) := by decide +kernel
theorem dX3_readPath_84 : decode cX3_readPath 84 = .ok (.getfield 136, 3) := by decide +kernel
theorem dX3_readPath_87 : decode cX3_readPath 87 = .ok (.iload_n 2, 1) := by decide +kernel
theorem dX3_readPath_88 : decode cX3_readPath 88 = .ok (.aload_n 0, 1) := by decide +kernel
theorem dX3_readPath_89 : decode cX3_readPath 89 = .ok (.getfield 123, 3) := by decide +kernel
theorem dX3_readPath_92 : decode cX3_readPath 92 = .ok (.iastore, 1) := by decide +kernel
theorem dX3_readPath_93 : decode cX3_readPath 93 = .ok (.aload_n 1, 1) := by decide +kernel
theorem dX3_readPath_94 : decode cX3_readPath 94 = .ok (.getfield 136, 3) := by decide +kernel
theorem dX3_readPath_97 : decode cX3_readPath 97 = .ok (.iload_n 3, 1) := by decide +kernel
theorem dX3_readPath_98 : decode cX3_readPath 98 = .ok (.aload_n 0, 1) := by decide +kernel
theorem dX3_readPath_99 : decode cX3_readPath 99 = .ok (.getfield 123, 3) := by decide +kernel
theorem dX3_readPath_102 : decode cX3_readPath 102 = .ok (.iastore, 1) := by decide +kernel
theorem dX3_readPath_103 : decode cX3_readPath 103 = .ok (.aload_n 1, 1) := by decide +kernel
theorem dX3_readPath_104 : decode cX3_readPath 104 = .ok (.dup, 1) := by decide +kernel
theorem dX3_readPath_105 : decode cX3_readPath 105 = .ok (.getfield 139, 3) := by decide +kernel
theorem dX3_readPath_108 : decode cX3_readPath 108 = .ok (.iconst 1, 1) := by decide +kernel
theorem dX3_readPath_109 : decode cX3_readPath 109 = .ok (.iadd, 1) := by decide +kernel
theorem dX3_readPath_110 : decode cX3_readPath 110 = .ok (.putfield 139, 3) := by decide +kernel
theorem dX3_readPath_113 : decode cX3_readPath 113 = .ok (.iconst 1, 1) := by decide +kernel
theorem dX3_readPath_114 : decode cX3_readPath 114 = .ok (.ireturn, 1) := by decide +kernel
theorem dX3_readGuest_0 : decode cX3_readGuest 0 = .ok (.aload_n 1, 1) := by decide +kernel
theorem dX3_readGuest_1 : decode cX3_readGuest 1 = .ok (.getfield 142, 3) := by decide +kernel
theorem dX3_readGuest_4 : decode cX3_readGuest 4 = .ok (.bipush 6, 2) := by decide +kernel
theorem dX3_readGuest_6 : decode cX3_readGuest 6 = .ok (.if_icmp .lt 12, 3) := by decide +kernel
theorem dX3_readGuest_9 : decode cX3_readGuest 9 = .ok (.aload_n 0, 1) := by decide +kernel
theorem dX3_readGuest_10 : decode cX3_readGuest 10 = .ok (.getfield 15, 3) := by decide +kernel
theorem dX3_readGuest_13 : decode cX3_readGuest 13 = .ok (.iconst 5, 1) := by decide +kernel
theorem dX3_readGuest_14 : decode cX3_readGuest 14 = .ok (.invokevirtual 57, 3) := by decide +kernel
theorem dX3_readGuest_17 : decode cX3_readGuest 17 = .ok (.ireturn, 1) := by decide +kernel
theorem dX3_readGuest_18 : decode cX3_readGuest 18 = .ok (.aload_n 0, 1) := by decide +kernel
theorem dX3_readGuest_19 : decode cX3_readGuest 19 = .ok (.getfield 15, 3) := by decide +kernel
theorem dX3_readGuest_22 : decode cX3_readGuest 22 = .ok (.invokevirtual 99, 3) := by decide +kernel
theorem dX3_readGuest_25 : decode cX3_readGuest 25 = .ok (.aload_n 0, 1) := by decide +kernel
theorem dX3_readGuest_26 : decode cX3_readGuest 26 = .ok (.aload_n 1, 1) := by decide +kernel
theorem dX3_readGuest_27 : decode cX3_readGuest 27 = .ok (.invokevirtual 102, 3) := by decide +kernel
theorem dX3_readGuest_30 : decode cX3_readGuest 30 = .ok (.ifCond .eq 21, 3) := by decide +kernel
theorem dX3_readGuest_33 : decode cX3_readGuest 33 = .ok (.aload_n 0, 1) := by decide +kernel
theorem dX3_readGuest_34 : decode cX3_readGuest 34 = .ok (.invokevirtual 145, 3) := by decide +kernel
theorem dX3_readGuest_37 : decode cX3_readGuest 37 = .ok (.ifCond .eq 14, 3) := by decide +kernel
theorem dX3_readGuest_40 : decode cX3_readGuest 40 = .ok (.aload_n 0, 1) := by decide +kernel
theorem dX3_readGuest_41 : decode cX3_readGuest 41 = .ok (.getfield 15, 3) := by decide +kernel
theorem dX3_readGuest_44 : decode cX3_readGuest 44 = .ok (.iconst 4, 1) := by decide +kernel
theorem dX3_readGuest_45 : decode cX3_readGuest 45 = .ok (.invokevirtual 105, 3) := by decide +kernel
theorem dX3_readGuest_48 : decode cX3_readGuest 48 = .ok (.ifCond .ne 5, 3) := by decide +kernel
theorem dX3_readGuest_51 : decode cX3_readGuest 51 = .ok (.iconst 0, 1) := by decide +kernel
theorem dX3_readGuest_52 : decode cX3_readGuest 52 = .ok (.ireturn, 1) := by decide +kernel
theorem dX3_readGuest_53 : decode cX3_readGuest 53 = .ok (.aload_n 0, 1) := by decide +kernel
theorem dX3_readGuest_54 : decode cX3_readGuest 54 = .ok (.getfield 133, 3) := by decide +kernel
theorem dX3_readGuest_57 : decode cX3_readGuest 57 = .ok (.istore_n 2, 1) := by decide +kernel
theorem dX3_readGuest_58 : decode cX3_readGuest 58 = .ok (.aload_n 0, 1) := by decide +kernel
theorem dX3_readGuest_59 : decode cX3_readGuest 59 = .ok (.iconst 0, 1) := by decide +kernel
theorem dX3_readGuest_60 : decode cX3_readGuest 60 = .ok (.bipush 9, 2) := by decide +kernel
theorem dX3_readGuest_62 : decode cX3_readGuest 62 = .ok (.invokevirtual 108, 3) := by decide +kernel
theorem dX3_readGuest_65 : decode cX3_readGuest 65 = .ok (.ifCond .eq 29, 3) := by decide +kernel
theorem dX3_readGuest_68 : decode cX3_readGuest 68 = .ok (.aload_n 0, 1) := by decide +kernel
theorem dX3_readGuest_69 : decode cX3_readGuest 69 = .ok (.getfield 15, 3) := by decide +kernel
theorem dX3_readGuest_72 : decode cX3_readGuest 72 = .ok (.iconst 5, 1) := by decide +kernel
theorem dX3_readGuest_73 : decode cX3_readGuest 73 = .ok (.invokevirtual 105, 3) := by decide +kernel
theorem dX3_readGuest_76 : decode cX3_readGuest 76 = .ok (.ifCond .eq 18, 3) := by decide +kernel
theorem dX3_readGuest_79 : decode cX3_readGuest 79 = .ok (.aload_n 0, 1) := by decide +kernel
theorem dX3_readGuest_80 : decode cX3_readGuest 80 = .ok (.aload_n 1, 1) := by decide +kernel
theorem dX3_readGuest_81 : decode cX3_readGuest 81 = .ok (.getfield 112, 3) := by decide +kernel
theorem dX3_readGuest_84 : decode cX3_readGuest 84 = .ok (.aload_n 1, 1) := by decide +kernel
theorem dX3_readGuest_85 : decode cX3_readGuest 85 = .ok (.getfield 96, 3) := by decide +kernel
theorem dX3_readGuest_88 : decode cX3_readGuest 88 = .ok (.invokevirtual 149, 3) := by decide +kernel
theorem dX3_readGuest_91 : decode cX3_readGuest 91 = .ok (.ifCond .ne 5, 3) := by decide +kernel
theorem dX3_readGuest_94 : decode cX3_readGuest 94 = .ok (.iconst 0, 1) := by decide +kernel
theorem dX3_readGuest_95 : decode cX3_readGuest 95 = .ok (.ireturn, 1) := by decide +kernel
theorem dX3_readGuest_96 : decode cX3_readGuest 96 = .ok (.aload_n 0, 1) := by decide +kernel
theorem dX3_readGuest_97 : decode cX3_readGuest 97 = .ok (.getfield 15, 3) := by decide +kernel
theorem dX3_readGuest_100 : decode cX3_readGuest 100 = .ok (.invokevirtual 99, 3) := by decide +kernel
theorem dX3_readGuest_103 : decode cX3_readGuest 103 = .ok (.aload_n 1, 1) := by decide +kernel
theorem dX3_readGuest_104 : decode cX3_readGuest 104 = .ok (.getfield 152, 3) := by decide +kernel
theorem dX3_readGuest_107 : decode cX3_readGuest 107 = .ok (.aload_n 1, 1) := by decide +kernel
theorem dX3_readGuest_108 : decode cX3_readGuest 108 = .ok (.getfield 142, 3) := by decide +kernel
theorem dX3_readGuest_111 : decode cX3_readGuest 111 = .ok (.aload_n 0, 1) := by decide +kernel
theorem dX3_readGuest_112 : decode cX3_readGuest 112 = .ok (.getfield 116, 3) := by decide +kernel
theorem dX3_readGuest_115 : decode cX3_readGuest 115 = .ok (.lastore, 1) := by decide +kernel
theorem dX3_readGuest_116 : decode cX3_readGuest 116 = .ok (.aload_n 1, 1) := by decide +kernel
theorem dX3_readGuest_117 : decode cX3_readGuest 117 = .ok (.getfield 155, 3) := by decide +kernel
theorem dX3_readGuest_120 : decode cX3_readGuest 120 = .ok (.aload_n 1, 1) := by decide +kernel
theorem dX3_readGuest_121 : decode cX3_readGuest 121 = .ok (.getfield 142, 3) := by decide +kernel
theorem dX3_readGuest_124 : decode cX3_readGuest 124 = .ok (.iload_n 2, 1) := by decide +kernel
theorem dX3_readGuest_125 : decode cX3_readGuest 125 = .ok (.iastore, 1) := by decide +kernel
theorem dX3_readGuest_126 : decode cX3_readGuest 126 = .ok (.aload_n 1, 1) := by decide +kernel
theorem dX3_readGuest_127 : decode cX3_readGuest 127 = .ok (.getfield 158, 3) := by decide +kernel
theorem dX3_readGuest_130 : decode cX3_readGuest 130 = .ok (.getfield 162, 3) := by decide +kernel
theorem dX3_readGuest_133 : decode cX3_readGuest 133 = .ok (.aload_n 1, 1) := by decide +kernel
theorem dX3_readGuest_134 : decode cX3_readGuest 134 = .ok (.getfield 142, 3) := by decide +kernel
theorem dX3_readGuest_137 : decode cX3_readGuest 137 = .ok (.aload_n 0, 1) := by decide +kernel
theorem dX3_readGuest_138 : decode cX3_readGuest 138 = .ok (.getfield 123, 3) := by decide +kernel
theorem dX3_readGuest_141 : decode cX3_readGuest 141 = .ok (.iastore, 1) := by decide +kernel
theorem dX3_readGuest_142 : decode cX3_readGuest 142 = .ok (.aload_n 1, 1) := by decide +kernel
theorem dX3_readGuest_143 : decode cX3_readGuest 143 = .ok (.getfield 158, 3) := by decide +kernel
theorem dX3_readGuest_146 : decode cX3_readGuest 146 = .ok (.getfield 167, 3) := by decide +kernel
theorem dX3_readGuest_149 : decode cX3_readGuest 149 = .ok (.aload_n 1, 1) := by decide +kernel
theorem dX3_readGuest_150 : decode cX3_readGuest 150 = .ok (.getfield 142, 3) := by decide +kernel
theorem dX3_readGuest_153 : decode cX3_readGuest 153 = .ok (.aload_n 0, 1) := by decide +kernel
theorem dX3_readGuest_154 : decode cX3_readGuest 154 = .ok (.getfield 133, 3) := by decide +kernel
theorem dX3_readGuest_157 : decode cX3_readGuest 157 = .ok (.iastore, 1) := by decide +kernel
theorem dX3_readGuest_158 : decode cX3_readGuest 158 = .ok (.aload_n 1, 1) := by decide +kernel
theorem dX3_readGuest_159 : decode cX3_readGuest 159 = .ok (.dup, 1) := by decide +kernel
theorem dX3_readGuest_160 : decode cX3_readGuest 160 = .ok (.getfield 142, 3) := by decide +kernel
theorem dX3_readGuest_163 : decode cX3_readGuest 163 = .ok (.iconst 1, 1) := by decide +kernel
theorem dX3_readGuest_164 : decode cX3_readGuest 164 = .ok (.iadd, 1) := by decide +kernel
theorem dX3_readGuest_165 : decode cX3_readGuest 165 = .ok (.putfield 142, 3) := by decide +kernel
theorem dX3_readGuest_168 : decode cX3_readGuest 168 = .ok (.iconst 1, 1) := by decide +kernel
theorem dX3_readGuest_169 : decode cX3_readGuest 169 = .ok (.ireturn, 1) := by decide +kernel
theorem dX3_readAnimal_0 : decode cX3_readAnimal 0 = .ok (.aload_n 1, 1) := by decide +kernel
theorem dX3_readAnimal_1 : decode cX3_readAnimal 1 = .ok (.getfield 170, 3) := by decide +kernel
theorem dX3_readAnimal_4 : decode cX3_readAnimal 4 = .ok (.iconst 5, 1) := by decide +kernel
theorem dX3_readAnimal_5 : decode cX3_readAnimal 5 = .ok (.if_icmp .lt 12, 3) := by decide +kernel
theorem dX3_readAnimal_8 : decode cX3_readAnimal 8 = .ok (.aload_n 0, 1) := by decide +kernel
theorem dX3_readAnimal_9 : decode cX3_readAnimal 9 = .ok (.getfield 15, 3) := by decide +kernel
theorem dX3_readAnimal_12 : decode cX3_readAnimal 12 = .ok (.iconst 5, 1) := by decide +kernel
theorem dX3_readAnimal_13 : decode cX3_readAnimal 13 = .ok (.invokevirtual 57, 3) := by decide +kernel
theorem dX3_readAnimal_16 : decode cX3_readAnimal 16 = .ok (.ireturn, 1) := by decide +kernel
theorem dX3_readAnimal_17 : decode cX3_readAnimal 17 = .ok (.aload_n 0, 1) := by decide +kernel
theorem dX3_readAnimal_18 : decode cX3_readAnimal 18 = .ok (.getfield 15, 3) := by decide +kernel
theorem dX3_readAnimal_21 : decode cX3_readAnimal 21 = .ok (.invokevirtual 99, 3) := by decide +kernel
theorem dX3_readAnimal_24 : decode cX3_readAnimal 24 = .ok (.aload_n 0, 1) := by decide +kernel
theorem dX3_readAnimal_25 : decode cX3_readAnimal 25 = .ok (.aload_n 1, 1) := by decide +kernel
theorem dX3_readAnimal_26 : decode cX3_readAnimal 26 = .ok (.invokevirtual 102, 3) := by decide +kernel
theorem dX3_readAnimal_29 : decode cX3_readAnimal 29 = .ok (.ifCond .eq 22, 3) := by decide +kernel
theorem dX3_readAnimal_32 : decode cX3_readAnimal 32 = .ok (.aload_n 0, 1) := by decide +kernel
theorem dX3_readAnimal_33 : decode cX3_readAnimal 33 = .ok (.getfield 15, 3) := by decide +kernel
theorem dX3_readAnimal_36 : decode cX3_readAnimal 36 = .ok (.bipush 7, 2) := by decide +kernel
theorem dX3_readAnimal_38 : decode cX3_readAnimal 38 = .ok (.invokevirtual 105, 3) := by decide +kernel
theorem dX3_readAnimal_41 : decode cX3_readAnimal 41 = .ok (.ifCond .eq 10, 3) := by decide +kernel
theorem dX3_readAnimal_44 : decode cX3_readAnimal 44 = .ok (.aload_n 0, 1) := by decide +kernel
theorem dX3_readAnimal_45 : decode cX3_readAnimal 45 = .ok (.invokevirtual 145, 3) := by decide +kernel
theorem dX3_readAnimal_48 : decode cX3_readAnimal 48 = .ok (.ifCond .ne 5, 3) := by decide +kernel
theorem dX3_readAnimal_51 : decode cX3_readAnimal 51 = .ok (.iconst 0, 1) := by decide +kernel
theorem dX3_readAnimal_52 : decode cX3_readAnimal 52 = .ok (.ireturn, 1) := by decide +kernel
theorem dX3_readAnimal_53 : decode cX3_readAnimal 53 = .ok (.aload_n 0, 1) := by decide +kernel
theorem dX3_readAnimal_54 : decode cX3_readAnimal 54 = .ok (.getfield 15, 3) := by decide +kernel
theorem dX3_readAnimal_57 : decode cX3_readAnimal 57 = .ok (.bipush 8, 2) := by decide +kernel
theorem dX3_readAnimal_59 : decode cX3_readAnimal 59 = .ok (.invokevirtual 105, 3) := by decide +kernel
theorem dX3_readAnimal_62 : decode cX3_readAnimal 62 = .ok (.ifCond .eq 14, 3) := by decide +kernel
theorem dX3_readAnimal_65 : decode cX3_readAnimal 65 = .ok (.aload_n 0, 1) := by decide +kernel
theorem dX3_readAnimal_66 : decode cX3_readAnimal 66 = .ok (.iconst 0, 1) := by decide +kernel
theorem dX3_readAnimal_67 : decode cX3_readAnimal 67 = .ok (.sipush 999, 3) := by decide +kernel
theorem dX3_readAnimal_70 : decode cX3_readAnimal 70 = .ok (.invokevirtual 108, 3) := by decide +kernel
theorem dX3_readAnimal_73 : decode cX3_readAnimal 73 = .ok (.ifCond .ne 5, 3) := by decide +kernel
theorem dX3_readAnimal_76 : decode cX3_readAnimal 76 = .ok (.iconst 0, 1) := by decide +kernel
theorem dX3_readAnimal_77 : decode cX3_readAnimal 77 = .ok (.ireturn, 1) := by decide +kernel
theorem dX3_readAnimal_78 : decode cX3_readAnimal 78 = .ok (.aload_n 1, 1) := by decide +kernel
theorem dX3_readAnimal_79 : decode cX3_readAnimal 79 = .ok (.getfield 173, 3) := by decide +kernel
theorem dX3_readAnimal_82 : decode cX3_readAnimal 82 = .ok (.aload_n 1, 1) := by decide +kernel
theorem dX3_readAnimal_83 : decode cX3_readAnimal 83 = .ok (.getfield 170, 3) := by decide +kernel
theorem dX3_readAnimal_86 : decode cX3_readAnimal 86 = .ok (.aload_n 0, 1) := by decide +kernel
theorem dX3_readAnimal_87 : decode cX3_readAnimal 87 = .ok (.getfield 116, 3) := by decide +kernel
theorem dX3_readAnimal_90 : decode cX3_readAnimal 90 = .ok (.lastore, 1) := by decide +kernel
theorem dX3_readAnimal_91 : decode cX3_readAnimal 91 = .ok (.aload_n 1, 1) := by decide +kernel
theorem dX3_readAnimal_92 : decode cX3_readAnimal 92 = .ok (.getfield 176, 3) := by decide +kernel
theorem dX3_readAnimal_95 : decode cX3_readAnimal 95 = .ok (.aload_n 1, 1) := by decide +kernel
theorem dX3_readAnimal_96 : decode cX3_readAnimal 96 = .ok (.getfield 170, 3) := by decide +kernel
theorem dX3_readAnimal_99 : decode cX3_readAnimal 99 = .ok (.aload_n 0, 1) := by decide +kernel
theorem dX3_readAnimal_100 : decode cX3_readAnimal 100 = .ok (.getfield 133, 3) := by decide +kernel
theorem dX3_readAnimal_103 : decode cX3_readAnimal 103 = .ok (.iastore, 1) := by decide +kernel
theorem dX3_readAnimal_104 : decode cX3_readAnimal 104 = .ok (.aload_n 1, 1) := by decide +kernel
theorem dX3_readAnimal_105 : decode cX3_readAnimal 105 = .ok (.getfield 158, 3) := by decide +kernel
theorem dX3_readAnimal_108 : decode cX3_readAnimal 108 = .ok (.getfield 179, 3) := by decide +kernel
theorem dX3_readAnimal_111 : decode cX3_readAnimal 111 = .ok (.aload_n 1, 1) := by decide +kernel
theorem dX3_readAnimal_112 : decode cX3_readAnimal 112 = .ok (.getfield 170, 3) := by decide +kernel
theorem dX3_readAnimal_115 : decode cX3_readAnimal 115 = .ok (.aload_n 0, 1) := by decide +kernel
theorem dX3_readAnimal_116 : decode cX3_readAnimal 116 = .ok (.getfield 123, 3) := by decide +kernel
theorem dX3_readAnimal_119 : decode cX3_readAnimal 119 = .ok (.iastore, 1) := by decide +kernel
theorem dX3_readAnimal_120 : decode cX3_readAnimal 120 = .ok (.aload_n 1, 1) := by decide +kernel
theorem dX3_readAnimal_121 : decode cX3_readAnimal 121 = .ok (.dup, 1) := by decide +kernel
theorem dX3_readAnimal_122 : decode cX3_readAnimal 122 = .ok (.getfield 170, 3) := by decide +kernel
theorem dX3_readAnimal_125 : decode cX3_readAnimal 125 = .ok (.iconst 1, 1) := by decide +kernel
theorem dX3_readAnimal_126 : decode cX3_readAnimal 126 = .ok (.iadd, 1) := by decide +kernel
theorem dX3_readAnimal_127 : decode cX3_readAnimal 127 = .ok (.putfield 170, 3) := by decide +kernel
theorem dX3_readAnimal_130 : decode cX3_readAnimal 130 = .ok (.iconst 1, 1) := by decide +kernel
theorem dX3_readAnimal_131 : decode cX3_readAnimal 131 = .ok (.ireturn, 1) := by decide +kernel
theorem dX3_readFoe_0 : decode cX3_readFoe 0 = .ok (.aload_n 0, 1) := by decide +kernel
theorem dX3_readFoe_1 : decode cX3_readFoe 1 = .ok (.aload_n 1, 1) := by decide +kernel
theorem dX3_readFoe_2 : decode cX3_readFoe 2 = .ok (.getfield 152, 3) := by decide +kernel
theorem dX3_readFoe_5 : decode cX3_readFoe 5 = .ok (.aload_n 1, 1) := by decide +kernel
theorem dX3_readFoe_6 : decode cX3_readFoe 6 = .ok (.getfield 142, 3) := by decide +kernel
theorem dX3_readFoe_9 : decode cX3_readFoe 9 = .ok (.invokevirtual 126, 3) := by decide +kernel
theorem dX3_readFoe_12 : decode cX3_readFoe 12 = .ok (.ifCond .ne 5, 3) := by decide +kernel
theorem dX3_readFoe_15 : decode cX3_readFoe 15 = .ok (.iconst 0, 1) := by decide +kernel
theorem dX3_readFoe_16 : decode cX3_readFoe 16 = .ok (.ireturn, 1) := by decide +kernel
theorem dX3_readFoe_17 : decode cX3_readFoe 17 = .ok (.aload_n 1, 1) := by decide +kernel
theorem dX3_readFoe_18 : decode cX3_readFoe 18 = .ok (.getfield 182, 3) := by decide +kernel
theorem dX3_readFoe_21 : decode cX3_readFoe 21 = .ok (.aload_n 0, 1) := by decide +kernel
theorem dX3_readFoe_22 : decode cX3_readFoe 22 = .ok (.getfield 130, 3) := by decide +kernel
theorem dX3_readFoe_25 : decode cX3_readFoe 25 = .ok (.iaload, 1) := by decide +kernel
theorem dX3_readFoe_26 : decode cX3_readFoe 26 = .ok (.aload_n 0, 1) := by decide +kernel
theorem dX3_readFoe_27 : decode cX3_readFoe 27 = .ok (.getfield 133, 3) := by decide +kernel
theorem dX3_readFoe_30 : decode cX3_readFoe 30 = .ok (.ishr, 1) := by decide +kernel
theorem dX3_readFoe_31 : decode cX3_readFoe 31 = .ok (.iconst 1, 1) := by decide +kernel
theorem dX3_readFoe_32 : decode cX3_readFoe 32 = .ok (.iand, 1) := by decide +kernel
theorem dX3_readFoe_33 : decode cX3_readFoe 33 = .ok (.ifCond .eq 12, 3) := by decide +kernel
theorem dX3_readFoe_36 : decode cX3_readFoe 36 = .ok (.aload_n 0, 1) := by decide +kernel
theorem dX3_readFoe_37 : decode cX3_readFoe 37 = .ok (.getfield 15, 3) := by decide +kernel
theorem dX3_readFoe_40 : decode cX3_readFoe 40 = .ok (.iconst 3, 1) := by decide +kernel
theorem dX3_readFoe_41 : decode cX3_readFoe 41 = .ok (.invokevirtual 57, 3) := by decide +kernel
theorem dX3_readFoe_44 : decode cX3_readFoe 44 = .ok (.ireturn, 1) := by decide +kernel
theorem dX3_readFoe_45 : decode cX3_readFoe 45 = .ok (.aload_n 0, 1) := by decide +kernel
theorem dX3_readFoe_46 : decode cX3_readFoe 46 = .ok (.getfield 15, 3) := by decide +kernel
theorem dX3_readFoe_49 : decode cX3_readFoe 49 = .ok (.invokevirtual 99, 3) := by decide +kernel
theorem dX3_readFoe_52 : decode cX3_readFoe 52 = .ok (.aload_n 1, 1) := by decide +kernel
theorem dX3_readFoe_53 : decode cX3_readFoe 53 = .ok (.getfield 182, 3) := by decide +kernel
theorem dX3_readFoe_56 : decode cX3_readFoe 56 = .ok (.aload_n 0, 1) := by decide +kernel
theorem dX3_readFoe_57 : decode cX3_readFoe 57 = .ok (.getfield 130, 3) := by decide +kernel
theorem dX3_readFoe_60 : decode cX3_readFoe 60 = .ok (.dup2, 1) := by decide +kernel
theorem dX3_readFoe_61 : decode cX3_readFoe 61 = .ok (.iaload, 1) := by decide +kernel
theorem dX3_readFoe_62 : decode cX3_readFoe 62 = .ok (.iconst 1, 1) := by decide +kernel
theorem dX3_readFoe_63 : decode cX3_readFoe 63 = .ok (.aload_n 0, 1) := by decide +kernel
theorem dX3_readFoe_64 : decode cX3_readFoe 64 = .ok (.getfield 133, 3) := by decide +kernel
theorem dX3_readFoe_67 : decode cX3_readFoe 67 = .ok (.ishl, 1) := by decide +kernel
theorem dX3_readFoe_68 : decode cX3_readFoe 68 = .ok (.ior, 1) := by decide +kernel
theorem dX3_readFoe_69 : decode cX3_readFoe 69 = .ok (.iastore, 1) := by decide +kernel
theorem dX3_readFoe_70 : decode cX3_readFoe 70 = .ok (.aload_n 1, 1) := by decide +kernel
theorem dX3_readFoe_71 : decode cX3_readFoe 71 = .ok (.getfield 182, 3) := by decide +kernel
theorem dX3_readFoe_74 : decode cX3_readFoe 74 = .ok (.aload_n 0, 1) := by decide +kernel
theorem dX3_readFoe_75 : decode cX3_readFoe 75 = .ok (.getfield 133, 3) := by decide +kernel
theorem dX3_readFoe_78 : decode cX3_readFoe 78 = .ok (.dup2, 1) := by decide +kernel
theorem dX3_readFoe_79 : decode cX3_readFoe 79 = .ok (.iaload, 1) := by decide +kernel
theorem dX3_readFoe_80 : decode cX3_readFoe 80 = .ok (.iconst 1, 1) := by decide +kernel
theorem dX3_readFoe_81 : decode cX3_readFoe 81 = .ok (.aload_n 0, 1) := by decide +kernel
theorem dX3_readFoe_82 : decode cX3_readFoe 82 = .ok (.getfield 130, 3) := by decide +kernel
theorem dX3_readFoe_85 : decode cX3_readFoe 85 = .ok (.ishl, 1) := by decide +kernel
theorem dX3_readFoe_86 : decode cX3_readFoe 86 = .ok (.ior, 1) := by decide +kernel
theorem dX3_readFoe_87 : decode cX3_readFoe 87 = .ok (.iastore, 1) := by decide +kernel
theorem dX3_readFoe_88 : decode cX3_readFoe 88 = .ok (.iconst 1, 1) := by decide +kernel
theorem dX3_readFoe_89 : decode cX3_readFoe 89 = .ok (.ireturn, 1) := by decide +kernel
theorem dX3_isFirst_0 : decode cX3_isFirst 0 = .ok (.aload_n 1, 1) := by decide +kernel
theorem dX3_isFirst_1 : decode cX3_isFirst 1 = .ok (.getfield 185, 3) := by decide +kernel
theorem dX3_isFirst_4 : decode cX3_isFirst 4 = .ok (.aload_n 0, 1) := by decide +kernel
theorem dX3_isFirst_5 : decode cX3_isFirst 5 = .ok (.getfield 15, 3) := by decide +kernel
theorem dX3_isFirst_8 : decode cX3_isFirst 8 = .ok (.getfield 60, 3) := by decide +kernel
theorem dX3_isFirst_11 : decode cX3_isFirst 11 = .ok (.ishr, 1) := by decide +kernel
theorem dX3_isFirst_12 : decode cX3_isFirst 12 = .ok (.iconst 1, 1) := by decide +kernel
theorem dX3_isFirst_13 : decode cX3_isFirst 13 = .ok (.iand, 1) := by decide +kernel
theorem dX3_isFirst_14 : decode cX3_isFirst 14 = .ok (.ifCond .eq 12, 3) := by decide +kernel
theorem dX3_isFirst_17 : decode cX3_isFirst 17 = .ok (.aload_n 0, 1) := by decide +kernel
theorem dX3_isFirst_18 : decode cX3_isFirst 18 = .ok (.getfield 15, 3) := by decide +kernel
theorem dX3_isFirst_21 : decode cX3_isFirst 21 = .ok (.iconst 3, 1) := by decide +kernel
theorem dX3_isFirst_22 : decode cX3_isFirst 22 = .ok (.invokevirtual 57, 3) := by decide +kernel
theorem dX3_isFirst_25 : decode cX3_isFirst 25 = .ok (.ireturn, 1) := by decide +kernel
theorem dX3_isFirst_26 : decode cX3_isFirst 26 = .ok (.aload_n 1, 1) := by decide +kernel
theorem dX3_isFirst_27 : decode cX3_isFirst 27 = .ok (.dup, 1) := by decide +kernel
theorem dX3_isFirst_28 : decode cX3_isFirst 28 = .ok (.getfield 185, 3) := by decide +kernel
theorem dX3_isFirst_31 : decode cX3_isFirst 31 = .ok (.iconst 1, 1) := by decide +kernel
theorem dX3_isFirst_32 : decode cX3_isFirst 32 = .ok (.aload_n 0, 1) := by decide +kernel
theorem dX3_isFirst_33 : decode cX3_isFirst 33 = .ok (.getfield 15, 3) := by decide +kernel
theorem dX3_isFirst_36 : decode cX3_isFirst 36 = .ok (.getfield 60, 3) := by decide +kernel
theorem dX3_isFirst_39 : decode cX3_isFirst 39 = .ok (.ishl, 1) := by decide +kernel
theorem dX3_isFirst_40 : decode cX3_isFirst 40 = .ok (.ior, 1) := by decide +kernel
theorem dX3_isFirst_41 : decode cX3_isFirst 41 = .ok (.putfield 185, 3) := by decide +kernel
theorem dX3_isFirst_44 : decode cX3_isFirst 44 = .ok (.iconst 1, 1) := by decide +kernel
theorem dX3_isFirst_45 : decode cX3_isFirst 45 = .ok (.ireturn, 1) := by decide +kernel
theorem dX3_readFeeds_0 : decode cX3_readFeeds 0 = .ok (.aload_n 0, 1) := by decide +kernel
theorem dX3_readFeeds_1 : decode cX3_readFeeds 1 = .ok (.getfield 15, 3) := by decide +kernel
theorem dX3_readFeeds_4 : decode cX3_readFeeds 4 = .ok (.invokevirtual 99, 3) := by decide +kernel
theorem dX3_readFeeds_7 : decode cX3_readFeeds 7 = .ok (.aload_n 0, 1) := by decide +kernel
theorem dX3_readFeeds_8 : decode cX3_readFeeds 8 = .ok (.iconst 0, 1) := by decide +kernel
theorem dX3_readFeeds_9 : decode cX3_readFeeds 9 = .ok (.bipush 9, 2) := by decide +kernel
theorem dX3_readFeeds_11 : decode cX3_readFeeds 11 = .ok (.invokevirtual 108, 3) := by decide +kernel
theorem dX3_readFeeds_14 : decode cX3_readFeeds 14 = .ok (.istore_n 2, 1) := by decide +kernel
theorem dX3_readFeeds_15 : decode cX3_readFeeds 15 = .ok (.aload_n 1, 1) := by decide +kernel
theorem dX3_readFeeds_16 : decode cX3_readFeeds 16 = .ok (.aload_n 0, 1) := by decide +kernel
theorem dX3_readFeeds_17 : decode cX3_readFeeds 17 = .ok (.getfield 123, 3) := by decide +kernel
theorem dX3_readFeeds_20 : decode cX3_readFeeds 20 = .ok (.putfield 188, 3) := by decide +kernel
theorem dX3_readFeeds_23 : decode cX3_readFeeds 23 = .ok (.iload_n 2, 1) := by decide +kernel
theorem dX3_readFeeds_24 : decode cX3_readFeeds 24 = .ok (.ireturn, 1) := by decide +kernel
theorem dX3_readTyre_0 : decode cX3_readTyre 0 = .ok (.aload_n 0, 1) := by decide +kernel
theorem dX3_readTyre_1 : decode cX3_readTyre 1 = .ok (.getfield 15, 3) := by decide +kernel
theorem dX3_readTyre_4 : decode cX3_readTyre 4 = .ok (.invokevirtual 99, 3) := by decide +kernel
theorem dX3_readTyre_7 : decode cX3_readTyre 7 = .ok (.aload_n 0, 1) := by decide +kernel
theorem dX3_readTyre_8 : decode cX3_readTyre 8 = .ok (.iconst 1, 1) := by decide +kernel
theorem dX3_readTyre_9 : decode cX3_readTyre 9 = .ok (.bipush 9, 2) := by decide +kernel
theorem dX3_readTyre_11 : decode cX3_readTyre 11 = .ok (.invokevirtual 108, 3) := by decide +kernel
theorem dX3_readTyre_14 : decode cX3_readTyre 14 = .ok (.ifCond .ne 5, 3) := by decide +kernel
theorem dX3_readTyre_17 : decode cX3_readTyre 17 = .ok (.iconst 0, 1) := by decide +kernel
theorem dX3_readTyre_18 : decode cX3_readTyre 18 = .ok (.ireturn, 1) := by decide +kernel
theorem dX3_readTyre_19 : decode cX3_readTyre 19 = .ok (.aload_n 1, 1) := by decide +kernel
theorem dX3_readTyre_20 : decode cX3_readTyre 20 = .ok (.aload_n 0, 1) := by decide +kernel
theorem dX3_readTyre_21 : decode cX3_readTyre 21 = .ok (.getfield 123, 3) := by decide +kernel
theorem dX3_readTyre_24 : decode cX3_readTyre 24 = .ok (.putfield 191, 3) := by decide +kernel
theorem dX3_readTyre_27 : decode cX3_readTyre 27 = .ok (.aload_n 0, 1) := by decide +kernel
theorem dX3_readTyre_28 : decode cX3_readTyre 28 = .ok (.getfield 15, 3) := by decide +kernel
theorem dX3_readTyre_31 : decode cX3_readTyre 31 = .ok (.bipush 12, 2) := by decide +kernel
theorem dX3_readTyre_33 : decode cX3_readTyre 33 = .ok (.invokevirtual 105, 3) := by decide +kernel
theorem dX3_readTyre_36 : decode cX3_readTyre 36 = .ok (.ifCond .eq 17, 3) := by decide +kernel
theorem dX3_readTyre_39 : decode cX3_readTyre 39 = .ok (.aload_n 0, 1) := by decide +kernel
theorem dX3_readTyre_40 : decode cX3_readTyre 40 = .ok (.iconst 0, 1) := by decide +kernel
theorem dX3_readTyre_41 : decode cX3_readTyre 41 = .ok (.bipush 99, 2) := by decide +kernel
theorem dX3_readTyre_43 : decode cX3_readTyre 43 = .ok (.invokevirtual 108, 3) := by decide +kernel
theorem dX3_readTyre_46 : decode cX3_readTyre 46 = .ok (.ifCond .eq 7, 3) := by decide +kernel
theorem dX3_readTyre_49 : decode cX3_readTyre 49 = .ok (.iconst 1, 1) := by decide +kernel
theorem dX3_readTyre_50 : decode cX3_readTyre 50 = .ok (.goto 4, 3) := by decide +kernel
theorem dX3_readTyre_53 : decode cX3_readTyre 53 = .ok (.iconst 0, 1) := by decide +kernel
theorem dX3_readTyre_54 : decode cX3_readTyre 54 = .ok (.istore_n 2, 1) := by decide +kernel
theorem dX3_readTyre_55 : decode cX3_readTyre 55 = .ok (.aload_n 1, 1) := by decide +kernel
theorem dX3_readTyre_56 : decode cX3_readTyre 56 = .ok (.aload_n 0, 1) := by decide +kernel
theorem dX3_readTyre_57 : decode cX3_readTyre 57 = .ok (.getfield 123, 3) := by decide +kernel
theorem dX3_readTyre_60 : decode cX3_readTyre 60 = .ok (.putfield 194, 3) := by decide +kernel
theorem dX3_readTyre_63 : decode cX3_readTyre 63 = .ok (.iload_n 2, 1) := by decide +kernel
theorem dX3_readTyre_64 : decode cX3_readTyre 64 = .ok (.ireturn, 1) := by decide +kernel
theorem dX3_readRain_0 : decode cX3_readRain 0 = .ok (.aload_n 0, 1) := by decide +kernel
theorem dX3_readRain_1 : decode cX3_readRain 1 = .ok (.getfield 15, 3) := by decide +kernel
theorem dX3_readRain_4 : decode cX3_readRain 4 = .ok (.invokevirtual 99, 3) := by decide +kernel
theorem dX3_readRain_7 : decode cX3_readRain 7 = .ok (.aload_n 0, 1) := by decide +kernel
theorem dX3_readRain_8 : decode cX3_readRain 8 = .ok (.iconst 0, 1) := by decide +kernel
theorem dX3_readRain_9 : decode cX3_readRain 9 = .ok (.bipush 10, 2) := by decide +kernel
theorem dX3_readRain_11 : decode cX3_readRain 11 = .ok (.invokevirtual 108, 3) := by decide +kernel
theorem dX3_readRain_14 : decode cX3_readRain 14 = .ok (.istore_n 2, 1) := by decide +kernel
theorem dX3_readRain_15 : decode cX3_readRain 15 = .ok (.aload_n 1, 1) := by decide +kernel
theorem dX3_readRain_16 : decode cX3_readRain 16 = .ok (.aload_n 0, 1) := by decide +kernel
theorem dX3_readRain_17 : decode cX3_readRain 17 = .ok (.getfield 123, 3) := by decide +kernel
theorem dX3_readRain_20 : decode cX3_readRain 20 = .ok (.putfield 197, 3) := by decide +kernel
theorem dX3_readRain_23 : decode cX3_readRain 23 = .ok (.iload_n 2, 1) := by decide +kernel
theorem dX3_readRain_24 : decode cX3_readRain 24 = .ok (.ireturn, 1) := by decide +kernel
theorem dX3_readSees_0 : decode cX3_readSees 0 = .ok (.aload_n 0, 1) := by decide +kernel
theorem dX3_readSees_1 : decode cX3_readSees 1 = .ok (.getfield 15, 3) := by decide +kernel
theorem dX3_readSees_4 : decode cX3_readSees 4 = .ok (.invokevirtual 99, 3) := by decide +kernel
theorem dX3_readSees_7 : decode cX3_readSees 7 = .ok (.aload_n 0, 1) := by decide +kernel
theorem dX3_readSees_8 : decode cX3_readSees 8 = .ok (.getfield 24, 3) := by decide +kernel
theorem dX3_readSees_11 : decode cX3_readSees 11 = .ok (.bipush 7, 2) := by decide +kernel
theorem dX3_readSees_13 : decode cX3_readSees 13 = .ok (.invokevirtual 200, 3) := by decide +kernel
theorem dX3_readSees_16 : decode cX3_readSees 16 = .ok (.aload_n 0, 1) := by decide +kernel
theorem dX3_readSees_17 : decode cX3_readSees 17 = .ok (.getfield 24, 3) := by decide +kernel
theorem dX3_readSees_20 : decode cX3_readSees 20 = .ok (.iconst 0, 1) := by decide +kernel
theorem dX3_readSees_21 : decode cX3_readSees 21 = .ok (.invokevirtual 203, 3) := by decide +kernel
theorem dX3_readSees_24 : decode cX3_readSees 24 = .ok (.ifCond .ne 5, 3) := by decide +kernel
theorem dX3_readSees_27 : decode cX3_readSees 27 = .ok (.iconst 0, 1) := by decide +kernel
theorem dX3_readSees_28 : decode cX3_readSees 28 = .ok (.ireturn, 1) := by decide +kernel
theorem dX3_readSees_29 : decode cX3_readSees 29 = .ok (.aload_n 1, 1) := by decide +kernel
theorem dX3_readSees_30 : decode cX3_readSees 30 = .ok (.aload_n 0, 1) := by decide +kernel
theorem dX3_readSees_31 : decode cX3_readSees 31 = .ok (.getfield 24, 3) := by decide +kernel
theorem dX3_readSees_34 : decode cX3_readSees 34 = .ok (.invokevirtual 206, 3) := by decide +kernel
theorem dX3_readSees_37 : decode cX3_readSees 37 = .ok (.iconst 1, 1) := by decide +kernel
theorem dX3_readSees_38 : decode cX3_readSees 38 = .ok (.ireturn, 1) := by decide +kernel
theorem dX3_readMoods_0 : decode cX3_readMoods 0 = .ok (.aload_n 0, 1) := by decide +kernel
theorem dX3_readMoods_1 : decode cX3_readMoods 1 = .ok (.getfield 15, 3) := by decide +kernel
theorem dX3_readMoods_4 : decode cX3_readMoods 4 = .ok (.invokevirtual 99, 3) := by decide +kernel
theorem dX3_readMoods_7 : decode cX3_readMoods 7 = .ok (.aload_n 0, 1) := by decide +kernel
theorem dX3_readMoods_8 : decode cX3_readMoods 8 = .ok (.getfield 24, 3) := by decide +kernel
theorem dX3_readMoods_11 : decode cX3_readMoods 11 = .ok (.bipush 30, 2) := by decide +kernel
theorem dX3_readMoods_13 : decode cX3_readMoods 13 = .ok (.invokevirtual 200, 3) := by decide +kernel
theorem dX3_readMoods_16 : decode cX3_readMoods 16 = .ok (.aload_n 0, 1) := by decide +kernel
theorem dX3_readMoods_17 : decode cX3_readMoods 17 = .ok (.getfield 24, 3) := by decide +kernel
theorem dX3_readMoods_20 : decode cX3_readMoods 20 = .ok (.iconst 0, 1) := by decide +kernel
theorem dX3_readMoods_21 : decode cX3_readMoods 21 = .ok (.invokevirtual 203, 3) := by decide +kernel
theorem dX3_readMoods_24 : decode cX3_readMoods 24 = .ok (.ifCond .ne 5, 3) := by decide +kernel
theorem dX3_readMoods_27 : decode cX3_readMoods 27 = .ok (.iconst 0, 1) := by decide +kernel
theorem dX3_readMoods_28 : decode cX3_readMoods 28 = .ok (.ireturn, 1) := by decide +kernel
theorem dX3_readMoods_29 : decode cX3_readMoods 29 = .ok (.aload_n 1, 1) := by decide +kernel
theorem dX3_readMoods_30 : decode cX3_readMoods 30 = .ok (.aload_n 0, 1) := by decide +kernel
theorem dX3_readMoods_31 : decode cX3_readMoods 31 = .ok (.getfield 24, 3) := by decide +kernel
theorem dX3_readMoods_34 : decode cX3_readMoods 34 = .ok (.invokevirtual 210, 3) := by decide +kernel
theorem dX3_readMoods_37 : decode cX3_readMoods 37 = .ok (.iconst 1, 1) := by decide +kernel
theorem dX3_readMoods_38 : decode cX3_readMoods 38 = .ok (.ireturn, 1) := by decide +kernel
theorem dX3_readDays_0 : decode cX3_readDays 0 = .ok (.aload_n 0, 1) := by decide +kernel
theorem dX3_readDays_1 : decode cX3_readDays 1 = .ok (.iconst 0, 1) := by decide +kernel
theorem dX3_readDays_2 : decode cX3_readDays 2 = .ok (.putfield 213, 3) := by decide +kernel
theorem dX3_readDays_5 : decode cX3_readDays 5 = .ok (.aload_n 0, 1) := by decide +kernel
theorem dX3_readDays_6 : decode cX3_readDays 6 = .ok (.getfield 15, 3) := by decide +kernel
theorem dX3_readDays_9 : decode cX3_readDays 9 = .ok (.invokevirtual 33, 3) := by decide +kernel
theorem dX3_readDays_12 : decode cX3_readDays 12 = .ok (.iconst 1, 1) := by decide +kernel
theorem dX3_readDays_13 : decode cX3_readDays 13 = .ok (.istore_n 2, 1) := by decide +kernel
theorem dX3_readDays_14 : decode cX3_readDays 14 = .ok (.iconst 0, 1) := by decide +kernel
theorem dX3_readDays_15 : decode cX3_readDays 15 = .ok (.istore_n 3, 1) := by decide +kernel
theorem dX3_readDays_16 : decode cX3_readDays 16 = .ok (.iload_n 3, 1) := by decide +kernel
theorem dX3_readDays_17 : decode cX3_readDays 17 = .ok (.bipush 40, 2) := by decide +kernel
theorem dX3_readDays_19 : decode cX3_readDays 19 = .ok (.if_icmp .gt 49, 3) := by decide +kernel
theorem dX3_readDays_22 : decode cX3_readDays 22 = .ok (.iload_n 2, 1) := by decide +kernel
theorem dX3_readDays_23 : decode cX3_readDays 23 = .ok (.ifCond .eq 45, 3) := by decide +kernel
theorem dX3_readDays_26 : decode cX3_readDays 26 = .ok (.aload_n 0, 1) := by decide +kernel
theorem dX3_readDays_27 : decode cX3_readDays 27 = .ok (.getfield 15, 3) := by decide +kernel
theorem dX3_readDays_30 : decode cX3_readDays 30 = .ok (.getfield 38, 3) := by decide +kernel
theorem dX3_readDays_33 : decode cX3_readDays 33 = .ok (.ifCond .eq 35, 3) := by decide +kernel
theorem dX3_readDays_36 : decode cX3_readDays 36 = .ok (.aload_n 0, 1) := by decide +kernel
theorem dX3_readDays_37 : decode cX3_readDays 37 = .ok (.aload_n 1, 1) := by decide +kernel
theorem dX3_readDays_38 : decode cX3_readDays 38 = .ok (.invokevirtual 216, 3) := by decide +kernel
theorem dX3_readDays_41 : decode cX3_readDays 41 = .ok (.ifCond .eq 19, 3) := by decide +kernel
theorem dX3_readDays_44 : decode cX3_readDays 44 = .ok (.aload_n 0, 1) := by decide +kernel
theorem dX3_readDays_45 : decode cX3_readDays 45 = .ok (.getfield 15, 3) := by decide +kernel
theorem dX3_readDays_48 : decode cX3_readDays 48 = .ok (.bipush 59, 2) := by decide +kernel
theorem dX3_readDays_50 : decode cX3_readDays 50 = .ok (.invokevirtual 46, 3) := by decide +kernel
theorem dX3_readDays_53 : decode cX3_readDays 53 = .ok (.ifCond .eq 7, 3) := by decide +kernel
theorem dX3_readDays_56 : decode cX3_readDays 56 = .ok (.iconst 1, 1) := by decide +kernel
theorem dX3_readDays_57 : decode cX3_readDays 57 = .ok (.goto 4, 3) := by decide +kernel
theorem dX3_readDays_60 : decode cX3_readDays 60 = .ok (.iconst 0, 1) := by decide +kernel
theorem dX3_readDays_61 : decode cX3_readDays 61 = .ok (.istore_n 2, 1) := by decide +kernel
theorem dX3_readDays_62 : decode cX3_readDays 62 = .ok (.iinc 3 1, 3) := by decide +kernel
theorem dX3_readDays_65 : decode cX3_readDays 65 = .ok (.goto (-49), 3) := by decide +kernel
theorem dX3_readDays_68 : decode cX3_readDays 68 = .ok (.aload_n 0, 1) := by decide +kernel
theorem dX3_readDays_69 : decode cX3_readDays 69 = .ok (.getfield 15, 3) := by decide +kernel
theorem dX3_readDays_72 : decode cX3_readDays 72 = .ok (.invokevirtual 53, 3) := by decide +kernel
theorem dX3_readDays_75 : decode cX3_readDays 75 = .ok (.ireturn, 1) := by decide +kernel
theorem dX3_readDay_0 : decode cX3_readDay 0 = .ok (.aload_n 0, 1) := by decide +kernel
theorem dX3_readDay_1 : decode cX3_readDay 1 = .ok (.getfield 15, 3) := by decide +kernel
theorem dX3_readDay_4 : decode cX3_readDay 4 = .ok (.bipush 16, 2) := by decide +kernel
theorem dX3_readDay_6 : decode cX3_readDay 6 = .ok (.invokevirtual 219, 3) := by decide +kernel
theorem dX3_readDay_9 : decode cX3_readDay 9 = .ok (.istore_n 2, 1) := by decide +kernel
theorem dX3_readDay_10 : decode cX3_readDay 10 = .ok (.aload_n 0, 1) := by decide +kernel
theorem dX3_readDay_11 : decode cX3_readDay 11 = .ok (.getfield 15, 3) := by decide +kernel
theorem dX3_readDay_14 : decode cX3_readDay 14 = .ok (.bipush 11, 2) := by decide +kernel
theorem dX3_readDay_16 : decode cX3_readDay 16 = .ok (.invokevirtual 219, 3) := by decide +kernel
theorem dX3_readDay_19 : decode cX3_readDay 19 = .ok (.istore_n 3, 1) := by decide +kernel
theorem dX3_readDay_20 : decode cX3_readDay 20 = .ok (.iload_n 2, 1) := by decide +kernel
theorem dX3_readDay_21 : decode cX3_readDay 21 = .ok (.ifCond .ne 28, 3) := by decide +kernel
theorem dX3_readDay_24 : decode cX3_readDay 24 = .ok (.iload_n 3, 1) := by decide +kernel
theorem dX3_readDay_25 : decode cX3_readDay 25 = .ok (.ifCond .ne 24, 3) := by decide +kernel
theorem dX3_readDay_28 : decode cX3_readDay 28 = .ok (.aload_n 0, 1) := by decide +kernel
theorem dX3_readDay_29 : decode cX3_readDay 29 = .ok (.getfield 15, 3) := by decide +kernel
theorem dX3_readDay_32 : decode cX3_readDay 32 = .ok (.bipush 17, 2) := by decide +kernel
theorem dX3_readDay_34 : decode cX3_readDay 34 = .ok (.invokevirtual 219, 3) := by decide +kernel
theorem dX3_readDay_37 : decode cX3_readDay 37 = .ok (.ifCond .ne 12, 3) := by decide +kernel
theorem dX3_readDay_40 : decode cX3_readDay 40 = .ok (.aload_n 0, 1) := by decide +kernel
theorem dX3_readDay_41 : decode cX3_readDay 41 = .ok (.getfield 15, 3) := by decide +kernel
theorem dX3_readDay_44 : decode cX3_readDay 44 = .ok (.iconst 1, 1) := by decide +kernel
theorem dX3_readDay_45 : decode cX3_readDay 45 = .ok (.invokevirtual 57, 3) := by decide +kernel
theorem dX3_readDay_48 : decode cX3_readDay 48 = .ok (.ireturn, 1) := by decide +kernel
theorem dX3_readDay_49 : decode cX3_readDay 49 = .ok (.aload_n 0, 1) := by decide +kernel
theorem dX3_readDay_50 : decode cX3_readDay 50 = .ok (.getfield 213, 3) := by decide +kernel
theorem dX3_readDay_53 : decode cX3_readDay 53 = .ok (.bipush 40, 2) := by decide +kernel
theorem dX3_readDay_55 : decode cX3_readDay 55 = .ok (.if_icmp .lt 12, 3) := by decide +kernel
theorem dX3_readDay_58 : decode cX3_readDay 58 = .ok (.aload_n 0, 1) := by decide +kernel
theorem dX3_readDay_59 : decode cX3_readDay 59 = .ok (.getfield 15, 3) := by decide +kernel
theorem dX3_readDay_62 : decode cX3_readDay 62 = .ok (.iconst 5, 1) := by decide +kernel
theorem dX3_readDay_63 : decode cX3_readDay 63 = .ok (.invokevirtual 57, 3) := by decide +kernel
theorem dX3_readDay_66 : decode cX3_readDay 66 = .ok (.ireturn, 1) := by decide +kernel
theorem dX3_readDay_67 : decode cX3_readDay 67 = .ok (.aload_n 0, 1) := by decide +kernel
theorem dX3_readDay_68 : decode cX3_readDay 68 = .ok (.getfield 15, 3) := by decide +kernel
theorem dX3_readDay_71 : decode cX3_readDay 71 = .ok (.invokevirtual 99, 3) := by decide +kernel
theorem dX3_readDay_74 : decode cX3_readDay 74 = .ok (.iconst 2, 1) := by decide +kernel
theorem dX3_readDay_75 : decode cX3_readDay 75 = .ok (.istore 4, 2) := by decide +kernel
theorem dX3_readDay_77 : decode cX3_readDay 77 = .ok (.iload_n 2, 1) := by decide +kernel
theorem dX3_readDay_78 : decode cX3_readDay 78 = .ok (.ifCond .ne 7, 3) := by decide +kernel
theorem dX3_readDay_81 : decode cX3_readDay 81 = .ok (.iload_n 3, 1) := by decide +kernel
theorem dX3_readDay_82 : decode cX3_readDay 82 = .ok (.ifCond .eq 38, 3) := by decide +kernel
theorem dX3_readDay_85 : decode cX3_readDay 85 = .ok (.aload_n 0, 1) := by decide +kernel
theorem dX3_readDay_86 : decode cX3_readDay 86 = .ok (.aload_n 1, 1) := by decide +kernel
theorem dX3_readDay_87 : decode cX3_readDay 87 = .ok (.getfield 152, 3) := by decide +kernel
theorem dX3_readDay_90 : decode cX3_readDay 90 = .ok (.aload_n 1, 1) := by decide +kernel
theorem dX3_readDay_91 : decode cX3_readDay 91 = .ok (.getfield 142, 3) := by decide +kernel
theorem dX3_readDay_94 : decode cX3_readDay 94 = .ok (.invokevirtual 149, 3) := by decide +kernel
theorem dX3_readDay_97 : decode cX3_readDay 97 = .ok (.ifCond .ne 5, 3) := by decide +kernel
theorem dX3_readDay_100 : decode cX3_readDay 100 = .ok (.iconst 0, 1) := by decide +kernel
theorem dX3_readDay_101 : decode cX3_readDay 101 = .ok (.ireturn, 1) := by decide +kernel
theorem dX3_readDay_102 : decode cX3_readDay 102 = .ok (.aload_n 0, 1) := by decide +kernel
theorem dX3_readDay_103 : decode cX3_readDay 103 = .ok (.getfield 15, 3) := by decide +kernel
theorem dX3_readDay_106 : decode cX3_readDay 106 = .ok (.invokevirtual 99, 3) := by decide +kernel
theorem dX3_readDay_109 : decode cX3_readDay 109 = .ok (.iconst 1, 1) := by decide +kernel
theorem dX3_readDay_110 : decode cX3_readDay 110 = .ok (.aload_n 0, 1) := by decide +kernel
theorem dX3_readDay_111 : decode cX3_readDay 111 = .ok (.getfield 133, 3) := by decide +kernel
theorem dX3_readDay_114 : decode cX3_readDay 114 = .ok (.iconst 0, 1) := by decide +kernel
theorem dX3_readDay_115 : decode cX3_readDay 115 = .ok (.invokestatic 222, 3) := by decide +kernel
theorem dX3_readDay_118 : decode cX3_readDay 118 = .ok (.istore 4, 2) := by decide +kernel
theorem dX3_readDay_120 : decode cX3_readDay 120 = .ok (.iload_n 2, 1) := by decide +kernel
theorem dX3_readDay_121 : decode cX3_readDay 121 = .ok (.ifCond .eq 45, 3) := by decide +kernel
theorem dX3_readDay_124 : decode cX3_readDay 124 = .ok (.aload_n 0, 1) := by decide +kernel
theorem dX3_readDay_125 : decode cX3_readDay 125 = .ok (.getfield 133, 3) := by decide +kernel
theorem dX3_readDay_128 : decode cX3_readDay 128 = .ok (.istore 5, 2) := by decide +kernel
theorem dX3_readDay_130 : decode cX3_readDay 130 = .ok (.aload_n 0, 1) := by decide +kernel
theorem dX3_readDay_131 : decode cX3_readDay 131 = .ok (.aload_n 1, 1) := by decide +kernel
theorem dX3_readDay_132 : decode cX3_readDay 132 = .ok (.getfield 112, 3) := by decide +kernel
theorem dX3_readDay_135 : decode cX3_readDay 135 = .ok (.aload_n 1, 1) := by decide +kernel
theorem dX3_readDay_136 : decode cX3_readDay 136 = .ok (.getfield 96, 3) := by decide +kernel
theorem dX3_readDay_139 : decode cX3_readDay 139 = .ok (.invokevirtual 149, 3) := by decide +kernel
theorem dX3_readDay_142 : decode cX3_readDay 142 = .ok (.ifCond .ne 5, 3) := by decide +kernel
theorem dX3_readDay_145 : decode cX3_readDay 145 = .ok (.iconst 0, 1) := by decide +kernel
theorem dX3_readDay_146 : decode cX3_readDay 146 = .ok (.ireturn, 1) := by decide +kernel
theorem dX3_readDay_147 : decode cX3_readDay 147 = .ok (.aload_n 0, 1) := by decide +kernel
theorem dX3_readDay_148 : decode cX3_readDay 148 = .ok (.getfield 15, 3) := by decide +kernel
theorem dX3_readDay_151 : decode cX3_readDay 151 = .ok (.invokevirtual 99, 3) := by decide +kernel
theorem dX3_readDay_154 : decode cX3_readDay 154 = .ok (.iconst 0, 1) := by decide +kernel
theorem dX3_readDay_155 : decode cX3_readDay 155 = .ok (.iload 5, 2) := by decide +kernel
theorem dX3_readDay_157 : decode cX3_readDay 157 = .ok (.aload_n 0, 1) := by decide +kernel
theorem dX3_readDay_158 : decode cX3_readDay 158 = .ok (.getfield 133, 3) := by decide +kernel
theorem dX3_readDay_161 : decode cX3_readDay 161 = .ok (.invokestatic 222, 3) := by decide +kernel
theorem dX3_readDay_164 : decode cX3_readDay 164 = .ok (.istore 4, 2) := by decide +kernel
theorem dX3_readDay_166 : decode cX3_readDay 166 = .ok (.aload_n 0, 1) := by decide +kernel
theorem dX3_readDay_167 : decode cX3_readDay 167 = .ok (.getfield 9, 3) := by decide +kernel
theorem dX3_readDay_170 : decode cX3_readDay 170 = .ok (.aload_n 0, 1) := by decide +kernel
theorem dX3_readDay_171 : decode cX3_readDay 171 = .ok (.getfield 213, 3) := by decide +kernel
theorem dX3_readDay_174 : decode cX3_readDay 174 = .ok (.iload 4, 2) := by decide +kernel
theorem dX3_readDay_176 : decode cX3_readDay 176 = .ok (.iastore, 1) := by decide +kernel
theorem dX3_readDay_177 : decode cX3_readDay 177 = .ok (.aload_n 0, 1) := by decide +kernel
theorem dX3_readDay_178 : decode cX3_readDay 178 = .ok (.dup, 1) := by decide +kernel
theorem dX3_readDay_179 : decode cX3_readDay 179 = .ok (.getfield 213, 3) := by decide +kernel
theorem dX3_readDay_182 : decode cX3_readDay 182 = .ok (.iconst 1, 1) := by decide +kernel
theorem dX3_readDay_183 : decode cX3_readDay 183 = .ok (.iadd, 1) := by decide +kernel
theorem dX3_readDay_184 : decode cX3_readDay 184 = .ok (.putfield 213, 3) := by decide +kernel
theorem dX3_readDay_187 : decode cX3_readDay 187 = .ok (.iconst 1, 1) := by decide +kernel
theorem dX3_readDay_188 : decode cX3_readDay 188 = .ok (.ireturn, 1) := by decide +kernel
theorem dX3_passNumber_0 : decode cX3_passNumber 0 = .ok (.aload_n 0, 1) := by decide +kernel
theorem dX3_passNumber_1 : decode cX3_passNumber 1 = .ok (.getfield 15, 3) := by decide +kernel
theorem dX3_passNumber_4 : decode cX3_passNumber 4 = .ok (.getfield 38, 3) := by decide +kernel
theorem dX3_passNumber_7 : decode cX3_passNumber 7 = .ok (.iconst 2, 1) := by decide +kernel
theorem dX3_passNumber_8 : decode cX3_passNumber 8 = .ok (.if_icmp .eq 12, 3) := by decide +kernel
theorem dX3_passNumber_11 : decode cX3_passNumber 11 = .ok (.aload_n 0, 1) := by decide +kernel
theorem dX3_passNumber_12 : decode cX3_passNumber 12 = .ok (.getfield 15, 3) := by decide +kernel
theorem dX3_passNumber_15 : decode cX3_passNumber 15 = .ok (.iconst 1, 1) := by decide +kernel
theorem dX3_passNumber_16 : decode cX3_passNumber 16 = .ok (.invokevirtual 57, 3) := by decide +kernel
theorem dX3_passNumber_19 : decode cX3_passNumber 19 = .ok (.ireturn, 1) := by decide +kernel
theorem dX3_passNumber_20 : decode cX3_passNumber 20 = .ok (.aload_n 0, 1) := by decide +kernel
theorem dX3_passNumber_21 : decode cX3_passNumber 21 = .ok (.getfield 15, 3) := by decide +kernel
theorem dX3_passNumber_24 : decode cX3_passNumber 24 = .ok (.getfield 226, 3) := by decide +kernel
theorem dX3_passNumber_27 : decode cX3_passNumber 27 = .ok (.iload_n 1, 1) := by decide +kernel
theorem dX3_passNumber_28 : decode cX3_passNumber 28 = .ok (.if_icmp .lt 14, 3) := by decide +kernel
theorem dX3_passNumber_31 : decode cX3_passNumber 31 = .ok (.aload_n 0, 1) := by decide +kernel
theorem dX3_passNumber_32 : decode cX3_passNumber 32 = .ok (.getfield 15, 3) := by decide +kernel
theorem dX3_passNumber_35 : decode cX3_passNumber 35 = .ok (.getfield 226, 3) := by decide +kernel
theorem dX3_passNumber_38 : decode cX3_passNumber 38 = .ok (.iload_n 2, 1) := by decide +kernel
theorem dX3_passNumber_39 : decode cX3_passNumber 39 = .ok (.if_icmp .le 12, 3) := by decide +kernel
theorem dX3_passNumber_42 : decode cX3_passNumber 42 = .ok (.aload_n 0, 1) := by decide +kernel
theorem dX3_passNumber_43 : decode cX3_passNumber 43 = .ok (.getfield 15, 3) := by decide +kernel
theorem dX3_passNumber_46 : decode cX3_passNumber 46 = .ok (.iconst 4, 1) := by decide +kernel
theorem dX3_passNumber_47 : decode cX3_passNumber 47 = .ok (.invokevirtual 57, 3) := by decide +kernel
theorem dX3_passNumber_50 : decode cX3_passNumber 50 = .ok (.ireturn, 1) := by decide +kernel
theorem dX3_passNumber_51 : decode cX3_passNumber 51 = .ok (.aload_n 0, 1) := by decide +kernel
theorem dX3_passNumber_52 : decode cX3_passNumber 52 = .ok (.aload_n 0, 1) := by decide +kernel
theorem dX3_passNumber_53 : decode cX3_passNumber 53 = .ok (.getfield 15, 3) := by decide +kernel
theorem dX3_passNumber_56 : decode cX3_passNumber 56 = .ok (.getfield 226, 3) := by decide +kernel
theorem dX3_passNumber_59 : decode cX3_passNumber 59 = .ok (.putfield 123, 3) := by decide +kernel
theorem dX3_passNumber_62 : decode cX3_passNumber 62 = .ok (.aload_n 0, 1) := by decide +kernel
theorem dX3_passNumber_63 : decode cX3_passNumber 63 = .ok (.getfield 15, 3) := by decide +kernel
theorem dX3_passNumber_66 : decode cX3_passNumber 66 = .ok (.invokevirtual 99, 3) := by decide +kernel
theorem dX3_passNumber_69 : decode cX3_passNumber 69 = .ok (.iconst 1, 1) := by decide +kernel
theorem dX3_passNumber_70 : decode cX3_passNumber 70 = .ok (.ireturn, 1) := by decide +kernel
theorem dX3_passKind_0 : decode cX3_passKind 0 = .ok (.aload_n 0, 1) := by decide +kernel
theorem dX3_passKind_1 : decode cX3_passKind 1 = .ok (.getfield 15, 3) := by decide +kernel
theorem dX3_passKind_4 : decode cX3_passKind 4 = .ok (.getfield 38, 3) := by decide +kernel
theorem dX3_passKind_7 : decode cX3_passKind 7 = .ok (.iconst 1, 1) := by decide +kernel
theorem dX3_passKind_8 : decode cX3_passKind 8 = .ok (.if_icmp .ne 27, 3) := by decide +kernel
theorem dX3_passKind_11 : decode cX3_passKind 11 = .ok (.aload_n 0, 1) := by decide +kernel
theorem dX3_passKind_12 : decode cX3_passKind 12 = .ok (.getfield 15, 3) := by decide +kernel
theorem dX3_passKind_15 : decode cX3_passKind 15 = .ok (.getfield 60, 3) := by decide +kernel
theorem dX3_passKind_18 : decode cX3_passKind 18 = .ok (.bipush 18, 2) := by decide +kernel
theorem dX3_passKind_20 : decode cX3_passKind 20 = .ok (.if_icmp .lt 15, 3) := by decide +kernel
theorem dX3_passKind_23 : decode cX3_passKind 23 = .ok (.aload_n 0, 1) := by decide +kernel
theorem dX3_passKind_24 : decode cX3_passKind 24 = .ok (.getfield 15, 3) := by decide +kernel
theorem dX3_passKind_27 : decode cX3_passKind 27 = .ok (.getfield 60, 3) := by decide +kernel
theorem dX3_passKind_30 : decode cX3_passKind 30 = .ok (.bipush 22, 2) := by decide +kernel
theorem dX3_passKind_32 : decode cX3_passKind 32 = .ok (.if_icmp .lt 12, 3) := by decide +kernel
theorem dX3_passKind_35 : decode cX3_passKind 35 = .ok (.aload_n 0, 1) := by decide +kernel
theorem dX3_passKind_36 : decode cX3_passKind 36 = .ok (.getfield 15, 3) := by decide +kernel
theorem dX3_passKind_39 : decode cX3_passKind 39 = .ok (.iconst 1, 1) := by decide +kernel
theorem dX3_passKind_40 : decode cX3_passKind 40 = .ok (.invokevirtual 57, 3) := by decide +kernel
theorem dX3_passKind_43 : decode cX3_passKind 43 = .ok (.ireturn, 1) := by decide +kernel
theorem dX3_passKind_44 : decode cX3_passKind 44 = .ok (.aload_n 0, 1) := by decide +kernel
theorem dX3_passKind_45 : decode cX3_passKind 45 = .ok (.aload_n 0, 1) := by decide +kernel
theorem dX3_passKind_46 : decode cX3_passKind 46 = .ok (.getfield 15, 3) := by decide +kernel
theorem dX3_passKind_49 : decode cX3_passKind 49 = .ok (.getfield 60, 3) := by decide +kernel
theorem dX3_passKind_52 : decode cX3_passKind 52 = .ok (.bipush 18, 2) := by decide +kernel
theorem dX3_passKind_54 : decode cX3_passKind 54 = .ok (.isub, 1) := by decide +kernel
theorem dX3_passKind_55 : decode cX3_passKind 55 = .ok (.putfield 133, 3) := by decide +kernel
theorem dX3_passKind_58 : decode cX3_passKind 58 = .ok (.aload_n 0, 1) := by decide +kernel
theorem dX3_passKind_59 : decode cX3_passKind 59 = .ok (.getfield 15, 3) := by decide +kernel
theorem dX3_passKind_62 : decode cX3_passKind 62 = .ok (.invokevirtual 99, 3) := by decide +kernel
theorem dX3_passKind_65 : decode cX3_passKind 65 = .ok (.iconst 1, 1) := by decide +kernel
theorem dX3_passKind_66 : decode cX3_passKind 66 = .ok (.ireturn, 1) := by decide +kernel
theorem dX3_passNewName_0 : decode cX3_passNewName 0 = .ok (.aload_n 0, 1) := by decide +kernel
theorem dX3_passNewName_1 : decode cX3_passNewName 1 = .ok (.getfield 15, 3) := by decide +kernel
theorem dX3_passNewName_4 : decode cX3_passNewName 4 = .ok (.invokevirtual 227, 3) := by decide +kernel
theorem dX3_passNewName_7 : decode cX3_passNewName 7 = .ok (.ifCond .ne 12, 3) := by decide +kernel
theorem dX3_passNewName_10 : decode cX3_passNewName 10 = .ok (.aload_n 0, 1) := by decide +kernel
theorem dX3_passNewName_11 : decode cX3_passNewName 11 = .ok (.getfield 15, 3) := by decide +kernel
theorem dX3_passNewName_14 : decode cX3_passNewName 14 = .ok (.iconst 1, 1) := by decide +kernel
theorem dX3_passNewName_15 : decode cX3_passNewName 15 = .ok (.invokevirtual 57, 3) := by decide +kernel
theorem dX3_passNewName_18 : decode cX3_passNewName 18 = .ok (.ireturn, 1) := by decide +kernel
theorem dX3_passNewName_19 : decode cX3_passNewName 19 = .ok (.aload_n 0, 1) := by decide +kernel
theorem dX3_passNewName_20 : decode cX3_passNewName 20 = .ok (.aload_n 1, 1) := by decide +kernel
theorem dX3_passNewName_21 : decode cX3_passNewName 21 = .ok (.getfield 112, 3) := by decide +kernel
theorem dX3_passNewName_24 : decode cX3_passNewName 24 = .ok (.aload_n 1, 1) := by decide +kernel
theorem dX3_passNewName_25 : decode cX3_passNewName 25 = .ok (.getfield 96, 3) := by decide +kernel
theorem dX3_passNewName_28 : decode cX3_passNewName 28 = .ok (.invokevirtual 230, 3) := by decide +kernel
theorem dX3_passNewName_31 : decode cX3_passNewName 31 = .ok (.iconst (-1), 1) := by decide +kernel
theorem dX3_passNewName_32 : decode cX3_passNewName 32 = .ok (.if_icmp .ne 35, 3) := by decide +kernel
theorem dX3_passNewName_35 : decode cX3_passNewName 35 = .ok (.aload_n 0, 1) := by decide +kernel
theorem dX3_passNewName_36 : decode cX3_passNewName 36 = .ok (.aload_n 1, 1) := by decide +kernel
theorem dX3_passNewName_37 : decode cX3_passNewName 37 = .ok (.getfield 152, 3) := by decide +kernel
theorem dX3_passNewName_40 : decode cX3_passNewName 40 = .ok (.aload_n 1, 1) := by decide +kernel
theorem dX3_passNewName_41 : decode cX3_passNewName 41 = .ok (.getfield 142, 3) := by decide +kernel
theorem dX3_passNewName_44 : decode cX3_passNewName 44 = .ok (.invokevirtual 230, 3) := by decide +kernel
theorem dX3_passNewName_47 : decode cX3_passNewName 47 = .ok (.iconst (-1), 1) := by decide +kernel
theorem dX3_passNewName_48 : decode cX3_passNewName 48 = .ok (.if_icmp .ne 19, 3) := by decide +kernel
theorem dX3_passNewName_51 : decode cX3_passNewName 51 = .ok (.aload_n 0, 1) := by decide +kernel
theorem dX3_passNewName_52 : decode cX3_passNewName 52 = .ok (.aload_n 1, 1) := by decide +kernel
theorem dX3_passNewName_53 : decode cX3_passNewName 53 = .ok (.getfield 173, 3) := by decide +kernel
theorem dX3_passNewName_56 : decode cX3_passNewName 56 = .ok (.aload_n 1, 1) := by decide +kernel
theorem dX3_passNewName_57 : decode cX3_passNewName 57 = .ok (.getfield 170, 3) := by decide +kernel
theorem dX3_passNewName_60 : decode cX3_passNewName 60 = .ok (.invokevirtual 230, 3) := by decide +kernel
theorem dX3_passNewName_63 : decode cX3_passNewName 63 = .ok (.iconst (-1), 1) := by decide +kernel
theorem dX3_passNewName_64 : decode cX3_passNewName 64 = .ok (.if_icmp .eq 12, 3) := by decide +kernel
theorem dX3_passNewName_67 : decode cX3_passNewName 67 = .ok (.aload_n 0, 1) := by decide +kernel
theorem dX3_passNewName_68 : decode cX3_passNewName 68 = .ok (.getfield 15, 3) := by decide +kernel
theorem dX3_passNewName_71 : decode cX3_passNewName 71 = .ok (.iconst 3, 1) := by decide +kernel
theorem dX3_passNewName_72 : decode cX3_passNewName 72 = .ok (.invokevirtual 57, 3) := by decide +kernel
theorem dX3_passNewName_75 : decode cX3_passNewName 75 = .ok (.ireturn, 1) := by decide +kernel
theorem dX3_passNewName_76 : decode cX3_passNewName 76 = .ok (.aload_n 0, 1) := by decide +kernel
theorem dX3_passNewName_77 : decode cX3_passNewName 77 = .ok (.aload_n 0, 1) := by decide +kernel
theorem dX3_passNewName_78 : decode cX3_passNewName 78 = .ok (.getfield 15, 3) := by decide +kernel
theorem dX3_passNewName_81 : decode cX3_passNewName 81 = .ok (.getfield 234, 3) := by decide +kernel
theorem dX3_passNewName_84 : decode cX3_passNewName 84 = .ok (.putfield 116, 3) := by decide +kernel
theorem dX3_passNewName_87 : decode cX3_passNewName 87 = .ok (.aload_n 0, 1) := by decide +kernel
theorem dX3_passNewName_88 : decode cX3_passNewName 88 = .ok (.getfield 15, 3) := by decide +kernel
theorem dX3_passNewName_91 : decode cX3_passNewName 91 = .ok (.invokevirtual 99, 3) := by decide +kernel
theorem dX3_passNewName_94 : decode cX3_passNewName 94 = .ok (.iconst 1, 1) := by decide +kernel
theorem dX3_passNewName_95 : decode cX3_passNewName 95 = .ok (.ireturn, 1) := by decide +kernel
theorem dX3_isTold_0 : decode cX3_isTold 0 = .ok (.aload_n 0, 1) := by decide +kernel
theorem dX3_isTold_1 : decode cX3_isTold 1 = .ok (.getfield 15, 3) := by decide +kernel
theorem dX3_isTold_4 : decode cX3_isTold 4 = .ok (.invokevirtual 227, 3) := by decide +kernel
theorem dX3_isTold_7 : decode cX3_isTold 7 = .ok (.ifCond .ne 12, 3) := by decide +kernel
theorem dX3_isTold_10 : decode cX3_isTold 10 = .ok (.aload_n 0, 1) := by decide +kernel
theorem dX3_isTold_11 : decode cX3_isTold 11 = .ok (.getfield 15, 3) := by decide +kernel
theorem dX3_isTold_14 : decode cX3_isTold 14 = .ok (.iconst 1, 1) := by decide +kernel
theorem dX3_isTold_15 : decode cX3_isTold 15 = .ok (.invokevirtual 57, 3) := by decide +kernel
theorem dX3_isTold_18 : decode cX3_isTold 18 = .ok (.ireturn, 1) := by decide +kernel
theorem dX3_isTold_19 : decode cX3_isTold 19 = .ok (.aload_n 0, 1) := by decide +kernel
theorem dX3_isTold_20 : decode cX3_isTold 20 = .ok (.aload_n 0, 1) := by decide +kernel
theorem dX3_isTold_21 : decode cX3_isTold 21 = .ok (.aload_n 1, 1) := by decide +kernel
theorem dX3_isTold_22 : decode cX3_isTold 22 = .ok (.iload_n 2, 1) := by decide +kernel
theorem dX3_isTold_23 : decode cX3_isTold 23 = .ok (.invokevirtual 230, 3) := by decide +kernel
theorem dX3_isTold_26 : decode cX3_isTold 26 = .ok (.putfield 133, 3) := by decide +kernel
theorem dX3_isTold_29 : decode cX3_isTold 29 = .ok (.aload_n 0, 1) := by decide +kernel
theorem dX3_isTold_30 : decode cX3_isTold 30 = .ok (.getfield 133, 3) := by decide +kernel
theorem dX3_isTold_33 : decode cX3_isTold 33 = .ok (.iconst (-1), 1) := by decide +kernel
theorem dX3_isTold_34 : decode cX3_isTold 34 = .ok (.if_icmp .ne 14, 3) := by decide +kernel
theorem dX3_isTold_37 : decode cX3_isTold 37 = .ok (.aload_n 0, 1) := by decide +kernel
theorem dX3_isTold_38 : decode cX3_isTold 38 = .ok (.getfield 15, 3) := by decide +kernel
theorem dX3_isTold_41 : decode cX3_isTold 41 = .ok (.iconst 2, 1) := by decide +kernel
theorem dX3_isTold_42 : decode cX3_isTold 42 = .ok (.invokevirtual 57, 3) := by decide +kernel
theorem dX3_isTold_45 : decode cX3_isTold 45 = .ok (.ifCond .eq 7, 3) := by decide +kernel
theorem dX3_isTold_48 : decode cX3_isTold 48 = .ok (.iconst 1, 1) := by decide +kernel
theorem dX3_isTold_49 : decode cX3_isTold 49 = .ok (.goto 4, 3) := by decide +kernel
theorem dX3_isTold_52 : decode cX3_isTold 52 = .ok (.iconst 0, 1) := by decide +kernel
theorem dX3_isTold_53 : decode cX3_isTold 53 = .ok (.ireturn, 1) := by decide +kernel
theorem dX3_isPair_0 : decode cX3_isPair 0 = .ok (.aload_n 0, 1) := by decide +kernel
theorem dX3_isPair_1 : decode cX3_isPair 1 = .ok (.getfield 15, 3) := by decide +kernel
theorem dX3_isPair_4 : decode cX3_isPair 4 = .ok (.invokevirtual 99, 3) := by decide +kernel
theorem dX3_isPair_7 : decode cX3_isPair 7 = .ok (.aload_n 0, 1) := by decide +kernel
theorem dX3_isPair_8 : decode cX3_isPair 8 = .ok (.aload_n 1, 1) := by decide +kernel
theorem dX3_isPair_9 : decode cX3_isPair 9 = .ok (.iload_n 2, 1) := by decide +kernel
theorem dX3_isPair_10 : decode cX3_isPair 10 = .ok (.invokevirtual 149, 3) := by decide +kernel
theorem dX3_isPair_13 : decode cX3_isPair 13 = .ok (.ifCond .ne 5, 3) := by decide +kernel
theorem dX3_isPair_16 : decode cX3_isPair 16 = .ok (.iconst 0, 1) := by decide +kernel
theorem dX3_isPair_17 : decode cX3_isPair 17 = .ok (.ireturn, 1) := by decide +kernel
theorem dX3_isPair_18 : decode cX3_isPair 18 = .ok (.aload_n 0, 1) := by decide +kernel
theorem dX3_isPair_19 : decode cX3_isPair 19 = .ok (.aload_n 0, 1) := by decide +kernel
theorem dX3_isPair_20 : decode cX3_isPair 20 = .ok (.getfield 133, 3) := by decide +kernel
theorem dX3_isPair_23 : decode cX3_isPair 23 = .ok (.putfield 130, 3) := by decide +kernel
theorem dX3_isPair_26 : decode cX3_isPair 26 = .ok (.aload_n 0, 1) := by decide +kernel
theorem dX3_isPair_27 : decode cX3_isPair 27 = .ok (.getfield 15, 3) := by decide +kernel
theorem dX3_isPair_30 : decode cX3_isPair 30 = .ok (.invokevirtual 99, 3) := by decide +kernel
theorem dX3_isPair_33 : decode cX3_isPair 33 = .ok (.aload_n 0, 1) := by decide +kernel
theorem dX3_isPair_34 : decode cX3_isPair 34 = .ok (.aload_n 1, 1) := by decide +kernel
theorem dX3_isPair_35 : decode cX3_isPair 35 = .ok (.iload_n 2, 1) := by decide +kernel
theorem dX3_isPair_36 : decode cX3_isPair 36 = .ok (.invokevirtual 149, 3) := by decide +kernel
theorem dX3_isPair_39 : decode cX3_isPair 39 = .ok (.ifCond .eq 29, 3) := by decide +kernel
theorem dX3_isPair_42 : decode cX3_isPair 42 = .ok (.aload_n 0, 1) := by decide +kernel
theorem dX3_isPair_43 : decode cX3_isPair 43 = .ok (.getfield 133, 3) := by decide +kernel
theorem dX3_isPair_46 : decode cX3_isPair 46 = .ok (.aload_n 0, 1) := by decide +kernel
theorem dX3_isPair_47 : decode cX3_isPair 47 = .ok (.getfield 130, 3) := by decide +kernel
theorem dX3_isPair_50 : decode cX3_isPair 50 = .ok (.if_icmp .ne 14, 3) := by decide +kernel
theorem dX3_isPair_53 : decode cX3_isPair 53 = .ok (.aload_n 0, 1) := by decide +kernel
theorem dX3_isPair_54 : decode cX3_isPair 54 = .ok (.getfield 15, 3) := by decide +kernel
theorem dX3_isPair_57 : decode cX3_isPair 57 = .ok (.iconst 3, 1) := by decide +kernel
theorem dX3_isPair_58 : decode cX3_isPair 58 = .ok (.invokevirtual 57, 3) := by decide +kernel
theorem dX3_isPair_61 : decode cX3_isPair 61 = .ok (.ifCond .eq 7, 3) := by decide +kernel
theorem dX3_isPair_64 : decode cX3_isPair 64 = .ok (.iconst 1, 1) := by decide +kernel
theorem dX3_isPair_65 : decode cX3_isPair 65 = .ok (.goto 4, 3) := by decide +kernel
theorem dX3_isPair_68 : decode cX3_isPair 68 = .ok (.iconst 0, 1) := by decide +kernel
theorem dX3_isPair_69 : decode cX3_isPair 69 = .ok (.ireturn, 1) := by decide +kernel
theorem dX3_placeOf_0 : decode cX3_placeOf 0 = .ok (.iconst 0, 1) := by decide +kernel
theorem dX3_placeOf_1 : decode cX3_placeOf 1 = .ok (.istore_n 3, 1) := by decide +kernel
theorem dX3_placeOf_2 : decode cX3_placeOf 2 = .ok (.iload_n 3, 1) := by decide +kernel
