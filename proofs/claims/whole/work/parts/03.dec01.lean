theorem dX3_placeOf_3 : decode cX3_placeOf 3 = .ok (.iload_n 2, 1) := by decide +kernel
theorem dX3_placeOf_4 : decode cX3_placeOf 4 = .ok (.if_icmp .ge 31, 3) := by decide +kernel
theorem dX3_placeOf_7 : decode cX3_placeOf 7 = .ok (.iload_n 3, 1) := by decide +kernel
theorem dX3_placeOf_8 : decode cX3_placeOf 8 = .ok (.aload_n 1, 1) := by decide +kernel
theorem dX3_placeOf_9 : decode cX3_placeOf 9 = .ok (.arraylength, 1) := by decide +kernel
theorem dX3_placeOf_10 : decode cX3_placeOf 10 = .ok (.if_icmp .ge 25, 3) := by decide +kernel
theorem dX3_placeOf_13 : decode cX3_placeOf 13 = .ok (.aload_n 1, 1) := by decide +kernel
theorem dX3_placeOf_14 : decode cX3_placeOf 14 = .ok (.iload_n 3, 1) := by decide +kernel
theorem dX3_placeOf_15 : decode cX3_placeOf 15 = .ok (.laload, 1) := by decide +kernel
theorem dX3_placeOf_16 : decode cX3_placeOf 16 = .ok (.aload_n 0, 1) := by decide +kernel
theorem dX3_placeOf_17 : decode cX3_placeOf 17 = .ok (.getfield 15, 3) := by decide +kernel
theorem dX3_placeOf_20 : decode cX3_placeOf 20 = .ok (.getfield 234, 3) := by decide +kernel
theorem dX3_placeOf_23 : decode cX3_placeOf 23 = .ok (.lcmp, 1) := by decide +kernel
theorem dX3_placeOf_24 : decode cX3_placeOf 24 = .ok (.ifCond .ne 5, 3) := by decide +kernel
theorem dX3_placeOf_27 : decode cX3_placeOf 27 = .ok (.iload_n 3, 1) := by decide +kernel
theorem dX3_placeOf_28 : decode cX3_placeOf 28 = .ok (.ireturn, 1) := by decide +kernel
theorem dX3_placeOf_29 : decode cX3_placeOf 29 = .ok (.iinc 3 1, 3) := by decide +kernel
theorem dX3_placeOf_32 : decode cX3_placeOf 32 = .ok (.goto (-30), 3) := by decide +kernel
theorem dX3_placeOf_35 : decode cX3_placeOf 35 = .ok (.iconst (-1), 1) := by decide +kernel
theorem dX3_placeOf_36 : decode cX3_placeOf 36 = .ok (.ireturn, 1) := by decide +kernel
theorem dX4_init_0 : decode cX4_init 0 = .ok (.aload_n 0, 1) := by decide +kernel
theorem dX4_init_1 : decode cX4_init 1 = .ok (.invokespecial 3, 3) := by decide +kernel
theorem dX4_init_4 : decode cX4_init 4 = .ok (.aload_n 0, 1) := by decide +kernel
theorem dX4_init_5 : decode cX4_init 5 = .ok (.bipush 6, 2) := by decide +kernel
theorem dX4_init_7 : decode cX4_init 7 = .ok (.newarray .int, 2) := by decide +kernel
theorem dX4_init_9 : decode cX4_init 9 = .ok (.putfield 9, 3) := by decide +kernel
theorem dX4_init_12 : decode cX4_init 12 = .ok (.aload_n 0, 1) := by decide +kernel
theorem dX4_init_13 : decode cX4_init 13 = .ok (.bipush 6, 2) := by decide +kernel
theorem dX4_init_15 : decode cX4_init 15 = .ok (.newarray .int, 2) := by decide +kernel
theorem dX4_init_17 : decode cX4_init 17 = .ok (.putfield 15, 3) := by decide +kernel
theorem dX4_init_20 : decode cX4_init 20 = .ok (.aload_n 0, 1) := by decide +kernel
theorem dX4_init_21 : decode cX4_init 21 = .ok (.bipush 6, 2) := by decide +kernel
theorem dX4_init_23 : decode cX4_init 23 = .ok (.newarray .int, 2) := by decide +kernel
theorem dX4_init_25 : decode cX4_init 25 = .ok (.putfield 18, 3) := by decide +kernel
theorem dX4_init_28 : decode cX4_init 28 = .ok (.return_, 1) := by decide +kernel
theorem dX4_walkFrom_0 : decode cX4_walkFrom 0 = .ok (.iconst 0, 1) := by decide +kernel
theorem dX4_walkFrom_1 : decode cX4_walkFrom 1 = .ok (.istore 4, 2) := by decide +kernel
theorem dX4_walkFrom_3 : decode cX4_walkFrom 3 = .ok (.iconst 0, 1) := by decide +kernel
theorem dX4_walkFrom_4 : decode cX4_walkFrom 4 = .ok (.istore 5, 2) := by decide +kernel
theorem dX4_walkFrom_6 : decode cX4_walkFrom 6 = .ok (.iload 5, 2) := by decide +kernel
theorem dX4_walkFrom_8 : decode cX4_walkFrom 8 = .ok (.aload_n 1, 1) := by decide +kernel
theorem dX4_walkFrom_9 : decode cX4_walkFrom 9 = .ok (.getfield 21, 3) := by decide +kernel
theorem dX4_walkFrom_12 : decode cX4_walkFrom 12 = .ok (.if_icmp .ge 23, 3) := by decide +kernel
theorem dX4_walkFrom_15 : decode cX4_walkFrom 15 = .ok (.iload 4, 2) := by decide +kernel
theorem dX4_walkFrom_17 : decode cX4_walkFrom 17 = .ok (.iconst 1, 1) := by decide +kernel
theorem dX4_walkFrom_18 : decode cX4_walkFrom 18 = .ok (.aload_n 2, 1) := by decide +kernel
theorem dX4_walkFrom_19 : decode cX4_walkFrom 19 = .ok (.getfield 27, 3) := by decide +kernel
theorem dX4_walkFrom_22 : decode cX4_walkFrom 22 = .ok (.iload 5, 2) := by decide +kernel
theorem dX4_walkFrom_24 : decode cX4_walkFrom 24 = .ok (.iaload, 1) := by decide +kernel
theorem dX4_walkFrom_25 : decode cX4_walkFrom 25 = .ok (.ishl, 1) := by decide +kernel
theorem dX4_walkFrom_26 : decode cX4_walkFrom 26 = .ok (.ior, 1) := by decide +kernel
theorem dX4_walkFrom_27 : decode cX4_walkFrom 27 = .ok (.istore 4, 2) := by decide +kernel
theorem dX4_walkFrom_29 : decode cX4_walkFrom 29 = .ok (.iinc 5 1, 3) := by decide +kernel
theorem dX4_walkFrom_32 : decode cX4_walkFrom 32 = .ok (.goto (-26), 3) := by decide +kernel
theorem dX4_walkFrom_35 : decode cX4_walkFrom 35 = .ok (.aload_n 0, 1) := by decide +kernel
theorem dX4_walkFrom_36 : decode cX4_walkFrom 36 = .ok (.iload 4, 2) := by decide +kernel
theorem dX4_walkFrom_38 : decode cX4_walkFrom 38 = .ok (.invokestatic 32, 3) := by decide +kernel
theorem dX4_walkFrom_41 : decode cX4_walkFrom 41 = .ok (.putfield 38, 3) := by decide +kernel
theorem dX4_walkFrom_44 : decode cX4_walkFrom 44 = .ok (.aload_n 0, 1) := by decide +kernel
theorem dX4_walkFrom_45 : decode cX4_walkFrom 45 = .ok (.sipush 1000, 3) := by decide +kernel
theorem dX4_walkFrom_48 : decode cX4_walkFrom 48 = .ok (.putfield 41, 3) := by decide +kernel
theorem dX4_walkFrom_51 : decode cX4_walkFrom 51 = .ok (.aload_n 0, 1) := by decide +kernel
theorem dX4_walkFrom_52 : decode cX4_walkFrom 52 = .ok (.aload_n 1, 1) := by decide +kernel
theorem dX4_walkFrom_53 : decode cX4_walkFrom 53 = .ok (.iload_n 3, 1) := by decide +kernel
theorem dX4_walkFrom_54 : decode cX4_walkFrom 54 = .ok (.iload 4, 2) := by decide +kernel
theorem dX4_walkFrom_56 : decode cX4_walkFrom 56 = .ok (.iconst 0, 1) := by decide +kernel
theorem dX4_walkFrom_57 : decode cX4_walkFrom 57 = .ok (.invokevirtual 44, 3) := by decide +kernel
theorem dX4_walkFrom_60 : decode cX4_walkFrom 60 = .ok (.return_, 1) := by decide +kernel
theorem dX4_walkOn_0 : decode cX4_walkOn 0 = .ok (.iload_n 3, 1) := by decide +kernel
theorem dX4_walkOn_1 : decode cX4_walkOn 1 = .ok (.ifCond .ne 25, 3) := by decide +kernel
theorem dX4_walkOn_4 : decode cX4_walkOn 4 = .ok (.aload_n 0, 1) := by decide +kernel
theorem dX4_walkOn_5 : decode cX4_walkOn 5 = .ok (.iload 4, 2) := by decide +kernel
theorem dX4_walkOn_7 : decode cX4_walkOn 7 = .ok (.putfield 41, 3) := by decide +kernel
theorem dX4_walkOn_10 : decode cX4_walkOn 10 = .ok (.aload_n 0, 1) := by decide +kernel
theorem dX4_walkOn_11 : decode cX4_walkOn 11 = .ok (.getfield 15, 3) := by decide +kernel
theorem dX4_walkOn_14 : decode cX4_walkOn 14 = .ok (.iconst 0, 1) := by decide +kernel
theorem dX4_walkOn_15 : decode cX4_walkOn 15 = .ok (.aload_n 0, 1) := by decide +kernel
theorem dX4_walkOn_16 : decode cX4_walkOn 16 = .ok (.getfield 18, 3) := by decide +kernel
theorem dX4_walkOn_19 : decode cX4_walkOn 19 = .ok (.iconst 0, 1) := by decide +kernel
theorem dX4_walkOn_20 : decode cX4_walkOn 20 = .ok (.bipush 6, 2) := by decide +kernel
theorem dX4_walkOn_22 : decode cX4_walkOn 22 = .ok (.invokestatic 48, 3) := by decide +kernel
theorem dX4_walkOn_25 : decode cX4_walkOn 25 = .ok (.return_, 1) := by decide +kernel
theorem dX4_walkOn_26 : decode cX4_walkOn 26 = .ok (.aload_n 0, 1) := by decide +kernel
theorem dX4_walkOn_27 : decode cX4_walkOn 27 = .ok (.getfield 38, 3) := by decide +kernel
theorem dX4_walkOn_30 : decode cX4_walkOn 30 = .ok (.iload_n 3, 1) := by decide +kernel
theorem dX4_walkOn_31 : decode cX4_walkOn 31 = .ok (.invokestatic 32, 3) := by decide +kernel
theorem dX4_walkOn_34 : decode cX4_walkOn 34 = .ok (.isub, 1) := by decide +kernel
theorem dX4_walkOn_35 : decode cX4_walkOn 35 = .ok (.istore 5, 2) := by decide +kernel
theorem dX4_walkOn_37 : decode cX4_walkOn 37 = .ok (.iconst 0, 1) := by decide +kernel
theorem dX4_walkOn_38 : decode cX4_walkOn 38 = .ok (.istore 6, 2) := by decide +kernel
theorem dX4_walkOn_40 : decode cX4_walkOn 40 = .ok (.iload 6, 2) := by decide +kernel
theorem dX4_walkOn_42 : decode cX4_walkOn 42 = .ok (.aload_n 1, 1) := by decide +kernel
theorem dX4_walkOn_43 : decode cX4_walkOn 43 = .ok (.getfield 54, 3) := by decide +kernel
theorem dX4_walkOn_46 : decode cX4_walkOn 46 = .ok (.if_icmp .ge 75, 3) := by decide +kernel
theorem dX4_walkOn_49 : decode cX4_walkOn 49 = .ok (.iload 4, 2) := by decide +kernel
theorem dX4_walkOn_51 : decode cX4_walkOn 51 = .ok (.aload_n 1, 1) := by decide +kernel
theorem dX4_walkOn_52 : decode cX4_walkOn 52 = .ok (.getfield 57, 3) := by decide +kernel
theorem dX4_walkOn_55 : decode cX4_walkOn 55 = .ok (.iload_n 2, 1) := by decide +kernel
theorem dX4_walkOn_56 : decode cX4_walkOn 56 = .ok (.bipush 6, 2) := by decide +kernel
theorem dX4_walkOn_58 : decode cX4_walkOn 58 = .ok (.imul, 1) := by decide +kernel
theorem dX4_walkOn_59 : decode cX4_walkOn 59 = .ok (.iload 6, 2) := by decide +kernel
theorem dX4_walkOn_61 : decode cX4_walkOn 61 = .ok (.iadd, 1) := by decide +kernel
theorem dX4_walkOn_62 : decode cX4_walkOn 62 = .ok (.iaload, 1) := by decide +kernel
theorem dX4_walkOn_63 : decode cX4_walkOn 63 = .ok (.iadd, 1) := by decide +kernel
theorem dX4_walkOn_64 : decode cX4_walkOn 64 = .ok (.istore 7, 2) := by decide +kernel
theorem dX4_walkOn_66 : decode cX4_walkOn 66 = .ok (.iload_n 3, 1) := by decide +kernel
theorem dX4_walkOn_67 : decode cX4_walkOn 67 = .ok (.iload 6, 2) := by decide +kernel
theorem dX4_walkOn_69 : decode cX4_walkOn 69 = .ok (.ishr, 1) := by decide +kernel
theorem dX4_walkOn_70 : decode cX4_walkOn 70 = .ok (.iconst 1, 1) := by decide +kernel
theorem dX4_walkOn_71 : decode cX4_walkOn 71 = .ok (.iand, 1) := by decide +kernel
theorem dX4_walkOn_72 : decode cX4_walkOn 72 = .ok (.ifCond .eq 43, 3) := by decide +kernel
theorem dX4_walkOn_75 : decode cX4_walkOn 75 = .ok (.iload 7, 2) := by decide +kernel
theorem dX4_walkOn_77 : decode cX4_walkOn 77 = .ok (.aload_n 0, 1) := by decide +kernel
theorem dX4_walkOn_78 : decode cX4_walkOn 78 = .ok (.getfield 41, 3) := by decide +kernel
theorem dX4_walkOn_81 : decode cX4_walkOn 81 = .ok (.if_icmp .ge 34, 3) := by decide +kernel
theorem dX4_walkOn_84 : decode cX4_walkOn 84 = .ok (.iload 5, 2) := by decide +kernel
theorem dX4_walkOn_86 : decode cX4_walkOn 86 = .ok (.ifCond .lt 29, 3) := by decide +kernel
theorem dX4_walkOn_89 : decode cX4_walkOn 89 = .ok (.aload_n 0, 1) := by decide +kernel
theorem dX4_walkOn_90 : decode cX4_walkOn 90 = .ok (.getfield 15, 3) := by decide +kernel
theorem dX4_walkOn_93 : decode cX4_walkOn 93 = .ok (.iload 5, 2) := by decide +kernel
theorem dX4_walkOn_95 : decode cX4_walkOn 95 = .ok (.iload 6, 2) := by decide +kernel
theorem dX4_walkOn_97 : decode cX4_walkOn 97 = .ok (.iastore, 1) := by decide +kernel
theorem dX4_walkOn_98 : decode cX4_walkOn 98 = .ok (.aload_n 0, 1) := by decide +kernel
theorem dX4_walkOn_99 : decode cX4_walkOn 99 = .ok (.aload_n 1, 1) := by decide +kernel
theorem dX4_walkOn_100 : decode cX4_walkOn 100 = .ok (.iload 6, 2) := by decide +kernel
theorem dX4_walkOn_102 : decode cX4_walkOn 102 = .ok (.iload_n 3, 1) := by decide +kernel
theorem dX4_walkOn_103 : decode cX4_walkOn 103 = .ok (.iconst 1, 1) := by decide +kernel
theorem dX4_walkOn_104 : decode cX4_walkOn 104 = .ok (.iload 6, 2) := by decide +kernel
theorem dX4_walkOn_106 : decode cX4_walkOn 106 = .ok (.ishl, 1) := by decide +kernel
theorem dX4_walkOn_107 : decode cX4_walkOn 107 = .ok (.iconst (-1), 1) := by decide +kernel
theorem dX4_walkOn_108 : decode cX4_walkOn 108 = .ok (.ixor, 1) := by decide +kernel
theorem dX4_walkOn_109 : decode cX4_walkOn 109 = .ok (.iand, 1) := by decide +kernel
theorem dX4_walkOn_110 : decode cX4_walkOn 110 = .ok (.iload 7, 2) := by decide +kernel
theorem dX4_walkOn_112 : decode cX4_walkOn 112 = .ok (.invokevirtual 44, 3) := by decide +kernel
theorem dX4_walkOn_115 : decode cX4_walkOn 115 = .ok (.iinc 6 1, 3) := by decide +kernel
theorem dX4_walkOn_118 : decode cX4_walkOn 118 = .ok (.goto (-78), 3) := by decide +kernel
theorem dX4_walkOn_121 : decode cX4_walkOn 121 = .ok (.return_, 1) := by decide +kernel
theorem dX4_keepApart_0 : decode cX4_keepApart 0 = .ok (.iconst 0, 1) := by decide +kernel
theorem dX4_keepApart_1 : decode cX4_keepApart 1 = .ok (.istore_n 2, 1) := by decide +kernel
theorem dX4_keepApart_2 : decode cX4_keepApart 2 = .ok (.iload_n 2, 1) := by decide +kernel
theorem dX4_keepApart_3 : decode cX4_keepApart 3 = .ok (.aload_n 1, 1) := by decide +kernel
theorem dX4_keepApart_4 : decode cX4_keepApart 4 = .ok (.getfield 21, 3) := by decide +kernel
theorem dX4_keepApart_7 : decode cX4_keepApart 7 = .ok (.if_icmp .ge 22, 3) := by decide +kernel
theorem dX4_keepApart_10 : decode cX4_keepApart 10 = .ok (.aload_n 0, 1) := by decide +kernel
theorem dX4_keepApart_11 : decode cX4_keepApart 11 = .ok (.aload_n 1, 1) := by decide +kernel
theorem dX4_keepApart_12 : decode cX4_keepApart 12 = .ok (.iconst 0, 1) := by decide +kernel
theorem dX4_keepApart_13 : decode cX4_keepApart 13 = .ok (.iconst 0, 1) := by decide +kernel
theorem dX4_keepApart_14 : decode cX4_keepApart 14 = .ok (.iload_n 2, 1) := by decide +kernel
theorem dX4_keepApart_15 : decode cX4_keepApart 15 = .ok (.invokevirtual 59, 3) := by decide +kernel
theorem dX4_keepApart_18 : decode cX4_keepApart 18 = .ok (.ifCond .eq 5, 3) := by decide +kernel
theorem dX4_keepApart_21 : decode cX4_keepApart 21 = .ok (.iload_n 2, 1) := by decide +kernel
theorem dX4_keepApart_22 : decode cX4_keepApart 22 = .ok (.ireturn, 1) := by decide +kernel
theorem dX4_keepApart_23 : decode cX4_keepApart 23 = .ok (.iinc 2 1, 3) := by decide +kernel
theorem dX4_keepApart_26 : decode cX4_keepApart 26 = .ok (.goto (-24), 3) := by decide +kernel
theorem dX4_keepApart_29 : decode cX4_keepApart 29 = .ok (.aload_n 0, 1) := by decide +kernel
theorem dX4_keepApart_30 : decode cX4_keepApart 30 = .ok (.aload_n 1, 1) := by decide +kernel
theorem dX4_keepApart_31 : decode cX4_keepApart 31 = .ok (.iconst 0, 1) := by decide +kernel
theorem dX4_keepApart_32 : decode cX4_keepApart 32 = .ok (.iconst 0, 1) := by decide +kernel
theorem dX4_keepApart_33 : decode cX4_keepApart 33 = .ok (.aload_n 1, 1) := by decide +kernel
theorem dX4_keepApart_34 : decode cX4_keepApart 34 = .ok (.getfield 21, 3) := by decide +kernel
theorem dX4_keepApart_37 : decode cX4_keepApart 37 = .ok (.invokevirtual 59, 3) := by decide +kernel
theorem dX4_keepApart_40 : decode cX4_keepApart 40 = .ok (.pop, 1) := by decide +kernel
theorem dX4_keepApart_41 : decode cX4_keepApart 41 = .ok (.aload_n 1, 1) := by decide +kernel
theorem dX4_keepApart_42 : decode cX4_keepApart 42 = .ok (.getfield 21, 3) := by decide +kernel
theorem dX4_keepApart_45 : decode cX4_keepApart 45 = .ok (.ireturn, 1) := by decide +kernel
theorem dX4_place_0 : decode cX4_place 0 = .ok (.iload_n 2, 1) := by decide +kernel
theorem dX4_place_1 : decode cX4_place 1 = .ok (.aload_n 1, 1) := by decide +kernel
theorem dX4_place_2 : decode cX4_place 2 = .ok (.getfield 21, 3) := by decide +kernel
theorem dX4_place_5 : decode cX4_place 5 = .ok (.if_icmp .lt 5, 3) := by decide +kernel
theorem dX4_place_8 : decode cX4_place 8 = .ok (.iconst 1, 1) := by decide +kernel
theorem dX4_place_9 : decode cX4_place 9 = .ok (.ireturn, 1) := by decide +kernel
theorem dX4_place_10 : decode cX4_place 10 = .ok (.iconst 0, 1) := by decide +kernel
theorem dX4_place_11 : decode cX4_place 11 = .ok (.istore 5, 2) := by decide +kernel
theorem dX4_place_13 : decode cX4_place 13 = .ok (.iload 5, 2) := by decide +kernel
theorem dX4_place_15 : decode cX4_place 15 = .ok (.iload_n 3, 1) := by decide +kernel
theorem dX4_place_16 : decode cX4_place 16 = .ok (.if_icmp .gt 56, 3) := by decide +kernel
theorem dX4_place_19 : decode cX4_place 19 = .ok (.iload 5, 2) := by decide +kernel
theorem dX4_place_21 : decode cX4_place 21 = .ok (.iload 4, 2) := by decide +kernel
theorem dX4_place_23 : decode cX4_place 23 = .ok (.if_icmp .ge 49, 3) := by decide +kernel
theorem dX4_place_26 : decode cX4_place 26 = .ok (.aload_n 0, 1) := by decide +kernel
theorem dX4_place_27 : decode cX4_place 27 = .ok (.getfield 9, 3) := by decide +kernel
theorem dX4_place_30 : decode cX4_place 30 = .ok (.iload_n 2, 1) := by decide +kernel
theorem dX4_place_31 : decode cX4_place 31 = .ok (.iload 5, 2) := by decide +kernel
theorem dX4_place_33 : decode cX4_place 33 = .ok (.iastore, 1) := by decide +kernel
theorem dX4_place_34 : decode cX4_place 34 = .ok (.aload_n 0, 1) := by decide +kernel
theorem dX4_place_35 : decode cX4_place 35 = .ok (.aload_n 1, 1) := by decide +kernel
theorem dX4_place_36 : decode cX4_place 36 = .ok (.iload_n 2, 1) := by decide +kernel
theorem dX4_place_37 : decode cX4_place 37 = .ok (.invokevirtual 63, 3) := by decide +kernel
theorem dX4_place_40 : decode cX4_place 40 = .ok (.ifCond .ne 26, 3) := by decide +kernel
theorem dX4_place_43 : decode cX4_place 43 = .ok (.aload_n 0, 1) := by decide +kernel
theorem dX4_place_44 : decode cX4_place 44 = .ok (.aload_n 1, 1) := by decide +kernel
theorem dX4_place_45 : decode cX4_place 45 = .ok (.iload_n 2, 1) := by decide +kernel
theorem dX4_place_46 : decode cX4_place 46 = .ok (.iconst 1, 1) := by decide +kernel
theorem dX4_place_47 : decode cX4_place 47 = .ok (.iadd, 1) := by decide +kernel
theorem dX4_place_48 : decode cX4_place 48 = .ok (.iload_n 3, 1) := by decide +kernel
theorem dX4_place_49 : decode cX4_place 49 = .ok (.iload 5, 2) := by decide +kernel
theorem dX4_place_51 : decode cX4_place 51 = .ok (.iconst 1, 1) := by decide +kernel
theorem dX4_place_52 : decode cX4_place 52 = .ok (.iadd, 1) := by decide +kernel
theorem dX4_place_53 : decode cX4_place 53 = .ok (.invokestatic 67, 3) := by decide +kernel
theorem dX4_place_56 : decode cX4_place 56 = .ok (.iload 4, 2) := by decide +kernel
theorem dX4_place_58 : decode cX4_place 58 = .ok (.invokevirtual 59, 3) := by decide +kernel
theorem dX4_place_61 : decode cX4_place 61 = .ok (.ifCond .eq 5, 3) := by decide +kernel
theorem dX4_place_64 : decode cX4_place 64 = .ok (.iconst 1, 1) := by decide +kernel
theorem dX4_place_65 : decode cX4_place 65 = .ok (.ireturn, 1) := by decide +kernel
theorem dX4_place_66 : decode cX4_place 66 = .ok (.iinc 5 1, 3) := by decide +kernel
theorem dX4_place_69 : decode cX4_place 69 = .ok (.goto (-56), 3) := by decide +kernel
theorem dX4_place_72 : decode cX4_place 72 = .ok (.iconst 0, 1) := by decide +kernel
theorem dX4_place_73 : decode cX4_place 73 = .ok (.ireturn, 1) := by decide +kernel
theorem dX4_meetsFoe_0 : decode cX4_meetsFoe 0 = .ok (.iconst 0, 1) := by decide +kernel
theorem dX4_meetsFoe_1 : decode cX4_meetsFoe 1 = .ok (.istore_n 3, 1) := by decide +kernel
theorem dX4_meetsFoe_2 : decode cX4_meetsFoe 2 = .ok (.iload_n 3, 1) := by decide +kernel
theorem dX4_meetsFoe_3 : decode cX4_meetsFoe 3 = .ok (.iload_n 2, 1) := by decide +kernel
theorem dX4_meetsFoe_4 : decode cX4_meetsFoe 4 = .ok (.if_icmp .ge 39, 3) := by decide +kernel
theorem dX4_meetsFoe_7 : decode cX4_meetsFoe 7 = .ok (.aload_n 0, 1) := by decide +kernel
theorem dX4_meetsFoe_8 : decode cX4_meetsFoe 8 = .ok (.getfield 9, 3) := by decide +kernel
theorem dX4_meetsFoe_11 : decode cX4_meetsFoe 11 = .ok (.iload_n 3, 1) := by decide +kernel
theorem dX4_meetsFoe_12 : decode cX4_meetsFoe 12 = .ok (.iaload, 1) := by decide +kernel
theorem dX4_meetsFoe_13 : decode cX4_meetsFoe 13 = .ok (.aload_n 0, 1) := by decide +kernel
theorem dX4_meetsFoe_14 : decode cX4_meetsFoe 14 = .ok (.getfield 9, 3) := by decide +kernel
theorem dX4_meetsFoe_17 : decode cX4_meetsFoe 17 = .ok (.iload_n 2, 1) := by decide +kernel
theorem dX4_meetsFoe_18 : decode cX4_meetsFoe 18 = .ok (.iaload, 1) := by decide +kernel
theorem dX4_meetsFoe_19 : decode cX4_meetsFoe 19 = .ok (.if_icmp .ne 18, 3) := by decide +kernel
theorem dX4_meetsFoe_22 : decode cX4_meetsFoe 22 = .ok (.aload_n 1, 1) := by decide +kernel
theorem dX4_meetsFoe_23 : decode cX4_meetsFoe 23 = .ok (.getfield 73, 3) := by decide +kernel
theorem dX4_meetsFoe_26 : decode cX4_meetsFoe 26 = .ok (.iload_n 2, 1) := by decide +kernel
theorem dX4_meetsFoe_27 : decode cX4_meetsFoe 27 = .ok (.iaload, 1) := by decide +kernel
theorem dX4_meetsFoe_28 : decode cX4_meetsFoe 28 = .ok (.iload_n 3, 1) := by decide +kernel
theorem dX4_meetsFoe_29 : decode cX4_meetsFoe 29 = .ok (.ishr, 1) := by decide +kernel
theorem dX4_meetsFoe_30 : decode cX4_meetsFoe 30 = .ok (.iconst 1, 1) := by decide +kernel
theorem dX4_meetsFoe_31 : decode cX4_meetsFoe 31 = .ok (.iand, 1) := by decide +kernel
theorem dX4_meetsFoe_32 : decode cX4_meetsFoe 32 = .ok (.ifCond .eq 5, 3) := by decide +kernel
theorem dX4_meetsFoe_35 : decode cX4_meetsFoe 35 = .ok (.iconst 1, 1) := by decide +kernel
theorem dX4_meetsFoe_36 : decode cX4_meetsFoe 36 = .ok (.ireturn, 1) := by decide +kernel
theorem dX4_meetsFoe_37 : decode cX4_meetsFoe 37 = .ok (.iinc 3 1, 3) := by decide +kernel
theorem dX4_meetsFoe_40 : decode cX4_meetsFoe 40 = .ok (.goto (-38), 3) := by decide +kernel
theorem dX4_meetsFoe_43 : decode cX4_meetsFoe 43 = .ok (.iconst 0, 1) := by decide +kernel
theorem dX4_meetsFoe_44 : decode cX4_meetsFoe 44 = .ok (.ireturn, 1) := by decide +kernel
theorem dX5_init_0 : decode cX5_init 0 = .ok (.aload_n 0, 1) := by decide +kernel
theorem dX5_init_1 : decode cX5_init 1 = .ok (.invokespecial 3, 3) := by decide +kernel
theorem dX5_init_4 : decode cX5_init 4 = .ok (.aload_n 0, 1) := by decide +kernel
theorem dX5_init_5 : decode cX5_init 5 = .ok (.new 9, 3) := by decide +kernel
theorem dX5_init_8 : decode cX5_init 8 = .ok (.dup, 1) := by decide +kernel
theorem dX5_init_9 : decode cX5_init 9 = .ok (.invokespecial 11, 3) := by decide +kernel
theorem dX5_init_12 : decode cX5_init 12 = .ok (.putfield 12, 3) := by decide +kernel
theorem dX5_init_15 : decode cX5_init 15 = .ok (.aload_n 0, 1) := by decide +kernel
theorem dX5_init_16 : decode cX5_init 16 = .ok (.new 18, 3) := by decide +kernel
theorem dX5_init_19 : decode cX5_init 19 = .ok (.dup, 1) := by decide +kernel
theorem dX5_init_20 : decode cX5_init 20 = .ok (.invokespecial 20, 3) := by decide +kernel
theorem dX5_init_23 : decode cX5_init 23 = .ok (.putfield 21, 3) := by decide +kernel
theorem dX5_init_26 : decode cX5_init 26 = .ok (.aload_n 0, 1) := by decide +kernel
theorem dX5_init_27 : decode cX5_init 27 = .ok (.bipush 6, 2) := by decide +kernel
theorem dX5_init_29 : decode cX5_init 29 = .ok (.newarray .int, 2) := by decide +kernel
theorem dX5_init_31 : decode cX5_init 31 = .ok (.putfield 25, 3) := by decide +kernel
theorem dX5_init_34 : decode cX5_init 34 = .ok (.aload_n 0, 1) := by decide +kernel
theorem dX5_init_35 : decode cX5_init 35 = .ok (.bipush 6, 2) := by decide +kernel
theorem dX5_init_37 : decode cX5_init 37 = .ok (.newarray .int, 2) := by decide +kernel
theorem dX5_init_39 : decode cX5_init 39 = .ok (.putfield 29, 3) := by decide +kernel
theorem dX5_init_42 : decode cX5_init 42 = .ok (.aload_n 0, 1) := by decide +kernel
theorem dX5_init_43 : decode cX5_init 43 = .ok (.sipush 1792, 3) := by decide +kernel
theorem dX5_init_46 : decode cX5_init 46 = .ok (.newarray .int, 2) := by decide +kernel
theorem dX5_init_48 : decode cX5_init 48 = .ok (.putfield 32, 3) := by decide +kernel
theorem dX5_init_51 : decode cX5_init 51 = .ok (.return_, 1) := by decide +kernel
theorem dX5_search_0 : decode cX5_search 0 = .ok (.aload_n 0, 1) := by decide +kernel
theorem dX5_search_1 : decode cX5_search 1 = .ok (.iconst 1, 1) := by decide +kernel
theorem dX5_search_2 : decode cX5_search 2 = .ok (.putfield 35, 3) := by decide +kernel
theorem dX5_search_5 : decode cX5_search 5 = .ok (.aload_n 0, 1) := by decide +kernel
theorem dX5_search_6 : decode cX5_search 6 = .ok (.iconst 0, 1) := by decide +kernel
theorem dX5_search_7 : decode cX5_search 7 = .ok (.putfield 39, 3) := by decide +kernel
theorem dX5_search_10 : decode cX5_search 10 = .ok (.aload_n 0, 1) := by decide +kernel
theorem dX5_search_11 : decode cX5_search 11 = .ok (.getfield 21, 3) := by decide +kernel
theorem dX5_search_14 : decode cX5_search 14 = .ok (.aload_n 2, 1) := by decide +kernel
theorem dX5_search_15 : decode cX5_search 15 = .ok (.invokevirtual 42, 3) := by decide +kernel
theorem dX5_search_18 : decode cX5_search 18 = .ok (.iconst 0, 1) := by decide +kernel
theorem dX5_search_19 : decode cX5_search 19 = .ok (.istore_n 3, 1) := by decide +kernel
theorem dX5_search_20 : decode cX5_search 20 = .ok (.iload_n 3, 1) := by decide +kernel
theorem dX5_search_21 : decode cX5_search 21 = .ok (.bipush 6, 2) := by decide +kernel
theorem dX5_search_23 : decode cX5_search 23 = .ok (.if_icmp .ge 16, 3) := by decide +kernel
theorem dX5_search_26 : decode cX5_search 26 = .ok (.aload_n 0, 1) := by decide +kernel
theorem dX5_search_27 : decode cX5_search 27 = .ok (.getfield 29, 3) := by decide +kernel
theorem dX5_search_30 : decode cX5_search 30 = .ok (.iload_n 3, 1) := by decide +kernel
theorem dX5_search_31 : decode cX5_search 31 = .ok (.iconst 0, 1) := by decide +kernel
theorem dX5_search_32 : decode cX5_search 32 = .ok (.iastore, 1) := by decide +kernel
theorem dX5_search_33 : decode cX5_search 33 = .ok (.iinc 3 1, 3) := by decide +kernel
theorem dX5_search_36 : decode cX5_search 36 = .ok (.goto (-16), 3) := by decide +kernel
theorem dX5_search_39 : decode cX5_search 39 = .ok (.iconst 0, 1) := by decide +kernel
theorem dX5_search_40 : decode cX5_search 40 = .ok (.istore_n 3, 1) := by decide +kernel
theorem dX5_search_41 : decode cX5_search 41 = .ok (.iload_n 3, 1) := by decide +kernel
theorem dX5_search_42 : decode cX5_search 42 = .ok (.iconst 4, 1) := by decide +kernel
theorem dX5_search_43 : decode cX5_search 43 = .ok (.if_icmp .ge 15, 3) := by decide +kernel
theorem dX5_search_46 : decode cX5_search 46 = .ok (.aload_n 0, 1) := by decide +kernel
theorem dX5_search_47 : decode cX5_search 47 = .ok (.aload_n 1, 1) := by decide +kernel
theorem dX5_search_48 : decode cX5_search 48 = .ok (.iload_n 3, 1) := by decide +kernel
theorem dX5_search_49 : decode cX5_search 49 = .ok (.invokevirtual 46, 3) := by decide +kernel
theorem dX5_search_52 : decode cX5_search 52 = .ok (.iinc 3 1, 3) := by decide +kernel
theorem dX5_search_55 : decode cX5_search 55 = .ok (.goto (-14), 3) := by decide +kernel
theorem dX5_search_58 : decode cX5_search 58 = .ok (.aload_n 0, 1) := by decide +kernel
theorem dX5_search_59 : decode cX5_search 59 = .ok (.aload_n 1, 1) := by decide +kernel
theorem dX5_search_60 : decode cX5_search 60 = .ok (.iconst 0, 1) := by decide +kernel
theorem dX5_search_61 : decode cX5_search 61 = .ok (.invokevirtual 50, 3) := by decide +kernel
theorem dX5_search_64 : decode cX5_search 64 = .ok (.return_, 1) := by decide +kernel
theorem dX5_spot_0 : decode cX5_spot 0 = .ok (.iload_n 0, 1) := by decide +kernel
theorem dX5_spot_1 : decode cX5_spot 1 = .ok (.iconst 4, 1) := by decide +kernel
theorem dX5_spot_2 : decode cX5_spot 2 = .ok (.imul, 1) := by decide +kernel
theorem dX5_spot_3 : decode cX5_spot 3 = .ok (.iload_n 1, 1) := by decide +kernel
theorem dX5_spot_4 : decode cX5_spot 4 = .ok (.iadd, 1) := by decide +kernel
theorem dX5_spot_5 : decode cX5_spot 5 = .ok (.bipush 64, 2) := by decide +kernel
theorem dX5_spot_7 : decode cX5_spot 7 = .ok (.imul, 1) := by decide +kernel
theorem dX5_spot_8 : decode cX5_spot 8 = .ok (.iload_n 2, 1) := by decide +kernel
theorem dX5_spot_9 : decode cX5_spot 9 = .ok (.iadd, 1) := by decide +kernel
theorem dX5_spot_10 : decode cX5_spot 10 = .ok (.ireturn, 1) := by decide +kernel
theorem dX5_weighCrowds_0 : decode cX5_weighCrowds 0 = .ok (.iconst 0, 1) := by decide +kernel
theorem dX5_weighCrowds_1 : decode cX5_weighCrowds 1 = .ok (.istore_n 3, 1) := by decide +kernel
theorem dX5_weighCrowds_2 : decode cX5_weighCrowds 2 = .ok (.iload_n 3, 1) := by decide +kernel
theorem dX5_weighCrowds_3 : decode cX5_weighCrowds 3 = .ok (.iconst 1, 1) := by decide +kernel
theorem dX5_weighCrowds_4 : decode cX5_weighCrowds 4 = .ok (.aload_n 1, 1) := by decide +kernel
theorem dX5_weighCrowds_5 : decode cX5_weighCrowds 5 = .ok (.getfield 53, 3) := by decide +kernel
theorem dX5_weighCrowds_8 : decode cX5_weighCrowds 8 = .ok (.ishl, 1) := by decide +kernel
theorem dX5_weighCrowds_9 : decode cX5_weighCrowds 9 = .ok (.if_icmp .ge 30, 3) := by decide +kernel
theorem dX5_weighCrowds_12 : decode cX5_weighCrowds 12 = .ok (.aload_n 0, 1) := by decide +kernel
theorem dX5_weighCrowds_13 : decode cX5_weighCrowds 13 = .ok (.getfield 32, 3) := by decide +kernel
theorem dX5_weighCrowds_16 : decode cX5_weighCrowds 16 = .ok (.aload_n 1, 1) := by decide +kernel
theorem dX5_weighCrowds_17 : decode cX5_weighCrowds 17 = .ok (.getfield 53, 3) := by decide +kernel
theorem dX5_weighCrowds_20 : decode cX5_weighCrowds 20 = .ok (.iload_n 2, 1) := by decide +kernel
theorem dX5_weighCrowds_21 : decode cX5_weighCrowds 21 = .ok (.iload_n 3, 1) := by decide +kernel
theorem dX5_weighCrowds_22 : decode cX5_weighCrowds 22 = .ok (.invokestatic 59, 3) := by decide +kernel
theorem dX5_weighCrowds_25 : decode cX5_weighCrowds 25 = .ok (.aload_n 0, 1) := by decide +kernel
theorem dX5_weighCrowds_26 : decode cX5_weighCrowds 26 = .ok (.aload_n 1, 1) := by decide +kernel
theorem dX5_weighCrowds_27 : decode cX5_weighCrowds 27 = .ok (.iload_n 2, 1) := by decide +kernel
theorem dX5_weighCrowds_28 : decode cX5_weighCrowds 28 = .ok (.iload_n 3, 1) := by decide +kernel
theorem dX5_weighCrowds_29 : decode cX5_weighCrowds 29 = .ok (.invokevirtual 63, 3) := by decide +kernel
theorem dX5_weighCrowds_32 : decode cX5_weighCrowds 32 = .ok (.iastore, 1) := by decide +kernel
theorem dX5_weighCrowds_33 : decode cX5_weighCrowds 33 = .ok (.iinc 3 1, 3) := by decide +kernel
theorem dX5_weighCrowds_36 : decode cX5_weighCrowds 36 = .ok (.goto (-34), 3) := by decide +kernel
theorem dX5_weighCrowds_39 : decode cX5_weighCrowds 39 = .ok (.aload_n 1, 1) := by decide +kernel
theorem dX5_weighCrowds_40 : decode cX5_weighCrowds 40 = .ok (.getfield 53, 3) := by decide +kernel
theorem dX5_weighCrowds_43 : decode cX5_weighCrowds 43 = .ok (.iconst 1, 1) := by decide +kernel
theorem dX5_weighCrowds_44 : decode cX5_weighCrowds 44 = .ok (.isub, 1) := by decide +kernel
theorem dX5_weighCrowds_45 : decode cX5_weighCrowds 45 = .ok (.istore_n 3, 1) := by decide +kernel
theorem dX5_weighCrowds_46 : decode cX5_weighCrowds 46 = .ok (.iload_n 3, 1) := by decide +kernel
theorem dX5_weighCrowds_47 : decode cX5_weighCrowds 47 = .ok (.ifCond .lt 81, 3) := by decide +kernel
theorem dX5_weighCrowds_50 : decode cX5_weighCrowds 50 = .ok (.iconst 0, 1) := by decide +kernel
theorem dX5_weighCrowds_51 : decode cX5_weighCrowds 51 = .ok (.istore 4, 2) := by decide +kernel
theorem dX5_weighCrowds_53 : decode cX5_weighCrowds 53 = .ok (.iload 4, 2) := by decide +kernel
theorem dX5_weighCrowds_55 : decode cX5_weighCrowds 55 = .ok (.iconst 1, 1) := by decide +kernel
theorem dX5_weighCrowds_56 : decode cX5_weighCrowds 56 = .ok (.iload_n 3, 1) := by decide +kernel
theorem dX5_weighCrowds_57 : decode cX5_weighCrowds 57 = .ok (.ishl, 1) := by decide +kernel
theorem dX5_weighCrowds_58 : decode cX5_weighCrowds 58 = .ok (.if_icmp .ge 64, 3) := by decide +kernel
theorem dX5_weighCrowds_61 : decode cX5_weighCrowds 61 = .ok (.aload_n 0, 1) := by decide +kernel
theorem dX5_weighCrowds_62 : decode cX5_weighCrowds 62 = .ok (.getfield 32, 3) := by decide +kernel
theorem dX5_weighCrowds_65 : decode cX5_weighCrowds 65 = .ok (.iload_n 3, 1) := by decide +kernel
theorem dX5_weighCrowds_66 : decode cX5_weighCrowds 66 = .ok (.iconst 1, 1) := by decide +kernel
theorem dX5_weighCrowds_67 : decode cX5_weighCrowds 67 = .ok (.iadd, 1) := by decide +kernel
theorem dX5_weighCrowds_68 : decode cX5_weighCrowds 68 = .ok (.iload_n 2, 1) := by decide +kernel
theorem dX5_weighCrowds_69 : decode cX5_weighCrowds 69 = .ok (.iload 4, 2) := by decide +kernel
theorem dX5_weighCrowds_71 : decode cX5_weighCrowds 71 = .ok (.invokestatic 59, 3) := by decide +kernel
theorem dX5_weighCrowds_74 : decode cX5_weighCrowds 74 = .ok (.iaload, 1) := by decide +kernel
theorem dX5_weighCrowds_75 : decode cX5_weighCrowds 75 = .ok (.istore 5, 2) := by decide +kernel
theorem dX5_weighCrowds_77 : decode cX5_weighCrowds 77 = .ok (.aload_n 0, 1) := by decide +kernel
theorem dX5_weighCrowds_78 : decode cX5_weighCrowds 78 = .ok (.getfield 32, 3) := by decide +kernel
theorem dX5_weighCrowds_81 : decode cX5_weighCrowds 81 = .ok (.iload_n 3, 1) := by decide +kernel
theorem dX5_weighCrowds_82 : decode cX5_weighCrowds 82 = .ok (.iconst 1, 1) := by decide +kernel
theorem dX5_weighCrowds_83 : decode cX5_weighCrowds 83 = .ok (.iadd, 1) := by decide +kernel
theorem dX5_weighCrowds_84 : decode cX5_weighCrowds 84 = .ok (.iload_n 2, 1) := by decide +kernel
theorem dX5_weighCrowds_85 : decode cX5_weighCrowds 85 = .ok (.iload 4, 2) := by decide +kernel
theorem dX5_weighCrowds_87 : decode cX5_weighCrowds 87 = .ok (.iconst 1, 1) := by decide +kernel
theorem dX5_weighCrowds_88 : decode cX5_weighCrowds 88 = .ok (.iload_n 3, 1) := by decide +kernel
theorem dX5_weighCrowds_89 : decode cX5_weighCrowds 89 = .ok (.ishl, 1) := by decide +kernel
theorem dX5_weighCrowds_90 : decode cX5_weighCrowds 90 = .ok (.ior, 1) := by decide +kernel
theorem dX5_weighCrowds_91 : decode cX5_weighCrowds 91 = .ok (.invokestatic 59, 3) := by decide +kernel
theorem dX5_weighCrowds_94 : decode cX5_weighCrowds 94 = .ok (.iaload, 1) := by decide +kernel
theorem dX5_weighCrowds_95 : decode cX5_weighCrowds 95 = .ok (.istore 6, 2) := by decide +kernel
theorem dX5_weighCrowds_97 : decode cX5_weighCrowds 97 = .ok (.aload_n 0, 1) := by decide +kernel
theorem dX5_weighCrowds_98 : decode cX5_weighCrowds 98 = .ok (.getfield 32, 3) := by decide +kernel
theorem dX5_weighCrowds_101 : decode cX5_weighCrowds 101 = .ok (.iload_n 3, 1) := by decide +kernel
theorem dX5_weighCrowds_102 : decode cX5_weighCrowds 102 = .ok (.iload_n 2, 1) := by decide +kernel
theorem dX5_weighCrowds_103 : decode cX5_weighCrowds 103 = .ok (.iload 4, 2) := by decide +kernel
theorem dX5_weighCrowds_105 : decode cX5_weighCrowds 105 = .ok (.invokestatic 59, 3) := by decide +kernel
theorem dX5_weighCrowds_108 : decode cX5_weighCrowds 108 = .ok (.iload 5, 2) := by decide +kernel
theorem dX5_weighCrowds_110 : decode cX5_weighCrowds 110 = .ok (.iload 6, 2) := by decide +kernel
theorem dX5_weighCrowds_112 : decode cX5_weighCrowds 112 = .ok (.invokestatic 67, 3) := by decide +kernel
theorem dX5_weighCrowds_115 : decode cX5_weighCrowds 115 = .ok (.iastore, 1) := by decide +kernel
theorem dX5_weighCrowds_116 : decode cX5_weighCrowds 116 = .ok (.iinc 4 1, 3) := by decide +kernel
theorem dX5_weighCrowds_119 : decode cX5_weighCrowds 119 = .ok (.goto (-66), 3) := by decide +kernel
theorem dX5_weighCrowds_122 : decode cX5_weighCrowds 122 = .ok (.iinc 3 (-1), 3) := by decide +kernel
theorem dX5_weighCrowds_125 : decode cX5_weighCrowds 125 = .ok (.goto (-79), 3) := by decide +kernel
theorem dX5_weighCrowds_128 : decode cX5_weighCrowds 128 = .ok (.return_, 1) := by decide +kernel
theorem dX5_worthOf_0 : decode cX5_worthOf 0 = .ok (.iload_n 3, 1) := by decide +kernel
theorem dX5_worthOf_1 : decode cX5_worthOf 1 = .ok (.invokestatic 73, 3) := by decide +kernel
theorem dX5_worthOf_4 : decode cX5_worthOf 4 = .ok (.iconst 1, 1) := by decide +kernel
theorem dX5_worthOf_5 : decode cX5_worthOf 5 = .ok (.isub, 1) := by decide +kernel
theorem dX5_worthOf_6 : decode cX5_worthOf 6 = .ok (.istore 4, 2) := by decide +kernel
theorem dX5_worthOf_8 : decode cX5_worthOf 8 = .ok (.iconst 0, 1) := by decide +kernel
theorem dX5_worthOf_9 : decode cX5_worthOf 9 = .ok (.istore 5, 2) := by decide +kernel
theorem dX5_worthOf_11 : decode cX5_worthOf 11 = .ok (.iconst 0, 1) := by decide +kernel
theorem dX5_worthOf_12 : decode cX5_worthOf 12 = .ok (.istore 6, 2) := by decide +kernel
theorem dX5_worthOf_14 : decode cX5_worthOf 14 = .ok (.iload 6, 2) := by decide +kernel
theorem dX5_worthOf_16 : decode cX5_worthOf 16 = .ok (.aload_n 1, 1) := by decide +kernel
theorem dX5_worthOf_17 : decode cX5_worthOf 17 = .ok (.getfield 53, 3) := by decide +kernel
theorem dX5_worthOf_20 : decode cX5_worthOf 20 = .ok (.if_icmp .ge 55, 3) := by decide +kernel
theorem dX5_worthOf_23 : decode cX5_worthOf 23 = .ok (.iload_n 3, 1) := by decide +kernel
theorem dX5_worthOf_24 : decode cX5_worthOf 24 = .ok (.iload 6, 2) := by decide +kernel
theorem dX5_worthOf_26 : decode cX5_worthOf 26 = .ok (.ishr, 1) := by decide +kernel
theorem dX5_worthOf_27 : decode cX5_worthOf 27 = .ok (.iconst 1, 1) := by decide +kernel
theorem dX5_worthOf_28 : decode cX5_worthOf 28 = .ok (.iand, 1) := by decide +kernel
theorem dX5_worthOf_29 : decode cX5_worthOf 29 = .ok (.ifCond .eq 40, 3) := by decide +kernel
theorem dX5_worthOf_32 : decode cX5_worthOf 32 = .ok (.iload 5, 2) := by decide +kernel
theorem dX5_worthOf_34 : decode cX5_worthOf 34 = .ok (.aload_n 1, 1) := by decide +kernel
theorem dX5_worthOf_35 : decode cX5_worthOf 35 = .ok (.aload_n 1, 1) := by decide +kernel
theorem dX5_worthOf_36 : decode cX5_worthOf 36 = .ok (.getfield 79, 3) := by decide +kernel
theorem dX5_worthOf_39 : decode cX5_worthOf 39 = .ok (.iload 6, 2) := by decide +kernel
theorem dX5_worthOf_41 : decode cX5_worthOf 41 = .ok (.iaload, 1) := by decide +kernel
theorem dX5_worthOf_42 : decode cX5_worthOf 42 = .ok (.iload_n 2, 1) := by decide +kernel
theorem dX5_worthOf_43 : decode cX5_worthOf 43 = .ok (.if_icmp .ne 7, 3) := by decide +kernel
theorem dX5_worthOf_46 : decode cX5_worthOf 46 = .ok (.iconst 1, 1) := by decide +kernel
theorem dX5_worthOf_47 : decode cX5_worthOf 47 = .ok (.goto 4, 3) := by decide +kernel
theorem dX5_worthOf_50 : decode cX5_worthOf 50 = .ok (.iconst 0, 1) := by decide +kernel
theorem dX5_worthOf_51 : decode cX5_worthOf 51 = .ok (.aload_n 0, 1) := by decide +kernel
theorem dX5_worthOf_52 : decode cX5_worthOf 52 = .ok (.getfield 21, 3) := by decide +kernel
theorem dX5_worthOf_55 : decode cX5_worthOf 55 = .ok (.getfield 82, 3) := by decide +kernel
theorem dX5_worthOf_58 : decode cX5_worthOf 58 = .ok (.iload 6, 2) := by decide +kernel
theorem dX5_worthOf_60 : decode cX5_worthOf 60 = .ok (.iaload, 1) := by decide +kernel
theorem dX5_worthOf_61 : decode cX5_worthOf 61 = .ok (.iload 4, 2) := by decide +kernel
theorem dX5_worthOf_63 : decode cX5_worthOf 63 = .ok (.invokevirtual 85, 3) := by decide +kernel
theorem dX5_worthOf_66 : decode cX5_worthOf 66 = .ok (.iadd, 1) := by decide +kernel
theorem dX5_worthOf_67 : decode cX5_worthOf 67 = .ok (.istore 5, 2) := by decide +kernel
theorem dX5_worthOf_69 : decode cX5_worthOf 69 = .ok (.iinc 6 1, 3) := by decide +kernel
theorem dX5_worthOf_72 : decode cX5_worthOf 72 = .ok (.goto (-58), 3) := by decide +kernel
theorem dX5_worthOf_75 : decode cX5_worthOf 75 = .ok (.iload 5, 2) := by decide +kernel
theorem dX5_worthOf_77 : decode cX5_worthOf 77 = .ok (.ireturn, 1) := by decide +kernel
theorem dX5_place_0 : decode cX5_place 0 = .ok (.aload_n 0, 1) := by decide +kernel
theorem dX5_place_1 : decode cX5_place 1 = .ok (.getfield 39, 3) := by decide +kernel
theorem dX5_place_4 : decode cX5_place 4 = .ok (.ifCond .eq 17, 3) := by decide +kernel
theorem dX5_place_7 : decode cX5_place 7 = .ok (.aload_n 0, 1) := by decide +kernel
theorem dX5_place_8 : decode cX5_place 8 = .ok (.aload_n 0, 1) := by decide +kernel
theorem dX5_place_9 : decode cX5_place 9 = .ok (.aload_n 1, 1) := by decide +kernel
theorem dX5_place_10 : decode cX5_place 10 = .ok (.iload_n 2, 1) := by decide +kernel
theorem dX5_place_11 : decode cX5_place 11 = .ok (.invokevirtual 88, 3) := by decide +kernel
theorem dX5_place_14 : decode cX5_place 14 = .ok (.invokevirtual 92, 3) := by decide +kernel
theorem dX5_place_17 : decode cX5_place 17 = .ok (.ifCond .ne 4, 3) := by decide +kernel
theorem dX5_place_20 : decode cX5_place 20 = .ok (.return_, 1) := by decide +kernel
theorem dX5_place_21 : decode cX5_place 21 = .ok (.iload_n 2, 1) := by decide +kernel
theorem dX5_place_22 : decode cX5_place 22 = .ok (.aload_n 1, 1) := by decide +kernel
theorem dX5_place_23 : decode cX5_place 23 = .ok (.getfield 53, 3) := by decide +kernel
theorem dX5_place_26 : decode cX5_place 26 = .ok (.if_icmp .lt 9, 3) := by decide +kernel
theorem dX5_place_29 : decode cX5_place 29 = .ok (.aload_n 0, 1) := by decide +kernel
theorem dX5_place_30 : decode cX5_place 30 = .ok (.aload_n 1, 1) := by decide +kernel
theorem dX5_place_31 : decode cX5_place 31 = .ok (.invokevirtual 96, 3) := by decide +kernel
theorem dX5_place_34 : decode cX5_place 34 = .ok (.return_, 1) := by decide +kernel
theorem dX5_place_35 : decode cX5_place 35 = .ok (.iconst 0, 1) := by decide +kernel
theorem dX5_place_36 : decode cX5_place 36 = .ok (.istore_n 3, 1) := by decide +kernel
theorem dX5_place_37 : decode cX5_place 37 = .ok (.iload_n 3, 1) := by decide +kernel
theorem dX5_place_38 : decode cX5_place 38 = .ok (.aload_n 1, 1) := by decide +kernel
theorem dX5_place_39 : decode cX5_place 39 = .ok (.getfield 100, 3) := by decide +kernel
theorem dX5_place_42 : decode cX5_place 42 = .ok (.if_icmp .ge 69, 3) := by decide +kernel
theorem dX5_place_45 : decode cX5_place 45 = .ok (.aload_n 0, 1) := by decide +kernel
theorem dX5_place_46 : decode cX5_place 46 = .ok (.getfield 29, 3) := by decide +kernel
theorem dX5_place_49 : decode cX5_place 49 = .ok (.iload_n 3, 1) := by decide +kernel
theorem dX5_place_50 : decode cX5_place 50 = .ok (.iaload, 1) := by decide +kernel
theorem dX5_place_51 : decode cX5_place 51 = .ok (.aload_n 1, 1) := by decide +kernel
theorem dX5_place_52 : decode cX5_place 52 = .ok (.getfield 103, 3) := by decide +kernel
theorem dX5_place_55 : decode cX5_place 55 = .ok (.iload_n 2, 1) := by decide +kernel
theorem dX5_place_56 : decode cX5_place 56 = .ok (.iaload, 1) := by decide +kernel
theorem dX5_place_57 : decode cX5_place 57 = .ok (.iand, 1) := by decide +kernel
theorem dX5_place_58 : decode cX5_place 58 = .ok (.ifCond .ne 47, 3) := by decide +kernel
theorem dX5_place_61 : decode cX5_place 61 = .ok (.aload_n 0, 1) := by decide +kernel
theorem dX5_place_62 : decode cX5_place 62 = .ok (.getfield 21, 3) := by decide +kernel
theorem dX5_place_65 : decode cX5_place 65 = .ok (.getfield 106, 3) := by decide +kernel
theorem dX5_place_68 : decode cX5_place 68 = .ok (.iload_n 2, 1) := by decide +kernel
theorem dX5_place_69 : decode cX5_place 69 = .ok (.iload_n 3, 1) := by decide +kernel
theorem dX5_place_70 : decode cX5_place 70 = .ok (.iastore, 1) := by decide +kernel
theorem dX5_place_71 : decode cX5_place 71 = .ok (.aload_n 0, 1) := by decide +kernel
theorem dX5_place_72 : decode cX5_place 72 = .ok (.getfield 29, 3) := by decide +kernel
theorem dX5_place_75 : decode cX5_place 75 = .ok (.iload_n 3, 1) := by decide +kernel
theorem dX5_place_76 : decode cX5_place 76 = .ok (.dup2, 1) := by decide +kernel
theorem dX5_place_77 : decode cX5_place 77 = .ok (.iaload, 1) := by decide +kernel
theorem dX5_place_78 : decode cX5_place 78 = .ok (.iconst 1, 1) := by decide +kernel
theorem dX5_place_79 : decode cX5_place 79 = .ok (.iload_n 2, 1) := by decide +kernel
theorem dX5_place_80 : decode cX5_place 80 = .ok (.ishl, 1) := by decide +kernel
theorem dX5_place_81 : decode cX5_place 81 = .ok (.ior, 1) := by decide +kernel
theorem dX5_place_82 : decode cX5_place 82 = .ok (.iastore, 1) := by decide +kernel
theorem dX5_place_83 : decode cX5_place 83 = .ok (.aload_n 0, 1) := by decide +kernel
theorem dX5_place_84 : decode cX5_place 84 = .ok (.aload_n 1, 1) := by decide +kernel
theorem dX5_place_85 : decode cX5_place 85 = .ok (.iload_n 2, 1) := by decide +kernel
theorem dX5_place_86 : decode cX5_place 86 = .ok (.iconst 1, 1) := by decide +kernel
theorem dX5_place_87 : decode cX5_place 87 = .ok (.iadd, 1) := by decide +kernel
theorem dX5_place_88 : decode cX5_place 88 = .ok (.invokevirtual 50, 3) := by decide +kernel
theorem dX5_place_91 : decode cX5_place 91 = .ok (.aload_n 0, 1) := by decide +kernel
theorem dX5_place_92 : decode cX5_place 92 = .ok (.getfield 29, 3) := by decide +kernel
theorem dX5_place_95 : decode cX5_place 95 = .ok (.iload_n 3, 1) := by decide +kernel
theorem dX5_place_96 : decode cX5_place 96 = .ok (.dup2, 1) := by decide +kernel
theorem dX5_place_97 : decode cX5_place 97 = .ok (.iaload, 1) := by decide +kernel
theorem dX5_place_98 : decode cX5_place 98 = .ok (.iconst 1, 1) := by decide +kernel
theorem dX5_place_99 : decode cX5_place 99 = .ok (.iload_n 2, 1) := by decide +kernel
theorem dX5_place_100 : decode cX5_place 100 = .ok (.ishl, 1) := by decide +kernel
theorem dX5_place_101 : decode cX5_place 101 = .ok (.iconst (-1), 1) := by decide +kernel
theorem dX5_place_102 : decode cX5_place 102 = .ok (.ixor, 1) := by decide +kernel
theorem dX5_place_103 : decode cX5_place 103 = .ok (.iand, 1) := by decide +kernel
theorem dX5_place_104 : decode cX5_place 104 = .ok (.iastore, 1) := by decide +kernel
theorem dX5_place_105 : decode cX5_place 105 = .ok (.iinc 3 1, 3) := by decide +kernel
theorem dX5_place_108 : decode cX5_place 108 = .ok (.goto (-71), 3) := by decide +kernel
theorem dX5_place_111 : decode cX5_place 111 = .ok (.return_, 1) := by decide +kernel
theorem dX5_hope_0 : decode cX5_hope 0 = .ok (.iconst 0, 1) := by decide +kernel
theorem dX5_hope_1 : decode cX5_hope 1 = .ok (.istore_n 3, 1) := by decide +kernel
theorem dX5_hope_2 : decode cX5_hope 2 = .ok (.iconst 0, 1) := by decide +kernel
theorem dX5_hope_3 : decode cX5_hope 3 = .ok (.istore 4, 2) := by decide +kernel
theorem dX5_hope_5 : decode cX5_hope 5 = .ok (.iload 4, 2) := by decide +kernel
theorem dX5_hope_7 : decode cX5_hope 7 = .ok (.aload_n 1, 1) := by decide +kernel
theorem dX5_hope_8 : decode cX5_hope 8 = .ok (.getfield 109, 3) := by decide +kernel
theorem dX5_hope_11 : decode cX5_hope 11 = .ok (.if_icmp .ge 88, 3) := by decide +kernel
theorem dX5_hope_14 : decode cX5_hope 14 = .ok (.iconst 0, 1) := by decide +kernel
theorem dX5_hope_15 : decode cX5_hope 15 = .ok (.istore 5, 2) := by decide +kernel
theorem dX5_hope_17 : decode cX5_hope 17 = .ok (.iconst 0, 1) := by decide +kernel
theorem dX5_hope_18 : decode cX5_hope 18 = .ok (.istore 6, 2) := by decide +kernel
theorem dX5_hope_20 : decode cX5_hope 20 = .ok (.iload 6, 2) := by decide +kernel
theorem dX5_hope_22 : decode cX5_hope 22 = .ok (.aload_n 1, 1) := by decide +kernel
theorem dX5_hope_23 : decode cX5_hope 23 = .ok (.getfield 100, 3) := by decide +kernel
theorem dX5_hope_26 : decode cX5_hope 26 = .ok (.if_icmp .ge 49, 3) := by decide +kernel
theorem dX5_hope_29 : decode cX5_hope 29 = .ok (.aload_n 1, 1) := by decide +kernel
theorem dX5_hope_30 : decode cX5_hope 30 = .ok (.getfield 112, 3) := by decide +kernel
theorem dX5_hope_33 : decode cX5_hope 33 = .ok (.iload 6, 2) := by decide +kernel
theorem dX5_hope_35 : decode cX5_hope 35 = .ok (.iaload, 1) := by decide +kernel
theorem dX5_hope_36 : decode cX5_hope 36 = .ok (.ifCond .le 33, 3) := by decide +kernel
theorem dX5_hope_39 : decode cX5_hope 39 = .ok (.iload 5, 2) := by decide +kernel
theorem dX5_hope_41 : decode cX5_hope 41 = .ok (.aload_n 0, 1) := by decide +kernel
theorem dX5_hope_42 : decode cX5_hope 42 = .ok (.getfield 32, 3) := by decide +kernel
theorem dX5_hope_45 : decode cX5_hope 45 = .ok (.iload_n 2, 1) := by decide +kernel
theorem dX5_hope_46 : decode cX5_hope 46 = .ok (.aload_n 1, 1) := by decide +kernel
theorem dX5_hope_47 : decode cX5_hope 47 = .ok (.getfield 115, 3) := by decide +kernel
theorem dX5_hope_50 : decode cX5_hope 50 = .ok (.iload 4, 2) := by decide +kernel
theorem dX5_hope_52 : decode cX5_hope 52 = .ok (.iaload, 1) := by decide +kernel
theorem dX5_hope_53 : decode cX5_hope 53 = .ok (.aload_n 0, 1) := by decide +kernel
theorem dX5_hope_54 : decode cX5_hope 54 = .ok (.getfield 29, 3) := by decide +kernel
theorem dX5_hope_57 : decode cX5_hope 57 = .ok (.iload 6, 2) := by decide +kernel
theorem dX5_hope_59 : decode cX5_hope 59 = .ok (.iaload, 1) := by decide +kernel
theorem dX5_hope_60 : decode cX5_hope 60 = .ok (.invokestatic 59, 3) := by decide +kernel
theorem dX5_hope_63 : decode cX5_hope 63 = .ok (.iaload, 1) := by decide +kernel
theorem dX5_hope_64 : decode cX5_hope 64 = .ok (.invokestatic 67, 3) := by decide +kernel
theorem dX5_hope_67 : decode cX5_hope 67 = .ok (.istore 5, 2) := by decide +kernel
theorem dX5_hope_69 : decode cX5_hope 69 = .ok (.iinc 6 1, 3) := by decide +kernel
theorem dX5_hope_72 : decode cX5_hope 72 = .ok (.goto (-52), 3) := by decide +kernel
theorem dX5_hope_75 : decode cX5_hope 75 = .ok (.iload_n 3, 1) := by decide +kernel
theorem dX5_hope_76 : decode cX5_hope 76 = .ok (.iload 5, 2) := by decide +kernel
theorem dX5_hope_78 : decode cX5_hope 78 = .ok (.aload_n 0, 1) := by decide +kernel
theorem dX5_hope_79 : decode cX5_hope 79 = .ok (.getfield 21, 3) := by decide +kernel
theorem dX5_hope_82 : decode cX5_hope 82 = .ok (.getfield 118, 3) := by decide +kernel
theorem dX5_hope_85 : decode cX5_hope 85 = .ok (.iload 4, 2) := by decide +kernel
theorem dX5_hope_87 : decode cX5_hope 87 = .ok (.iaload, 1) := by decide +kernel
theorem dX5_hope_88 : decode cX5_hope 88 = .ok (.invokestatic 121, 3) := by decide +kernel
theorem dX5_hope_91 : decode cX5_hope 91 = .ok (.iadd, 1) := by decide +kernel
theorem dX5_hope_92 : decode cX5_hope 92 = .ok (.istore_n 3, 1) := by decide +kernel
theorem dX5_hope_93 : decode cX5_hope 93 = .ok (.iinc 4 1, 3) := by decide +kernel
theorem dX5_hope_96 : decode cX5_hope 96 = .ok (.goto (-91), 3) := by decide +kernel
theorem dX5_hope_99 : decode cX5_hope 99 = .ok (.iload_n 3, 1) := by decide +kernel
theorem dX5_hope_100 : decode cX5_hope 100 = .ok (.ireturn, 1) := by decide +kernel
theorem dX5_canBeat_0 : decode cX5_canBeat 0 = .ok (.iload_n 1, 1) := by decide +kernel
theorem dX5_canBeat_1 : decode cX5_canBeat 1 = .ok (.aload_n 0, 1) := by decide +kernel
theorem dX5_canBeat_2 : decode cX5_canBeat 2 = .ok (.getfield 124, 3) := by decide +kernel
theorem dX5_canBeat_5 : decode cX5_canBeat 5 = .ok (.if_icmp .gt 18, 3) := by decide +kernel
theorem dX5_canBeat_8 : decode cX5_canBeat 8 = .ok (.iload_n 1, 1) := by decide +kernel
theorem dX5_canBeat_9 : decode cX5_canBeat 9 = .ok (.aload_n 0, 1) := by decide +kernel
theorem dX5_canBeat_10 : decode cX5_canBeat 10 = .ok (.getfield 124, 3) := by decide +kernel
theorem dX5_canBeat_13 : decode cX5_canBeat 13 = .ok (.if_icmp .ne 14, 3) := by decide +kernel
theorem dX5_canBeat_16 : decode cX5_canBeat 16 = .ok (.aload_n 0, 1) := by decide +kernel
theorem dX5_canBeat_17 : decode cX5_canBeat 17 = .ok (.getfield 127, 3) := by decide +kernel
theorem dX5_canBeat_20 : decode cX5_canBeat 20 = .ok (.ifCond .le 7, 3) := by decide +kernel
theorem dX5_canBeat_23 : decode cX5_canBeat 23 = .ok (.iconst 1, 1) := by decide +kernel
theorem dX5_canBeat_24 : decode cX5_canBeat 24 = .ok (.goto 4, 3) := by decide +kernel
theorem dX5_canBeat_27 : decode cX5_canBeat 27 = .ok (.iconst 0, 1) := by decide +kernel
theorem dX5_canBeat_28 : decode cX5_canBeat 28 = .ok (.ireturn, 1) := by decide +kernel
theorem dX5_judge_0 : decode cX5_judge 0 = .ok (.aload_n 0, 1) := by decide +kernel
theorem dX5_judge_1 : decode cX5_judge 1 = .ok (.getfield 12, 3) := by decide +kernel
theorem dX5_judge_4 : decode cX5_judge 4 = .ok (.aload_n 1, 1) := by decide +kernel
theorem dX5_judge_5 : decode cX5_judge 5 = .ok (.aload_n 0, 1) := by decide +kernel
theorem dX5_judge_6 : decode cX5_judge 6 = .ok (.getfield 21, 3) := by decide +kernel
theorem dX5_judge_9 : decode cX5_judge 9 = .ok (.iconst 1, 1) := by decide +kernel
theorem dX5_judge_10 : decode cX5_judge 10 = .ok (.invokevirtual 130, 3) := by decide +kernel
theorem dX5_judge_13 : decode cX5_judge 13 = .ok (.aload_n 0, 1) := by decide +kernel
theorem dX5_judge_14 : decode cX5_judge 14 = .ok (.getfield 12, 3) := by decide +kernel
theorem dX5_judge_17 : decode cX5_judge 17 = .ok (.aload_n 1, 1) := by decide +kernel
theorem dX5_judge_18 : decode cX5_judge 18 = .ok (.getfield 53, 3) := by decide +kernel
theorem dX5_judge_21 : decode cX5_judge 21 = .ok (.invokevirtual 134, 3) := by decide +kernel
theorem dX5_judge_24 : decode cX5_judge 24 = .ok (.istore_n 2, 1) := by decide +kernel
theorem dX5_judge_25 : decode cX5_judge 25 = .ok (.aload_n 0, 1) := by decide +kernel
theorem dX5_judge_26 : decode cX5_judge 26 = .ok (.getfield 39, 3) := by decide +kernel
theorem dX5_judge_29 : decode cX5_judge 29 = .ok (.ifCond .eq 39, 3) := by decide +kernel
theorem dX5_judge_32 : decode cX5_judge 32 = .ok (.aload_n 0, 1) := by decide +kernel
theorem dX5_judge_33 : decode cX5_judge 33 = .ok (.getfield 12, 3) := by decide +kernel
theorem dX5_judge_36 : decode cX5_judge 36 = .ok (.getfield 137, 3) := by decide +kernel
theorem dX5_judge_39 : decode cX5_judge 39 = .ok (.aload_n 0, 1) := by decide +kernel
theorem dX5_judge_40 : decode cX5_judge 40 = .ok (.getfield 124, 3) := by decide +kernel
theorem dX5_judge_43 : decode cX5_judge 43 = .ok (.if_icmp .gt 25, 3) := by decide +kernel
theorem dX5_judge_46 : decode cX5_judge 46 = .ok (.aload_n 0, 1) := by decide +kernel
theorem dX5_judge_47 : decode cX5_judge 47 = .ok (.getfield 12, 3) := by decide +kernel
theorem dX5_judge_50 : decode cX5_judge 50 = .ok (.getfield 137, 3) := by decide +kernel
theorem dX5_judge_53 : decode cX5_judge 53 = .ok (.aload_n 0, 1) := by decide +kernel
theorem dX5_judge_54 : decode cX5_judge 54 = .ok (.getfield 124, 3) := by decide +kernel
theorem dX5_judge_57 : decode cX5_judge 57 = .ok (.if_icmp .ne 50, 3) := by decide +kernel
theorem dX5_judge_60 : decode cX5_judge 60 = .ok (.iload_n 2, 1) := by decide +kernel
theorem dX5_judge_61 : decode cX5_judge 61 = .ok (.aload_n 0, 1) := by decide +kernel
theorem dX5_judge_62 : decode cX5_judge 62 = .ok (.getfield 127, 3) := by decide +kernel
theorem dX5_judge_65 : decode cX5_judge 65 = .ok (.if_icmp .ge 42, 3) := by decide +kernel
theorem dX5_judge_68 : decode cX5_judge 68 = .ok (.aload_n 0, 1) := by decide +kernel
theorem dX5_judge_69 : decode cX5_judge 69 = .ok (.iconst 1, 1) := by decide +kernel
theorem dX5_judge_70 : decode cX5_judge 70 = .ok (.putfield 39, 3) := by decide +kernel
theorem dX5_judge_73 : decode cX5_judge 73 = .ok (.aload_n 0, 1) := by decide +kernel
theorem dX5_judge_74 : decode cX5_judge 74 = .ok (.aload_n 0, 1) := by decide +kernel
theorem dX5_judge_75 : decode cX5_judge 75 = .ok (.getfield 12, 3) := by decide +kernel
theorem dX5_judge_78 : decode cX5_judge 78 = .ok (.getfield 137, 3) := by decide +kernel
theorem dX5_judge_81 : decode cX5_judge 81 = .ok (.putfield 124, 3) := by decide +kernel
theorem dX5_judge_84 : decode cX5_judge 84 = .ok (.aload_n 0, 1) := by decide +kernel
theorem dX5_judge_85 : decode cX5_judge 85 = .ok (.iload_n 2, 1) := by decide +kernel
theorem dX5_judge_86 : decode cX5_judge 86 = .ok (.putfield 127, 3) := by decide +kernel
theorem dX5_judge_89 : decode cX5_judge 89 = .ok (.aload_n 0, 1) := by decide +kernel
theorem dX5_judge_90 : decode cX5_judge 90 = .ok (.getfield 21, 3) := by decide +kernel
theorem dX5_judge_93 : decode cX5_judge 93 = .ok (.getfield 106, 3) := by decide +kernel
theorem dX5_judge_96 : decode cX5_judge 96 = .ok (.iconst 0, 1) := by decide +kernel
theorem dX5_judge_97 : decode cX5_judge 97 = .ok (.aload_n 0, 1) := by decide +kernel
theorem dX5_judge_98 : decode cX5_judge 98 = .ok (.getfield 25, 3) := by decide +kernel
theorem dX5_judge_101 : decode cX5_judge 101 = .ok (.iconst 0, 1) := by decide +kernel
theorem dX5_judge_102 : decode cX5_judge 102 = .ok (.bipush 6, 2) := by decide +kernel
theorem dX5_judge_104 : decode cX5_judge 104 = .ok (.invokestatic 138, 3) := by decide +kernel
theorem dX5_judge_107 : decode cX5_judge 107 = .ok (.return_, 1) := by decide +kernel
theorem dX6_init_0 : decode cX6_init 0 = .ok (.aload_n 0, 1) := by decide +kernel
theorem dX6_init_1 : decode cX6_init 1 = .ok (.invokespecial 3, 3) := by decide +kernel
theorem dX6_init_4 : decode cX6_init 4 = .ok (.aload_n 0, 1) := by decide +kernel
theorem dX6_init_5 : decode cX6_init 5 = .ok (.bipush 6, 2) := by decide +kernel
theorem dX6_init_7 : decode cX6_init 7 = .ok (.newarray .int, 2) := by decide +kernel
theorem dX6_init_9 : decode cX6_init 9 = .ok (.putfield 9, 3) := by decide +kernel
theorem dX6_init_12 : decode cX6_init 12 = .ok (.aload_n 0, 1) := by decide +kernel
theorem dX6_init_13 : decode cX6_init 13 = .ok (.bipush 6, 2) := by decide +kernel
theorem dX6_init_15 : decode cX6_init 15 = .ok (.newarray .int, 2) := by decide +kernel
theorem dX6_init_17 : decode cX6_init 17 = .ok (.putfield 15, 3) := by decide +kernel
theorem dX6_init_20 : decode cX6_init 20 = .ok (.aload_n 0, 1) := by decide +kernel
theorem dX6_init_21 : decode cX6_init 21 = .ok (.iconst 5, 1) := by decide +kernel
theorem dX6_init_22 : decode cX6_init 22 = .ok (.newarray .int, 2) := by decide +kernel
theorem dX6_init_24 : decode cX6_init 24 = .ok (.putfield 18, 3) := by decide +kernel
theorem dX6_init_27 : decode cX6_init 27 = .ok (.return_, 1) := by decide +kernel
theorem dX6_copy_0 : decode cX6_copy 0 = .ok (.aload_n 0, 1) := by decide +kernel
theorem dX6_copy_1 : decode cX6_copy 1 = .ok (.aload_n 1, 1) := by decide +kernel
theorem dX6_copy_2 : decode cX6_copy 2 = .ok (.getfield 21, 3) := by decide +kernel
theorem dX6_copy_5 : decode cX6_copy 5 = .ok (.putfield 21, 3) := by decide +kernel
theorem dX6_copy_8 : decode cX6_copy 8 = .ok (.aload_n 0, 1) := by decide +kernel
theorem dX6_copy_9 : decode cX6_copy 9 = .ok (.aload_n 1, 1) := by decide +kernel
theorem dX6_copy_10 : decode cX6_copy 10 = .ok (.getfield 25, 3) := by decide +kernel
theorem dX6_copy_13 : decode cX6_copy 13 = .ok (.putfield 25, 3) := by decide +kernel
theorem dX6_copy_16 : decode cX6_copy 16 = .ok (.aload_n 1, 1) := by decide +kernel
theorem dX6_copy_17 : decode cX6_copy 17 = .ok (.getfield 9, 3) := by decide +kernel
theorem dX6_copy_20 : decode cX6_copy 20 = .ok (.iconst 0, 1) := by decide +kernel
theorem dX6_copy_21 : decode cX6_copy 21 = .ok (.aload_n 0, 1) := by decide +kernel
theorem dX6_copy_22 : decode cX6_copy 22 = .ok (.getfield 9, 3) := by decide +kernel
theorem dX6_copy_25 : decode cX6_copy 25 = .ok (.iconst 0, 1) := by decide +kernel
theorem dX6_copy_26 : decode cX6_copy 26 = .ok (.bipush 6, 2) := by decide +kernel
theorem dX6_copy_28 : decode cX6_copy 28 = .ok (.invokestatic 28, 3) := by decide +kernel
theorem dX6_copy_31 : decode cX6_copy 31 = .ok (.aload_n 1, 1) := by decide +kernel
theorem dX6_copy_32 : decode cX6_copy 32 = .ok (.getfield 15, 3) := by decide +kernel
theorem dX6_copy_35 : decode cX6_copy 35 = .ok (.iconst 0, 1) := by decide +kernel
theorem dX6_copy_36 : decode cX6_copy 36 = .ok (.aload_n 0, 1) := by decide +kernel
theorem dX6_copy_37 : decode cX6_copy 37 = .ok (.getfield 15, 3) := by decide +kernel
theorem dX6_copy_40 : decode cX6_copy 40 = .ok (.iconst 0, 1) := by decide +kernel
theorem dX6_copy_41 : decode cX6_copy 41 = .ok (.bipush 6, 2) := by decide +kernel
theorem dX6_copy_43 : decode cX6_copy 43 = .ok (.invokestatic 28, 3) := by decide +kernel
theorem dX6_copy_46 : decode cX6_copy 46 = .ok (.aload_n 1, 1) := by decide +kernel
theorem dX6_copy_47 : decode cX6_copy 47 = .ok (.getfield 18, 3) := by decide +kernel
theorem dX6_copy_50 : decode cX6_copy 50 = .ok (.iconst 0, 1) := by decide +kernel
theorem dX6_copy_51 : decode cX6_copy 51 = .ok (.aload_n 0, 1) := by decide +kernel
theorem dX6_copy_52 : decode cX6_copy 52 = .ok (.getfield 18, 3) := by decide +kernel
theorem dX6_copy_55 : decode cX6_copy 55 = .ok (.iconst 0, 1) := by decide +kernel
theorem dX6_copy_56 : decode cX6_copy 56 = .ok (.iconst 5, 1) := by decide +kernel
theorem dX6_copy_57 : decode cX6_copy 57 = .ok (.invokestatic 28, 3) := by decide +kernel
theorem dX6_copy_60 : decode cX6_copy 60 = .ok (.return_, 1) := by decide +kernel
theorem dX6_pacing_0 : decode cX6_pacing 0 = .ok (.iconst 0, 1) := by decide +kernel
theorem dX6_pacing_1 : decode cX6_pacing 1 = .ok (.istore_n 2, 1) := by decide +kernel
theorem dX6_pacing_2 : decode cX6_pacing 2 = .ok (.iconst 0, 1) := by decide +kernel
theorem dX6_pacing_3 : decode cX6_pacing 3 = .ok (.istore_n 3, 1) := by decide +kernel
theorem dX6_pacing_4 : decode cX6_pacing 4 = .ok (.iload_n 3, 1) := by decide +kernel
theorem dX6_pacing_5 : decode cX6_pacing 5 = .ok (.iload_n 1, 1) := by decide +kernel
theorem dX6_pacing_6 : decode cX6_pacing 6 = .ok (.if_icmp .ge 24, 3) := by decide +kernel
theorem dX6_pacing_9 : decode cX6_pacing 9 = .ok (.aload_n 0, 1) := by decide +kernel
theorem dX6_pacing_10 : decode cX6_pacing 10 = .ok (.getfield 15, 3) := by decide +kernel
theorem dX6_pacing_13 : decode cX6_pacing 13 = .ok (.iload_n 3, 1) := by decide +kernel
theorem dX6_pacing_14 : decode cX6_pacing 14 = .ok (.iaload, 1) := by decide +kernel
theorem dX6_pacing_15 : decode cX6_pacing 15 = .ok (.ifCond .ne 9, 3) := by decide +kernel
theorem dX6_pacing_18 : decode cX6_pacing 18 = .ok (.iload_n 2, 1) := by decide +kernel
theorem dX6_pacing_19 : decode cX6_pacing 19 = .ok (.iconst 1, 1) := by decide +kernel
theorem dX6_pacing_20 : decode cX6_pacing 20 = .ok (.iload_n 3, 1) := by decide +kernel
theorem dX6_pacing_21 : decode cX6_pacing 21 = .ok (.ishl, 1) := by decide +kernel
theorem dX6_pacing_22 : decode cX6_pacing 22 = .ok (.ior, 1) := by decide +kernel
theorem dX6_pacing_23 : decode cX6_pacing 23 = .ok (.istore_n 2, 1) := by decide +kernel
theorem dX6_pacing_24 : decode cX6_pacing 24 = .ok (.iinc 3 1, 3) := by decide +kernel
theorem dX6_pacing_27 : decode cX6_pacing 27 = .ok (.goto (-23), 3) := by decide +kernel
theorem dX6_pacing_30 : decode cX6_pacing 30 = .ok (.iload_n 2, 1) := by decide +kernel
theorem dX6_pacing_31 : decode cX6_pacing 31 = .ok (.ireturn, 1) := by decide +kernel
theorem dX6_guestsIn_0 : decode cX6_guestsIn 0 = .ok (.iconst 0, 1) := by decide +kernel
theorem dX6_guestsIn_1 : decode cX6_guestsIn 1 = .ok (.istore_n 3, 1) := by decide +kernel
theorem dX6_guestsIn_2 : decode cX6_guestsIn 2 = .ok (.iconst 0, 1) := by decide +kernel
theorem dX6_guestsIn_3 : decode cX6_guestsIn 3 = .ok (.istore 4, 2) := by decide +kernel
theorem dX6_guestsIn_5 : decode cX6_guestsIn 5 = .ok (.iload 4, 2) := by decide +kernel
theorem dX6_guestsIn_7 : decode cX6_guestsIn 7 = .ok (.iload_n 2, 1) := by decide +kernel
theorem dX6_guestsIn_8 : decode cX6_guestsIn 8 = .ok (.if_icmp .ge 27, 3) := by decide +kernel
theorem dX6_guestsIn_11 : decode cX6_guestsIn 11 = .ok (.aload_n 0, 1) := by decide +kernel
theorem dX6_guestsIn_12 : decode cX6_guestsIn 12 = .ok (.getfield 9, 3) := by decide +kernel
theorem dX6_guestsIn_15 : decode cX6_guestsIn 15 = .ok (.iload 4, 2) := by decide +kernel
theorem dX6_guestsIn_17 : decode cX6_guestsIn 17 = .ok (.iaload, 1) := by decide +kernel
theorem dX6_guestsIn_18 : decode cX6_guestsIn 18 = .ok (.iload_n 1, 1) := by decide +kernel
theorem dX6_guestsIn_19 : decode cX6_guestsIn 19 = .ok (.if_icmp .ne 10, 3) := by decide +kernel
theorem dX6_guestsIn_22 : decode cX6_guestsIn 22 = .ok (.iload_n 3, 1) := by decide +kernel
theorem dX6_guestsIn_23 : decode cX6_guestsIn 23 = .ok (.iconst 1, 1) := by decide +kernel
theorem dX6_guestsIn_24 : decode cX6_guestsIn 24 = .ok (.iload 4, 2) := by decide +kernel
theorem dX6_guestsIn_26 : decode cX6_guestsIn 26 = .ok (.ishl, 1) := by decide +kernel
theorem dX6_guestsIn_27 : decode cX6_guestsIn 27 = .ok (.ior, 1) := by decide +kernel
theorem dX6_guestsIn_28 : decode cX6_guestsIn 28 = .ok (.istore_n 3, 1) := by decide +kernel
theorem dX6_guestsIn_29 : decode cX6_guestsIn 29 = .ok (.iinc 4 1, 3) := by decide +kernel
theorem dX6_guestsIn_32 : decode cX6_guestsIn 32 = .ok (.goto (-27), 3) := by decide +kernel
theorem dX6_guestsIn_35 : decode cX6_guestsIn 35 = .ok (.iload_n 3, 1) := by decide +kernel
theorem dX6_guestsIn_36 : decode cX6_guestsIn 36 = .ok (.ireturn, 1) := by decide +kernel
theorem dX6_moodsTogether_0 : decode cX6_moodsTogether 0 = .ok (.iconst 0, 1) := by decide +kernel
theorem dX6_moodsTogether_1 : decode cX6_moodsTogether 1 = .ok (.istore_n 2, 1) := by decide +kernel
theorem dX6_moodsTogether_2 : decode cX6_moodsTogether 2 = .ok (.iconst 0, 1) := by decide +kernel
theorem dX6_moodsTogether_3 : decode cX6_moodsTogether 3 = .ok (.istore_n 3, 1) := by decide +kernel
theorem dX6_moodsTogether_4 : decode cX6_moodsTogether 4 = .ok (.iload_n 3, 1) := by decide +kernel
theorem dX6_moodsTogether_5 : decode cX6_moodsTogether 5 = .ok (.iload_n 1, 1) := by decide +kernel
theorem dX6_moodsTogether_6 : decode cX6_moodsTogether 6 = .ok (.if_icmp .ge 18, 3) := by decide +kernel
theorem dX6_moodsTogether_9 : decode cX6_moodsTogether 9 = .ok (.iload_n 2, 1) := by decide +kernel
theorem dX6_moodsTogether_10 : decode cX6_moodsTogether 10 = .ok (.aload_n 0, 1) := by decide +kernel
theorem dX6_moodsTogether_11 : decode cX6_moodsTogether 11 = .ok (.getfield 15, 3) := by decide +kernel
theorem dX6_moodsTogether_14 : decode cX6_moodsTogether 14 = .ok (.iload_n 3, 1) := by decide +kernel
theorem dX6_moodsTogether_15 : decode cX6_moodsTogether 15 = .ok (.iaload, 1) := by decide +kernel
theorem dX6_moodsTogether_16 : decode cX6_moodsTogether 16 = .ok (.iadd, 1) := by decide +kernel
theorem dX6_moodsTogether_17 : decode cX6_moodsTogether 17 = .ok (.istore_n 2, 1) := by decide +kernel
theorem dX6_moodsTogether_18 : decode cX6_moodsTogether 18 = .ok (.iinc 3 1, 3) := by decide +kernel
theorem dX6_moodsTogether_21 : decode cX6_moodsTogether 21 = .ok (.goto (-17), 3) := by decide +kernel
theorem dX6_moodsTogether_24 : decode cX6_moodsTogether 24 = .ok (.iload_n 2, 1) := by decide +kernel
theorem dX6_moodsTogether_25 : decode cX6_moodsTogether 25 = .ok (.ireturn, 1) := by decide +kernel
theorem dX6_coinsTogether_0 : decode cX6_coinsTogether 0 = .ok (.iconst 0, 1) := by decide +kernel
theorem dX6_coinsTogether_1 : decode cX6_coinsTogether 1 = .ok (.istore_n 2, 1) := by decide +kernel
theorem dX6_coinsTogether_2 : decode cX6_coinsTogether 2 = .ok (.iconst 0, 1) := by decide +kernel
theorem dX6_coinsTogether_3 : decode cX6_coinsTogether 3 = .ok (.istore_n 3, 1) := by decide +kernel
theorem dX6_coinsTogether_4 : decode cX6_coinsTogether 4 = .ok (.iload_n 3, 1) := by decide +kernel
theorem dX6_coinsTogether_5 : decode cX6_coinsTogether 5 = .ok (.iload_n 1, 1) := by decide +kernel
theorem dX6_coinsTogether_6 : decode cX6_coinsTogether 6 = .ok (.if_icmp .ge 18, 3) := by decide +kernel
theorem dX6_coinsTogether_9 : decode cX6_coinsTogether 9 = .ok (.iload_n 2, 1) := by decide +kernel
theorem dX6_coinsTogether_10 : decode cX6_coinsTogether 10 = .ok (.aload_n 0, 1) := by decide +kernel
theorem dX6_coinsTogether_11 : decode cX6_coinsTogether 11 = .ok (.getfield 18, 3) := by decide +kernel
theorem dX6_coinsTogether_14 : decode cX6_coinsTogether 14 = .ok (.iload_n 3, 1) := by decide +kernel
theorem dX6_coinsTogether_15 : decode cX6_coinsTogether 15 = .ok (.iaload, 1) := by decide +kernel
theorem dX6_coinsTogether_16 : decode cX6_coinsTogether 16 = .ok (.iadd, 1) := by decide +kernel
theorem dX6_coinsTogether_17 : decode cX6_coinsTogether 17 = .ok (.istore_n 2, 1) := by decide +kernel
theorem dX6_coinsTogether_18 : decode cX6_coinsTogether 18 = .ok (.iinc 3 1, 3) := by decide +kernel
theorem dX6_coinsTogether_21 : decode cX6_coinsTogether 21 = .ok (.goto (-17), 3) := by decide +kernel
theorem dX6_coinsTogether_24 : decode cX6_coinsTogether 24 = .ok (.iload_n 2, 1) := by decide +kernel
theorem dX6_coinsTogether_25 : decode cX6_coinsTogether 25 = .ok (.ireturn, 1) := by decide +kernel
theorem dX7_init_0 : decode cX7_init 0 = .ok (.aload_n 0, 1) := by decide +kernel
theorem dX7_init_1 : decode cX7_init 1 = .ok (.invokespecial 3, 3) := by decide +kernel
theorem dX7_init_4 : decode cX7_init 4 = .ok (.aload_n 0, 1) := by decide +kernel
theorem dX7_init_5 : decode cX7_init 5 = .ok (.sipush 1000, 3) := by decide +kernel
theorem dX7_init_8 : decode cX7_init 8 = .ok (.newarray .byte, 2) := by decide +kernel
theorem dX7_init_10 : decode cX7_init 10 = .ok (.putfield 9, 3) := by decide +kernel
theorem dX7_init_13 : decode cX7_init 13 = .ok (.aload_n 0, 1) := by decide +kernel
theorem dX7_init_14 : decode cX7_init 14 = .ok (.bipush 30, 2) := by decide +kernel
theorem dX7_init_16 : decode cX7_init 16 = .ok (.newarray .long, 2) := by decide +kernel
theorem dX7_init_18 : decode cX7_init 18 = .ok (.putfield 15, 3) := by decide +kernel
theorem dX7_init_21 : decode cX7_init 21 = .ok (.iconst 0, 1) := by decide +kernel
theorem dX7_init_22 : decode cX7_init 22 = .ok (.istore_n 1, 1) := by decide +kernel
theorem dX7_init_23 : decode cX7_init 23 = .ok (.iconst 0, 1) := by decide +kernel
theorem dX7_init_24 : decode cX7_init 24 = .ok (.istore_n 2, 1) := by decide +kernel
theorem dX7_init_25 : decode cX7_init 25 = .ok (.iload_n 2, 1) := by decide +kernel
theorem dX7_init_26 : decode cX7_init 26 = .ok (.ldc 19, 2) := by decide +kernel
theorem dX7_init_28 : decode cX7_init 28 = .ok (.invokevirtual 21, 3) := by decide +kernel
theorem dX7_init_31 : decode cX7_init 31 = .ok (.if_icmp .ge 50, 3) := by decide +kernel
theorem dX7_init_34 : decode cX7_init 34 = .ok (.iload_n 1, 1) := by decide +kernel
theorem dX7_init_35 : decode cX7_init 35 = .ok (.bipush 30, 2) := by decide +kernel
theorem dX7_init_37 : decode cX7_init 37 = .ok (.if_icmp .ge 44, 3) := by decide +kernel
theorem dX7_init_40 : decode cX7_init 40 = .ok (.ldc 19, 2) := by decide +kernel
theorem dX7_init_42 : decode cX7_init 42 = .ok (.iload_n 2, 1) := by decide +kernel
theorem dX7_init_43 : decode cX7_init 43 = .ok (.invokevirtual 27, 3) := by decide +kernel
theorem dX7_init_46 : decode cX7_init 46 = .ok (.istore_n 3, 1) := by decide +kernel
theorem dX7_init_47 : decode cX7_init 47 = .ok (.iload_n 3, 1) := by decide +kernel
theorem dX7_init_48 : decode cX7_init 48 = .ok (.bipush 32, 2) := by decide +kernel
theorem dX7_init_50 : decode cX7_init 50 = .ok (.if_icmp .ne 9, 3) := by decide +kernel
theorem dX7_init_53 : decode cX7_init 53 = .ok (.iinc 1 1, 3) := by decide +kernel
theorem dX7_init_56 : decode cX7_init 56 = .ok (.goto 19, 3) := by decide +kernel
theorem dX7_init_59 : decode cX7_init 59 = .ok (.aload_n 0, 1) := by decide +kernel
theorem dX7_init_60 : decode cX7_init 60 = .ok (.getfield 15, 3) := by decide +kernel
theorem dX7_init_63 : decode cX7_init 63 = .ok (.iload_n 1, 1) := by decide +kernel
theorem dX7_init_64 : decode cX7_init 64 = .ok (.aload_n 0, 1) := by decide +kernel
theorem dX7_init_65 : decode cX7_init 65 = .ok (.getfield 15, 3) := by decide +kernel
theorem dX7_init_68 : decode cX7_init 68 = .ok (.iload_n 1, 1) := by decide +kernel
theorem dX7_init_69 : decode cX7_init 69 = .ok (.laload, 1) := by decide +kernel
theorem dX7_init_70 : decode cX7_init 70 = .ok (.iload_n 3, 1) := by decide +kernel
theorem dX7_init_71 : decode cX7_init 71 = .ok (.invokestatic 31, 3) := by decide +kernel
theorem dX7_init_74 : decode cX7_init 74 = .ok (.lastore, 1) := by decide +kernel
theorem dX7_init_75 : decode cX7_init 75 = .ok (.iinc 2 1, 3) := by decide +kernel
theorem dX7_init_78 : decode cX7_init 78 = .ok (.goto (-53), 3) := by decide +kernel
theorem dX7_init_81 : decode cX7_init 81 = .ok (.return_, 1) := by decide +kernel
theorem dX7_longer_0 : decode cX7_longer 0 = .ok (.lload_n 0, 1) := by decide +kernel
theorem dX7_longer_1 : decode cX7_longer 1 = .ok (.ldc2_w 35, 3) := by decide +kernel
theorem dX7_longer_4 : decode cX7_longer 4 = .ok (.lmul, 1) := by decide +kernel
theorem dX7_longer_5 : decode cX7_longer 5 = .ok (.iload_n 2, 1) := by decide +kernel
theorem dX7_longer_6 : decode cX7_longer 6 = .ok (.bipush 97, 2) := by decide +kernel
theorem dX7_longer_8 : decode cX7_longer 8 = .ok (.isub, 1) := by decide +kernel
theorem dX7_longer_9 : decode cX7_longer 9 = .ok (.iconst 1, 1) := by decide +kernel
theorem dX7_longer_10 : decode cX7_longer 10 = .ok (.iadd, 1) := by decide +kernel
theorem dX7_longer_11 : decode cX7_longer 11 = .ok (.i2l, 1) := by decide +kernel
theorem dX7_longer_12 : decode cX7_longer 12 = .ok (.ladd, 1) := by decide +kernel
theorem dX7_longer_13 : decode cX7_longer 13 = .ok (.lreturn, 1) := by decide +kernel
theorem dX7_addAll_0 : decode cX7_addAll 0 = .ok (.bipush 56, 2) := by decide +kernel
theorem dX7_addAll_2 : decode cX7_addAll 2 = .ok (.istore_n 3, 1) := by decide +kernel
theorem dX7_addAll_3 : decode cX7_addAll 3 = .ok (.iload_n 3, 1) := by decide +kernel
theorem dX7_addAll_4 : decode cX7_addAll 4 = .ok (.ifCond .lt 84, 3) := by decide +kernel
theorem dX7_addAll_7 : decode cX7_addAll 7 = .ok (.lload_n 1, 1) := by decide +kernel
theorem dX7_addAll_8 : decode cX7_addAll 8 = .ok (.iload_n 3, 1) := by decide +kernel
theorem dX7_addAll_9 : decode cX7_addAll 9 = .ok (.lushr, 1) := by decide +kernel
theorem dX7_addAll_10 : decode cX7_addAll 10 = .ok (.l2i, 1) := by decide +kernel
theorem dX7_addAll_11 : decode cX7_addAll 11 = .ok (.sipush 255, 3) := by decide +kernel
theorem dX7_addAll_14 : decode cX7_addAll 14 = .ok (.iand, 1) := by decide +kernel
theorem dX7_addAll_15 : decode cX7_addAll 15 = .ok (.istore 4, 2) := by decide +kernel
theorem dX7_addAll_17 : decode cX7_addAll 17 = .ok (.iload 4, 2) := by decide +kernel
theorem dX7_addAll_19 : decode cX7_addAll 19 = .ok (.bipush 10, 2) := by decide +kernel
theorem dX7_addAll_21 : decode cX7_addAll 21 = .ok (.if_icmp .eq 17, 3) := by decide +kernel
theorem dX7_addAll_24 : decode cX7_addAll 24 = .ok (.iload 4, 2) := by decide +kernel
theorem dX7_addAll_26 : decode cX7_addAll 26 = .ok (.bipush 32, 2) := by decide +kernel
theorem dX7_addAll_28 : decode cX7_addAll 28 = .ok (.if_icmp .lt 14, 3) := by decide +kernel
theorem dX7_addAll_31 : decode cX7_addAll 31 = .ok (.iload 4, 2) := by decide +kernel
theorem dX7_addAll_33 : decode cX7_addAll 33 = .ok (.bipush 126, 2) := by decide +kernel
theorem dX7_addAll_35 : decode cX7_addAll 35 = .ok (.if_icmp .gt 7, 3) := by decide +kernel
theorem dX7_addAll_38 : decode cX7_addAll 38 = .ok (.iconst 1, 1) := by decide +kernel
theorem dX7_addAll_39 : decode cX7_addAll 39 = .ok (.goto 4, 3) := by decide +kernel
theorem dX7_addAll_42 : decode cX7_addAll 42 = .ok (.iconst 0, 1) := by decide +kernel
theorem dX7_addAll_43 : decode cX7_addAll 43 = .ok (.istore 5, 2) := by decide +kernel
theorem dX7_addAll_45 : decode cX7_addAll 45 = .ok (.iload 5, 2) := by decide +kernel
theorem dX7_addAll_47 : decode cX7_addAll 47 = .ok (.ifCond .eq 35, 3) := by decide +kernel
theorem dX7_addAll_50 : decode cX7_addAll 50 = .ok (.aload_n 0, 1) := by decide +kernel
theorem dX7_addAll_51 : decode cX7_addAll 51 = .ok (.getfield 37, 3) := by decide +kernel
theorem dX7_addAll_54 : decode cX7_addAll 54 = .ok (.sipush 1000, 3) := by decide +kernel
theorem dX7_addAll_57 : decode cX7_addAll 57 = .ok (.if_icmp .ge 25, 3) := by decide +kernel
theorem dX7_addAll_60 : decode cX7_addAll 60 = .ok (.aload_n 0, 1) := by decide +kernel
theorem dX7_addAll_61 : decode cX7_addAll 61 = .ok (.getfield 9, 3) := by decide +kernel
theorem dX7_addAll_64 : decode cX7_addAll 64 = .ok (.aload_n 0, 1) := by decide +kernel
theorem dX7_addAll_65 : decode cX7_addAll 65 = .ok (.getfield 37, 3) := by decide +kernel
theorem dX7_addAll_68 : decode cX7_addAll 68 = .ok (.iload 4, 2) := by decide +kernel
theorem dX7_addAll_70 : decode cX7_addAll 70 = .ok (.i2b, 1) := by decide +kernel
theorem dX7_addAll_71 : decode cX7_addAll 71 = .ok (.bastore, 1) := by decide +kernel
theorem dX7_addAll_72 : decode cX7_addAll 72 = .ok (.aload_n 0, 1) := by decide +kernel
theorem dX7_addAll_73 : decode cX7_addAll 73 = .ok (.dup, 1) := by decide +kernel
theorem dX7_addAll_74 : decode cX7_addAll 74 = .ok (.getfield 37, 3) := by decide +kernel
theorem dX7_addAll_77 : decode cX7_addAll 77 = .ok (.iconst 1, 1) := by decide +kernel
theorem dX7_addAll_78 : decode cX7_addAll 78 = .ok (.iadd, 1) := by decide +kernel
theorem dX7_addAll_79 : decode cX7_addAll 79 = .ok (.putfield 37, 3) := by decide +kernel
theorem dX7_addAll_82 : decode cX7_addAll 82 = .ok (.iinc 3 (-8), 3) := by decide +kernel
theorem dX7_addAll_85 : decode cX7_addAll 85 = .ok (.goto (-82), 3) := by decide +kernel
theorem dX7_addAll_88 : decode cX7_addAll 88 = .ok (.return_, 1) := by decide +kernel
theorem dX7_begin_0 : decode cX7_begin 0 = .ok (.aload_n 0, 1) := by decide +kernel
theorem dX7_begin_1 : decode cX7_begin 1 = .ok (.iconst 0, 1) := by decide +kernel
theorem dX7_begin_2 : decode cX7_begin 2 = .ok (.putfield 41, 3) := by decide +kernel
theorem dX7_begin_5 : decode cX7_begin 5 = .ok (.aload_n 0, 1) := by decide +kernel
theorem dX7_begin_6 : decode cX7_begin 6 = .ok (.iconst 0, 1) := by decide +kernel
theorem dX7_begin_7 : decode cX7_begin 7 = .ok (.putfield 44, 3) := by decide +kernel
theorem dX7_begin_10 : decode cX7_begin 10 = .ok (.aload_n 0, 1) := by decide +kernel
theorem dX7_begin_11 : decode cX7_begin 11 = .ok (.invokevirtual 47, 3) := by decide +kernel
theorem dX7_begin_14 : decode cX7_begin 14 = .ok (.return_, 1) := by decide +kernel
theorem dX7_empty_0 : decode cX7_empty 0 = .ok (.aload_n 0, 1) := by decide +kernel
theorem dX7_empty_1 : decode cX7_empty 1 = .ok (.iconst 0, 1) := by decide +kernel
theorem dX7_empty_2 : decode cX7_empty 2 = .ok (.putfield 37, 3) := by decide +kernel
theorem dX7_empty_5 : decode cX7_empty 5 = .ok (.aload_n 0, 1) := by decide +kernel
theorem dX7_empty_6 : decode cX7_empty 6 = .ok (.getfield 41, 3) := by decide +kernel
theorem dX7_empty_9 : decode cX7_empty 9 = .ok (.ireturn, 1) := by decide +kernel
theorem dX7_fail_0 : decode cX7_fail 0 = .ok (.aload_n 0, 1) := by decide +kernel
theorem dX7_fail_1 : decode cX7_fail 1 = .ok (.iload_n 1, 1) := by decide +kernel
theorem dX7_fail_2 : decode cX7_fail 2 = .ok (.bipush 16, 2) := by decide +kernel
theorem dX7_fail_4 : decode cX7_fail 4 = .ok (.aload_n 0, 1) := by decide +kernel
theorem dX7_fail_5 : decode cX7_fail 5 = .ok (.getfield 50, 3) := by decide +kernel
theorem dX7_fail_8 : decode cX7_fail 8 = .ok (.imul, 1) := by decide +kernel
theorem dX7_fail_9 : decode cX7_fail 9 = .ok (.iadd, 1) := by decide +kernel
theorem dX7_fail_10 : decode cX7_fail 10 = .ok (.putfield 41, 3) := by decide +kernel
theorem dX7_fail_13 : decode cX7_fail 13 = .ok (.iconst 0, 1) := by decide +kernel
theorem dX7_fail_14 : decode cX7_fail 14 = .ok (.ireturn, 1) := by decide +kernel
theorem dX7_step_0 : decode cX7_step 0 = .ok (.aload_n 0, 1) := by decide +kernel
theorem dX7_step_1 : decode cX7_step 1 = .ok (.getfield 44, 3) := by decide +kernel
theorem dX7_step_4 : decode cX7_step 4 = .ok (.aload_n 0, 1) := by decide +kernel
theorem dX7_step_5 : decode cX7_step 5 = .ok (.getfield 37, 3) := by decide +kernel
theorem dX7_step_8 : decode cX7_step 8 = .ok (.if_icmp .ge 44, 3) := by decide +kernel
theorem dX7_step_11 : decode cX7_step 11 = .ok (.aload_n 0, 1) := by decide +kernel
theorem dX7_step_12 : decode cX7_step 12 = .ok (.getfield 9, 3) := by decide +kernel
theorem dX7_step_15 : decode cX7_step 15 = .ok (.aload_n 0, 1) := by decide +kernel
theorem dX7_step_16 : decode cX7_step 16 = .ok (.getfield 44, 3) := by decide +kernel
theorem dX7_step_19 : decode cX7_step 19 = .ok (.baload, 1) := by decide +kernel
theorem dX7_step_20 : decode cX7_step 20 = .ok (.bipush 32, 2) := by decide +kernel
theorem dX7_step_22 : decode cX7_step 22 = .ok (.if_icmp .eq 17, 3) := by decide +kernel
theorem dX7_step_25 : decode cX7_step 25 = .ok (.aload_n 0, 1) := by decide +kernel
theorem dX7_step_26 : decode cX7_step 26 = .ok (.getfield 9, 3) := by decide +kernel
theorem dX7_step_29 : decode cX7_step 29 = .ok (.aload_n 0, 1) := by decide +kernel
theorem dX7_step_30 : decode cX7_step 30 = .ok (.getfield 44, 3) := by decide +kernel
theorem dX7_step_33 : decode cX7_step 33 = .ok (.baload, 1) := by decide +kernel
theorem dX7_step_34 : decode cX7_step 34 = .ok (.bipush 10, 2) := by decide +kernel
theorem dX7_step_36 : decode cX7_step 36 = .ok (.if_icmp .ne 16, 3) := by decide +kernel
theorem dX7_step_39 : decode cX7_step 39 = .ok (.aload_n 0, 1) := by decide +kernel
theorem dX7_step_40 : decode cX7_step 40 = .ok (.dup, 1) := by decide +kernel
theorem dX7_step_41 : decode cX7_step 41 = .ok (.getfield 44, 3) := by decide +kernel
theorem dX7_step_44 : decode cX7_step 44 = .ok (.iconst 1, 1) := by decide +kernel
theorem dX7_step_45 : decode cX7_step 45 = .ok (.iadd, 1) := by decide +kernel
theorem dX7_step_46 : decode cX7_step 46 = .ok (.putfield 44, 3) := by decide +kernel
theorem dX7_step_49 : decode cX7_step 49 = .ok (.goto (-49), 3) := by decide +kernel
theorem dX7_step_52 : decode cX7_step 52 = .ok (.aload_n 0, 1) := by decide +kernel
theorem dX7_step_53 : decode cX7_step 53 = .ok (.aload_n 0, 1) := by decide +kernel
theorem dX7_step_54 : decode cX7_step 54 = .ok (.getfield 44, 3) := by decide +kernel
theorem dX7_step_57 : decode cX7_step 57 = .ok (.putfield 50, 3) := by decide +kernel
theorem dX7_step_60 : decode cX7_step 60 = .ok (.aload_n 0, 1) := by decide +kernel
theorem dX7_step_61 : decode cX7_step 61 = .ok (.getfield 44, 3) := by decide +kernel
theorem dX7_step_64 : decode cX7_step 64 = .ok (.aload_n 0, 1) := by decide +kernel
theorem dX7_step_65 : decode cX7_step 65 = .ok (.getfield 37, 3) := by decide +kernel
theorem dX7_step_68 : decode cX7_step 68 = .ok (.if_icmp .lt 11, 3) := by decide +kernel
theorem dX7_step_71 : decode cX7_step 71 = .ok (.aload_n 0, 1) := by decide +kernel
theorem dX7_step_72 : decode cX7_step 72 = .ok (.iconst 0, 1) := by decide +kernel
theorem dX7_step_73 : decode cX7_step 73 = .ok (.putfield 53, 3) := by decide +kernel
theorem dX7_step_76 : decode cX7_step 76 = .ok (.goto 89, 3) := by decide +kernel
theorem dX7_step_79 : decode cX7_step 79 = .ok (.aload_n 0, 1) := by decide +kernel
theorem dX7_step_80 : decode cX7_step 80 = .ok (.getfield 9, 3) := by decide +kernel
theorem dX7_step_83 : decode cX7_step 83 = .ok (.aload_n 0, 1) := by decide +kernel
theorem dX7_step_84 : decode cX7_step 84 = .ok (.getfield 44, 3) := by decide +kernel
theorem dX7_step_87 : decode cX7_step 87 = .ok (.baload, 1) := by decide +kernel
theorem dX7_step_88 : decode cX7_step 88 = .ok (.invokestatic 56, 3) := by decide +kernel
theorem dX7_step_91 : decode cX7_step 91 = .ok (.ifCond .eq 10, 3) := by decide +kernel
theorem dX7_step_94 : decode cX7_step 94 = .ok (.aload_n 0, 1) := by decide +kernel
theorem dX7_step_95 : decode cX7_step 95 = .ok (.invokevirtual 60, 3) := by decide +kernel
theorem dX7_step_98 : decode cX7_step 98 = .ok (.goto 67, 3) := by decide +kernel
theorem dX7_step_101 : decode cX7_step 101 = .ok (.aload_n 0, 1) := by decide +kernel
theorem dX7_step_102 : decode cX7_step 102 = .ok (.getfield 9, 3) := by decide +kernel
theorem dX7_step_105 : decode cX7_step 105 = .ok (.aload_n 0, 1) := by decide +kernel
theorem dX7_step_106 : decode cX7_step 106 = .ok (.getfield 44, 3) := by decide +kernel
theorem dX7_step_109 : decode cX7_step 109 = .ok (.baload, 1) := by decide +kernel
theorem dX7_step_110 : decode cX7_step 110 = .ok (.invokestatic 63, 3) := by decide +kernel
theorem dX7_step_113 : decode cX7_step 113 = .ok (.ifCond .eq 10, 3) := by decide +kernel
theorem dX7_step_116 : decode cX7_step 116 = .ok (.aload_n 0, 1) := by decide +kernel
theorem dX7_step_117 : decode cX7_step 117 = .ok (.invokevirtual 66, 3) := by decide +kernel
theorem dX7_step_120 : decode cX7_step 120 = .ok (.goto 45, 3) := by decide +kernel
theorem dX7_step_123 : decode cX7_step 123 = .ok (.aload_n 0, 1) := by decide +kernel
theorem dX7_step_124 : decode cX7_step 124 = .ok (.aload_n 0, 1) := by decide +kernel
theorem dX7_step_125 : decode cX7_step 125 = .ok (.getfield 9, 3) := by decide +kernel
theorem dX7_step_128 : decode cX7_step 128 = .ok (.aload_n 0, 1) := by decide +kernel
theorem dX7_step_129 : decode cX7_step 129 = .ok (.getfield 44, 3) := by decide +kernel
theorem dX7_step_132 : decode cX7_step 132 = .ok (.baload, 1) := by decide +kernel
theorem dX7_step_133 : decode cX7_step 133 = .ok (.invokestatic 69, 3) := by decide +kernel
theorem dX7_step_136 : decode cX7_step 136 = .ok (.ifCond .eq 15, 3) := by decide +kernel
theorem dX7_step_139 : decode cX7_step 139 = .ok (.aload_n 0, 1) := by decide +kernel
theorem dX7_step_140 : decode cX7_step 140 = .ok (.getfield 9, 3) := by decide +kernel
theorem dX7_step_143 : decode cX7_step 143 = .ok (.aload_n 0, 1) := by decide +kernel
theorem dX7_step_144 : decode cX7_step 144 = .ok (.getfield 44, 3) := by decide +kernel
theorem dX7_step_147 : decode cX7_step 147 = .ok (.baload, 1) := by decide +kernel
theorem dX7_step_148 : decode cX7_step 148 = .ok (.goto 4, 3) := by decide +kernel
theorem dX7_step_151 : decode cX7_step 151 = .ok (.iconst 3, 1) := by decide +kernel
theorem dX7_step_152 : decode cX7_step 152 = .ok (.putfield 53, 3) := by decide +kernel
theorem dX7_step_155 : decode cX7_step 155 = .ok (.aload_n 0, 1) := by decide +kernel
theorem dX7_step_156 : decode cX7_step 156 = .ok (.dup, 1) := by decide +kernel
theorem dX7_step_157 : decode cX7_step 157 = .ok (.getfield 44, 3) := by decide +kernel
theorem dX7_step_160 : decode cX7_step 160 = .ok (.iconst 1, 1) := by decide +kernel
theorem dX7_step_161 : decode cX7_step 161 = .ok (.iadd, 1) := by decide +kernel
theorem dX7_step_162 : decode cX7_step 162 = .ok (.putfield 44, 3) := by decide +kernel
theorem dX7_step_165 : decode cX7_step 165 = .ok (.return_, 1) := by decide +kernel
theorem dX7_readWord_0 : decode cX7_readWord 0 = .ok (.aload_n 0, 1) := by decide +kernel
theorem dX7_readWord_1 : decode cX7_readWord 1 = .ok (.lconst 0, 1) := by decide +kernel
theorem dX7_readWord_2 : decode cX7_readWord 2 = .ok (.putfield 72, 3) := by decide +kernel
theorem dX7_readWord_5 : decode cX7_readWord 5 = .ok (.aload_n 0, 1) := by decide +kernel
theorem dX7_readWord_6 : decode cX7_readWord 6 = .ok (.getfield 44, 3) := by decide +kernel
theorem dX7_readWord_9 : decode cX7_readWord 9 = .ok (.aload_n 0, 1) := by decide +kernel
theorem dX7_readWord_10 : decode cX7_readWord 10 = .ok (.getfield 37, 3) := by decide +kernel
theorem dX7_readWord_13 : decode cX7_readWord 13 = .ok (.if_icmp .ge 51, 3) := by decide +kernel
theorem dX7_readWord_16 : decode cX7_readWord 16 = .ok (.aload_n 0, 1) := by decide +kernel
theorem dX7_readWord_17 : decode cX7_readWord 17 = .ok (.getfield 9, 3) := by decide +kernel
theorem dX7_readWord_20 : decode cX7_readWord 20 = .ok (.aload_n 0, 1) := by decide +kernel
theorem dX7_readWord_21 : decode cX7_readWord 21 = .ok (.getfield 44, 3) := by decide +kernel
theorem dX7_readWord_24 : decode cX7_readWord 24 = .ok (.baload, 1) := by decide +kernel
theorem dX7_readWord_25 : decode cX7_readWord 25 = .ok (.invokestatic 56, 3) := by decide +kernel
theorem dX7_readWord_28 : decode cX7_readWord 28 = .ok (.ifCond .eq 36, 3) := by decide +kernel
theorem dX7_readWord_31 : decode cX7_readWord 31 = .ok (.aload_n 0, 1) := by decide +kernel
theorem dX7_readWord_32 : decode cX7_readWord 32 = .ok (.aload_n 0, 1) := by decide +kernel
theorem dX7_readWord_33 : decode cX7_readWord 33 = .ok (.getfield 72, 3) := by decide +kernel
theorem dX7_readWord_36 : decode cX7_readWord 36 = .ok (.aload_n 0, 1) := by decide +kernel
theorem dX7_readWord_37 : decode cX7_readWord 37 = .ok (.getfield 9, 3) := by decide +kernel
theorem dX7_readWord_40 : decode cX7_readWord 40 = .ok (.aload_n 0, 1) := by decide +kernel
theorem dX7_readWord_41 : decode cX7_readWord 41 = .ok (.getfield 44, 3) := by decide +kernel
theorem dX7_readWord_44 : decode cX7_readWord 44 = .ok (.baload, 1) := by decide +kernel
theorem dX7_readWord_45 : decode cX7_readWord 45 = .ok (.invokestatic 31, 3) := by decide +kernel
theorem dX7_readWord_48 : decode cX7_readWord 48 = .ok (.putfield 72, 3) := by decide +kernel
theorem dX7_readWord_51 : decode cX7_readWord 51 = .ok (.aload_n 0, 1) := by decide +kernel
theorem dX7_readWord_52 : decode cX7_readWord 52 = .ok (.dup, 1) := by decide +kernel
theorem dX7_readWord_53 : decode cX7_readWord 53 = .ok (.getfield 44, 3) := by decide +kernel
theorem dX7_readWord_56 : decode cX7_readWord 56 = .ok (.iconst 1, 1) := by decide +kernel
theorem dX7_readWord_57 : decode cX7_readWord 57 = .ok (.iadd, 1) := by decide +kernel
theorem dX7_readWord_58 : decode cX7_readWord 58 = .ok (.putfield 44, 3) := by decide +kernel
theorem dX7_readWord_61 : decode cX7_readWord 61 = .ok (.goto (-56), 3) := by decide +kernel
theorem dX7_readWord_64 : decode cX7_readWord 64 = .ok (.aload_n 0, 1) := by decide +kernel
theorem dX7_readWord_65 : decode cX7_readWord 65 = .ok (.aload_n 0, 1) := by decide +kernel
theorem dX7_readWord_66 : decode cX7_readWord 66 = .ok (.getfield 44, 3) := by decide +kernel
theorem dX7_readWord_69 : decode cX7_readWord 69 = .ok (.aload_n 0, 1) := by decide +kernel
theorem dX7_readWord_70 : decode cX7_readWord 70 = .ok (.getfield 50, 3) := by decide +kernel
theorem dX7_readWord_73 : decode cX7_readWord 73 = .ok (.isub, 1) := by decide +kernel
theorem dX7_readWord_74 : decode cX7_readWord 74 = .ok (.bipush 8, 2) := by decide +kernel
theorem dX7_readWord_76 : decode cX7_readWord 76 = .ok (.if_icmp .gt 7, 3) := by decide +kernel
theorem dX7_readWord_79 : decode cX7_readWord 79 = .ok (.iconst 1, 1) := by decide +kernel
theorem dX7_readWord_80 : decode cX7_readWord 80 = .ok (.goto 4, 3) := by decide +kernel
theorem dX7_readWord_83 : decode cX7_readWord 83 = .ok (.iconst 3, 1) := by decide +kernel
theorem dX7_readWord_84 : decode cX7_readWord 84 = .ok (.putfield 53, 3) := by decide +kernel
theorem dX7_readWord_87 : decode cX7_readWord 87 = .ok (.aload_n 0, 1) := by decide +kernel
theorem dX7_readWord_88 : decode cX7_readWord 88 = .ok (.iconst (-1), 1) := by decide +kernel
theorem dX7_readWord_89 : decode cX7_readWord 89 = .ok (.putfield 76, 3) := by decide +kernel
theorem dX7_readWord_92 : decode cX7_readWord 92 = .ok (.iconst 0, 1) := by decide +kernel
theorem dX7_readWord_93 : decode cX7_readWord 93 = .ok (.istore_n 1, 1) := by decide +kernel
theorem dX7_readWord_94 : decode cX7_readWord 94 = .ok (.iload_n 1, 1) := by decide +kernel
theorem dX7_readWord_95 : decode cX7_readWord 95 = .ok (.bipush 30, 2) := by decide +kernel
theorem dX7_readWord_97 : decode cX7_readWord 97 = .ok (.if_icmp .ge 28, 3) := by decide +kernel
theorem dX7_readWord_100 : decode cX7_readWord 100 = .ok (.aload_n 0, 1) := by decide +kernel
theorem dX7_readWord_101 : decode cX7_readWord 101 = .ok (.getfield 15, 3) := by decide +kernel
theorem dX7_readWord_104 : decode cX7_readWord 104 = .ok (.iload_n 1, 1) := by decide +kernel
theorem dX7_readWord_105 : decode cX7_readWord 105 = .ok (.laload, 1) := by decide +kernel
theorem dX7_readWord_106 : decode cX7_readWord 106 = .ok (.aload_n 0, 1) := by decide +kernel
theorem dX7_readWord_107 : decode cX7_readWord 107 = .ok (.getfield 72, 3) := by decide +kernel
theorem dX7_readWord_110 : decode cX7_readWord 110 = .ok (.lcmp, 1) := by decide +kernel
theorem dX7_readWord_111 : decode cX7_readWord 111 = .ok (.ifCond .ne 8, 3) := by decide +kernel
theorem dX7_readWord_114 : decode cX7_readWord 114 = .ok (.aload_n 0, 1) := by decide +kernel
theorem dX7_readWord_115 : decode cX7_readWord 115 = .ok (.iload_n 1, 1) := by decide +kernel
theorem dX7_readWord_116 : decode cX7_readWord 116 = .ok (.putfield 76, 3) := by decide +kernel
theorem dX7_readWord_119 : decode cX7_readWord 119 = .ok (.iinc 1 1, 3) := by decide +kernel
theorem dX7_readWord_122 : decode cX7_readWord 122 = .ok (.goto (-28), 3) := by decide +kernel
theorem dX7_readWord_125 : decode cX7_readWord 125 = .ok (.return_, 1) := by decide +kernel
theorem dX7_readNumber_0 : decode cX7_readNumber 0 = .ok (.aload_n 0, 1) := by decide +kernel
theorem dX7_readNumber_1 : decode cX7_readNumber 1 = .ok (.iconst 0, 1) := by decide +kernel
theorem dX7_readNumber_2 : decode cX7_readNumber 2 = .ok (.putfield 79, 3) := by decide +kernel
theorem dX7_readNumber_5 : decode cX7_readNumber 5 = .ok (.aload_n 0, 1) := by decide +kernel
theorem dX7_readNumber_6 : decode cX7_readNumber 6 = .ok (.getfield 44, 3) := by decide +kernel
theorem dX7_readNumber_9 : decode cX7_readNumber 9 = .ok (.aload_n 0, 1) := by decide +kernel
theorem dX7_readNumber_10 : decode cX7_readNumber 10 = .ok (.getfield 37, 3) := by decide +kernel
theorem dX7_readNumber_13 : decode cX7_readNumber 13 = .ok (.if_icmp .ge 55, 3) := by decide +kernel
theorem dX7_readNumber_16 : decode cX7_readNumber 16 = .ok (.aload_n 0, 1) := by decide +kernel
theorem dX7_readNumber_17 : decode cX7_readNumber 17 = .ok (.getfield 9, 3) := by decide +kernel
theorem dX7_readNumber_20 : decode cX7_readNumber 20 = .ok (.aload_n 0, 1) := by decide +kernel
theorem dX7_readNumber_21 : decode cX7_readNumber 21 = .ok (.getfield 44, 3) := by decide +kernel
theorem dX7_readNumber_24 : decode cX7_readNumber 24 = .ok (.baload, 1) := by decide +kernel
theorem dX7_readNumber_25 : decode cX7_readNumber 25 = .ok (.invokestatic 63, 3) := by decide +kernel
theorem dX7_readNumber_28 : decode cX7_readNumber 28 = .ok (.ifCond .eq 40, 3) := by decide +kernel
theorem dX7_readNumber_31 : decode cX7_readNumber 31 = .ok (.aload_n 0, 1) := by decide +kernel
theorem dX7_readNumber_32 : decode cX7_readNumber 32 = .ok (.aload_n 0, 1) := by decide +kernel
theorem dX7_readNumber_33 : decode cX7_readNumber 33 = .ok (.getfield 79, 3) := by decide +kernel
theorem dX7_readNumber_36 : decode cX7_readNumber 36 = .ok (.bipush 10, 2) := by decide +kernel
theorem dX7_readNumber_38 : decode cX7_readNumber 38 = .ok (.imul, 1) := by decide +kernel
theorem dX7_readNumber_39 : decode cX7_readNumber 39 = .ok (.aload_n 0, 1) := by decide +kernel
theorem dX7_readNumber_40 : decode cX7_readNumber 40 = .ok (.getfield 9, 3) := by decide +kernel
theorem dX7_readNumber_43 : decode cX7_readNumber 43 = .ok (.aload_n 0, 1) := by decide +kernel
theorem dX7_readNumber_44 : decode cX7_readNumber 44 = .ok (.getfield 44, 3) := by decide +kernel
theorem dX7_readNumber_47 : decode cX7_readNumber 47 = .ok (.baload, 1) := by decide +kernel
theorem dX7_readNumber_48 : decode cX7_readNumber 48 = .ok (.bipush 48, 2) := by decide +kernel
theorem dX7_readNumber_50 : decode cX7_readNumber 50 = .ok (.isub, 1) := by decide +kernel
theorem dX7_readNumber_51 : decode cX7_readNumber 51 = .ok (.iadd, 1) := by decide +kernel
theorem dX7_readNumber_52 : decode cX7_readNumber 52 = .ok (.putfield 79, 3) := by decide +kernel
theorem dX7_readNumber_55 : decode cX7_readNumber 55 = .ok (.aload_n 0, 1) := by decide +kernel
theorem dX7_readNumber_56 : decode cX7_readNumber 56 = .ok (.dup, 1) := by decide +kernel
theorem dX7_readNumber_57 : decode cX7_readNumber 57 = .ok (.getfield 44, 3) := by decide +kernel
theorem dX7_readNumber_60 : decode cX7_readNumber 60 = .ok (.iconst 1, 1) := by decide +kernel
theorem dX7_readNumber_61 : decode cX7_readNumber 61 = .ok (.iadd, 1) := by decide +kernel
theorem dX7_readNumber_62 : decode cX7_readNumber 62 = .ok (.putfield 44, 3) := by decide +kernel
theorem dX7_readNumber_65 : decode cX7_readNumber 65 = .ok (.goto (-60), 3) := by decide +kernel
theorem dX7_readNumber_68 : decode cX7_readNumber 68 = .ok (.aload_n 0, 1) := by decide +kernel
theorem dX7_readNumber_69 : decode cX7_readNumber 69 = .ok (.aload_n 0, 1) := by decide +kernel
theorem dX7_readNumber_70 : decode cX7_readNumber 70 = .ok (.getfield 44, 3) := by decide +kernel
theorem dX7_readNumber_73 : decode cX7_readNumber 73 = .ok (.aload_n 0, 1) := by decide +kernel
theorem dX7_readNumber_74 : decode cX7_readNumber 74 = .ok (.getfield 50, 3) := by decide +kernel
theorem dX7_readNumber_77 : decode cX7_readNumber 77 = .ok (.isub, 1) := by decide +kernel
theorem dX7_readNumber_78 : decode cX7_readNumber 78 = .ok (.iconst 4, 1) := by decide +kernel
theorem dX7_readNumber_79 : decode cX7_readNumber 79 = .ok (.if_icmp .gt 7, 3) := by decide +kernel
theorem dX7_readNumber_82 : decode cX7_readNumber 82 = .ok (.iconst 2, 1) := by decide +kernel
theorem dX7_readNumber_83 : decode cX7_readNumber 83 = .ok (.goto 4, 3) := by decide +kernel
theorem dX7_readNumber_86 : decode cX7_readNumber 86 = .ok (.iconst 3, 1) := by decide +kernel
theorem dX7_readNumber_87 : decode cX7_readNumber 87 = .ok (.putfield 53, 3) := by decide +kernel
theorem dX7_readNumber_90 : decode cX7_readNumber 90 = .ok (.return_, 1) := by decide +kernel
theorem dX7_isLetter_0 : decode cX7_isLetter 0 = .ok (.iload_n 0, 1) := by decide +kernel
theorem dX7_isLetter_1 : decode cX7_isLetter 1 = .ok (.bipush 97, 2) := by decide +kernel
theorem dX7_isLetter_3 : decode cX7_isLetter 3 = .ok (.if_icmp .lt 13, 3) := by decide +kernel
theorem dX7_isLetter_6 : decode cX7_isLetter 6 = .ok (.iload_n 0, 1) := by decide +kernel
theorem dX7_isLetter_7 : decode cX7_isLetter 7 = .ok (.bipush 122, 2) := by decide +kernel
theorem dX7_isLetter_9 : decode cX7_isLetter 9 = .ok (.if_icmp .gt 7, 3) := by decide +kernel
theorem dX7_isLetter_12 : decode cX7_isLetter 12 = .ok (.iconst 1, 1) := by decide +kernel
theorem dX7_isLetter_13 : decode cX7_isLetter 13 = .ok (.goto 4, 3) := by decide +kernel
theorem dX7_isLetter_16 : decode cX7_isLetter 16 = .ok (.iconst 0, 1) := by decide +kernel
theorem dX7_isLetter_17 : decode cX7_isLetter 17 = .ok (.ireturn, 1) := by decide +kernel
theorem dX7_isDigit_0 : decode cX7_isDigit 0 = .ok (.iload_n 0, 1) := by decide +kernel
theorem dX7_isDigit_1 : decode cX7_isDigit 1 = .ok (.bipush 48, 2) := by decide +kernel
theorem dX7_isDigit_3 : decode cX7_isDigit 3 = .ok (.if_icmp .lt 13, 3) := by decide +kernel
theorem dX7_isDigit_6 : decode cX7_isDigit 6 = .ok (.iload_n 0, 1) := by decide +kernel
theorem dX7_isDigit_7 : decode cX7_isDigit 7 = .ok (.bipush 57, 2) := by decide +kernel
theorem dX7_isDigit_9 : decode cX7_isDigit 9 = .ok (.if_icmp .gt 7, 3) := by decide +kernel
theorem dX7_isDigit_12 : decode cX7_isDigit 12 = .ok (.iconst 1, 1) := by decide +kernel
theorem dX7_isDigit_13 : decode cX7_isDigit 13 = .ok (.goto 4, 3) := by decide +kernel
theorem dX7_isDigit_16 : decode cX7_isDigit 16 = .ok (.iconst 0, 1) := by decide +kernel
theorem dX7_isDigit_17 : decode cX7_isDigit 17 = .ok (.ireturn, 1) := by decide +kernel
theorem dX7_isSign_0 : decode cX7_isSign 0 = .ok (.iload_n 0, 1) := by decide +kernel
theorem dX7_isSign_1 : decode cX7_isSign 1 = .ok (.bipush 40, 2) := by decide +kernel
theorem dX7_isSign_3 : decode cX7_isSign 3 = .ok (.if_icmp .eq 45, 3) := by decide +kernel
theorem dX7_isSign_6 : decode cX7_isSign 6 = .ok (.iload_n 0, 1) := by decide +kernel
theorem dX7_isSign_7 : decode cX7_isSign 7 = .ok (.bipush 41, 2) := by decide +kernel
theorem dX7_isSign_9 : decode cX7_isSign 9 = .ok (.if_icmp .eq 39, 3) := by decide +kernel
theorem dX7_isSign_12 : decode cX7_isSign 12 = .ok (.iload_n 0, 1) := by decide +kernel
theorem dX7_isSign_13 : decode cX7_isSign 13 = .ok (.bipush 60, 2) := by decide +kernel
theorem dX7_isSign_15 : decode cX7_isSign 15 = .ok (.if_icmp .eq 33, 3) := by decide +kernel
theorem dX7_isSign_18 : decode cX7_isSign 18 = .ok (.iload_n 0, 1) := by decide +kernel
theorem dX7_isSign_19 : decode cX7_isSign 19 = .ok (.bipush 61, 2) := by decide +kernel
theorem dX7_isSign_21 : decode cX7_isSign 21 = .ok (.if_icmp .eq 27, 3) := by decide +kernel
theorem dX7_isSign_24 : decode cX7_isSign 24 = .ok (.iload_n 0, 1) := by decide +kernel
theorem dX7_isSign_25 : decode cX7_isSign 25 = .ok (.bipush 43, 2) := by decide +kernel
theorem dX7_isSign_27 : decode cX7_isSign 27 = .ok (.if_icmp .eq 21, 3) := by decide +kernel
theorem dX7_isSign_30 : decode cX7_isSign 30 = .ok (.iload_n 0, 1) := by decide +kernel
theorem dX7_isSign_31 : decode cX7_isSign 31 = .ok (.bipush 45, 2) := by decide +kernel
theorem dX7_isSign_33 : decode cX7_isSign 33 = .ok (.if_icmp .eq 15, 3) := by decide +kernel
theorem dX7_isSign_36 : decode cX7_isSign 36 = .ok (.iload_n 0, 1) := by decide +kernel
theorem dX7_isSign_37 : decode cX7_isSign 37 = .ok (.bipush 42, 2) := by decide +kernel
theorem dX7_isSign_39 : decode cX7_isSign 39 = .ok (.if_icmp .eq 9, 3) := by decide +kernel
theorem dX7_isSign_42 : decode cX7_isSign 42 = .ok (.iload_n 0, 1) := by decide +kernel
theorem dX7_isSign_43 : decode cX7_isSign 43 = .ok (.bipush 59, 2) := by decide +kernel
theorem dX7_isSign_45 : decode cX7_isSign 45 = .ok (.if_icmp .ne 7, 3) := by decide +kernel
theorem dX7_isSign_48 : decode cX7_isSign 48 = .ok (.iconst 1, 1) := by decide +kernel
theorem dX7_isSign_49 : decode cX7_isSign 49 = .ok (.goto 4, 3) := by decide +kernel
theorem dX7_isSign_52 : decode cX7_isSign 52 = .ok (.iconst 0, 1) := by decide +kernel
theorem dX7_isSign_53 : decode cX7_isSign 53 = .ok (.ireturn, 1) := by decide +kernel
theorem dX7_isWord_0 : decode cX7_isWord 0 = .ok (.aload_n 0, 1) := by decide +kernel
theorem dX7_isWord_1 : decode cX7_isWord 1 = .ok (.getfield 53, 3) := by decide +kernel
theorem dX7_isWord_4 : decode cX7_isWord 4 = .ok (.iconst 1, 1) := by decide +kernel
theorem dX7_isWord_5 : decode cX7_isWord 5 = .ok (.if_icmp .ne 15, 3) := by decide +kernel
theorem dX7_isWord_8 : decode cX7_isWord 8 = .ok (.aload_n 0, 1) := by decide +kernel
theorem dX7_isWord_9 : decode cX7_isWord 9 = .ok (.getfield 76, 3) := by decide +kernel
theorem dX7_isWord_12 : decode cX7_isWord 12 = .ok (.iload_n 1, 1) := by decide +kernel
theorem dX7_isWord_13 : decode cX7_isWord 13 = .ok (.if_icmp .ne 7, 3) := by decide +kernel
theorem dX7_isWord_16 : decode cX7_isWord 16 = .ok (.iconst 1, 1) := by decide +kernel
theorem dX7_isWord_17 : decode cX7_isWord 17 = .ok (.goto 4, 3) := by decide +kernel
theorem dX7_isWord_20 : decode cX7_isWord 20 = .ok (.iconst 0, 1) := by decide +kernel
theorem dX7_isWord_21 : decode cX7_isWord 21 = .ok (.ireturn, 1) := by decide +kernel
theorem dX7_isName_0 : decode cX7_isName 0 = .ok (.aload_n 0, 1) := by decide +kernel
theorem dX7_isName_1 : decode cX7_isName 1 = .ok (.getfield 53, 3) := by decide +kernel
theorem dX7_isName_4 : decode cX7_isName 4 = .ok (.iconst 1, 1) := by decide +kernel
theorem dX7_isName_5 : decode cX7_isName 5 = .ok (.if_icmp .ne 24, 3) := by decide +kernel
theorem dX7_isName_8 : decode cX7_isName 8 = .ok (.aload_n 0, 1) := by decide +kernel
theorem dX7_isName_9 : decode cX7_isName 9 = .ok (.getfield 76, 3) := by decide +kernel
theorem dX7_isName_12 : decode cX7_isName 12 = .ok (.iconst (-1), 1) := by decide +kernel
theorem dX7_isName_13 : decode cX7_isName 13 = .ok (.if_icmp .eq 12, 3) := by decide +kernel
theorem dX7_isName_16 : decode cX7_isName 16 = .ok (.aload_n 0, 1) := by decide +kernel
theorem dX7_isName_17 : decode cX7_isName 17 = .ok (.getfield 76, 3) := by decide +kernel
theorem dX7_isName_20 : decode cX7_isName 20 = .ok (.bipush 25, 2) := by decide +kernel
theorem dX7_isName_22 : decode cX7_isName 22 = .ok (.if_icmp .lt 7, 3) := by decide +kernel
theorem dX7_isName_25 : decode cX7_isName 25 = .ok (.iconst 1, 1) := by decide +kernel
theorem dX7_isName_26 : decode cX7_isName 26 = .ok (.goto 4, 3) := by decide +kernel
theorem dX7_isName_29 : decode cX7_isName 29 = .ok (.iconst 0, 1) := by decide +kernel
theorem dX7_isName_30 : decode cX7_isName 30 = .ok (.ireturn, 1) := by decide +kernel
theorem dX7_passWord_0 : decode cX7_passWord 0 = .ok (.aload_n 0, 1) := by decide +kernel
theorem dX7_passWord_1 : decode cX7_passWord 1 = .ok (.iload_n 1, 1) := by decide +kernel
theorem dX7_passWord_2 : decode cX7_passWord 2 = .ok (.invokevirtual 82, 3) := by decide +kernel
theorem dX7_passWord_5 : decode cX7_passWord 5 = .ok (.ifCond .ne 9, 3) := by decide +kernel
theorem dX7_passWord_8 : decode cX7_passWord 8 = .ok (.aload_n 0, 1) := by decide +kernel
theorem dX7_passWord_9 : decode cX7_passWord 9 = .ok (.iconst 1, 1) := by decide +kernel
theorem dX7_passWord_10 : decode cX7_passWord 10 = .ok (.invokevirtual 85, 3) := by decide +kernel
theorem dX7_passWord_13 : decode cX7_passWord 13 = .ok (.ireturn, 1) := by decide +kernel
theorem dX7_passWord_14 : decode cX7_passWord 14 = .ok (.aload_n 0, 1) := by decide +kernel
theorem dX7_passWord_15 : decode cX7_passWord 15 = .ok (.invokevirtual 47, 3) := by decide +kernel
theorem dX7_passWord_18 : decode cX7_passWord 18 = .ok (.iconst 1, 1) := by decide +kernel
theorem dX7_passWord_19 : decode cX7_passWord 19 = .ok (.ireturn, 1) := by decide +kernel
theorem dX7_passSign_0 : decode cX7_passSign 0 = .ok (.aload_n 0, 1) := by decide +kernel
theorem dX7_passSign_1 : decode cX7_passSign 1 = .ok (.getfield 53, 3) := by decide +kernel
theorem dX7_passSign_4 : decode cX7_passSign 4 = .ok (.iload_n 1, 1) := by decide +kernel
theorem dX7_passSign_5 : decode cX7_passSign 5 = .ok (.if_icmp .eq 9, 3) := by decide +kernel
theorem dX7_passSign_8 : decode cX7_passSign 8 = .ok (.aload_n 0, 1) := by decide +kernel
theorem dX7_passSign_9 : decode cX7_passSign 9 = .ok (.iconst 1, 1) := by decide +kernel
theorem dX7_passSign_10 : decode cX7_passSign 10 = .ok (.invokevirtual 85, 3) := by decide +kernel
theorem dX7_passSign_13 : decode cX7_passSign 13 = .ok (.ireturn, 1) := by decide +kernel
theorem dX7_passSign_14 : decode cX7_passSign 14 = .ok (.aload_n 0, 1) := by decide +kernel
theorem dX7_passSign_15 : decode cX7_passSign 15 = .ok (.invokevirtual 47, 3) := by decide +kernel
theorem dX7_passSign_18 : decode cX7_passSign 18 = .ok (.iconst 1, 1) := by decide +kernel
theorem dX7_passSign_19 : decode cX7_passSign 19 = .ok (.ireturn, 1) := by decide +kernel
theorem dX8_init_0 : decode cX8_init 0 = .ok (.aload_n 0, 1) := by decide +kernel
theorem dX8_init_1 : decode cX8_init 1 = .ok (.invokespecial 3, 3) := by decide +kernel
theorem dX8_init_4 : decode cX8_init 4 = .ok (.aload_n 0, 1) := by decide +kernel
theorem dX8_init_5 : decode cX8_init 5 = .ok (.new 9, 3) := by decide +kernel
theorem dX8_init_8 : decode cX8_init 8 = .ok (.dup, 1) := by decide +kernel
theorem dX8_init_9 : decode cX8_init 9 = .ok (.invokespecial 11, 3) := by decide +kernel
theorem dX8_init_12 : decode cX8_init 12 = .ok (.putfield 12, 3) := by decide +kernel
theorem dX8_init_15 : decode cX8_init 15 = .ok (.aload_n 0, 1) := by decide +kernel
theorem dX8_init_16 : decode cX8_init 16 = .ok (.bipush 6, 2) := by decide +kernel
theorem dX8_init_18 : decode cX8_init 18 = .ok (.anewarray 18, 3) := by decide +kernel
theorem dX8_init_21 : decode cX8_init 21 = .ok (.putfield 20, 3) := by decide +kernel
theorem dX8_init_24 : decode cX8_init 24 = .ok (.iconst 0, 1) := by decide +kernel
theorem dX8_init_25 : decode cX8_init 25 = .ok (.istore_n 1, 1) := by decide +kernel
theorem dX8_init_26 : decode cX8_init 26 = .ok (.iload_n 1, 1) := by decide +kernel
theorem dX8_init_27 : decode cX8_init 27 = .ok (.bipush 6, 2) := by decide +kernel
theorem dX8_init_29 : decode cX8_init 29 = .ok (.if_icmp .ge 22, 3) := by decide +kernel
theorem dX8_init_32 : decode cX8_init 32 = .ok (.aload_n 0, 1) := by decide +kernel
theorem dX8_init_33 : decode cX8_init 33 = .ok (.getfield 20, 3) := by decide +kernel
theorem dX8_init_36 : decode cX8_init 36 = .ok (.iload_n 1, 1) := by decide +kernel
theorem dX8_init_37 : decode cX8_init 37 = .ok (.new 18, 3) := by decide +kernel
theorem dX8_init_40 : decode cX8_init 40 = .ok (.dup, 1) := by decide +kernel
theorem dX8_init_41 : decode cX8_init 41 = .ok (.invokespecial 24, 3) := by decide +kernel
theorem dX8_init_44 : decode cX8_init 44 = .ok (.aastore, 1) := by decide +kernel
theorem dX8_init_45 : decode cX8_init 45 = .ok (.iinc 1 1, 3) := by decide +kernel
theorem dX8_init_48 : decode cX8_init 48 = .ok (.goto (-22), 3) := by decide +kernel
theorem dX8_init_51 : decode cX8_init 51 = .ok (.return_, 1) := by decide +kernel
theorem dX8_chance_0 : decode cX8_chance 0 = .ok (.iload_n 3, 1) := by decide +kernel
theorem dX8_chance_1 : decode cX8_chance 1 = .ok (.iconst (-1), 1) := by decide +kernel
theorem dX8_chance_2 : decode cX8_chance 2 = .ok (.if_icmp .ne 8, 3) := by decide +kernel
theorem dX8_chance_5 : decode cX8_chance 5 = .ok (.bipush 63, 2) := by decide +kernel
theorem dX8_chance_7 : decode cX8_chance 7 = .ok (.goto 6, 3) := by decide +kernel
theorem dX8_chance_10 : decode cX8_chance 10 = .ok (.iconst 1, 1) := by decide +kernel
theorem dX8_chance_11 : decode cX8_chance 11 = .ok (.iload_n 3, 1) := by decide +kernel
theorem dX8_chance_12 : decode cX8_chance 12 = .ok (.ishl, 1) := by decide +kernel
theorem dX8_chance_13 : decode cX8_chance 13 = .ok (.istore 5, 2) := by decide +kernel
theorem dX8_chance_15 : decode cX8_chance 15 = .ok (.aload_n 0, 1) := by decide +kernel
theorem dX8_chance_16 : decode cX8_chance 16 = .ok (.aload_n 1, 1) := by decide +kernel
theorem dX8_chance_17 : decode cX8_chance 17 = .ok (.aload_n 2, 1) := by decide +kernel
theorem dX8_chance_18 : decode cX8_chance 18 = .ok (.iload 5, 2) := by decide +kernel
theorem dX8_chance_20 : decode cX8_chance 20 = .ok (.iload 4, 2) := by decide +kernel
theorem dX8_chance_22 : decode cX8_chance 22 = .ok (.ldc 25, 2) := by decide +kernel
theorem dX8_chance_24 : decode cX8_chance 24 = .ok (.invokevirtual 26, 3) := by decide +kernel
theorem dX8_chance_27 : decode cX8_chance 27 = .ok (.ireturn, 1) := by decide +kernel
theorem dX8_chanceBehind_0 : decode cX8_chanceBehind 0 = .ok (.iload 4, 2) := by decide +kernel
theorem dX8_chanceBehind_2 : decode cX8_chanceBehind 2 = .ok (.iconst 1, 1) := by decide +kernel
theorem dX8_chanceBehind_3 : decode cX8_chanceBehind 3 = .ok (.if_icmp .lt 10, 3) := by decide +kernel
theorem dX8_chanceBehind_6 : decode cX8_chanceBehind 6 = .ok (.iload 4, 2) := by decide +kernel
theorem dX8_chanceBehind_8 : decode cX8_chanceBehind 8 = .ok (.bipush 6, 2) := by decide +kernel
theorem dX8_chanceBehind_10 : decode cX8_chanceBehind 10 = .ok (.if_icmp .le 5, 3) := by decide +kernel
theorem dX8_chanceBehind_13 : decode cX8_chanceBehind 13 = .ok (.iconst 0, 1) := by decide +kernel
theorem dX8_chanceBehind_14 : decode cX8_chanceBehind 14 = .ok (.ireturn, 1) := by decide +kernel
theorem dX8_chanceBehind_15 : decode cX8_chanceBehind 15 = .ok (.aload_n 0, 1) := by decide +kernel
theorem dX8_chanceBehind_16 : decode cX8_chanceBehind 16 = .ok (.getfield 20, 3) := by decide +kernel
theorem dX8_chanceBehind_19 : decode cX8_chanceBehind 19 = .ok (.iload 4, 2) := by decide +kernel
theorem dX8_chanceBehind_21 : decode cX8_chanceBehind 21 = .ok (.iconst 1, 1) := by decide +kernel
theorem dX8_chanceBehind_22 : decode cX8_chanceBehind 22 = .ok (.isub, 1) := by decide +kernel
theorem dX8_chanceBehind_23 : decode cX8_chanceBehind 23 = .ok (.aaload, 1) := by decide +kernel
theorem dX8_chanceBehind_24 : decode cX8_chanceBehind 24 = .ok (.astore 6, 2) := by decide +kernel
theorem dX8_chanceBehind_26 : decode cX8_chanceBehind 26 = .ok (.iconst 0, 1) := by decide +kernel
theorem dX8_chanceBehind_27 : decode cX8_chanceBehind 27 = .ok (.istore 7, 2) := by decide +kernel
theorem dX8_chanceBehind_29 : decode cX8_chanceBehind 29 = .ok (.iconst 0, 1) := by decide +kernel
theorem dX8_chanceBehind_30 : decode cX8_chanceBehind 30 = .ok (.istore 8, 2) := by decide +kernel
theorem dX8_chanceBehind_32 : decode cX8_chanceBehind 32 = .ok (.iload 8, 2) := by decide +kernel
theorem dX8_chanceBehind_34 : decode cX8_chanceBehind 34 = .ok (.iconst 2, 1) := by decide +kernel
theorem dX8_chanceBehind_35 : decode cX8_chanceBehind 35 = .ok (.if_icmp .ge 114, 3) := by decide +kernel
theorem dX8_chanceBehind_38 : decode cX8_chanceBehind 38 = .ok (.iload 5, 2) := by decide +kernel
theorem dX8_chanceBehind_40 : decode cX8_chanceBehind 40 = .ok (.bipush 10, 2) := by decide +kernel
theorem dX8_chanceBehind_42 : decode cX8_chanceBehind 42 = .ok (.idiv, 1) := by decide +kernel
theorem dX8_chanceBehind_43 : decode cX8_chanceBehind 43 = .ok (.iload 8, 2) := by decide +kernel
theorem dX8_chanceBehind_45 : decode cX8_chanceBehind 45 = .ok (.iconst 1, 1) := by decide +kernel
theorem dX8_chanceBehind_46 : decode cX8_chanceBehind 46 = .ok (.if_icmp .ne 10, 3) := by decide +kernel
theorem dX8_chanceBehind_49 : decode cX8_chanceBehind 49 = .ok (.aload_n 1, 1) := by decide +kernel
theorem dX8_chanceBehind_50 : decode cX8_chanceBehind 50 = .ok (.getfield 30, 3) := by decide +kernel
theorem dX8_chanceBehind_53 : decode cX8_chanceBehind 53 = .ok (.goto 10, 3) := by decide +kernel
theorem dX8_chanceBehind_56 : decode cX8_chanceBehind 56 = .ok (.bipush 10, 2) := by decide +kernel
theorem dX8_chanceBehind_58 : decode cX8_chanceBehind 58 = .ok (.aload_n 1, 1) := by decide +kernel
theorem dX8_chanceBehind_59 : decode cX8_chanceBehind 59 = .ok (.getfield 30, 3) := by decide +kernel
theorem dX8_chanceBehind_62 : decode cX8_chanceBehind 62 = .ok (.isub, 1) := by decide +kernel
theorem dX8_chanceBehind_63 : decode cX8_chanceBehind 63 = .ok (.imul, 1) := by decide +kernel
theorem dX8_chanceBehind_64 : decode cX8_chanceBehind 64 = .ok (.istore 9, 2) := by decide +kernel
theorem dX8_chanceBehind_66 : decode cX8_chanceBehind 66 = .ok (.iload 9, 2) := by decide +kernel
theorem dX8_chanceBehind_68 : decode cX8_chanceBehind 68 = .ok (.ifCond .ne 6, 3) := by decide +kernel
theorem dX8_chanceBehind_71 : decode cX8_chanceBehind 71 = .ok (.goto 72, 3) := by decide +kernel
theorem dX8_chanceBehind_74 : decode cX8_chanceBehind 74 = .ok (.aload 6, 2) := by decide +kernel
theorem dX8_chanceBehind_76 : decode cX8_chanceBehind 76 = .ok (.aload_n 2, 1) := by decide +kernel
theorem dX8_chanceBehind_77 : decode cX8_chanceBehind 77 = .ok (.invokevirtual 36, 3) := by decide +kernel
theorem dX8_chanceBehind_80 : decode cX8_chanceBehind 80 = .ok (.aload_n 0, 1) := by decide +kernel
theorem dX8_chanceBehind_81 : decode cX8_chanceBehind 81 = .ok (.getfield 12, 3) := by decide +kernel
theorem dX8_chanceBehind_84 : decode cX8_chanceBehind 84 = .ok (.aload_n 1, 1) := by decide +kernel
theorem dX8_chanceBehind_85 : decode cX8_chanceBehind 85 = .ok (.aload 6, 2) := by decide +kernel
theorem dX8_chanceBehind_87 : decode cX8_chanceBehind 87 = .ok (.iload 8, 2) := by decide +kernel
theorem dX8_chanceBehind_89 : decode cX8_chanceBehind 89 = .ok (.ifCond .ne 7, 3) := by decide +kernel
theorem dX8_chanceBehind_92 : decode cX8_chanceBehind 92 = .ok (.iconst 1, 1) := by decide +kernel
theorem dX8_chanceBehind_93 : decode cX8_chanceBehind 93 = .ok (.goto 4, 3) := by decide +kernel
theorem dX8_chanceBehind_96 : decode cX8_chanceBehind 96 = .ok (.iconst 0, 1) := by decide +kernel
theorem dX8_chanceBehind_97 : decode cX8_chanceBehind 97 = .ok (.invokevirtual 40, 3) := by decide +kernel
theorem dX8_chanceBehind_100 : decode cX8_chanceBehind 100 = .ok (.aload 6, 2) := by decide +kernel
theorem dX8_chanceBehind_102 : decode cX8_chanceBehind 102 = .ok (.aload_n 1, 1) := by decide +kernel
theorem dX8_chanceBehind_103 : decode cX8_chanceBehind 103 = .ok (.getfield 44, 3) := by decide +kernel
theorem dX8_chanceBehind_106 : decode cX8_chanceBehind 106 = .ok (.invokevirtual 47, 3) := by decide +kernel
theorem dX8_chanceBehind_109 : decode cX8_chanceBehind 109 = .ok (.iload_n 3, 1) := by decide +kernel
theorem dX8_chanceBehind_110 : decode cX8_chanceBehind 110 = .ok (.iand, 1) := by decide +kernel
theorem dX8_chanceBehind_111 : decode cX8_chanceBehind 111 = .ok (.ifCond .eq 13, 3) := by decide +kernel
theorem dX8_chanceBehind_114 : decode cX8_chanceBehind 114 = .ok (.iload 7, 2) := by decide +kernel
theorem dX8_chanceBehind_116 : decode cX8_chanceBehind 116 = .ok (.iload 9, 2) := by decide +kernel
theorem dX8_chanceBehind_118 : decode cX8_chanceBehind 118 = .ok (.iadd, 1) := by decide +kernel
theorem dX8_chanceBehind_119 : decode cX8_chanceBehind 119 = .ok (.istore 7, 2) := by decide +kernel
theorem dX8_chanceBehind_121 : decode cX8_chanceBehind 121 = .ok (.goto 22, 3) := by decide +kernel
theorem dX8_chanceBehind_124 : decode cX8_chanceBehind 124 = .ok (.iload 7, 2) := by decide +kernel
theorem dX8_chanceBehind_126 : decode cX8_chanceBehind 126 = .ok (.aload_n 0, 1) := by decide +kernel
theorem dX8_chanceBehind_127 : decode cX8_chanceBehind 127 = .ok (.aload_n 1, 1) := by decide +kernel
theorem dX8_chanceBehind_128 : decode cX8_chanceBehind 128 = .ok (.aload 6, 2) := by decide +kernel
theorem dX8_chanceBehind_130 : decode cX8_chanceBehind 130 = .ok (.iload_n 3, 1) := by decide +kernel
theorem dX8_chanceBehind_131 : decode cX8_chanceBehind 131 = .ok (.iload 4, 2) := by decide +kernel
theorem dX8_chanceBehind_133 : decode cX8_chanceBehind 133 = .ok (.iconst 1, 1) := by decide +kernel
theorem dX8_chanceBehind_134 : decode cX8_chanceBehind 134 = .ok (.isub, 1) := by decide +kernel
theorem dX8_chanceBehind_135 : decode cX8_chanceBehind 135 = .ok (.iload 9, 2) := by decide +kernel
theorem dX8_chanceBehind_137 : decode cX8_chanceBehind 137 = .ok (.invokevirtual 26, 3) := by decide +kernel
theorem dX8_chanceBehind_140 : decode cX8_chanceBehind 140 = .ok (.iadd, 1) := by decide +kernel
theorem dX8_chanceBehind_141 : decode cX8_chanceBehind 141 = .ok (.istore 7, 2) := by decide +kernel
theorem dX8_chanceBehind_143 : decode cX8_chanceBehind 143 = .ok (.iinc 8 1, 3) := by decide +kernel
theorem dX8_chanceBehind_146 : decode cX8_chanceBehind 146 = .ok (.goto (-114), 3) := by decide +kernel
theorem dX8_chanceBehind_149 : decode cX8_chanceBehind 149 = .ok (.iload 7, 2) := by decide +kernel
theorem dX8_chanceBehind_151 : decode cX8_chanceBehind 151 = .ok (.ireturn, 1) := by decide +kernel
theorem dX8_liveOn_0 : decode cX8_liveOn 0 = .ok (.aload_n 0, 1) := by decide +kernel
theorem dX8_liveOn_1 : decode cX8_liveOn 1 = .ok (.iload_n 3, 1) := by decide +kernel
theorem dX8_liveOn_2 : decode cX8_liveOn 2 = .ok (.i2l, 1) := by decide +kernel
theorem dX8_liveOn_3 : decode cX8_liveOn 3 = .ok (.putfield 51, 3) := by decide +kernel
theorem dX8_liveOn_6 : decode cX8_liveOn 6 = .ok (.aload_n 0, 1) := by decide +kernel
theorem dX8_liveOn_7 : decode cX8_liveOn 7 = .ok (.iconst 0, 1) := by decide +kernel
theorem dX8_liveOn_8 : decode cX8_liveOn 8 = .ok (.putfield 55, 3) := by decide +kernel
theorem dX8_liveOn_11 : decode cX8_liveOn 11 = .ok (.aload_n 0, 1) := by decide +kernel
theorem dX8_liveOn_12 : decode cX8_liveOn 12 = .ok (.iconst 0, 1) := by decide +kernel
theorem dX8_liveOn_13 : decode cX8_liveOn 13 = .ok (.putfield 58, 3) := by decide +kernel
theorem dX8_liveOn_16 : decode cX8_liveOn 16 = .ok (.iconst 0, 1) := by decide +kernel
theorem dX8_liveOn_17 : decode cX8_liveOn 17 = .ok (.istore 5, 2) := by decide +kernel
theorem dX8_liveOn_19 : decode cX8_liveOn 19 = .ok (.iload 5, 2) := by decide +kernel
theorem dX8_liveOn_21 : decode cX8_liveOn 21 = .ok (.iload 4, 2) := by decide +kernel
theorem dX8_liveOn_23 : decode cX8_liveOn 23 = .ok (.if_icmp .ge 124, 3) := by decide +kernel
theorem dX8_liveOn_26 : decode cX8_liveOn 26 = .ok (.aload_n 1, 1) := by decide +kernel
theorem dX8_liveOn_27 : decode cX8_liveOn 27 = .ok (.getfield 44, 3) := by decide +kernel
theorem dX8_liveOn_30 : decode cX8_liveOn 30 = .ok (.ifCond .le 48, 3) := by decide +kernel
theorem dX8_liveOn_33 : decode cX8_liveOn 33 = .ok (.aload_n 1, 1) := by decide +kernel
theorem dX8_liveOn_34 : decode cX8_liveOn 34 = .ok (.getfield 61, 3) := by decide +kernel
theorem dX8_liveOn_37 : decode cX8_liveOn 37 = .ok (.ifCond .le 41, 3) := by decide +kernel
theorem dX8_liveOn_40 : decode cX8_liveOn 40 = .ok (.aload_n 0, 1) := by decide +kernel
theorem dX8_liveOn_41 : decode cX8_liveOn 41 = .ok (.aload_n 1, 1) := by decide +kernel
theorem dX8_liveOn_42 : decode cX8_liveOn 42 = .ok (.getfield 44, 3) := by decide +kernel
theorem dX8_liveOn_45 : decode cX8_liveOn 45 = .ok (.invokevirtual 64, 3) := by decide +kernel
theorem dX8_liveOn_48 : decode cX8_liveOn 48 = .ok (.istore 6, 2) := by decide +kernel
theorem dX8_liveOn_50 : decode cX8_liveOn 50 = .ok (.aload_n 0, 1) := by decide +kernel
theorem dX8_liveOn_51 : decode cX8_liveOn 51 = .ok (.aload_n 1, 1) := by decide +kernel
theorem dX8_liveOn_52 : decode cX8_liveOn 52 = .ok (.getfield 61, 3) := by decide +kernel
theorem dX8_liveOn_55 : decode cX8_liveOn 55 = .ok (.invokevirtual 64, 3) := by decide +kernel
theorem dX8_liveOn_58 : decode cX8_liveOn 58 = .ok (.istore 7, 2) := by decide +kernel
theorem dX8_liveOn_60 : decode cX8_liveOn 60 = .ok (.aload_n 0, 1) := by decide +kernel
theorem dX8_liveOn_61 : decode cX8_liveOn 61 = .ok (.getfield 12, 3) := by decide +kernel
theorem dX8_liveOn_64 : decode cX8_liveOn 64 = .ok (.aload_n 1, 1) := by decide +kernel
theorem dX8_liveOn_65 : decode cX8_liveOn 65 = .ok (.aload_n 2, 1) := by decide +kernel
theorem dX8_liveOn_66 : decode cX8_liveOn 66 = .ok (.iconst 0, 1) := by decide +kernel
theorem dX8_liveOn_67 : decode cX8_liveOn 67 = .ok (.iload 6, 2) := by decide +kernel
theorem dX8_liveOn_69 : decode cX8_liveOn 69 = .ok (.iload 7, 2) := by decide +kernel
theorem dX8_liveOn_71 : decode cX8_liveOn 71 = .ok (.invokestatic 67, 3) := by decide +kernel
theorem dX8_liveOn_74 : decode cX8_liveOn 74 = .ok (.invokevirtual 71, 3) := by decide +kernel
theorem dX8_liveOn_77 : decode cX8_liveOn 77 = .ok (.pop, 1) := by decide +kernel
theorem dX8_liveOn_78 : decode cX8_liveOn 78 = .ok (.aload_n 0, 1) := by decide +kernel
theorem dX8_liveOn_79 : decode cX8_liveOn 79 = .ok (.getfield 12, 3) := by decide +kernel
theorem dX8_liveOn_82 : decode cX8_liveOn 82 = .ok (.aload_n 1, 1) := by decide +kernel
theorem dX8_liveOn_83 : decode cX8_liveOn 83 = .ok (.aload_n 2, 1) := by decide +kernel
theorem dX8_liveOn_84 : decode cX8_liveOn 84 = .ok (.aload_n 0, 1) := by decide +kernel
theorem dX8_liveOn_85 : decode cX8_liveOn 85 = .ok (.bipush 10, 2) := by decide +kernel
theorem dX8_liveOn_87 : decode cX8_liveOn 87 = .ok (.invokevirtual 64, 3) := by decide +kernel
theorem dX8_liveOn_90 : decode cX8_liveOn 90 = .ok (.aload_n 1, 1) := by decide +kernel
theorem dX8_liveOn_91 : decode cX8_liveOn 91 = .ok (.getfield 30, 3) := by decide +kernel
theorem dX8_liveOn_94 : decode cX8_liveOn 94 = .ok (.if_icmp .lt 7, 3) := by decide +kernel
theorem dX8_liveOn_97 : decode cX8_liveOn 97 = .ok (.iconst 1, 1) := by decide +kernel
theorem dX8_liveOn_98 : decode cX8_liveOn 98 = .ok (.goto 4, 3) := by decide +kernel
theorem dX8_liveOn_101 : decode cX8_liveOn 101 = .ok (.iconst 0, 1) := by decide +kernel
theorem dX8_liveOn_102 : decode cX8_liveOn 102 = .ok (.invokevirtual 40, 3) := by decide +kernel
theorem dX8_liveOn_105 : decode cX8_liveOn 105 = .ok (.aload_n 0, 1) := by decide +kernel
theorem dX8_liveOn_106 : decode cX8_liveOn 106 = .ok (.dup, 1) := by decide +kernel
theorem dX8_liveOn_107 : decode cX8_liveOn 107 = .ok (.getfield 55, 3) := by decide +kernel
theorem dX8_liveOn_110 : decode cX8_liveOn 110 = .ok (.aload_n 0, 1) := by decide +kernel
theorem dX8_liveOn_111 : decode cX8_liveOn 111 = .ok (.getfield 12, 3) := by decide +kernel
theorem dX8_liveOn_114 : decode cX8_liveOn 114 = .ok (.getfield 75, 3) := by decide +kernel
theorem dX8_liveOn_117 : decode cX8_liveOn 117 = .ok (.iadd, 1) := by decide +kernel
theorem dX8_liveOn_118 : decode cX8_liveOn 118 = .ok (.putfield 55, 3) := by decide +kernel
theorem dX8_liveOn_121 : decode cX8_liveOn 121 = .ok (.aload_n 0, 1) := by decide +kernel
theorem dX8_liveOn_122 : decode cX8_liveOn 122 = .ok (.dup, 1) := by decide +kernel
theorem dX8_liveOn_123 : decode cX8_liveOn 123 = .ok (.getfield 58, 3) := by decide +kernel
theorem dX8_liveOn_126 : decode cX8_liveOn 126 = .ok (.aload_n 2, 1) := by decide +kernel
theorem dX8_liveOn_127 : decode cX8_liveOn 127 = .ok (.aload_n 1, 1) := by decide +kernel
theorem dX8_liveOn_128 : decode cX8_liveOn 128 = .ok (.getfield 44, 3) := by decide +kernel
theorem dX8_liveOn_131 : decode cX8_liveOn 131 = .ok (.invokevirtual 47, 3) := by decide +kernel
theorem dX8_liveOn_134 : decode cX8_liveOn 134 = .ok (.invokestatic 78, 3) := by decide +kernel
theorem dX8_liveOn_137 : decode cX8_liveOn 137 = .ok (.iadd, 1) := by decide +kernel
theorem dX8_liveOn_138 : decode cX8_liveOn 138 = .ok (.putfield 58, 3) := by decide +kernel
theorem dX8_liveOn_141 : decode cX8_liveOn 141 = .ok (.iinc 5 1, 3) := by decide +kernel
theorem dX8_liveOn_144 : decode cX8_liveOn 144 = .ok (.goto (-125), 3) := by decide +kernel
theorem dX8_liveOn_147 : decode cX8_liveOn 147 = .ok (.return_, 1) := by decide +kernel
theorem dX8_draw_0 : decode cX8_draw 0 = .ok (.aload_n 0, 1) := by decide +kernel
theorem dX8_draw_1 : decode cX8_draw 1 = .ok (.aload_n 0, 1) := by decide +kernel
theorem dX8_draw_2 : decode cX8_draw 2 = .ok (.getfield 51, 3) := by decide +kernel
theorem dX8_draw_5 : decode cX8_draw 5 = .ok (.ldc2_w 83, 3) := by decide +kernel
theorem dX8_draw_8 : decode cX8_draw 8 = .ok (.lmul, 1) := by decide +kernel
theorem dX8_draw_9 : decode cX8_draw 9 = .ok (.ldc2_w 85, 3) := by decide +kernel
theorem dX8_draw_12 : decode cX8_draw 12 = .ok (.ladd, 1) := by decide +kernel
theorem dX8_draw_13 : decode cX8_draw 13 = .ok (.ldc2_w 87, 3) := by decide +kernel
theorem dX8_draw_16 : decode cX8_draw 16 = .ok (.lrem, 1) := by decide +kernel
theorem dX8_draw_17 : decode cX8_draw 17 = .ok (.putfield 51, 3) := by decide +kernel
theorem dX8_draw_20 : decode cX8_draw 20 = .ok (.iload_n 1, 1) := by decide +kernel
theorem dX8_draw_21 : decode cX8_draw 21 = .ok (.ifCond .le 18, 3) := by decide +kernel
theorem dX8_draw_24 : decode cX8_draw 24 = .ok (.aload_n 0, 1) := by decide +kernel
theorem dX8_draw_25 : decode cX8_draw 25 = .ok (.getfield 51, 3) := by decide +kernel
theorem dX8_draw_28 : decode cX8_draw 28 = .ok (.ldc2_w 89, 3) := by decide +kernel
theorem dX8_draw_31 : decode cX8_draw 31 = .ok (.ldiv, 1) := by decide +kernel
theorem dX8_draw_32 : decode cX8_draw 32 = .ok (.iload_n 1, 1) := by decide +kernel
theorem dX8_draw_33 : decode cX8_draw 33 = .ok (.i2l, 1) := by decide +kernel
theorem dX8_draw_34 : decode cX8_draw 34 = .ok (.lrem, 1) := by decide +kernel
theorem dX8_draw_35 : decode cX8_draw 35 = .ok (.l2i, 1) := by decide +kernel
theorem dX8_draw_36 : decode cX8_draw 36 = .ok (.goto 4, 3) := by decide +kernel
theorem dX8_draw_39 : decode cX8_draw 39 = .ok (.iconst 0, 1) := by decide +kernel
theorem dX8_draw_40 : decode cX8_draw 40 = .ok (.ireturn, 1) := by decide +kernel
theorem dX9_init_0 : decode cX9_init 0 = .ok (.aload_n 0, 1) := by decide +kernel
theorem dX9_init_1 : decode cX9_init 1 = .ok (.invokespecial 3, 3) := by decide +kernel
theorem dX9_init_4 : decode cX9_init 4 = .ok (.aload_n 0, 1) := by decide +kernel
theorem dX9_init_5 : decode cX9_init 5 = .ok (.bipush 6, 2) := by decide +kernel
theorem dX9_init_7 : decode cX9_init 7 = .ok (.newarray .long, 2) := by decide +kernel
theorem dX9_init_9 : decode cX9_init 9 = .ok (.putfield 9, 3) := by decide +kernel
theorem dX9_init_12 : decode cX9_init 12 = .ok (.aload_n 0, 1) := by decide +kernel
theorem dX9_init_13 : decode cX9_init 13 = .ok (.bipush 6, 2) := by decide +kernel
theorem dX9_init_15 : decode cX9_init 15 = .ok (.newarray .long, 2) := by decide +kernel
theorem dX9_init_17 : decode cX9_init 17 = .ok (.putfield 15, 3) := by decide +kernel
theorem dX9_init_20 : decode cX9_init 20 = .ok (.aload_n 0, 1) := by decide +kernel
theorem dX9_init_21 : decode cX9_init 21 = .ok (.iconst 5, 1) := by decide +kernel
theorem dX9_init_22 : decode cX9_init 22 = .ok (.newarray .long, 2) := by decide +kernel
theorem dX9_init_24 : decode cX9_init 24 = .ok (.putfield 18, 3) := by decide +kernel
theorem dX9_init_27 : decode cX9_init 27 = .ok (.aload_n 0, 1) := by decide +kernel
theorem dX9_init_28 : decode cX9_init 28 = .ok (.bipush 6, 2) := by decide +kernel
theorem dX9_init_30 : decode cX9_init 30 = .ok (.newarray .int, 2) := by decide +kernel
theorem dX9_init_32 : decode cX9_init 32 = .ok (.putfield 21, 3) := by decide +kernel
theorem dX9_init_35 : decode cX9_init 35 = .ok (.aload_n 0, 1) := by decide +kernel
theorem dX9_init_36 : decode cX9_init 36 = .ok (.bipush 6, 2) := by decide +kernel
theorem dX9_init_38 : decode cX9_init 38 = .ok (.newarray .int, 2) := by decide +kernel
theorem dX9_init_40 : decode cX9_init 40 = .ok (.putfield 25, 3) := by decide +kernel
theorem dX9_init_43 : decode cX9_init 43 = .ok (.aload_n 0, 1) := by decide +kernel
theorem dX9_init_44 : decode cX9_init 44 = .ok (.iconst 5, 1) := by decide +kernel
theorem dX9_init_45 : decode cX9_init 45 = .ok (.newarray .int, 2) := by decide +kernel
theorem dX9_init_47 : decode cX9_init 47 = .ok (.putfield 28, 3) := by decide +kernel
theorem dX9_init_50 : decode cX9_init 50 = .ok (.aload_n 0, 1) := by decide +kernel
theorem dX9_init_51 : decode cX9_init 51 = .ok (.bipush 6, 2) := by decide +kernel
theorem dX9_init_53 : decode cX9_init 53 = .ok (.newarray .int, 2) := by decide +kernel
theorem dX9_init_55 : decode cX9_init 55 = .ok (.putfield 31, 3) := by decide +kernel
theorem dX9_init_58 : decode cX9_init 58 = .ok (.aload_n 0, 1) := by decide +kernel
theorem dX9_init_59 : decode cX9_init 59 = .ok (.bipush 36, 2) := by decide +kernel
theorem dX9_init_61 : decode cX9_init 61 = .ok (.newarray .int, 2) := by decide +kernel
theorem dX9_init_63 : decode cX9_init 63 = .ok (.putfield 34, 3) := by decide +kernel
theorem dX9_init_66 : decode cX9_init 66 = .ok (.aload_n 0, 1) := by decide +kernel
theorem dX9_init_67 : decode cX9_init 67 = .ok (.bipush 120, 2) := by decide +kernel
theorem dX9_init_69 : decode cX9_init 69 = .ok (.newarray .int, 2) := by decide +kernel
theorem dX9_init_71 : decode cX9_init 71 = .ok (.putfield 37, 3) := by decide +kernel
theorem dX9_init_74 : decode cX9_init 74 = .ok (.aload_n 0, 1) := by decide +kernel
theorem dX9_init_75 : decode cX9_init 75 = .ok (.sipush 720, 3) := by decide +kernel
theorem dX9_init_78 : decode cX9_init 78 = .ok (.newarray .int, 2) := by decide +kernel
theorem dX9_init_80 : decode cX9_init 80 = .ok (.putfield 40, 3) := by decide +kernel
theorem dX9_init_83 : decode cX9_init 83 = .ok (.aload_n 0, 1) := by decide +kernel
theorem dX9_init_84 : decode cX9_init 84 = .ok (.new 43, 3) := by decide +kernel
theorem dX9_init_87 : decode cX9_init 87 = .ok (.dup, 1) := by decide +kernel
theorem dX9_init_88 : decode cX9_init 88 = .ok (.invokespecial 45, 3) := by decide +kernel
theorem dX9_init_91 : decode cX9_init 91 = .ok (.putfield 46, 3) := by decide +kernel
theorem dX9_init_94 : decode cX9_init 94 = .ok (.return_, 1) := by decide +kernel
theorem dX9_clear_0 : decode cX9_clear 0 = .ok (.aload_n 0, 1) := by decide +kernel
theorem dX9_clear_1 : decode cX9_clear 1 = .ok (.iconst 0, 1) := by decide +kernel
theorem dX9_clear_2 : decode cX9_clear 2 = .ok (.putfield 50, 3) := by decide +kernel
theorem dX9_clear_5 : decode cX9_clear 5 = .ok (.aload_n 0, 1) := by decide +kernel
theorem dX9_clear_6 : decode cX9_clear 6 = .ok (.iconst 0, 1) := by decide +kernel
theorem dX9_clear_7 : decode cX9_clear 7 = .ok (.putfield 54, 3) := by decide +kernel
theorem dX9_clear_10 : decode cX9_clear 10 = .ok (.aload_n 0, 1) := by decide +kernel
theorem dX9_clear_11 : decode cX9_clear 11 = .ok (.iconst 0, 1) := by decide +kernel
theorem dX9_clear_12 : decode cX9_clear 12 = .ok (.putfield 57, 3) := by decide +kernel
theorem dX9_clear_15 : decode cX9_clear 15 = .ok (.aload_n 0, 1) := by decide +kernel
theorem dX9_clear_16 : decode cX9_clear 16 = .ok (.iconst 0, 1) := by decide +kernel
theorem dX9_clear_17 : decode cX9_clear 17 = .ok (.putfield 60, 3) := by decide +kernel
theorem dX9_clear_20 : decode cX9_clear 20 = .ok (.aload_n 0, 1) := by decide +kernel
theorem dX9_clear_21 : decode cX9_clear 21 = .ok (.iconst 3, 1) := by decide +kernel
theorem dX9_clear_22 : decode cX9_clear 22 = .ok (.putfield 63, 3) := by decide +kernel
theorem dX9_clear_25 : decode cX9_clear 25 = .ok (.aload_n 0, 1) := by decide +kernel
theorem dX9_clear_26 : decode cX9_clear 26 = .ok (.iconst 3, 1) := by decide +kernel
theorem dX9_clear_27 : decode cX9_clear 27 = .ok (.putfield 66, 3) := by decide +kernel
theorem dX9_clear_30 : decode cX9_clear 30 = .ok (.aload_n 0, 1) := by decide +kernel
theorem dX9_clear_31 : decode cX9_clear 31 = .ok (.iconst 5, 1) := by decide +kernel
theorem dX9_clear_32 : decode cX9_clear 32 = .ok (.putfield 69, 3) := by decide +kernel
theorem dX9_clear_35 : decode cX9_clear 35 = .ok (.aload_n 0, 1) := by decide +kernel
theorem dX9_clear_36 : decode cX9_clear 36 = .ok (.iconst 0, 1) := by decide +kernel
theorem dX9_clear_37 : decode cX9_clear 37 = .ok (.putfield 72, 3) := by decide +kernel
theorem dX9_clear_40 : decode cX9_clear 40 = .ok (.aload_n 0, 1) := by decide +kernel
theorem dX9_clear_41 : decode cX9_clear 41 = .ok (.iconst 0, 1) := by decide +kernel
theorem dX9_clear_42 : decode cX9_clear 42 = .ok (.putfield 75, 3) := by decide +kernel
theorem dX9_clear_45 : decode cX9_clear 45 = .ok (.iconst 0, 1) := by decide +kernel
theorem dX9_clear_46 : decode cX9_clear 46 = .ok (.istore_n 1, 1) := by decide +kernel
theorem dX9_clear_47 : decode cX9_clear 47 = .ok (.iload_n 1, 1) := by decide +kernel
theorem dX9_clear_48 : decode cX9_clear 48 = .ok (.bipush 36, 2) := by decide +kernel
theorem dX9_clear_50 : decode cX9_clear 50 = .ok (.if_icmp .ge 18, 3) := by decide +kernel
theorem dX9_clear_53 : decode cX9_clear 53 = .ok (.aload_n 0, 1) := by decide +kernel
theorem dX9_clear_54 : decode cX9_clear 54 = .ok (.getfield 34, 3) := by decide +kernel
theorem dX9_clear_57 : decode cX9_clear 57 = .ok (.iload_n 1, 1) := by decide +kernel
theorem dX9_clear_58 : decode cX9_clear 58 = .ok (.sipush 1000, 3) := by decide +kernel
theorem dX9_clear_61 : decode cX9_clear 61 = .ok (.iastore, 1) := by decide +kernel
theorem dX9_clear_62 : decode cX9_clear 62 = .ok (.iinc 1 1, 3) := by decide +kernel
theorem dX9_clear_65 : decode cX9_clear 65 = .ok (.goto (-18), 3) := by decide +kernel
theorem dX9_clear_68 : decode cX9_clear 68 = .ok (.iconst 0, 1) := by decide +kernel
theorem dX9_clear_69 : decode cX9_clear 69 = .ok (.istore_n 1, 1) := by decide +kernel
theorem dX9_clear_70 : decode cX9_clear 70 = .ok (.iload_n 1, 1) := by decide +kernel
theorem dX9_clear_71 : decode cX9_clear 71 = .ok (.bipush 6, 2) := by decide +kernel
theorem dX9_clear_73 : decode cX9_clear 73 = .ok (.if_icmp .ge 16, 3) := by decide +kernel
theorem dX9_clear_76 : decode cX9_clear 76 = .ok (.aload_n 0, 1) := by decide +kernel
theorem dX9_clear_77 : decode cX9_clear 77 = .ok (.getfield 31, 3) := by decide +kernel
theorem dX9_clear_80 : decode cX9_clear 80 = .ok (.iload_n 1, 1) := by decide +kernel
theorem dX9_clear_81 : decode cX9_clear 81 = .ok (.iconst 0, 1) := by decide +kernel
theorem dX9_clear_82 : decode cX9_clear 82 = .ok (.iastore, 1) := by decide +kernel
theorem dX9_clear_83 : decode cX9_clear 83 = .ok (.iinc 1 1, 3) := by decide +kernel
theorem dX9_clear_86 : decode cX9_clear 86 = .ok (.goto (-16), 3) := by decide +kernel
theorem dX9_clear_89 : decode cX9_clear 89 = .ok (.return_, 1) := by decide +kernel
theorem dX9_close_0 : decode cX9_close 0 = .ok (.aload_n 0, 1) := by decide +kernel
theorem dX9_close_1 : decode cX9_close 1 = .ok (.getfield 75, 3) := by decide +kernel
theorem dX9_close_4 : decode cX9_close 4 = .ok (.bipush 14, 2) := by decide +kernel
theorem dX9_close_6 : decode cX9_close 6 = .ok (.ishr, 1) := by decide +kernel
theorem dX9_close_7 : decode cX9_close 7 = .ok (.iconst 1, 1) := by decide +kernel
theorem dX9_close_8 : decode cX9_close 8 = .ok (.iand, 1) := by decide +kernel
theorem dX9_close_9 : decode cX9_close 9 = .ok (.ifCond .ne 7, 3) := by decide +kernel
theorem dX9_close_12 : decode cX9_close 12 = .ok (.aload_n 0, 1) := by decide +kernel
theorem dX9_close_13 : decode cX9_close 13 = .ok (.invokevirtual 78, 3) := by decide +kernel
theorem dX9_close_16 : decode cX9_close 16 = .ok (.aload_n 0, 1) := by decide +kernel
theorem dX9_close_17 : decode cX9_close 17 = .ok (.getfield 75, 3) := by decide +kernel
theorem dX9_close_20 : decode cX9_close 20 = .ok (.bipush 15, 2) := by decide +kernel
theorem dX9_close_22 : decode cX9_close 22 = .ok (.ishr, 1) := by decide +kernel
theorem dX9_close_23 : decode cX9_close 23 = .ok (.iconst 1, 1) := by decide +kernel
theorem dX9_close_24 : decode cX9_close 24 = .ok (.iand, 1) := by decide +kernel
theorem dX9_close_25 : decode cX9_close 25 = .ok (.ifCond .ne 7, 3) := by decide +kernel
theorem dX9_close_28 : decode cX9_close 28 = .ok (.aload_n 0, 1) := by decide +kernel
theorem dX9_close_29 : decode cX9_close 29 = .ok (.invokevirtual 81, 3) := by decide +kernel
theorem dX9_close_32 : decode cX9_close 32 = .ok (.aload_n 0, 1) := by decide +kernel
theorem dX9_close_33 : decode cX9_close 33 = .ok (.invokevirtual 84, 3) := by decide +kernel
theorem dX9_close_36 : decode cX9_close 36 = .ok (.return_, 1) := by decide +kernel
theorem dX9_plainWorths_0 : decode cX9_plainWorths 0 = .ok (.iconst 0, 1) := by decide +kernel
theorem dX9_plainWorths_1 : decode cX9_plainWorths 1 = .ok (.istore_n 1, 1) := by decide +kernel
theorem dX9_plainWorths_2 : decode cX9_plainWorths 2 = .ok (.iload_n 1, 1) := by decide +kernel
theorem dX9_plainWorths_3 : decode cX9_plainWorths 3 = .ok (.aload_n 0, 1) := by decide +kernel
theorem dX9_plainWorths_4 : decode cX9_plainWorths 4 = .ok (.getfield 37, 3) := by decide +kernel
theorem dX9_plainWorths_7 : decode cX9_plainWorths 7 = .ok (.arraylength, 1) := by decide +kernel
theorem dX9_plainWorths_8 : decode cX9_plainWorths 8 = .ok (.if_icmp .ge 43, 3) := by decide +kernel
theorem dX9_plainWorths_11 : decode cX9_plainWorths 11 = .ok (.iload_n 1, 1) := by decide +kernel
theorem dX9_plainWorths_12 : decode cX9_plainWorths 12 = .ok (.bipush 60, 2) := by decide +kernel
theorem dX9_plainWorths_14 : decode cX9_plainWorths 14 = .ok (.idiv, 1) := by decide +kernel
theorem dX9_plainWorths_15 : decode cX9_plainWorths 15 = .ok (.istore_n 2, 1) := by decide +kernel
theorem dX9_plainWorths_16 : decode cX9_plainWorths 16 = .ok (.iload_n 1, 1) := by decide +kernel
theorem dX9_plainWorths_17 : decode cX9_plainWorths 17 = .ok (.bipush 6, 2) := by decide +kernel
theorem dX9_plainWorths_19 : decode cX9_plainWorths 19 = .ok (.idiv, 1) := by decide +kernel
theorem dX9_plainWorths_20 : decode cX9_plainWorths 20 = .ok (.bipush 10, 2) := by decide +kernel
theorem dX9_plainWorths_22 : decode cX9_plainWorths 22 = .ok (.irem, 1) := by decide +kernel
theorem dX9_plainWorths_23 : decode cX9_plainWorths 23 = .ok (.istore_n 3, 1) := by decide +kernel
theorem dX9_plainWorths_24 : decode cX9_plainWorths 24 = .ok (.aload_n 0, 1) := by decide +kernel
theorem dX9_plainWorths_25 : decode cX9_plainWorths 25 = .ok (.getfield 37, 3) := by decide +kernel
theorem dX9_plainWorths_28 : decode cX9_plainWorths 28 = .ok (.iload_n 1, 1) := by decide +kernel
theorem dX9_plainWorths_29 : decode cX9_plainWorths 29 = .ok (.iload_n 2, 1) := by decide +kernel
theorem dX9_plainWorths_30 : decode cX9_plainWorths 30 = .ok (.iconst 5, 1) := by decide +kernel
theorem dX9_plainWorths_31 : decode cX9_plainWorths 31 = .ok (.imul, 1) := by decide +kernel
theorem dX9_plainWorths_32 : decode cX9_plainWorths 32 = .ok (.iload_n 3, 1) := by decide +kernel
theorem dX9_plainWorths_33 : decode cX9_plainWorths 33 = .ok (.iadd, 1) := by decide +kernel
theorem dX9_plainWorths_34 : decode cX9_plainWorths 34 = .ok (.iload_n 1, 1) := by decide +kernel
theorem dX9_plainWorths_35 : decode cX9_plainWorths 35 = .ok (.bipush 6, 2) := by decide +kernel
theorem dX9_plainWorths_37 : decode cX9_plainWorths 37 = .ok (.irem, 1) := by decide +kernel
theorem dX9_plainWorths_38 : decode cX9_plainWorths 38 = .ok (.isub, 1) := by decide +kernel
theorem dX9_plainWorths_39 : decode cX9_plainWorths 39 = .ok (.bipush 99, 2) := by decide +kernel
theorem dX9_plainWorths_41 : decode cX9_plainWorths 41 = .ok (.invokestatic 87, 3) := by decide +kernel
theorem dX9_plainWorths_44 : decode cX9_plainWorths 44 = .ok (.iastore, 1) := by decide +kernel
theorem dX9_plainWorths_45 : decode cX9_plainWorths 45 = .ok (.iinc 1 1, 3) := by decide +kernel
theorem dX9_plainWorths_48 : decode cX9_plainWorths 48 = .ok (.goto (-46), 3) := by decide +kernel
theorem dX9_plainWorths_51 : decode cX9_plainWorths 51 = .ok (.return_, 1) := by decide +kernel
theorem dX9_plainMoods_0 : decode cX9_plainMoods 0 = .ok (.iconst 0, 1) := by decide +kernel
theorem dX9_plainMoods_1 : decode cX9_plainMoods 1 = .ok (.istore_n 1, 1) := by decide +kernel
theorem dX9_plainMoods_2 : decode cX9_plainMoods 2 = .ok (.iload_n 1, 1) := by decide +kernel
theorem dX9_plainMoods_3 : decode cX9_plainMoods 3 = .ok (.aload_n 0, 1) := by decide +kernel
theorem dX9_plainMoods_4 : decode cX9_plainMoods 4 = .ok (.getfield 40, 3) := by decide +kernel
theorem dX9_plainMoods_7 : decode cX9_plainMoods 7 = .ok (.arraylength, 1) := by decide +kernel
theorem dX9_plainMoods_8 : decode cX9_plainMoods 8 = .ok (.if_icmp .ge 62, 3) := by decide +kernel
theorem dX9_plainMoods_11 : decode cX9_plainMoods 11 = .ok (.iload_n 1, 1) := by decide +kernel
theorem dX9_plainMoods_12 : decode cX9_plainMoods 12 = .ok (.bipush 6, 2) := by decide +kernel
theorem dX9_plainMoods_14 : decode cX9_plainMoods 14 = .ok (.irem, 1) := by decide +kernel
theorem dX9_plainMoods_15 : decode cX9_plainMoods 15 = .ok (.istore_n 2, 1) := by decide +kernel
theorem dX9_plainMoods_16 : decode cX9_plainMoods 16 = .ok (.iload_n 1, 1) := by decide +kernel
theorem dX9_plainMoods_17 : decode cX9_plainMoods 17 = .ok (.bipush 6, 2) := by decide +kernel
theorem dX9_plainMoods_19 : decode cX9_plainMoods 19 = .ok (.idiv, 1) := by decide +kernel
theorem dX9_plainMoods_20 : decode cX9_plainMoods 20 = .ok (.bipush 6, 2) := by decide +kernel
theorem dX9_plainMoods_22 : decode cX9_plainMoods 22 = .ok (.irem, 1) := by decide +kernel
theorem dX9_plainMoods_23 : decode cX9_plainMoods 23 = .ok (.istore_n 3, 1) := by decide +kernel
theorem dX9_plainMoods_24 : decode cX9_plainMoods 24 = .ok (.iload_n 1, 1) := by decide +kernel
theorem dX9_plainMoods_25 : decode cX9_plainMoods 25 = .ok (.bipush 36, 2) := by decide +kernel
theorem dX9_plainMoods_27 : decode cX9_plainMoods 27 = .ok (.idiv, 1) := by decide +kernel
theorem dX9_plainMoods_28 : decode cX9_plainMoods 28 = .ok (.bipush 10, 2) := by decide +kernel
theorem dX9_plainMoods_30 : decode cX9_plainMoods 30 = .ok (.irem, 1) := by decide +kernel
theorem dX9_plainMoods_31 : decode cX9_plainMoods 31 = .ok (.istore 4, 2) := by decide +kernel
theorem dX9_plainMoods_33 : decode cX9_plainMoods 33 = .ok (.iload_n 1, 1) := by decide +kernel
theorem dX9_plainMoods_34 : decode cX9_plainMoods 34 = .ok (.sipush 360, 3) := by decide +kernel
theorem dX9_plainMoods_37 : decode cX9_plainMoods 37 = .ok (.idiv, 1) := by decide +kernel
theorem dX9_plainMoods_38 : decode cX9_plainMoods 38 = .ok (.istore 5, 2) := by decide +kernel
theorem dX9_plainMoods_40 : decode cX9_plainMoods 40 = .ok (.aload_n 0, 1) := by decide +kernel
theorem dX9_plainMoods_41 : decode cX9_plainMoods 41 = .ok (.getfield 40, 3) := by decide +kernel
theorem dX9_plainMoods_44 : decode cX9_plainMoods 44 = .ok (.iload_n 1, 1) := by decide +kernel
theorem dX9_plainMoods_45 : decode cX9_plainMoods 45 = .ok (.iload 4, 2) := by decide +kernel
theorem dX9_plainMoods_47 : decode cX9_plainMoods 47 = .ok (.iconst 1, 1) := by decide +kernel
theorem dX9_plainMoods_48 : decode cX9_plainMoods 48 = .ok (.isub, 1) := by decide +kernel
theorem dX9_plainMoods_49 : decode cX9_plainMoods 49 = .ok (.iload_n 2, 1) := by decide +kernel
theorem dX9_plainMoods_50 : decode cX9_plainMoods 50 = .ok (.iadd, 1) := by decide +kernel
theorem dX9_plainMoods_51 : decode cX9_plainMoods 51 = .ok (.iload 5, 2) := by decide +kernel
theorem dX9_plainMoods_53 : decode cX9_plainMoods 53 = .ok (.iconst 2, 1) := by decide +kernel
theorem dX9_plainMoods_54 : decode cX9_plainMoods 54 = .ok (.imul, 1) := by decide +kernel
theorem dX9_plainMoods_55 : decode cX9_plainMoods 55 = .ok (.iadd, 1) := by decide +kernel
theorem dX9_plainMoods_56 : decode cX9_plainMoods 56 = .ok (.iload_n 3, 1) := by decide +kernel
theorem dX9_plainMoods_57 : decode cX9_plainMoods 57 = .ok (.isub, 1) := by decide +kernel
theorem dX9_plainMoods_58 : decode cX9_plainMoods 58 = .ok (.bipush 9, 2) := by decide +kernel
theorem dX9_plainMoods_60 : decode cX9_plainMoods 60 = .ok (.invokestatic 87, 3) := by decide +kernel
theorem dX9_plainMoods_63 : decode cX9_plainMoods 63 = .ok (.iastore, 1) := by decide +kernel
theorem dX9_plainMoods_64 : decode cX9_plainMoods 64 = .ok (.iinc 1 1, 3) := by decide +kernel
theorem dX9_plainMoods_67 : decode cX9_plainMoods 67 = .ok (.goto (-65), 3) := by decide +kernel
theorem dX9_plainMoods_70 : decode cX9_plainMoods 70 = .ok (.return_, 1) := by decide +kernel
theorem dX9_lawOfSees_0 : decode cX9_lawOfSees 0 = .ok (.iconst 0, 1) := by decide +kernel
theorem dX9_lawOfSees_1 : decode cX9_lawOfSees 1 = .ok (.istore_n 2, 1) := by decide +kernel
theorem dX9_lawOfSees_2 : decode cX9_lawOfSees 2 = .ok (.iload_n 2, 1) := by decide +kernel
theorem dX9_lawOfSees_3 : decode cX9_lawOfSees 3 = .ok (.aload_n 0, 1) := by decide +kernel
theorem dX9_lawOfSees_4 : decode cX9_lawOfSees 4 = .ok (.getfield 37, 3) := by decide +kernel
theorem dX9_lawOfSees_7 : decode cX9_lawOfSees 7 = .ok (.arraylength, 1) := by decide +kernel
theorem dX9_lawOfSees_8 : decode cX9_lawOfSees 8 = .ok (.if_icmp .ge 57, 3) := by decide +kernel
theorem dX9_lawOfSees_11 : decode cX9_lawOfSees 11 = .ok (.aload_n 1, 1) := by decide +kernel
theorem dX9_lawOfSees_12 : decode cX9_lawOfSees 12 = .ok (.getfield 91, 3) := by decide +kernel
theorem dX9_lawOfSees_15 : decode cX9_lawOfSees 15 = .ok (.iconst 0, 1) := by decide +kernel
theorem dX9_lawOfSees_16 : decode cX9_lawOfSees 16 = .ok (.iload_n 2, 1) := by decide +kernel
theorem dX9_lawOfSees_17 : decode cX9_lawOfSees 17 = .ok (.bipush 60, 2) := by decide +kernel
theorem dX9_lawOfSees_19 : decode cX9_lawOfSees 19 = .ok (.idiv, 1) := by decide +kernel
theorem dX9_lawOfSees_20 : decode cX9_lawOfSees 20 = .ok (.iastore, 1) := by decide +kernel
theorem dX9_lawOfSees_21 : decode cX9_lawOfSees 21 = .ok (.aload_n 1, 1) := by decide +kernel
theorem dX9_lawOfSees_22 : decode cX9_lawOfSees 22 = .ok (.getfield 91, 3) := by decide +kernel
theorem dX9_lawOfSees_25 : decode cX9_lawOfSees 25 = .ok (.iconst 1, 1) := by decide +kernel
theorem dX9_lawOfSees_26 : decode cX9_lawOfSees 26 = .ok (.iload_n 2, 1) := by decide +kernel
theorem dX9_lawOfSees_27 : decode cX9_lawOfSees 27 = .ok (.bipush 6, 2) := by decide +kernel
theorem dX9_lawOfSees_29 : decode cX9_lawOfSees 29 = .ok (.idiv, 1) := by decide +kernel
theorem dX9_lawOfSees_30 : decode cX9_lawOfSees 30 = .ok (.bipush 10, 2) := by decide +kernel
theorem dX9_lawOfSees_32 : decode cX9_lawOfSees 32 = .ok (.irem, 1) := by decide +kernel
theorem dX9_lawOfSees_33 : decode cX9_lawOfSees 33 = .ok (.iastore, 1) := by decide +kernel
theorem dX9_lawOfSees_34 : decode cX9_lawOfSees 34 = .ok (.aload_n 1, 1) := by decide +kernel
theorem dX9_lawOfSees_35 : decode cX9_lawOfSees 35 = .ok (.getfield 91, 3) := by decide +kernel
theorem dX9_lawOfSees_38 : decode cX9_lawOfSees 38 = .ok (.iconst 2, 1) := by decide +kernel
theorem dX9_lawOfSees_39 : decode cX9_lawOfSees 39 = .ok (.iload_n 2, 1) := by decide +kernel
theorem dX9_lawOfSees_40 : decode cX9_lawOfSees 40 = .ok (.bipush 6, 2) := by decide +kernel
theorem dX9_lawOfSees_42 : decode cX9_lawOfSees 42 = .ok (.irem, 1) := by decide +kernel
theorem dX9_lawOfSees_43 : decode cX9_lawOfSees 43 = .ok (.iastore, 1) := by decide +kernel
theorem dX9_lawOfSees_44 : decode cX9_lawOfSees 44 = .ok (.aload_n 0, 1) := by decide +kernel
theorem dX9_lawOfSees_45 : decode cX9_lawOfSees 45 = .ok (.getfield 37, 3) := by decide +kernel
theorem dX9_lawOfSees_48 : decode cX9_lawOfSees 48 = .ok (.iload_n 2, 1) := by decide +kernel
theorem dX9_lawOfSees_49 : decode cX9_lawOfSees 49 = .ok (.aload_n 1, 1) := by decide +kernel
theorem dX9_lawOfSees_50 : decode cX9_lawOfSees 50 = .ok (.invokevirtual 96, 3) := by decide +kernel
theorem dX9_lawOfSees_53 : decode cX9_lawOfSees 53 = .ok (.bipush 99, 2) := by decide +kernel
theorem dX9_lawOfSees_55 : decode cX9_lawOfSees 55 = .ok (.invokestatic 87, 3) := by decide +kernel
theorem dX9_lawOfSees_58 : decode cX9_lawOfSees 58 = .ok (.iastore, 1) := by decide +kernel
theorem dX9_lawOfSees_59 : decode cX9_lawOfSees 59 = .ok (.iinc 2 1, 3) := by decide +kernel
theorem dX9_lawOfSees_62 : decode cX9_lawOfSees 62 = .ok (.goto (-60), 3) := by decide +kernel
theorem dX9_lawOfSees_65 : decode cX9_lawOfSees 65 = .ok (.return_, 1) := by decide +kernel
theorem dX9_lawOfMoods_0 : decode cX9_lawOfMoods 0 = .ok (.iconst 0, 1) := by decide +kernel
theorem dX9_lawOfMoods_1 : decode cX9_lawOfMoods 1 = .ok (.istore_n 2, 1) := by decide +kernel
theorem dX9_lawOfMoods_2 : decode cX9_lawOfMoods 2 = .ok (.iload_n 2, 1) := by decide +kernel
theorem dX9_lawOfMoods_3 : decode cX9_lawOfMoods 3 = .ok (.aload_n 0, 1) := by decide +kernel
theorem dX9_lawOfMoods_4 : decode cX9_lawOfMoods 4 = .ok (.getfield 40, 3) := by decide +kernel
theorem dX9_lawOfMoods_7 : decode cX9_lawOfMoods 7 = .ok (.arraylength, 1) := by decide +kernel
theorem dX9_lawOfMoods_8 : decode cX9_lawOfMoods 8 = .ok (.if_icmp .ge 71, 3) := by decide +kernel
theorem dX9_lawOfMoods_11 : decode cX9_lawOfMoods 11 = .ok (.aload_n 1, 1) := by decide +kernel
theorem dX9_lawOfMoods_12 : decode cX9_lawOfMoods 12 = .ok (.getfield 91, 3) := by decide +kernel
theorem dX9_lawOfMoods_15 : decode cX9_lawOfMoods 15 = .ok (.iconst 3, 1) := by decide +kernel
theorem dX9_lawOfMoods_16 : decode cX9_lawOfMoods 16 = .ok (.iload_n 2, 1) := by decide +kernel
theorem dX9_lawOfMoods_17 : decode cX9_lawOfMoods 17 = .ok (.bipush 6, 2) := by decide +kernel
theorem dX9_lawOfMoods_19 : decode cX9_lawOfMoods 19 = .ok (.irem, 1) := by decide +kernel
theorem dX9_lawOfMoods_20 : decode cX9_lawOfMoods 20 = .ok (.iastore, 1) := by decide +kernel
theorem dX9_lawOfMoods_21 : decode cX9_lawOfMoods 21 = .ok (.aload_n 1, 1) := by decide +kernel
theorem dX9_lawOfMoods_22 : decode cX9_lawOfMoods 22 = .ok (.getfield 91, 3) := by decide +kernel
theorem dX9_lawOfMoods_25 : decode cX9_lawOfMoods 25 = .ok (.iconst 2, 1) := by decide +kernel
theorem dX9_lawOfMoods_26 : decode cX9_lawOfMoods 26 = .ok (.iload_n 2, 1) := by decide +kernel
theorem dX9_lawOfMoods_27 : decode cX9_lawOfMoods 27 = .ok (.bipush 6, 2) := by decide +kernel
theorem dX9_lawOfMoods_29 : decode cX9_lawOfMoods 29 = .ok (.idiv, 1) := by decide +kernel
theorem dX9_lawOfMoods_30 : decode cX9_lawOfMoods 30 = .ok (.bipush 6, 2) := by decide +kernel
theorem dX9_lawOfMoods_32 : decode cX9_lawOfMoods 32 = .ok (.irem, 1) := by decide +kernel
theorem dX9_lawOfMoods_33 : decode cX9_lawOfMoods 33 = .ok (.iastore, 1) := by decide +kernel
theorem dX9_lawOfMoods_34 : decode cX9_lawOfMoods 34 = .ok (.aload_n 1, 1) := by decide +kernel
theorem dX9_lawOfMoods_35 : decode cX9_lawOfMoods 35 = .ok (.getfield 91, 3) := by decide +kernel
theorem dX9_lawOfMoods_38 : decode cX9_lawOfMoods 38 = .ok (.iconst 1, 1) := by decide +kernel
theorem dX9_lawOfMoods_39 : decode cX9_lawOfMoods 39 = .ok (.iload_n 2, 1) := by decide +kernel
theorem dX9_lawOfMoods_40 : decode cX9_lawOfMoods 40 = .ok (.bipush 36, 2) := by decide +kernel
theorem dX9_lawOfMoods_42 : decode cX9_lawOfMoods 42 = .ok (.idiv, 1) := by decide +kernel
theorem dX9_lawOfMoods_43 : decode cX9_lawOfMoods 43 = .ok (.bipush 10, 2) := by decide +kernel
theorem dX9_lawOfMoods_45 : decode cX9_lawOfMoods 45 = .ok (.irem, 1) := by decide +kernel
theorem dX9_lawOfMoods_46 : decode cX9_lawOfMoods 46 = .ok (.iastore, 1) := by decide +kernel
theorem dX9_lawOfMoods_47 : decode cX9_lawOfMoods 47 = .ok (.aload_n 1, 1) := by decide +kernel
theorem dX9_lawOfMoods_48 : decode cX9_lawOfMoods 48 = .ok (.getfield 91, 3) := by decide +kernel
theorem dX9_lawOfMoods_51 : decode cX9_lawOfMoods 51 = .ok (.iconst 4, 1) := by decide +kernel
theorem dX9_lawOfMoods_52 : decode cX9_lawOfMoods 52 = .ok (.iload_n 2, 1) := by decide +kernel
theorem dX9_lawOfMoods_53 : decode cX9_lawOfMoods 53 = .ok (.sipush 360, 3) := by decide +kernel
theorem dX9_lawOfMoods_56 : decode cX9_lawOfMoods 56 = .ok (.idiv, 1) := by decide +kernel
theorem dX9_lawOfMoods_57 : decode cX9_lawOfMoods 57 = .ok (.iastore, 1) := by decide +kernel
theorem dX9_lawOfMoods_58 : decode cX9_lawOfMoods 58 = .ok (.aload_n 0, 1) := by decide +kernel
theorem dX9_lawOfMoods_59 : decode cX9_lawOfMoods 59 = .ok (.getfield 40, 3) := by decide +kernel
theorem dX9_lawOfMoods_62 : decode cX9_lawOfMoods 62 = .ok (.iload_n 2, 1) := by decide +kernel
theorem dX9_lawOfMoods_63 : decode cX9_lawOfMoods 63 = .ok (.aload_n 1, 1) := by decide +kernel
theorem dX9_lawOfMoods_64 : decode cX9_lawOfMoods 64 = .ok (.invokevirtual 96, 3) := by decide +kernel
theorem dX9_lawOfMoods_67 : decode cX9_lawOfMoods 67 = .ok (.bipush 9, 2) := by decide +kernel
theorem dX9_lawOfMoods_69 : decode cX9_lawOfMoods 69 = .ok (.invokestatic 87, 3) := by decide +kernel
theorem dX9_lawOfMoods_72 : decode cX9_lawOfMoods 72 = .ok (.iastore, 1) := by decide +kernel
theorem dX9_lawOfMoods_73 : decode cX9_lawOfMoods 73 = .ok (.iinc 2 1, 3) := by decide +kernel
theorem dX9_lawOfMoods_76 : decode cX9_lawOfMoods 76 = .ok (.goto (-74), 3) := by decide +kernel
theorem dX9_lawOfMoods_79 : decode cX9_lawOfMoods 79 = .ok (.return_, 1) := by decide +kernel
theorem dX9_within_0 : decode cX9_within 0 = .ok (.iconst 0, 1) := by decide +kernel
theorem dX9_within_1 : decode cX9_within 1 = .ok (.iload_n 1, 1) := by decide +kernel
theorem dX9_within_2 : decode cX9_within 2 = .ok (.iload_n 0, 1) := by decide +kernel
theorem dX9_within_3 : decode cX9_within 3 = .ok (.invokestatic 100, 3) := by decide +kernel
theorem dX9_within_6 : decode cX9_within 6 = .ok (.invokestatic 105, 3) := by decide +kernel
theorem dX9_within_9 : decode cX9_within 9 = .ok (.ireturn, 1) := by decide +kernel
theorem dX9_shortenWays_0 : decode cX9_shortenWays 0 = .ok (.iconst 0, 1) := by decide +kernel
theorem dX9_shortenWays_1 : decode cX9_shortenWays 1 = .ok (.istore_n 1, 1) := by decide +kernel
theorem dX9_shortenWays_2 : decode cX9_shortenWays 2 = .ok (.iload_n 1, 1) := by decide +kernel
theorem dX9_shortenWays_3 : decode cX9_shortenWays 3 = .ok (.bipush 6, 2) := by decide +kernel
theorem dX9_shortenWays_5 : decode cX9_shortenWays 5 = .ok (.if_icmp .ge 21, 3) := by decide +kernel
theorem dX9_shortenWays_8 : decode cX9_shortenWays 8 = .ok (.aload_n 0, 1) := by decide +kernel
theorem dX9_shortenWays_9 : decode cX9_shortenWays 9 = .ok (.getfield 34, 3) := by decide +kernel
theorem dX9_shortenWays_12 : decode cX9_shortenWays 12 = .ok (.iload_n 1, 1) := by decide +kernel
theorem dX9_shortenWays_13 : decode cX9_shortenWays 13 = .ok (.bipush 6, 2) := by decide +kernel
theorem dX9_shortenWays_15 : decode cX9_shortenWays 15 = .ok (.imul, 1) := by decide +kernel
theorem dX9_shortenWays_16 : decode cX9_shortenWays 16 = .ok (.iload_n 1, 1) := by decide +kernel
theorem dX9_shortenWays_17 : decode cX9_shortenWays 17 = .ok (.iadd, 1) := by decide +kernel
theorem dX9_shortenWays_18 : decode cX9_shortenWays 18 = .ok (.iconst 0, 1) := by decide +kernel
theorem dX9_shortenWays_19 : decode cX9_shortenWays 19 = .ok (.iastore, 1) := by decide +kernel
theorem dX9_shortenWays_20 : decode cX9_shortenWays 20 = .ok (.iinc 1 1, 3) := by decide +kernel
theorem dX9_shortenWays_23 : decode cX9_shortenWays 23 = .ok (.goto (-21), 3) := by decide +kernel
theorem dX9_shortenWays_26 : decode cX9_shortenWays 26 = .ok (.iconst 0, 1) := by decide +kernel
theorem dX9_shortenWays_27 : decode cX9_shortenWays 27 = .ok (.istore_n 1, 1) := by decide +kernel
theorem dX9_shortenWays_28 : decode cX9_shortenWays 28 = .ok (.iload_n 1, 1) := by decide +kernel
theorem dX9_shortenWays_29 : decode cX9_shortenWays 29 = .ok (.bipush 6, 2) := by decide +kernel
theorem dX9_shortenWays_31 : decode cX9_shortenWays 31 = .ok (.if_icmp .ge 69, 3) := by decide +kernel
theorem dX9_shortenWays_34 : decode cX9_shortenWays 34 = .ok (.iconst 0, 1) := by decide +kernel
theorem dX9_shortenWays_35 : decode cX9_shortenWays 35 = .ok (.istore_n 2, 1) := by decide +kernel
theorem dX9_shortenWays_36 : decode cX9_shortenWays 36 = .ok (.iload_n 2, 1) := by decide +kernel
theorem dX9_shortenWays_37 : decode cX9_shortenWays 37 = .ok (.bipush 36, 2) := by decide +kernel
theorem dX9_shortenWays_39 : decode cX9_shortenWays 39 = .ok (.if_icmp .ge 55, 3) := by decide +kernel
theorem dX9_shortenWays_42 : decode cX9_shortenWays 42 = .ok (.aload_n 0, 1) := by decide +kernel
theorem dX9_shortenWays_43 : decode cX9_shortenWays 43 = .ok (.getfield 34, 3) := by decide +kernel
theorem dX9_shortenWays_46 : decode cX9_shortenWays 46 = .ok (.iload_n 2, 1) := by decide +kernel
theorem dX9_shortenWays_47 : decode cX9_shortenWays 47 = .ok (.bipush 6, 2) := by decide +kernel
theorem dX9_shortenWays_49 : decode cX9_shortenWays 49 = .ok (.idiv, 1) := by decide +kernel
theorem dX9_shortenWays_50 : decode cX9_shortenWays 50 = .ok (.bipush 6, 2) := by decide +kernel
theorem dX9_shortenWays_52 : decode cX9_shortenWays 52 = .ok (.imul, 1) := by decide +kernel
theorem dX9_shortenWays_53 : decode cX9_shortenWays 53 = .ok (.iload_n 1, 1) := by decide +kernel
theorem dX9_shortenWays_54 : decode cX9_shortenWays 54 = .ok (.iadd, 1) := by decide +kernel
theorem dX9_shortenWays_55 : decode cX9_shortenWays 55 = .ok (.iaload, 1) := by decide +kernel
theorem dX9_shortenWays_56 : decode cX9_shortenWays 56 = .ok (.aload_n 0, 1) := by decide +kernel
theorem dX9_shortenWays_57 : decode cX9_shortenWays 57 = .ok (.getfield 34, 3) := by decide +kernel
theorem dX9_shortenWays_60 : decode cX9_shortenWays 60 = .ok (.iload_n 1, 1) := by decide +kernel
theorem dX9_shortenWays_61 : decode cX9_shortenWays 61 = .ok (.bipush 6, 2) := by decide +kernel
theorem dX9_shortenWays_63 : decode cX9_shortenWays 63 = .ok (.imul, 1) := by decide +kernel
theorem dX9_shortenWays_64 : decode cX9_shortenWays 64 = .ok (.iload_n 2, 1) := by decide +kernel
theorem dX9_shortenWays_65 : decode cX9_shortenWays 65 = .ok (.bipush 6, 2) := by decide +kernel
theorem dX9_shortenWays_67 : decode cX9_shortenWays 67 = .ok (.irem, 1) := by decide +kernel
theorem dX9_shortenWays_68 : decode cX9_shortenWays 68 = .ok (.iadd, 1) := by decide +kernel
theorem dX9_shortenWays_69 : decode cX9_shortenWays 69 = .ok (.iaload, 1) := by decide +kernel
theorem dX9_shortenWays_70 : decode cX9_shortenWays 70 = .ok (.iadd, 1) := by decide +kernel
theorem dX9_shortenWays_71 : decode cX9_shortenWays 71 = .ok (.istore_n 3, 1) := by decide +kernel
theorem dX9_shortenWays_72 : decode cX9_shortenWays 72 = .ok (.aload_n 0, 1) := by decide +kernel
theorem dX9_shortenWays_73 : decode cX9_shortenWays 73 = .ok (.getfield 34, 3) := by decide +kernel
theorem dX9_shortenWays_76 : decode cX9_shortenWays 76 = .ok (.iload_n 2, 1) := by decide +kernel
theorem dX9_shortenWays_77 : decode cX9_shortenWays 77 = .ok (.aload_n 0, 1) := by decide +kernel
theorem dX9_shortenWays_78 : decode cX9_shortenWays 78 = .ok (.getfield 34, 3) := by decide +kernel
theorem dX9_shortenWays_81 : decode cX9_shortenWays 81 = .ok (.iload_n 2, 1) := by decide +kernel
theorem dX9_shortenWays_82 : decode cX9_shortenWays 82 = .ok (.iaload, 1) := by decide +kernel
theorem dX9_shortenWays_83 : decode cX9_shortenWays 83 = .ok (.iload_n 3, 1) := by decide +kernel
theorem dX9_shortenWays_84 : decode cX9_shortenWays 84 = .ok (.invokestatic 100, 3) := by decide +kernel
theorem dX9_shortenWays_87 : decode cX9_shortenWays 87 = .ok (.iastore, 1) := by decide +kernel
theorem dX9_shortenWays_88 : decode cX9_shortenWays 88 = .ok (.iinc 2 1, 3) := by decide +kernel
theorem dX9_shortenWays_91 : decode cX9_shortenWays 91 = .ok (.goto (-55), 3) := by decide +kernel
theorem dX9_shortenWays_94 : decode cX9_shortenWays 94 = .ok (.iinc 1 1, 3) := by decide +kernel
theorem dX9_shortenWays_97 : decode cX9_shortenWays 97 = .ok (.goto (-69), 3) := by decide +kernel
theorem dX9_shortenWays_100 : decode cX9_shortenWays 100 = .ok (.return_, 1) := by decide +kernel
theorem dX9_worthAt_0 : decode cX9_worthAt 0 = .ok (.aload_n 0, 1) := by decide +kernel
theorem dX9_worthAt_1 : decode cX9_worthAt 1 = .ok (.getfield 37, 3) := by decide +kernel
theorem dX9_worthAt_4 : decode cX9_worthAt 4 = .ok (.iload_n 1, 1) := by decide +kernel
theorem dX9_worthAt_5 : decode cX9_worthAt 5 = .ok (.bipush 10, 2) := by decide +kernel
theorem dX9_worthAt_7 : decode cX9_worthAt 7 = .ok (.imul, 1) := by decide +kernel
theorem dX9_worthAt_8 : decode cX9_worthAt 8 = .ok (.iload_n 2, 1) := by decide +kernel
theorem dX9_worthAt_9 : decode cX9_worthAt 9 = .ok (.iadd, 1) := by decide +kernel
theorem dX9_worthAt_10 : decode cX9_worthAt 10 = .ok (.bipush 6, 2) := by decide +kernel
theorem dX9_worthAt_12 : decode cX9_worthAt 12 = .ok (.imul, 1) := by decide +kernel
theorem dX9_worthAt_13 : decode cX9_worthAt 13 = .ok (.iload_n 3, 1) := by decide +kernel
theorem dX9_worthAt_14 : decode cX9_worthAt 14 = .ok (.iadd, 1) := by decide +kernel
theorem dX9_worthAt_15 : decode cX9_worthAt 15 = .ok (.iaload, 1) := by decide +kernel
theorem dX9_worthAt_16 : decode cX9_worthAt 16 = .ok (.ireturn, 1) := by decide +kernel
theorem dX9_moodAt_0 : decode cX9_moodAt 0 = .ok (.aload_n 0, 1) := by decide +kernel
theorem dX9_moodAt_1 : decode cX9_moodAt 1 = .ok (.getfield 40, 3) := by decide +kernel
theorem dX9_moodAt_4 : decode cX9_moodAt 4 = .ok (.iload_n 1, 1) := by decide +kernel
theorem dX9_moodAt_5 : decode cX9_moodAt 5 = .ok (.bipush 10, 2) := by decide +kernel
theorem dX9_moodAt_7 : decode cX9_moodAt 7 = .ok (.imul, 1) := by decide +kernel
theorem dX9_moodAt_8 : decode cX9_moodAt 8 = .ok (.iload_n 2, 1) := by decide +kernel
theorem dX9_moodAt_9 : decode cX9_moodAt 9 = .ok (.iadd, 1) := by decide +kernel
theorem dX9_moodAt_10 : decode cX9_moodAt 10 = .ok (.bipush 6, 2) := by decide +kernel
theorem dX9_moodAt_12 : decode cX9_moodAt 12 = .ok (.imul, 1) := by decide +kernel
theorem dX9_moodAt_13 : decode cX9_moodAt 13 = .ok (.iload_n 3, 1) := by decide +kernel
theorem dX9_moodAt_14 : decode cX9_moodAt 14 = .ok (.iadd, 1) := by decide +kernel
theorem dX9_moodAt_15 : decode cX9_moodAt 15 = .ok (.bipush 6, 2) := by decide +kernel
theorem dX9_moodAt_17 : decode cX9_moodAt 17 = .ok (.imul, 1) := by decide +kernel
theorem dX9_moodAt_18 : decode cX9_moodAt 18 = .ok (.iload 4, 2) := by decide +kernel
theorem dX9_moodAt_20 : decode cX9_moodAt 20 = .ok (.iadd, 1) := by decide +kernel
theorem dX9_moodAt_21 : decode cX9_moodAt 21 = .ok (.iaload, 1) := by decide +kernel
theorem dX9_moodAt_22 : decode cX9_moodAt 22 = .ok (.ireturn, 1) := by decide +kernel
theorem dX9_setsDrawnBy_0 : decode cX9_setsDrawnBy 0 = .ok (.iconst 0, 1) := by decide +kernel
theorem dX9_setsDrawnBy_1 : decode cX9_setsDrawnBy 1 = .ok (.istore_n 3, 1) := by decide +kernel
theorem dX9_setsDrawnBy_2 : decode cX9_setsDrawnBy 2 = .ok (.iconst 0, 1) := by decide +kernel
theorem dX9_setsDrawnBy_3 : decode cX9_setsDrawnBy 3 = .ok (.istore 4, 2) := by decide +kernel
theorem dX9_setsDrawnBy_5 : decode cX9_setsDrawnBy 5 = .ok (.iload 4, 2) := by decide +kernel
theorem dX9_setsDrawnBy_7 : decode cX9_setsDrawnBy 7 = .ok (.bipush 16, 2) := by decide +kernel
theorem dX9_setsDrawnBy_9 : decode cX9_setsDrawnBy 9 = .ok (.if_icmp .ge 36, 3) := by decide +kernel
theorem dX9_setsDrawnBy_12 : decode cX9_setsDrawnBy 12 = .ok (.aload_n 0, 1) := by decide +kernel
theorem dX9_setsDrawnBy_13 : decode cX9_setsDrawnBy 13 = .ok (.iload 4, 2) := by decide +kernel
theorem dX9_setsDrawnBy_15 : decode cX9_setsDrawnBy 15 = .ok (.aload_n 0, 1) := by decide +kernel
theorem dX9_setsDrawnBy_16 : decode cX9_setsDrawnBy 16 = .ok (.getfield 25, 3) := by decide +kernel
theorem dX9_setsDrawnBy_19 : decode cX9_setsDrawnBy 19 = .ok (.iload_n 1, 1) := by decide +kernel
theorem dX9_setsDrawnBy_20 : decode cX9_setsDrawnBy 20 = .ok (.iaload, 1) := by decide +kernel
theorem dX9_setsDrawnBy_21 : decode cX9_setsDrawnBy 21 = .ok (.ishr, 1) := by decide +kernel
theorem dX9_setsDrawnBy_22 : decode cX9_setsDrawnBy 22 = .ok (.iconst 1, 1) := by decide +kernel
theorem dX9_setsDrawnBy_23 : decode cX9_setsDrawnBy 23 = .ok (.iand, 1) := by decide +kernel
theorem dX9_setsDrawnBy_24 : decode cX9_setsDrawnBy 24 = .ok (.iload_n 2, 1) := by decide +kernel
theorem dX9_setsDrawnBy_25 : decode cX9_setsDrawnBy 25 = .ok (.iconst 0, 1) := by decide +kernel
theorem dX9_setsDrawnBy_26 : decode cX9_setsDrawnBy 26 = .ok (.invokevirtual 108, 3) := by decide +kernel
theorem dX9_setsDrawnBy_29 : decode cX9_setsDrawnBy 29 = .ok (.ifCond .le 10, 3) := by decide +kernel
theorem dX9_setsDrawnBy_32 : decode cX9_setsDrawnBy 32 = .ok (.iload_n 3, 1) := by decide +kernel
theorem dX9_setsDrawnBy_33 : decode cX9_setsDrawnBy 33 = .ok (.iconst 1, 1) := by decide +kernel
theorem dX9_setsDrawnBy_34 : decode cX9_setsDrawnBy 34 = .ok (.iload 4, 2) := by decide +kernel
theorem dX9_setsDrawnBy_36 : decode cX9_setsDrawnBy 36 = .ok (.ishl, 1) := by decide +kernel
theorem dX9_setsDrawnBy_37 : decode cX9_setsDrawnBy 37 = .ok (.ior, 1) := by decide +kernel
theorem dX9_setsDrawnBy_38 : decode cX9_setsDrawnBy 38 = .ok (.istore_n 3, 1) := by decide +kernel
theorem dX9_setsDrawnBy_39 : decode cX9_setsDrawnBy 39 = .ok (.iinc 4 1, 3) := by decide +kernel
theorem dX9_setsDrawnBy_42 : decode cX9_setsDrawnBy 42 = .ok (.goto (-37), 3) := by decide +kernel
theorem dX9_setsDrawnBy_45 : decode cX9_setsDrawnBy 45 = .ok (.iload_n 3, 1) := by decide +kernel
theorem dX9_setsDrawnBy_46 : decode cX9_setsDrawnBy 46 = .ok (.ireturn, 1) := by decide +kernel
theorem dX9_foePairs_0 : decode cX9_foePairs 0 = .ok (.iconst 0, 1) := by decide +kernel
theorem dX9_foePairs_1 : decode cX9_foePairs 1 = .ok (.istore_n 1, 1) := by decide +kernel
theorem dX9_foePairs_2 : decode cX9_foePairs 2 = .ok (.iconst 0, 1) := by decide +kernel
theorem dX9_foePairs_3 : decode cX9_foePairs 3 = .ok (.istore_n 2, 1) := by decide +kernel
theorem dX9_foePairs_4 : decode cX9_foePairs 4 = .ok (.iload_n 2, 1) := by decide +kernel
theorem dX9_foePairs_5 : decode cX9_foePairs 5 = .ok (.aload_n 0, 1) := by decide +kernel
theorem dX9_foePairs_6 : decode cX9_foePairs 6 = .ok (.getfield 54, 3) := by decide +kernel
theorem dX9_foePairs_9 : decode cX9_foePairs 9 = .ok (.if_icmp .ge 21, 3) := by decide +kernel
theorem dX9_foePairs_12 : decode cX9_foePairs 12 = .ok (.iload_n 1, 1) := by decide +kernel
theorem dX9_foePairs_13 : decode cX9_foePairs 13 = .ok (.aload_n 0, 1) := by decide +kernel
theorem dX9_foePairs_14 : decode cX9_foePairs 14 = .ok (.getfield 31, 3) := by decide +kernel
theorem dX9_foePairs_17 : decode cX9_foePairs 17 = .ok (.iload_n 2, 1) := by decide +kernel
theorem dX9_foePairs_18 : decode cX9_foePairs 18 = .ok (.iaload, 1) := by decide +kernel
theorem dX9_foePairs_19 : decode cX9_foePairs 19 = .ok (.invokestatic 112, 3) := by decide +kernel
theorem dX9_foePairs_22 : decode cX9_foePairs 22 = .ok (.iadd, 1) := by decide +kernel
theorem dX9_foePairs_23 : decode cX9_foePairs 23 = .ok (.istore_n 1, 1) := by decide +kernel
theorem dX9_foePairs_24 : decode cX9_foePairs 24 = .ok (.iinc 2 1, 3) := by decide +kernel
theorem dX9_foePairs_27 : decode cX9_foePairs 27 = .ok (.goto (-23), 3) := by decide +kernel
theorem dX9_foePairs_30 : decode cX9_foePairs 30 = .ok (.iload_n 1, 1) := by decide +kernel
theorem dX9_foePairs_31 : decode cX9_foePairs 31 = .ok (.iconst 2, 1) := by decide +kernel
theorem dX9_foePairs_32 : decode cX9_foePairs 32 = .ok (.idiv, 1) := by decide +kernel
theorem dX9_foePairs_33 : decode cX9_foePairs 33 = .ok (.ireturn, 1) := by decide +kernel
theorem dX9_canGo_0 : decode cX9_canGo 0 = .ok (.aload_n 1, 1) := by decide +kernel
theorem dX9_canGo_1 : decode cX9_canGo 1 = .ok (.getfield 118, 3) := by decide +kernel
theorem dX9_canGo_4 : decode cX9_canGo 4 = .ok (.iload_n 2, 1) := by decide +kernel
theorem dX9_canGo_5 : decode cX9_canGo 5 = .ok (.iaload, 1) := by decide +kernel
theorem dX9_canGo_6 : decode cX9_canGo 6 = .ok (.iload_n 3, 1) := by decide +kernel
theorem dX9_canGo_7 : decode cX9_canGo 7 = .ok (.if_icmp .eq 26, 3) := by decide +kernel
theorem dX9_canGo_10 : decode cX9_canGo 10 = .ok (.aload_n 1, 1) := by decide +kernel
theorem dX9_canGo_11 : decode cX9_canGo 11 = .ok (.iload_n 3, 1) := by decide +kernel
theorem dX9_canGo_12 : decode cX9_canGo 12 = .ok (.aload_n 0, 1) := by decide +kernel
theorem dX9_canGo_13 : decode cX9_canGo 13 = .ok (.getfield 54, 3) := by decide +kernel
theorem dX9_canGo_16 : decode cX9_canGo 16 = .ok (.invokevirtual 121, 3) := by decide +kernel
theorem dX9_canGo_19 : decode cX9_canGo 19 = .ok (.aload_n 0, 1) := by decide +kernel
theorem dX9_canGo_20 : decode cX9_canGo 20 = .ok (.getfield 31, 3) := by decide +kernel
theorem dX9_canGo_23 : decode cX9_canGo 23 = .ok (.iload_n 2, 1) := by decide +kernel
theorem dX9_canGo_24 : decode cX9_canGo 24 = .ok (.iaload, 1) := by decide +kernel
theorem dX9_canGo_25 : decode cX9_canGo 25 = .ok (.iand, 1) := by decide +kernel
theorem dX9_canGo_26 : decode cX9_canGo 26 = .ok (.ifCond .ne 7, 3) := by decide +kernel
theorem dX9_canGo_29 : decode cX9_canGo 29 = .ok (.iconst 1, 1) := by decide +kernel
theorem dX9_canGo_30 : decode cX9_canGo 30 = .ok (.goto 4, 3) := by decide +kernel
theorem dX9_canGo_33 : decode cX9_canGo 33 = .ok (.iconst 0, 1) := by decide +kernel
theorem dX9_canGo_34 : decode cX9_canGo 34 = .ok (.ireturn, 1) := by decide +kernel
theorem dX9_cheer_0 : decode cX9_cheer 0 = .ok (.aload_n 1, 1) := by decide +kernel
theorem dX9_cheer_1 : decode cX9_cheer 1 = .ok (.getfield 124, 3) := by decide +kernel
theorem dX9_cheer_4 : decode cX9_cheer 4 = .ok (.iload_n 2, 1) := by decide +kernel
theorem dX9_cheer_5 : decode cX9_cheer 5 = .ok (.bipush 9, 2) := by decide +kernel
theorem dX9_cheer_7 : decode cX9_cheer 7 = .ok (.aload_n 1, 1) := by decide +kernel
theorem dX9_cheer_8 : decode cX9_cheer 8 = .ok (.getfield 124, 3) := by decide +kernel
theorem dX9_cheer_11 : decode cX9_cheer 11 = .ok (.iload_n 2, 1) := by decide +kernel
theorem dX9_cheer_12 : decode cX9_cheer 12 = .ok (.iaload, 1) := by decide +kernel
theorem dX9_cheer_13 : decode cX9_cheer 13 = .ok (.aload_n 0, 1) := by decide +kernel
theorem dX9_cheer_14 : decode cX9_cheer 14 = .ok (.getfield 66, 3) := by decide +kernel
theorem dX9_cheer_17 : decode cX9_cheer 17 = .ok (.iadd, 1) := by decide +kernel
theorem dX9_cheer_18 : decode cX9_cheer 18 = .ok (.invokestatic 100, 3) := by decide +kernel
theorem dX9_cheer_21 : decode cX9_cheer 21 = .ok (.iastore, 1) := by decide +kernel
theorem dX9_cheer_22 : decode cX9_cheer 22 = .ok (.return_, 1) := by decide +kernel
theorem dX10_init_0 : decode cX10_init 0 = .ok (.aload_n 0, 1) := by decide +kernel
theorem dX10_init_1 : decode cX10_init 1 = .ok (.invokespecial 1, 3) := by decide +kernel
theorem dX10_init_4 : decode cX10_init 4 = .ok (.aload_n 0, 1) := by decide +kernel
theorem dX10_init_5 : decode cX10_init 5 = .ok (.new 7, 3) := by decide +kernel
theorem dX10_init_8 : decode cX10_init 8 = .ok (.dup, 1) := by decide +kernel
theorem dX10_init_9 : decode cX10_init 9 = .ok (.invokespecial 9, 3) := by decide +kernel
theorem dX10_init_12 : decode cX10_init 12 = .ok (.putfield 10, 3) := by decide +kernel
theorem dX10_init_15 : decode cX10_init 15 = .ok (.aload_n 0, 1) := by decide +kernel
theorem dX10_init_16 : decode cX10_init 16 = .ok (.new 16, 3) := by decide +kernel
theorem dX10_init_19 : decode cX10_init 19 = .ok (.dup, 1) := by decide +kernel
theorem dX10_init_20 : decode cX10_init 20 = .ok (.aload_n 0, 1) := by decide +kernel
theorem dX10_init_21 : decode cX10_init 21 = .ok (.getfield 10, 3) := by decide +kernel
theorem dX10_init_24 : decode cX10_init 24 = .ok (.invokespecial 18, 3) := by decide +kernel
theorem dX10_init_27 : decode cX10_init 27 = .ok (.putfield 21, 3) := by decide +kernel
theorem dX10_init_30 : decode cX10_init 30 = .ok (.aload_n 0, 1) := by decide +kernel
theorem dX10_init_31 : decode cX10_init 31 = .ok (.new 25, 3) := by decide +kernel
theorem dX10_init_34 : decode cX10_init 34 = .ok (.dup, 1) := by decide +kernel
theorem dX10_init_35 : decode cX10_init 35 = .ok (.invokespecial 27, 3) := by decide +kernel
theorem dX10_init_38 : decode cX10_init 38 = .ok (.putfield 28, 3) := by decide +kernel
theorem dX10_init_41 : decode cX10_init 41 = .ok (.aload_n 0, 1) := by decide +kernel
theorem dX10_init_42 : decode cX10_init 42 = .ok (.new 32, 3) := by decide +kernel
theorem dX10_init_45 : decode cX10_init 45 = .ok (.dup, 1) := by decide +kernel
theorem dX10_init_46 : decode cX10_init 46 = .ok (.invokespecial 34, 3) := by decide +kernel
theorem dX10_init_49 : decode cX10_init 49 = .ok (.putfield 35, 3) := by decide +kernel
theorem dX10_init_52 : decode cX10_init 52 = .ok (.aload_n 0, 1) := by decide +kernel
theorem dX10_init_53 : decode cX10_init 53 = .ok (.new 39, 3) := by decide +kernel
theorem dX10_init_56 : decode cX10_init 56 = .ok (.dup, 1) := by decide +kernel
theorem dX10_init_57 : decode cX10_init 57 = .ok (.invokespecial 41, 3) := by decide +kernel
theorem dX10_init_60 : decode cX10_init 60 = .ok (.putfield 42, 3) := by decide +kernel
theorem dX10_init_63 : decode cX10_init 63 = .ok (.aload_n 0, 1) := by decide +kernel
theorem dX10_init_64 : decode cX10_init 64 = .ok (.new 46, 3) := by decide +kernel
theorem dX10_init_67 : decode cX10_init 67 = .ok (.dup, 1) := by decide +kernel
theorem dX10_init_68 : decode cX10_init 68 = .ok (.invokespecial 48, 3) := by decide +kernel
theorem dX10_init_71 : decode cX10_init 71 = .ok (.putfield 49, 3) := by decide +kernel
theorem dX10_init_74 : decode cX10_init 74 = .ok (.aload_n 0, 1) := by decide +kernel
theorem dX10_init_75 : decode cX10_init 75 = .ok (.new 53, 3) := by decide +kernel
theorem dX10_init_78 : decode cX10_init 78 = .ok (.dup, 1) := by decide +kernel
theorem dX10_init_79 : decode cX10_init 79 = .ok (.invokespecial 55, 3) := by decide +kernel
theorem dX10_init_82 : decode cX10_init 82 = .ok (.putfield 56, 3) := by decide +kernel
theorem dX10_init_85 : decode cX10_init 85 = .ok (.aload_n 0, 1) := by decide +kernel
theorem dX10_init_86 : decode cX10_init 86 = .ok (.new 53, 3) := by decide +kernel
theorem dX10_init_89 : decode cX10_init 89 = .ok (.dup, 1) := by decide +kernel
theorem dX10_init_90 : decode cX10_init 90 = .ok (.invokespecial 55, 3) := by decide +kernel
theorem dX10_init_93 : decode cX10_init 93 = .ok (.putfield 60, 3) := by decide +kernel
theorem dX10_init_96 : decode cX10_init 96 = .ok (.aload_n 0, 1) := by decide +kernel
theorem dX10_init_97 : decode cX10_init 97 = .ok (.new 63, 3) := by decide +kernel
theorem dX10_init_100 : decode cX10_init 100 = .ok (.dup, 1) := by decide +kernel
theorem dX10_init_101 : decode cX10_init 101 = .ok (.invokespecial 65, 3) := by decide +kernel
theorem dX10_init_104 : decode cX10_init 104 = .ok (.putfield 66, 3) := by decide +kernel
theorem dX10_init_107 : decode cX10_init 107 = .ok (.aload_n 0, 1) := by decide +kernel
theorem dX10_init_108 : decode cX10_init 108 = .ok (.iconst 4, 1) := by decide +kernel
theorem dX10_init_109 : decode cX10_init 109 = .ok (.anewarray 63, 3) := by decide +kernel
theorem dX10_init_112 : decode cX10_init 112 = .ok (.putfield 70, 3) := by decide +kernel
theorem dX10_init_115 : decode cX10_init 115 = .ok (.iconst 0, 1) := by decide +kernel
theorem dX10_init_116 : decode cX10_init 116 = .ok (.istore_n 1, 1) := by decide +kernel
theorem dX10_init_117 : decode cX10_init 117 = .ok (.iload_n 1, 1) := by decide +kernel
theorem dX10_init_118 : decode cX10_init 118 = .ok (.iconst 4, 1) := by decide +kernel
theorem dX10_init_119 : decode cX10_init 119 = .ok (.if_icmp .ge 22, 3) := by decide +kernel
theorem dX10_init_122 : decode cX10_init 122 = .ok (.aload_n 0, 1) := by decide +kernel
theorem dX10_init_123 : decode cX10_init 123 = .ok (.getfield 70, 3) := by decide +kernel
theorem dX10_init_126 : decode cX10_init 126 = .ok (.iload_n 1, 1) := by decide +kernel
theorem dX10_init_127 : decode cX10_init 127 = .ok (.new 63, 3) := by decide +kernel
theorem dX10_init_130 : decode cX10_init 130 = .ok (.dup, 1) := by decide +kernel
theorem dX10_init_131 : decode cX10_init 131 = .ok (.invokespecial 65, 3) := by decide +kernel
theorem dX10_init_134 : decode cX10_init 134 = .ok (.aastore, 1) := by decide +kernel
theorem dX10_init_135 : decode cX10_init 135 = .ok (.iinc 1 1, 3) := by decide +kernel
theorem dX10_init_138 : decode cX10_init 138 = .ok (.goto (-21), 3) := by decide +kernel
theorem dX10_init_141 : decode cX10_init 141 = .ok (.aload_n 0, 1) := by decide +kernel
theorem dX10_init_142 : decode cX10_init 142 = .ok (.new 74, 3) := by decide +kernel
theorem dX10_init_145 : decode cX10_init 145 = .ok (.dup, 1) := by decide +kernel
theorem dX10_init_146 : decode cX10_init 146 = .ok (.invokespecial 76, 3) := by decide +kernel
theorem dX10_init_149 : decode cX10_init 149 = .ok (.putfield 77, 3) := by decide +kernel
theorem dX10_init_152 : decode cX10_init 152 = .ok (.aload_n 0, 1) := by decide +kernel
theorem dX10_init_153 : decode cX10_init 153 = .ok (.bipush 16, 2) := by decide +kernel
theorem dX10_init_155 : decode cX10_init 155 = .ok (.anewarray 74, 3) := by decide +kernel
theorem dX10_init_158 : decode cX10_init 158 = .ok (.putfield 81, 3) := by decide +kernel
theorem dX10_init_161 : decode cX10_init 161 = .ok (.iconst 0, 1) := by decide +kernel
theorem dX10_init_162 : decode cX10_init 162 = .ok (.istore_n 1, 1) := by decide +kernel
theorem dX10_init_163 : decode cX10_init 163 = .ok (.iload_n 1, 1) := by decide +kernel
theorem dX10_init_164 : decode cX10_init 164 = .ok (.bipush 16, 2) := by decide +kernel
theorem dX10_init_166 : decode cX10_init 166 = .ok (.if_icmp .ge 22, 3) := by decide +kernel
theorem dX10_init_169 : decode cX10_init 169 = .ok (.aload_n 0, 1) := by decide +kernel
theorem dX10_init_170 : decode cX10_init 170 = .ok (.getfield 81, 3) := by decide +kernel
theorem dX10_init_173 : decode cX10_init 173 = .ok (.iload_n 1, 1) := by decide +kernel
theorem dX10_init_174 : decode cX10_init 174 = .ok (.new 74, 3) := by decide +kernel
theorem dX10_init_177 : decode cX10_init 177 = .ok (.dup, 1) := by decide +kernel
theorem dX10_init_178 : decode cX10_init 178 = .ok (.invokespecial 76, 3) := by decide +kernel
theorem dX10_init_181 : decode cX10_init 181 = .ok (.aastore, 1) := by decide +kernel
theorem dX10_init_182 : decode cX10_init 182 = .ok (.iinc 1 1, 3) := by decide +kernel
theorem dX10_init_185 : decode cX10_init 185 = .ok (.goto (-22), 3) := by decide +kernel
theorem dX10_init_188 : decode cX10_init 188 = .ok (.aload_n 0, 1) := by decide +kernel
theorem dX10_init_189 : decode cX10_init 189 = .ok (.getfield 56, 3) := by decide +kernel
theorem dX10_init_192 : decode cX10_init 192 = .ok (.invokevirtual 85, 3) := by decide +kernel
theorem dX10_init_195 : decode cX10_init 195 = .ok (.aload_n 0, 1) := by decide +kernel
theorem dX10_init_196 : decode cX10_init 196 = .ok (.getfield 56, 3) := by decide +kernel
theorem dX10_init_199 : decode cX10_init 199 = .ok (.invokevirtual 88, 3) := by decide +kernel
theorem dX10_init_202 : decode cX10_init 202 = .ok (.return_, 1) := by decide +kernel
theorem dX10_feed_0 : decode cX10_feed 0 = .ok (.aload_n 0, 1) := by decide +kernel
theorem dX10_feed_1 : decode cX10_feed 1 = .ok (.getfield 10, 3) := by decide +kernel
theorem dX10_feed_4 : decode cX10_feed 4 = .ok (.lload_n 1, 1) := by decide +kernel
theorem dX10_feed_5 : decode cX10_feed 5 = .ok (.invokevirtual 91, 3) := by decide +kernel
theorem dX10_feed_8 : decode cX10_feed 8 = .ok (.aload_n 0, 1) := by decide +kernel
theorem dX10_feed_9 : decode cX10_feed 9 = .ok (.getfield 10, 3) := by decide +kernel
theorem dX10_feed_12 : decode cX10_feed 12 = .ok (.lload_n 3, 1) := by decide +kernel
theorem dX10_feed_13 : decode cX10_feed 13 = .ok (.invokevirtual 91, 3) := by decide +kernel
theorem dX10_feed_16 : decode cX10_feed 16 = .ok (.aload_n 0, 1) := by decide +kernel
theorem dX10_feed_17 : decode cX10_feed 17 = .ok (.getfield 10, 3) := by decide +kernel
theorem dX10_feed_20 : decode cX10_feed 20 = .ok (.lload 5, 2) := by decide +kernel
theorem dX10_feed_22 : decode cX10_feed 22 = .ok (.invokevirtual 91, 3) := by decide +kernel
theorem dX10_feed_25 : decode cX10_feed 25 = .ok (.aload_n 0, 1) := by decide +kernel
theorem dX10_feed_26 : decode cX10_feed 26 = .ok (.getfield 10, 3) := by decide +kernel
theorem dX10_feed_29 : decode cX10_feed 29 = .ok (.getfield 95, 3) := by decide +kernel
theorem dX10_feed_32 : decode cX10_feed 32 = .ok (.ireturn, 1) := by decide +kernel
theorem dX10_zoo_0 : decode cX10_zoo 0 = .ok (.aload_n 0, 1) := by decide +kernel
theorem dX10_zoo_1 : decode cX10_zoo 1 = .ok (.getfield 21, 3) := by decide +kernel
theorem dX10_zoo_4 : decode cX10_zoo 4 = .ok (.aload_n 0, 1) := by decide +kernel
theorem dX10_zoo_5 : decode cX10_zoo 5 = .ok (.getfield 60, 3) := by decide +kernel
theorem dX10_zoo_8 : decode cX10_zoo 8 = .ok (.invokevirtual 99, 3) := by decide +kernel
theorem dX10_zoo_11 : decode cX10_zoo 11 = .ok (.istore_n 1, 1) := by decide +kernel
theorem dX10_zoo_12 : decode cX10_zoo 12 = .ok (.iload_n 1, 1) := by decide +kernel
theorem dX10_zoo_13 : decode cX10_zoo 13 = .ok (.ifCond .ne 71, 3) := by decide +kernel
theorem dX10_zoo_16 : decode cX10_zoo 16 = .ok (.aload_n 0, 1) := by decide +kernel
theorem dX10_zoo_17 : decode cX10_zoo 17 = .ok (.getfield 56, 3) := by decide +kernel
theorem dX10_zoo_20 : decode cX10_zoo 20 = .ok (.astore_n 2, 1) := by decide +kernel
