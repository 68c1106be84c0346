theorem dX11_rests_123 : decode cX11_rests 123 = .ok (.putfield 187, 3) := by decide +kernel
theorem dX11_rests_126 : decode cX11_rests 126 = .ok (.iload_n 3, 1) := by decide +kernel
theorem dX11_rests_127 : decode cX11_rests 127 = .ok (.iconst (-1), 1) := by decide +kernel
theorem dX11_rests_128 : decode cX11_rests 128 = .ok (.if_icmp .ne 8, 3) := by decide +kernel
theorem dX11_rests_131 : decode cX11_rests 131 = .ok (.iload 4, 2) := by decide +kernel
theorem dX11_rests_133 : decode cX11_rests 133 = .ok (.goto 4, 3) := by decide +kernel
theorem dX11_rests_136 : decode cX11_rests 136 = .ok (.iconst 0, 1) := by decide +kernel
theorem dX11_rests_137 : decode cX11_rests 137 = .ok (.ireturn, 1) := by decide +kernel
theorem dX11_pacesIn_0 : decode cX11_pacesIn 0 = .ok (.iload_n 1, 1) := by decide +kernel
theorem dX11_pacesIn_1 : decode cX11_pacesIn 1 = .ok (.ifCond .ne 5, 3) := by decide +kernel
theorem dX11_pacesIn_4 : decode cX11_pacesIn 4 = .ok (.lconst 0, 1) := by decide +kernel
theorem dX11_pacesIn_5 : decode cX11_pacesIn 5 = .ok (.lreturn, 1) := by decide +kernel
theorem dX11_pacesIn_6 : decode cX11_pacesIn 6 = .ok (.lconst 0, 1) := by decide +kernel
theorem dX11_pacesIn_7 : decode cX11_pacesIn 7 = .ok (.lstore 4, 2) := by decide +kernel
theorem dX11_pacesIn_9 : decode cX11_pacesIn 9 = .ok (.lconst 1, 1) := by decide +kernel
theorem dX11_pacesIn_10 : decode cX11_pacesIn 10 = .ok (.lstore 6, 2) := by decide +kernel
theorem dX11_pacesIn_12 : decode cX11_pacesIn 12 = .ok (.iconst 1, 1) := by decide +kernel
theorem dX11_pacesIn_13 : decode cX11_pacesIn 13 = .ok (.istore 8, 2) := by decide +kernel
theorem dX11_pacesIn_15 : decode cX11_pacesIn 15 = .ok (.iload 8, 2) := by decide +kernel
theorem dX11_pacesIn_17 : decode cX11_pacesIn 17 = .ok (.iload_n 1, 1) := by decide +kernel
theorem dX11_pacesIn_18 : decode cX11_pacesIn 18 = .ok (.if_icmp .ge 17, 3) := by decide +kernel
theorem dX11_pacesIn_21 : decode cX11_pacesIn 21 = .ok (.lload 6, 2) := by decide +kernel
theorem dX11_pacesIn_23 : decode cX11_pacesIn 23 = .ok (.ldc2_w 557, 3) := by decide +kernel
theorem dX11_pacesIn_26 : decode cX11_pacesIn 26 = .ok (.lmul, 1) := by decide +kernel
theorem dX11_pacesIn_27 : decode cX11_pacesIn 27 = .ok (.lstore 6, 2) := by decide +kernel
theorem dX11_pacesIn_29 : decode cX11_pacesIn 29 = .ok (.iinc 8 1, 3) := by decide +kernel
theorem dX11_pacesIn_32 : decode cX11_pacesIn 32 = .ok (.goto (-17), 3) := by decide +kernel
theorem dX11_pacesIn_35 : decode cX11_pacesIn 35 = .ok (.aload_n 0, 1) := by decide +kernel
theorem dX11_pacesIn_36 : decode cX11_pacesIn 36 = .ok (.getfield 114, 3) := by decide +kernel
theorem dX11_pacesIn_39 : decode cX11_pacesIn 39 = .ok (.iconst 0, 1) := by decide +kernel
theorem dX11_pacesIn_40 : decode cX11_pacesIn 40 = .ok (.aload_n 0, 1) := by decide +kernel
theorem dX11_pacesIn_41 : decode cX11_pacesIn 41 = .ok (.getfield 120, 3) := by decide +kernel
theorem dX11_pacesIn_44 : decode cX11_pacesIn 44 = .ok (.bipush 19, 2) := by decide +kernel
theorem dX11_pacesIn_46 : decode cX11_pacesIn 46 = .ok (.iload_n 3, 1) := by decide +kernel
theorem dX11_pacesIn_47 : decode cX11_pacesIn 47 = .ok (.imul, 1) := by decide +kernel
theorem dX11_pacesIn_48 : decode cX11_pacesIn 48 = .ok (.invokestatic 485, 3) := by decide +kernel
theorem dX11_pacesIn_51 : decode cX11_pacesIn 51 = .ok (.iconst 0, 1) := by decide +kernel
theorem dX11_pacesIn_52 : decode cX11_pacesIn 52 = .ok (.istore 8, 2) := by decide +kernel
theorem dX11_pacesIn_54 : decode cX11_pacesIn 54 = .ok (.iload 8, 2) := by decide +kernel
theorem dX11_pacesIn_56 : decode cX11_pacesIn 56 = .ok (.iconst 2, 1) := by decide +kernel
theorem dX11_pacesIn_57 : decode cX11_pacesIn 57 = .ok (.if_icmp .ge 110, 3) := by decide +kernel
theorem dX11_pacesIn_60 : decode cX11_pacesIn 60 = .ok (.iload 8, 2) := by decide +kernel
theorem dX11_pacesIn_62 : decode cX11_pacesIn 62 = .ok (.iconst 1, 1) := by decide +kernel
theorem dX11_pacesIn_63 : decode cX11_pacesIn 63 = .ok (.if_icmp .ne 13, 3) := by decide +kernel
theorem dX11_pacesIn_66 : decode cX11_pacesIn 66 = .ok (.aload_n 0, 1) := by decide +kernel
theorem dX11_pacesIn_67 : decode cX11_pacesIn 67 = .ok (.getfield 13, 3) := by decide +kernel
theorem dX11_pacesIn_70 : decode cX11_pacesIn 70 = .ok (.bipush 8, 2) := by decide +kernel
theorem dX11_pacesIn_72 : decode cX11_pacesIn 72 = .ok (.iaload, 1) := by decide +kernel
theorem dX11_pacesIn_73 : decode cX11_pacesIn 73 = .ok (.goto 13, 3) := by decide +kernel
theorem dX11_pacesIn_76 : decode cX11_pacesIn 76 = .ok (.bipush 10, 2) := by decide +kernel
theorem dX11_pacesIn_78 : decode cX11_pacesIn 78 = .ok (.aload_n 0, 1) := by decide +kernel
theorem dX11_pacesIn_79 : decode cX11_pacesIn 79 = .ok (.getfield 13, 3) := by decide +kernel
theorem dX11_pacesIn_82 : decode cX11_pacesIn 82 = .ok (.bipush 8, 2) := by decide +kernel
theorem dX11_pacesIn_84 : decode cX11_pacesIn 84 = .ok (.iaload, 1) := by decide +kernel
theorem dX11_pacesIn_85 : decode cX11_pacesIn 85 = .ok (.isub, 1) := by decide +kernel
theorem dX11_pacesIn_86 : decode cX11_pacesIn 86 = .ok (.istore 9, 2) := by decide +kernel
theorem dX11_pacesIn_88 : decode cX11_pacesIn 88 = .ok (.iload 9, 2) := by decide +kernel
theorem dX11_pacesIn_90 : decode cX11_pacesIn 90 = .ok (.ifCond .ne 6, 3) := by decide +kernel
theorem dX11_pacesIn_93 : decode cX11_pacesIn 93 = .ok (.goto 68, 3) := by decide +kernel
theorem dX11_pacesIn_96 : decode cX11_pacesIn 96 = .ok (.aload_n 0, 1) := by decide +kernel
theorem dX11_pacesIn_97 : decode cX11_pacesIn 97 = .ok (.iload 8, 2) := by decide +kernel
theorem dX11_pacesIn_99 : decode cX11_pacesIn 99 = .ok (.ifCond .ne 7, 3) := by decide +kernel
theorem dX11_pacesIn_102 : decode cX11_pacesIn 102 = .ok (.iconst 1, 1) := by decide +kernel
theorem dX11_pacesIn_103 : decode cX11_pacesIn 103 = .ok (.goto 4, 3) := by decide +kernel
theorem dX11_pacesIn_106 : decode cX11_pacesIn 106 = .ok (.iconst 0, 1) := by decide +kernel
theorem dX11_pacesIn_107 : decode cX11_pacesIn 107 = .ok (.invokevirtual 501, 3) := by decide +kernel
theorem dX11_pacesIn_110 : decode cX11_pacesIn 110 = .ok (.pop, 1) := by decide +kernel
theorem dX11_pacesIn_111 : decode cX11_pacesIn 111 = .ok (.lload 4, 2) := by decide +kernel
theorem dX11_pacesIn_113 : decode cX11_pacesIn 113 = .ok (.iload 9, 2) := by decide +kernel
theorem dX11_pacesIn_115 : decode cX11_pacesIn 115 = .ok (.i2l, 1) := by decide +kernel
theorem dX11_pacesIn_116 : decode cX11_pacesIn 116 = .ok (.aload_n 0, 1) := by decide +kernel
theorem dX11_pacesIn_117 : decode cX11_pacesIn 117 = .ok (.invokevirtual 508, 3) := by decide +kernel
theorem dX11_pacesIn_120 : decode cX11_pacesIn 120 = .ok (.iload_n 2, 1) := by decide +kernel
theorem dX11_pacesIn_121 : decode cX11_pacesIn 121 = .ok (.iand, 1) := by decide +kernel
theorem dX11_pacesIn_122 : decode cX11_pacesIn 122 = .ok (.ifCond .eq 8, 3) := by decide +kernel
theorem dX11_pacesIn_125 : decode cX11_pacesIn 125 = .ok (.lload 6, 2) := by decide +kernel
theorem dX11_pacesIn_127 : decode cX11_pacesIn 127 = .ok (.goto 14, 3) := by decide +kernel
theorem dX11_pacesIn_130 : decode cX11_pacesIn 130 = .ok (.aload_n 0, 1) := by decide +kernel
theorem dX11_pacesIn_131 : decode cX11_pacesIn 131 = .ok (.iload_n 1, 1) := by decide +kernel
theorem dX11_pacesIn_132 : decode cX11_pacesIn 132 = .ok (.iconst 1, 1) := by decide +kernel
theorem dX11_pacesIn_133 : decode cX11_pacesIn 133 = .ok (.isub, 1) := by decide +kernel
theorem dX11_pacesIn_134 : decode cX11_pacesIn 134 = .ok (.iload_n 2, 1) := by decide +kernel
theorem dX11_pacesIn_135 : decode cX11_pacesIn 135 = .ok (.iload_n 3, 1) := by decide +kernel
theorem dX11_pacesIn_136 : decode cX11_pacesIn 136 = .ok (.iconst 1, 1) := by decide +kernel
theorem dX11_pacesIn_137 : decode cX11_pacesIn 137 = .ok (.iadd, 1) := by decide +kernel
theorem dX11_pacesIn_138 : decode cX11_pacesIn 138 = .ok (.invokevirtual 559, 3) := by decide +kernel
theorem dX11_pacesIn_141 : decode cX11_pacesIn 141 = .ok (.lmul, 1) := by decide +kernel
theorem dX11_pacesIn_142 : decode cX11_pacesIn 142 = .ok (.ladd, 1) := by decide +kernel
theorem dX11_pacesIn_143 : decode cX11_pacesIn 143 = .ok (.lstore 4, 2) := by decide +kernel
theorem dX11_pacesIn_145 : decode cX11_pacesIn 145 = .ok (.aload_n 0, 1) := by decide +kernel
theorem dX11_pacesIn_146 : decode cX11_pacesIn 146 = .ok (.getfield 120, 3) := by decide +kernel
theorem dX11_pacesIn_149 : decode cX11_pacesIn 149 = .ok (.bipush 19, 2) := by decide +kernel
theorem dX11_pacesIn_151 : decode cX11_pacesIn 151 = .ok (.iload_n 3, 1) := by decide +kernel
theorem dX11_pacesIn_152 : decode cX11_pacesIn 152 = .ok (.imul, 1) := by decide +kernel
theorem dX11_pacesIn_153 : decode cX11_pacesIn 153 = .ok (.aload_n 0, 1) := by decide +kernel
theorem dX11_pacesIn_154 : decode cX11_pacesIn 154 = .ok (.getfield 114, 3) := by decide +kernel
theorem dX11_pacesIn_157 : decode cX11_pacesIn 157 = .ok (.iconst 0, 1) := by decide +kernel
theorem dX11_pacesIn_158 : decode cX11_pacesIn 158 = .ok (.invokestatic 485, 3) := by decide +kernel
theorem dX11_pacesIn_161 : decode cX11_pacesIn 161 = .ok (.iinc 8 1, 3) := by decide +kernel
theorem dX11_pacesIn_164 : decode cX11_pacesIn 164 = .ok (.goto (-110), 3) := by decide +kernel
theorem dX11_pacesIn_167 : decode cX11_pacesIn 167 = .ok (.lload 4, 2) := by decide +kernel
theorem dX11_pacesIn_169 : decode cX11_pacesIn 169 = .ok (.lreturn, 1) := by decide +kernel
theorem dX11_allOf_0 : decode cX11_allOf 0 = .ok (.lconst 1, 1) := by decide +kernel
theorem dX11_allOf_1 : decode cX11_allOf 1 = .ok (.lstore_n 2, 1) := by decide +kernel
theorem dX11_allOf_2 : decode cX11_allOf 2 = .ok (.iconst 0, 1) := by decide +kernel
theorem dX11_allOf_3 : decode cX11_allOf 3 = .ok (.istore 4, 2) := by decide +kernel
theorem dX11_allOf_5 : decode cX11_allOf 5 = .ok (.iload 4, 2) := by decide +kernel
theorem dX11_allOf_7 : decode cX11_allOf 7 = .ok (.iload_n 1, 1) := by decide +kernel
theorem dX11_allOf_8 : decode cX11_allOf 8 = .ok (.if_icmp .ge 15, 3) := by decide +kernel
theorem dX11_allOf_11 : decode cX11_allOf 11 = .ok (.lload_n 2, 1) := by decide +kernel
theorem dX11_allOf_12 : decode cX11_allOf 12 = .ok (.ldc2_w 557, 3) := by decide +kernel
theorem dX11_allOf_15 : decode cX11_allOf 15 = .ok (.lmul, 1) := by decide +kernel
theorem dX11_allOf_16 : decode cX11_allOf 16 = .ok (.lstore_n 2, 1) := by decide +kernel
theorem dX11_allOf_17 : decode cX11_allOf 17 = .ok (.iinc 4 1, 3) := by decide +kernel
theorem dX11_allOf_20 : decode cX11_allOf 20 = .ok (.goto (-15), 3) := by decide +kernel
theorem dX11_allOf_23 : decode cX11_allOf 23 = .ok (.lload_n 2, 1) := by decide +kernel
theorem dX11_allOf_24 : decode cX11_allOf 24 = .ok (.lreturn, 1) := by decide +kernel
theorem dX11_rain_0 : decode cX11_rain 0 = .ok (.aload_n 0, 1) := by decide +kernel
theorem dX11_rain_1 : decode cX11_rain 1 = .ok (.iconst 0, 1) := by decide +kernel
theorem dX11_rain_2 : decode cX11_rain 2 = .ok (.putfield 187, 3) := by decide +kernel
theorem dX11_rain_5 : decode cX11_rain 5 = .ok (.iload_n 1, 1) := by decide +kernel
theorem dX11_rain_6 : decode cX11_rain 6 = .ok (.iconst (-1), 1) := by decide +kernel
theorem dX11_rain_7 : decode cX11_rain 7 = .ok (.if_icmp .eq 11, 3) := by decide +kernel
theorem dX11_rain_10 : decode cX11_rain 10 = .ok (.aload_n 0, 1) := by decide +kernel
theorem dX11_rain_11 : decode cX11_rain 11 = .ok (.iload_n 1, 1) := by decide +kernel
theorem dX11_rain_12 : decode cX11_rain 12 = .ok (.invokevirtual 479, 3) := by decide +kernel
theorem dX11_rain_15 : decode cX11_rain 15 = .ok (.ifCond .eq 13, 3) := by decide +kernel
theorem dX11_rain_18 : decode cX11_rain 18 = .ok (.iload_n 2, 1) := by decide +kernel
theorem dX11_rain_19 : decode cX11_rain 19 = .ok (.iconst 1, 1) := by decide +kernel
theorem dX11_rain_20 : decode cX11_rain 20 = .ok (.bipush 6, 2) := by decide +kernel
theorem dX11_rain_22 : decode cX11_rain 22 = .ok (.invokestatic 326, 3) := by decide +kernel
theorem dX11_rain_25 : decode cX11_rain 25 = .ok (.ifCond .ne 6, 3) := by decide +kernel
theorem dX11_rain_28 : decode cX11_rain 28 = .ok (.bipush (-2), 2) := by decide +kernel
theorem dX11_rain_30 : decode cX11_rain 30 = .ok (.ireturn, 1) := by decide +kernel
theorem dX11_rain_31 : decode cX11_rain 31 = .ok (.aload_n 0, 1) := by decide +kernel
theorem dX11_rain_32 : decode cX11_rain 32 = .ok (.iload_n 2, 1) := by decide +kernel
theorem dX11_rain_33 : decode cX11_rain 33 = .ok (.iload_n 1, 1) := by decide +kernel
theorem dX11_rain_34 : decode cX11_rain 34 = .ok (.iconst (-1), 1) := by decide +kernel
theorem dX11_rain_35 : decode cX11_rain 35 = .ok (.if_icmp .ne 10, 3) := by decide +kernel
theorem dX11_rain_38 : decode cX11_rain 38 = .ok (.aload_n 0, 1) := by decide +kernel
theorem dX11_rain_39 : decode cX11_rain 39 = .ok (.invokevirtual 446, 3) := by decide +kernel
theorem dX11_rain_42 : decode cX11_rain 42 = .ok (.goto 6, 3) := by decide +kernel
theorem dX11_rain_45 : decode cX11_rain 45 = .ok (.iconst 1, 1) := by decide +kernel
theorem dX11_rain_46 : decode cX11_rain 46 = .ok (.iload_n 1, 1) := by decide +kernel
theorem dX11_rain_47 : decode cX11_rain 47 = .ok (.ishl, 1) := by decide +kernel
theorem dX11_rain_48 : decode cX11_rain 48 = .ok (.iconst 0, 1) := by decide +kernel
theorem dX11_rain_49 : decode cX11_rain 49 = .ok (.invokevirtual 559, 3) := by decide +kernel
theorem dX11_rain_52 : decode cX11_rain 52 = .ok (.ldc2_w 563, 3) := by decide +kernel
theorem dX11_rain_55 : decode cX11_rain 55 = .ok (.lmul, 1) := by decide +kernel
theorem dX11_rain_56 : decode cX11_rain 56 = .ok (.aload_n 0, 1) := by decide +kernel
theorem dX11_rain_57 : decode cX11_rain 57 = .ok (.iload_n 2, 1) := by decide +kernel
theorem dX11_rain_58 : decode cX11_rain 58 = .ok (.invokevirtual 565, 3) := by decide +kernel
theorem dX11_rain_61 : decode cX11_rain 61 = .ok (.ldiv, 1) := by decide +kernel
theorem dX11_rain_62 : decode cX11_rain 62 = .ok (.l2i, 1) := by decide +kernel
theorem dX11_rain_63 : decode cX11_rain 63 = .ok (.ireturn, 1) := by decide +kernel
theorem dX11_first_0 : decode cX11_first 0 = .ok (.aload_n 0, 1) := by decide +kernel
theorem dX11_first_1 : decode cX11_first 1 = .ok (.iconst 0, 1) := by decide +kernel
theorem dX11_first_2 : decode cX11_first 2 = .ok (.putfield 187, 3) := by decide +kernel
theorem dX11_first_5 : decode cX11_first 5 = .ok (.iload_n 1, 1) := by decide +kernel
theorem dX11_first_6 : decode cX11_first 6 = .ok (.iconst 1, 1) := by decide +kernel
theorem dX11_first_7 : decode cX11_first 7 = .ok (.bipush 6, 2) := by decide +kernel
theorem dX11_first_9 : decode cX11_first 9 = .ok (.invokestatic 326, 3) := by decide +kernel
theorem dX11_first_12 : decode cX11_first 12 = .ok (.ifCond .ne 5, 3) := by decide +kernel
theorem dX11_first_15 : decode cX11_first 15 = .ok (.iconst (-1), 1) := by decide +kernel
theorem dX11_first_16 : decode cX11_first 16 = .ok (.ireturn, 1) := by decide +kernel
theorem dX11_first_17 : decode cX11_first 17 = .ok (.aload_n 0, 1) := by decide +kernel
theorem dX11_first_18 : decode cX11_first 18 = .ok (.getfield 114, 3) := by decide +kernel
theorem dX11_first_21 : decode cX11_first 21 = .ok (.iconst 0, 1) := by decide +kernel
theorem dX11_first_22 : decode cX11_first 22 = .ok (.aload_n 0, 1) := by decide +kernel
theorem dX11_first_23 : decode cX11_first 23 = .ok (.getfield 117, 3) := by decide +kernel
theorem dX11_first_26 : decode cX11_first 26 = .ok (.iconst 0, 1) := by decide +kernel
theorem dX11_first_27 : decode cX11_first 27 = .ok (.invokestatic 485, 3) := by decide +kernel
theorem dX11_first_30 : decode cX11_first 30 = .ok (.iconst (-1), 1) := by decide +kernel
theorem dX11_first_31 : decode cX11_first 31 = .ok (.istore_n 2, 1) := by decide +kernel
theorem dX11_first_32 : decode cX11_first 32 = .ok (.lconst 0, 1) := by decide +kernel
theorem dX11_first_33 : decode cX11_first 33 = .ok (.lstore_n 3, 1) := by decide +kernel
theorem dX11_first_34 : decode cX11_first 34 = .ok (.iconst 0, 1) := by decide +kernel
theorem dX11_first_35 : decode cX11_first 35 = .ok (.istore 5, 2) := by decide +kernel
theorem dX11_first_37 : decode cX11_first 37 = .ok (.iload 5, 2) := by decide +kernel
theorem dX11_first_39 : decode cX11_first 39 = .ok (.aload_n 0, 1) := by decide +kernel
theorem dX11_first_40 : decode cX11_first 40 = .ok (.getfield 13, 3) := by decide +kernel
theorem dX11_first_43 : decode cX11_first 43 = .ok (.iconst 1, 1) := by decide +kernel
theorem dX11_first_44 : decode cX11_first 44 = .ok (.iaload, 1) := by decide +kernel
theorem dX11_first_45 : decode cX11_first 45 = .ok (.if_icmp .ge 70, 3) := by decide +kernel
theorem dX11_first_48 : decode cX11_first 48 = .ok (.aload_n 0, 1) := by decide +kernel
theorem dX11_first_49 : decode cX11_first 49 = .ok (.getfield 114, 3) := by decide +kernel
theorem dX11_first_52 : decode cX11_first 52 = .ok (.bipush 8, 2) := by decide +kernel
theorem dX11_first_54 : decode cX11_first 54 = .ok (.iload 5, 2) := by decide +kernel
theorem dX11_first_56 : decode cX11_first 56 = .ok (.iadd, 1) := by decide +kernel
theorem dX11_first_57 : decode cX11_first 57 = .ok (.aload_n 0, 1) := by decide +kernel
theorem dX11_first_58 : decode cX11_first 58 = .ok (.iload 5, 2) := by decide +kernel
theorem dX11_first_60 : decode cX11_first 60 = .ok (.invokevirtual 495, 3) := by decide +kernel
theorem dX11_first_63 : decode cX11_first 63 = .ok (.iastore, 1) := by decide +kernel
theorem dX11_first_64 : decode cX11_first 64 = .ok (.aload_n 0, 1) := by decide +kernel
theorem dX11_first_65 : decode cX11_first 65 = .ok (.iload_n 1, 1) := by decide +kernel
theorem dX11_first_66 : decode cX11_first 66 = .ok (.aload_n 0, 1) := by decide +kernel
theorem dX11_first_67 : decode cX11_first 67 = .ok (.invokevirtual 446, 3) := by decide +kernel
theorem dX11_first_70 : decode cX11_first 70 = .ok (.iconst 0, 1) := by decide +kernel
theorem dX11_first_71 : decode cX11_first 71 = .ok (.invokevirtual 559, 3) := by decide +kernel
theorem dX11_first_74 : decode cX11_first 74 = .ok (.lstore 6, 2) := by decide +kernel
theorem dX11_first_76 : decode cX11_first 76 = .ok (.aload_n 0, 1) := by decide +kernel
theorem dX11_first_77 : decode cX11_first 77 = .ok (.getfield 117, 3) := by decide +kernel
theorem dX11_first_80 : decode cX11_first 80 = .ok (.iconst 0, 1) := by decide +kernel
theorem dX11_first_81 : decode cX11_first 81 = .ok (.aload_n 0, 1) := by decide +kernel
theorem dX11_first_82 : decode cX11_first 82 = .ok (.getfield 114, 3) := by decide +kernel
theorem dX11_first_85 : decode cX11_first 85 = .ok (.iconst 0, 1) := by decide +kernel
theorem dX11_first_86 : decode cX11_first 86 = .ok (.invokestatic 485, 3) := by decide +kernel
theorem dX11_first_89 : decode cX11_first 89 = .ok (.iload_n 2, 1) := by decide +kernel
theorem dX11_first_90 : decode cX11_first 90 = .ok (.ifCond .lt 13, 3) := by decide +kernel
theorem dX11_first_93 : decode cX11_first 93 = .ok (.lload 6, 2) := by decide +kernel
theorem dX11_first_95 : decode cX11_first 95 = .ok (.lload_n 3, 1) := by decide +kernel
theorem dX11_first_96 : decode cX11_first 96 = .ok (.lcmp, 1) := by decide +kernel
theorem dX11_first_97 : decode cX11_first 97 = .ok (.ifCond .lt 6, 3) := by decide +kernel
theorem dX11_first_100 : decode cX11_first 100 = .ok (.goto 9, 3) := by decide +kernel
theorem dX11_first_103 : decode cX11_first 103 = .ok (.iload 5, 2) := by decide +kernel
theorem dX11_first_105 : decode cX11_first 105 = .ok (.istore_n 2, 1) := by decide +kernel
theorem dX11_first_106 : decode cX11_first 106 = .ok (.lload 6, 2) := by decide +kernel
theorem dX11_first_108 : decode cX11_first 108 = .ok (.lstore_n 3, 1) := by decide +kernel
theorem dX11_first_109 : decode cX11_first 109 = .ok (.iinc 5 1, 3) := by decide +kernel
theorem dX11_first_112 : decode cX11_first 112 = .ok (.goto (-75), 3) := by decide +kernel
theorem dX11_first_115 : decode cX11_first 115 = .ok (.iload_n 2, 1) := by decide +kernel
theorem dX11_first_116 : decode cX11_first 116 = .ok (.ireturn, 1) := by decide +kernel
theorem dX11_draws_0 : decode cX11_draws 0 = .ok (.aload_n 0, 1) := by decide +kernel
theorem dX11_draws_1 : decode cX11_draws 1 = .ok (.aload_n 0, 1) := by decide +kernel
theorem dX11_draws_2 : decode cX11_draws 2 = .ok (.getfield 569, 3) := by decide +kernel
theorem dX11_draws_5 : decode cX11_draws 5 = .ok (.ldc2_w 572, 3) := by decide +kernel
theorem dX11_draws_8 : decode cX11_draws 8 = .ok (.lmul, 1) := by decide +kernel
theorem dX11_draws_9 : decode cX11_draws 9 = .ok (.ldc2_w 574, 3) := by decide +kernel
theorem dX11_draws_12 : decode cX11_draws 12 = .ok (.ladd, 1) := by decide +kernel
theorem dX11_draws_13 : decode cX11_draws 13 = .ok (.ldc2_w 576, 3) := by decide +kernel
theorem dX11_draws_16 : decode cX11_draws 16 = .ok (.lrem, 1) := by decide +kernel
theorem dX11_draws_17 : decode cX11_draws 17 = .ok (.putfield 569, 3) := by decide +kernel
theorem dX11_draws_20 : decode cX11_draws 20 = .ok (.aload_n 0, 1) := by decide +kernel
theorem dX11_draws_21 : decode cX11_draws 21 = .ok (.getfield 569, 3) := by decide +kernel
theorem dX11_draws_24 : decode cX11_draws 24 = .ok (.ldc2_w 578, 3) := by decide +kernel
theorem dX11_draws_27 : decode cX11_draws 27 = .ok (.ldiv, 1) := by decide +kernel
theorem dX11_draws_28 : decode cX11_draws 28 = .ok (.iload_n 1, 1) := by decide +kernel
theorem dX11_draws_29 : decode cX11_draws 29 = .ok (.i2l, 1) := by decide +kernel
theorem dX11_draws_30 : decode cX11_draws 30 = .ok (.lrem, 1) := by decide +kernel
theorem dX11_draws_31 : decode cX11_draws 31 = .ok (.l2i, 1) := by decide +kernel
theorem dX11_draws_32 : decode cX11_draws 32 = .ok (.ireturn, 1) := by decide +kernel
theorem dX11_livesHour_0 : decode cX11_livesHour 0 = .ok (.aload_n 0, 1) := by decide +kernel
theorem dX11_livesHour_1 : decode cX11_livesHour 1 = .ok (.getfield 13, 3) := by decide +kernel
theorem dX11_livesHour_4 : decode cX11_livesHour 4 = .ok (.iconst 1, 1) := by decide +kernel
theorem dX11_livesHour_5 : decode cX11_livesHour 5 = .ok (.iaload, 1) := by decide +kernel
theorem dX11_livesHour_6 : decode cX11_livesHour 6 = .ok (.ifCond .le 52, 3) := by decide +kernel
theorem dX11_livesHour_9 : decode cX11_livesHour 9 = .ok (.aload_n 0, 1) := by decide +kernel
theorem dX11_livesHour_10 : decode cX11_livesHour 10 = .ok (.getfield 13, 3) := by decide +kernel
theorem dX11_livesHour_13 : decode cX11_livesHour 13 = .ok (.iconst 0, 1) := by decide +kernel
theorem dX11_livesHour_14 : decode cX11_livesHour 14 = .ok (.iaload, 1) := by decide +kernel
theorem dX11_livesHour_15 : decode cX11_livesHour 15 = .ok (.ifCond .le 43, 3) := by decide +kernel
theorem dX11_livesHour_18 : decode cX11_livesHour 18 = .ok (.aload_n 0, 1) := by decide +kernel
theorem dX11_livesHour_19 : decode cX11_livesHour 19 = .ok (.aload_n 0, 1) := by decide +kernel
theorem dX11_livesHour_20 : decode cX11_livesHour 20 = .ok (.getfield 13, 3) := by decide +kernel
theorem dX11_livesHour_23 : decode cX11_livesHour 23 = .ok (.iconst 1, 1) := by decide +kernel
theorem dX11_livesHour_24 : decode cX11_livesHour 24 = .ok (.iaload, 1) := by decide +kernel
theorem dX11_livesHour_25 : decode cX11_livesHour 25 = .ok (.invokevirtual 580, 3) := by decide +kernel
theorem dX11_livesHour_28 : decode cX11_livesHour 28 = .ok (.istore_n 1, 1) := by decide +kernel
theorem dX11_livesHour_29 : decode cX11_livesHour 29 = .ok (.aload_n 0, 1) := by decide +kernel
theorem dX11_livesHour_30 : decode cX11_livesHour 30 = .ok (.aload_n 0, 1) := by decide +kernel
theorem dX11_livesHour_31 : decode cX11_livesHour 31 = .ok (.getfield 13, 3) := by decide +kernel
theorem dX11_livesHour_34 : decode cX11_livesHour 34 = .ok (.iconst 0, 1) := by decide +kernel
theorem dX11_livesHour_35 : decode cX11_livesHour 35 = .ok (.iaload, 1) := by decide +kernel
theorem dX11_livesHour_36 : decode cX11_livesHour 36 = .ok (.invokevirtual 580, 3) := by decide +kernel
theorem dX11_livesHour_39 : decode cX11_livesHour 39 = .ok (.istore_n 2, 1) := by decide +kernel
theorem dX11_livesHour_40 : decode cX11_livesHour 40 = .ok (.aload_n 0, 1) := by decide +kernel
theorem dX11_livesHour_41 : decode cX11_livesHour 41 = .ok (.iload_n 1, 1) := by decide +kernel
theorem dX11_livesHour_42 : decode cX11_livesHour 42 = .ok (.iload_n 2, 1) := by decide +kernel
theorem dX11_livesHour_43 : decode cX11_livesHour 43 = .ok (.invokevirtual 489, 3) := by decide +kernel
theorem dX11_livesHour_46 : decode cX11_livesHour 46 = .ok (.ifCond .eq 12, 3) := by decide +kernel
theorem dX11_livesHour_49 : decode cX11_livesHour 49 = .ok (.aload_n 0, 1) := by decide +kernel
theorem dX11_livesHour_50 : decode cX11_livesHour 50 = .ok (.getfield 114, 3) := by decide +kernel
theorem dX11_livesHour_53 : decode cX11_livesHour 53 = .ok (.iconst 2, 1) := by decide +kernel
theorem dX11_livesHour_54 : decode cX11_livesHour 54 = .ok (.iload_n 1, 1) := by decide +kernel
theorem dX11_livesHour_55 : decode cX11_livesHour 55 = .ok (.iadd, 1) := by decide +kernel
theorem dX11_livesHour_56 : decode cX11_livesHour 56 = .ok (.iload_n 2, 1) := by decide +kernel
theorem dX11_livesHour_57 : decode cX11_livesHour 57 = .ok (.iastore, 1) := by decide +kernel
theorem dX11_livesHour_58 : decode cX11_livesHour 58 = .ok (.aload_n 0, 1) := by decide +kernel
theorem dX11_livesHour_59 : decode cX11_livesHour 59 = .ok (.aload_n 0, 1) := by decide +kernel
theorem dX11_livesHour_60 : decode cX11_livesHour 60 = .ok (.bipush 10, 2) := by decide +kernel
theorem dX11_livesHour_62 : decode cX11_livesHour 62 = .ok (.invokevirtual 580, 3) := by decide +kernel
theorem dX11_livesHour_65 : decode cX11_livesHour 65 = .ok (.aload_n 0, 1) := by decide +kernel
theorem dX11_livesHour_66 : decode cX11_livesHour 66 = .ok (.getfield 13, 3) := by decide +kernel
theorem dX11_livesHour_69 : decode cX11_livesHour 69 = .ok (.bipush 8, 2) := by decide +kernel
theorem dX11_livesHour_71 : decode cX11_livesHour 71 = .ok (.iaload, 1) := by decide +kernel
theorem dX11_livesHour_72 : decode cX11_livesHour 72 = .ok (.if_icmp .lt 7, 3) := by decide +kernel
theorem dX11_livesHour_75 : decode cX11_livesHour 75 = .ok (.iconst 1, 1) := by decide +kernel
theorem dX11_livesHour_76 : decode cX11_livesHour 76 = .ok (.goto 4, 3) := by decide +kernel
theorem dX11_livesHour_79 : decode cX11_livesHour 79 = .ok (.iconst 0, 1) := by decide +kernel
theorem dX11_livesHour_80 : decode cX11_livesHour 80 = .ok (.invokevirtual 501, 3) := by decide +kernel
theorem dX11_livesHour_83 : decode cX11_livesHour 83 = .ok (.ireturn, 1) := by decide +kernel
theorem dX11_sumOf_0 : decode cX11_sumOf 0 = .ok (.iconst 0, 1) := by decide +kernel
theorem dX11_sumOf_1 : decode cX11_sumOf 1 = .ok (.istore_n 3, 1) := by decide +kernel
theorem dX11_sumOf_2 : decode cX11_sumOf 2 = .ok (.iload_n 1, 1) := by decide +kernel
theorem dX11_sumOf_3 : decode cX11_sumOf 3 = .ok (.istore 4, 2) := by decide +kernel
theorem dX11_sumOf_5 : decode cX11_sumOf 5 = .ok (.iload 4, 2) := by decide +kernel
theorem dX11_sumOf_7 : decode cX11_sumOf 7 = .ok (.iload_n 1, 1) := by decide +kernel
theorem dX11_sumOf_8 : decode cX11_sumOf 8 = .ok (.iload_n 2, 1) := by decide +kernel
theorem dX11_sumOf_9 : decode cX11_sumOf 9 = .ok (.iadd, 1) := by decide +kernel
theorem dX11_sumOf_10 : decode cX11_sumOf 10 = .ok (.if_icmp .ge 19, 3) := by decide +kernel
theorem dX11_sumOf_13 : decode cX11_sumOf 13 = .ok (.iload_n 3, 1) := by decide +kernel
theorem dX11_sumOf_14 : decode cX11_sumOf 14 = .ok (.aload_n 0, 1) := by decide +kernel
theorem dX11_sumOf_15 : decode cX11_sumOf 15 = .ok (.getfield 114, 3) := by decide +kernel
theorem dX11_sumOf_18 : decode cX11_sumOf 18 = .ok (.iload 4, 2) := by decide +kernel
theorem dX11_sumOf_20 : decode cX11_sumOf 20 = .ok (.iaload, 1) := by decide +kernel
theorem dX11_sumOf_21 : decode cX11_sumOf 21 = .ok (.iadd, 1) := by decide +kernel
theorem dX11_sumOf_22 : decode cX11_sumOf 22 = .ok (.istore_n 3, 1) := by decide +kernel
theorem dX11_sumOf_23 : decode cX11_sumOf 23 = .ok (.iinc 4 1, 3) := by decide +kernel
theorem dX11_sumOf_26 : decode cX11_sumOf 26 = .ok (.goto (-21), 3) := by decide +kernel
theorem dX11_sumOf_29 : decode cX11_sumOf 29 = .ok (.iload_n 3, 1) := by decide +kernel
theorem dX11_sumOf_30 : decode cX11_sumOf 30 = .ok (.ireturn, 1) := by decide +kernel
theorem dX11_years_0 : decode cX11_years 0 = .ok (.aload_n 0, 1) := by decide +kernel
theorem dX11_years_1 : decode cX11_years 1 = .ok (.iconst 0, 1) := by decide +kernel
theorem dX11_years_2 : decode cX11_years 2 = .ok (.putfield 187, 3) := by decide +kernel
theorem dX11_years_5 : decode cX11_years 5 = .ok (.iload_n 1, 1) := by decide +kernel
theorem dX11_years_6 : decode cX11_years 6 = .ok (.iconst 0, 1) := by decide +kernel
theorem dX11_years_7 : decode cX11_years 7 = .ok (.sipush 9999, 3) := by decide +kernel
theorem dX11_years_10 : decode cX11_years 10 = .ok (.invokestatic 326, 3) := by decide +kernel
theorem dX11_years_13 : decode cX11_years 13 = .ok (.ifCond .eq 22, 3) := by decide +kernel
theorem dX11_years_16 : decode cX11_years 16 = .ok (.iload_n 2, 1) := by decide +kernel
theorem dX11_years_17 : decode cX11_years 17 = .ok (.iconst 1, 1) := by decide +kernel
theorem dX11_years_18 : decode cX11_years 18 = .ok (.bipush 100, 2) := by decide +kernel
theorem dX11_years_20 : decode cX11_years 20 = .ok (.invokestatic 326, 3) := by decide +kernel
theorem dX11_years_23 : decode cX11_years 23 = .ok (.ifCond .eq 12, 3) := by decide +kernel
theorem dX11_years_26 : decode cX11_years 26 = .ok (.iload_n 3, 1) := by decide +kernel
theorem dX11_years_27 : decode cX11_years 27 = .ok (.iconst 0, 1) := by decide +kernel
theorem dX11_years_28 : decode cX11_years 28 = .ok (.iconst 2, 1) := by decide +kernel
theorem dX11_years_29 : decode cX11_years 29 = .ok (.invokestatic 326, 3) := by decide +kernel
theorem dX11_years_32 : decode cX11_years 32 = .ok (.ifCond .ne 5, 3) := by decide +kernel
theorem dX11_years_35 : decode cX11_years 35 = .ok (.iconst (-1), 1) := by decide +kernel
theorem dX11_years_36 : decode cX11_years 36 = .ok (.ireturn, 1) := by decide +kernel
theorem dX11_years_37 : decode cX11_years 37 = .ok (.aload_n 0, 1) := by decide +kernel
theorem dX11_years_38 : decode cX11_years 38 = .ok (.iload_n 1, 1) := by decide +kernel
theorem dX11_years_39 : decode cX11_years 39 = .ok (.i2l, 1) := by decide +kernel
theorem dX11_years_40 : decode cX11_years 40 = .ok (.putfield 569, 3) := by decide +kernel
theorem dX11_years_43 : decode cX11_years 43 = .ok (.aload_n 0, 1) := by decide +kernel
theorem dX11_years_44 : decode cX11_years 44 = .ok (.getfield 114, 3) := by decide +kernel
theorem dX11_years_47 : decode cX11_years 47 = .ok (.iconst 0, 1) := by decide +kernel
theorem dX11_years_48 : decode cX11_years 48 = .ok (.aload_n 0, 1) := by decide +kernel
theorem dX11_years_49 : decode cX11_years 49 = .ok (.getfield 117, 3) := by decide +kernel
theorem dX11_years_52 : decode cX11_years 52 = .ok (.iconst 0, 1) := by decide +kernel
theorem dX11_years_53 : decode cX11_years 53 = .ok (.invokestatic 485, 3) := by decide +kernel
theorem dX11_years_56 : decode cX11_years 56 = .ok (.iconst 0, 1) := by decide +kernel
theorem dX11_years_57 : decode cX11_years 57 = .ok (.istore 4, 2) := by decide +kernel
theorem dX11_years_59 : decode cX11_years 59 = .ok (.iconst 0, 1) := by decide +kernel
theorem dX11_years_60 : decode cX11_years 60 = .ok (.istore 5, 2) := by decide +kernel
theorem dX11_years_62 : decode cX11_years 62 = .ok (.iconst 0, 1) := by decide +kernel
theorem dX11_years_63 : decode cX11_years 63 = .ok (.istore 6, 2) := by decide +kernel
theorem dX11_years_65 : decode cX11_years 65 = .ok (.iload 6, 2) := by decide +kernel
theorem dX11_years_67 : decode cX11_years 67 = .ok (.iload_n 2, 1) := by decide +kernel
theorem dX11_years_68 : decode cX11_years 68 = .ok (.if_icmp .ge 30, 3) := by decide +kernel
theorem dX11_years_71 : decode cX11_years 71 = .ok (.iload 4, 2) := by decide +kernel
theorem dX11_years_73 : decode cX11_years 73 = .ok (.aload_n 0, 1) := by decide +kernel
theorem dX11_years_74 : decode cX11_years 74 = .ok (.invokevirtual 583, 3) := by decide +kernel
theorem dX11_years_77 : decode cX11_years 77 = .ok (.iadd, 1) := by decide +kernel
theorem dX11_years_78 : decode cX11_years 78 = .ok (.istore 4, 2) := by decide +kernel
theorem dX11_years_80 : decode cX11_years 80 = .ok (.iload 5, 2) := by decide +kernel
theorem dX11_years_82 : decode cX11_years 82 = .ok (.aload_n 0, 1) := by decide +kernel
theorem dX11_years_83 : decode cX11_years 83 = .ok (.invokevirtual 508, 3) := by decide +kernel
theorem dX11_years_86 : decode cX11_years 86 = .ok (.invokestatic 439, 3) := by decide +kernel
theorem dX11_years_89 : decode cX11_years 89 = .ok (.iadd, 1) := by decide +kernel
theorem dX11_years_90 : decode cX11_years 90 = .ok (.istore 5, 2) := by decide +kernel
theorem dX11_years_92 : decode cX11_years 92 = .ok (.iinc 6 1, 3) := by decide +kernel
theorem dX11_years_95 : decode cX11_years 95 = .ok (.goto (-30), 3) := by decide +kernel
theorem dX11_years_98 : decode cX11_years 98 = .ok (.aload_n 0, 1) := by decide +kernel
theorem dX11_years_99 : decode cX11_years 99 = .ok (.bipush 8, 2) := by decide +kernel
theorem dX11_years_101 : decode cX11_years 101 = .ok (.bipush 6, 2) := by decide +kernel
theorem dX11_years_103 : decode cX11_years 103 = .ok (.invokevirtual 586, 3) := by decide +kernel
theorem dX11_years_106 : decode cX11_years 106 = .ok (.istore 6, 2) := by decide +kernel
theorem dX11_years_108 : decode cX11_years 108 = .ok (.aload_n 0, 1) := by decide +kernel
theorem dX11_years_109 : decode cX11_years 109 = .ok (.getfield 117, 3) := by decide +kernel
theorem dX11_years_112 : decode cX11_years 112 = .ok (.iconst 0, 1) := by decide +kernel
theorem dX11_years_113 : decode cX11_years 113 = .ok (.aload_n 0, 1) := by decide +kernel
theorem dX11_years_114 : decode cX11_years 114 = .ok (.getfield 114, 3) := by decide +kernel
theorem dX11_years_117 : decode cX11_years 117 = .ok (.iconst 0, 1) := by decide +kernel
theorem dX11_years_118 : decode cX11_years 118 = .ok (.invokestatic 485, 3) := by decide +kernel
theorem dX11_years_121 : decode cX11_years 121 = .ok (.iload_n 3, 1) := by decide +kernel
theorem dX11_years_122 : decode cX11_years 122 = .ok (.ifCond .ne 8, 3) := by decide +kernel
theorem dX11_years_125 : decode cX11_years 125 = .ok (.iload 4, 2) := by decide +kernel
theorem dX11_years_127 : decode cX11_years 127 = .ok (.goto 15, 3) := by decide +kernel
theorem dX11_years_130 : decode cX11_years 130 = .ok (.iload_n 3, 1) := by decide +kernel
theorem dX11_years_131 : decode cX11_years 131 = .ok (.iconst 1, 1) := by decide +kernel
theorem dX11_years_132 : decode cX11_years 132 = .ok (.if_icmp .ne 8, 3) := by decide +kernel
theorem dX11_years_135 : decode cX11_years 135 = .ok (.iload 5, 2) := by decide +kernel
theorem dX11_years_137 : decode cX11_years 137 = .ok (.goto 5, 3) := by decide +kernel
theorem dX11_years_140 : decode cX11_years 140 = .ok (.iload 6, 2) := by decide +kernel
theorem dX11_years_142 : decode cX11_years 142 = .ok (.ireturn, 1) := by decide +kernel
theorem dX11_mark_0 : decode cX11_mark 0 = .ok (.aload_n 0, 1) := by decide +kernel
theorem dX11_mark_1 : decode cX11_mark 1 = .ok (.iconst 0, 1) := by decide +kernel
theorem dX11_mark_2 : decode cX11_mark 2 = .ok (.putfield 187, 3) := by decide +kernel
theorem dX11_mark_5 : decode cX11_mark 5 = .ok (.iload_n 1, 1) := by decide +kernel
theorem dX11_mark_6 : decode cX11_mark 6 = .ok (.iconst 0, 1) := by decide +kernel
theorem dX11_mark_7 : decode cX11_mark 7 = .ok (.iconst 3, 1) := by decide +kernel
theorem dX11_mark_8 : decode cX11_mark 8 = .ok (.invokestatic 326, 3) := by decide +kernel
theorem dX11_mark_11 : decode cX11_mark 11 = .ok (.ifCond .eq 16, 3) := by decide +kernel
theorem dX11_mark_14 : decode cX11_mark 14 = .ok (.iload_n 2, 1) := by decide +kernel
theorem dX11_mark_15 : decode cX11_mark 15 = .ok (.ifCond .eq 14, 3) := by decide +kernel
theorem dX11_mark_18 : decode cX11_mark 18 = .ok (.aload_n 0, 1) := by decide +kernel
theorem dX11_mark_19 : decode cX11_mark 19 = .ok (.getfield 129, 3) := by decide +kernel
theorem dX11_mark_22 : decode cX11_mark 22 = .ok (.iload_n 1, 1) := by decide +kernel
theorem dX11_mark_23 : decode cX11_mark 23 = .ok (.baload, 1) := by decide +kernel
theorem dX11_mark_24 : decode cX11_mark 24 = .ok (.ifCond .ne 5, 3) := by decide +kernel
theorem dX11_mark_27 : decode cX11_mark 27 = .ok (.iconst 0, 1) := by decide +kernel
theorem dX11_mark_28 : decode cX11_mark 28 = .ok (.ireturn, 1) := by decide +kernel
theorem dX11_mark_29 : decode cX11_mark 29 = .ok (.aload_n 0, 1) := by decide +kernel
theorem dX11_mark_30 : decode cX11_mark 30 = .ok (.getfield 129, 3) := by decide +kernel
theorem dX11_mark_33 : decode cX11_mark 33 = .ok (.iload_n 1, 1) := by decide +kernel
theorem dX11_mark_34 : decode cX11_mark 34 = .ok (.iconst 1, 1) := by decide +kernel
theorem dX11_mark_35 : decode cX11_mark 35 = .ok (.bastore, 1) := by decide +kernel
theorem dX11_mark_36 : decode cX11_mark 36 = .ok (.iload_n 2, 1) := by decide +kernel
theorem dX11_mark_37 : decode cX11_mark 37 = .ok (.ifCond .eq 9, 3) := by decide +kernel
theorem dX11_mark_40 : decode cX11_mark 40 = .ok (.iconst 1, 1) := by decide +kernel
theorem dX11_mark_41 : decode cX11_mark 41 = .ok (.iload_n 1, 1) := by decide +kernel
theorem dX11_mark_42 : decode cX11_mark 42 = .ok (.iadd, 1) := by decide +kernel
theorem dX11_mark_43 : decode cX11_mark 43 = .ok (.goto 4, 3) := by decide +kernel
theorem dX11_mark_46 : decode cX11_mark 46 = .ok (.iconst 0, 1) := by decide +kernel
theorem dX11_mark_47 : decode cX11_mark 47 = .ok (.istore_n 3, 1) := by decide +kernel
theorem dX11_mark_48 : decode cX11_mark 48 = .ok (.iload_n 2, 1) := by decide +kernel
theorem dX11_mark_49 : decode cX11_mark 49 = .ok (.ifCond .eq 7, 3) := by decide +kernel
theorem dX11_mark_52 : decode cX11_mark 52 = .ok (.iconst 0, 1) := by decide +kernel
theorem dX11_mark_53 : decode cX11_mark 53 = .ok (.goto 6, 3) := by decide +kernel
theorem dX11_mark_56 : decode cX11_mark 56 = .ok (.iconst 1, 1) := by decide +kernel
theorem dX11_mark_57 : decode cX11_mark 57 = .ok (.iload_n 1, 1) := by decide +kernel
theorem dX11_mark_58 : decode cX11_mark 58 = .ok (.iadd, 1) := by decide +kernel
theorem dX11_mark_59 : decode cX11_mark 59 = .ok (.istore 4, 2) := by decide +kernel
theorem dX11_mark_61 : decode cX11_mark 61 = .ok (.aload_n 0, 1) := by decide +kernel
theorem dX11_mark_62 : decode cX11_mark 62 = .ok (.iload_n 3, 1) := by decide +kernel
theorem dX11_mark_63 : decode cX11_mark 63 = .ok (.iload 4, 2) := by decide +kernel
theorem dX11_mark_65 : decode cX11_mark 65 = .ok (.invokevirtual 428, 3) := by decide +kernel
theorem dX11_mark_68 : decode cX11_mark 68 = .ok (.aload_n 0, 1) := by decide +kernel
theorem dX11_mark_69 : decode cX11_mark 69 = .ok (.getfield 108, 3) := by decide +kernel
theorem dX11_mark_72 : decode cX11_mark 72 = .ok (.iload 4, 2) := by decide +kernel
theorem dX11_mark_74 : decode cX11_mark 74 = .ok (.aload_n 0, 1) := by decide +kernel
theorem dX11_mark_75 : decode cX11_mark 75 = .ok (.getfield 108, 3) := by decide +kernel
theorem dX11_mark_78 : decode cX11_mark 78 = .ok (.iload_n 3, 1) := by decide +kernel
theorem dX11_mark_79 : decode cX11_mark 79 = .ok (.iaload, 1) := by decide +kernel
theorem dX11_mark_80 : decode cX11_mark 80 = .ok (.iastore, 1) := by decide +kernel
theorem dX11_mark_81 : decode cX11_mark 81 = .ok (.aload_n 0, 1) := by decide +kernel
theorem dX11_mark_82 : decode cX11_mark 82 = .ok (.getfield 111, 3) := by decide +kernel
theorem dX11_mark_85 : decode cX11_mark 85 = .ok (.iload 4, 2) := by decide +kernel
theorem dX11_mark_87 : decode cX11_mark 87 = .ok (.aload_n 0, 1) := by decide +kernel
theorem dX11_mark_88 : decode cX11_mark 88 = .ok (.getfield 111, 3) := by decide +kernel
theorem dX11_mark_91 : decode cX11_mark 91 = .ok (.iload_n 3, 1) := by decide +kernel
theorem dX11_mark_92 : decode cX11_mark 92 = .ok (.iaload, 1) := by decide +kernel
theorem dX11_mark_93 : decode cX11_mark 93 = .ok (.iastore, 1) := by decide +kernel
theorem dX11_mark_94 : decode cX11_mark 94 = .ok (.iload_n 2, 1) := by decide +kernel
theorem dX11_mark_95 : decode cX11_mark 95 = .ok (.ifCond .eq 27, 3) := by decide +kernel
theorem dX11_mark_98 : decode cX11_mark 98 = .ok (.aload_n 0, 1) := by decide +kernel
theorem dX11_mark_99 : decode cX11_mark 99 = .ok (.getfield 123, 3) := by decide +kernel
theorem dX11_mark_102 : decode cX11_mark 102 = .ok (.bipush 19, 2) := by decide +kernel
theorem dX11_mark_104 : decode cX11_mark 104 = .ok (.iload_n 1, 1) := by decide +kernel
theorem dX11_mark_105 : decode cX11_mark 105 = .ok (.imul, 1) := by decide +kernel
theorem dX11_mark_106 : decode cX11_mark 106 = .ok (.aload_n 0, 1) := by decide +kernel
theorem dX11_mark_107 : decode cX11_mark 107 = .ok (.getfield 114, 3) := by decide +kernel
theorem dX11_mark_110 : decode cX11_mark 110 = .ok (.iconst 0, 1) := by decide +kernel
theorem dX11_mark_111 : decode cX11_mark 111 = .ok (.invokestatic 485, 3) := by decide +kernel
theorem dX11_mark_114 : decode cX11_mark 114 = .ok (.aload_n 0, 1) := by decide +kernel
theorem dX11_mark_115 : decode cX11_mark 115 = .ok (.iconst 0, 1) := by decide +kernel
theorem dX11_mark_116 : decode cX11_mark 116 = .ok (.putfield 422, 3) := by decide +kernel
theorem dX11_mark_119 : decode cX11_mark 119 = .ok (.goto 19, 3) := by decide +kernel
theorem dX11_mark_122 : decode cX11_mark 122 = .ok (.aload_n 0, 1) := by decide +kernel
theorem dX11_mark_123 : decode cX11_mark 123 = .ok (.getfield 114, 3) := by decide +kernel
theorem dX11_mark_126 : decode cX11_mark 126 = .ok (.iconst 0, 1) := by decide +kernel
theorem dX11_mark_127 : decode cX11_mark 127 = .ok (.aload_n 0, 1) := by decide +kernel
theorem dX11_mark_128 : decode cX11_mark 128 = .ok (.getfield 123, 3) := by decide +kernel
theorem dX11_mark_131 : decode cX11_mark 131 = .ok (.bipush 19, 2) := by decide +kernel
theorem dX11_mark_133 : decode cX11_mark 133 = .ok (.iload_n 1, 1) := by decide +kernel
theorem dX11_mark_134 : decode cX11_mark 134 = .ok (.imul, 1) := by decide +kernel
theorem dX11_mark_135 : decode cX11_mark 135 = .ok (.invokestatic 485, 3) := by decide +kernel
theorem dX11_mark_138 : decode cX11_mark 138 = .ok (.iconst 1, 1) := by decide +kernel
theorem dX11_mark_139 : decode cX11_mark 139 = .ok (.ireturn, 1) := by decide +kernel
theorem dX11_count_0 : decode cX11_count 0 = .ok (.aload_n 0, 1) := by decide +kernel
theorem dX11_count_1 : decode cX11_count 1 = .ok (.iconst 0, 1) := by decide +kernel
theorem dX11_count_2 : decode cX11_count 2 = .ok (.putfield 187, 3) := by decide +kernel
theorem dX11_count_5 : decode cX11_count 5 = .ok (.iload_n 1, 1) := by decide +kernel
theorem dX11_count_6 : decode cX11_count 6 = .ok (.iconst 0, 1) := by decide +kernel
theorem dX11_count_7 : decode cX11_count 7 = .ok (.bipush 12, 2) := by decide +kernel
theorem dX11_count_9 : decode cX11_count 9 = .ok (.invokestatic 326, 3) := by decide +kernel
theorem dX11_count_12 : decode cX11_count 12 = .ok (.ifCond .ne 5, 3) := by decide +kernel
theorem dX11_count_15 : decode cX11_count 15 = .ok (.iconst (-1), 1) := by decide +kernel
theorem dX11_count_16 : decode cX11_count 16 = .ok (.ireturn, 1) := by decide +kernel
theorem dX11_count_17 : decode cX11_count 17 = .ok (.iload_n 1, 1) := by decide +kernel
theorem dX11_count_18 : decode cX11_count 18 = .ok (.iconst 5, 1) := by decide +kernel
theorem dX11_count_19 : decode cX11_count 19 = .ok (.if_icmp .ge 10, 3) := by decide +kernel
theorem dX11_count_22 : decode cX11_count 22 = .ok (.aload_n 0, 1) := by decide +kernel
theorem dX11_count_23 : decode cX11_count 23 = .ok (.getfield 13, 3) := by decide +kernel
theorem dX11_count_26 : decode cX11_count 26 = .ok (.iload_n 1, 1) := by decide +kernel
theorem dX11_count_27 : decode cX11_count 27 = .ok (.iaload, 1) := by decide +kernel
theorem dX11_count_28 : decode cX11_count 28 = .ok (.ireturn, 1) := by decide +kernel
theorem dX11_count_29 : decode cX11_count 29 = .ok (.iload_n 1, 1) := by decide +kernel
theorem dX11_count_30 : decode cX11_count 30 = .ok (.bipush 7, 2) := by decide +kernel
theorem dX11_count_32 : decode cX11_count 32 = .ok (.if_icmp .ge 24, 3) := by decide +kernel
theorem dX11_count_35 : decode cX11_count 35 = .ok (.iload_n 1, 1) := by decide +kernel
theorem dX11_count_36 : decode cX11_count 36 = .ok (.iconst 5, 1) := by decide +kernel
theorem dX11_count_37 : decode cX11_count 37 = .ok (.if_icmp .ne 12, 3) := by decide +kernel
theorem dX11_count_40 : decode cX11_count 40 = .ok (.aload_n 0, 1) := by decide +kernel
theorem dX11_count_41 : decode cX11_count 41 = .ok (.getfield 114, 3) := by decide +kernel
theorem dX11_count_44 : decode cX11_count 44 = .ok (.iconst 0, 1) := by decide +kernel
theorem dX11_count_45 : decode cX11_count 45 = .ok (.iaload, 1) := by decide +kernel
theorem dX11_count_46 : decode cX11_count 46 = .ok (.goto 9, 3) := by decide +kernel
theorem dX11_count_49 : decode cX11_count 49 = .ok (.aload_n 0, 1) := by decide +kernel
theorem dX11_count_50 : decode cX11_count 50 = .ok (.getfield 114, 3) := by decide +kernel
theorem dX11_count_53 : decode cX11_count 53 = .ok (.iconst 1, 1) := by decide +kernel
theorem dX11_count_54 : decode cX11_count 54 = .ok (.iaload, 1) := by decide +kernel
theorem dX11_count_55 : decode cX11_count 55 = .ok (.ireturn, 1) := by decide +kernel
theorem dX11_count_56 : decode cX11_count 56 = .ok (.iload_n 1, 1) := by decide +kernel
theorem dX11_count_57 : decode cX11_count 57 = .ok (.bipush 9, 2) := by decide +kernel
theorem dX11_count_59 : decode cX11_count 59 = .ok (.if_icmp .ge 24, 3) := by decide +kernel
theorem dX11_count_62 : decode cX11_count 62 = .ok (.iload_n 1, 1) := by decide +kernel
theorem dX11_count_63 : decode cX11_count 63 = .ok (.bipush 7, 2) := by decide +kernel
theorem dX11_count_65 : decode cX11_count 65 = .ok (.if_icmp .ne 10, 3) := by decide +kernel
theorem dX11_count_68 : decode cX11_count 68 = .ok (.aload_n 0, 1) := by decide +kernel
theorem dX11_count_69 : decode cX11_count 69 = .ok (.invokevirtual 508, 3) := by decide +kernel
theorem dX11_count_72 : decode cX11_count 72 = .ok (.goto 10, 3) := by decide +kernel
theorem dX11_count_75 : decode cX11_count 75 = .ok (.aload_n 0, 1) := by decide +kernel
theorem dX11_count_76 : decode cX11_count 76 = .ok (.bipush 14, 2) := by decide +kernel
theorem dX11_count_78 : decode cX11_count 78 = .ok (.iconst 5, 1) := by decide +kernel
theorem dX11_count_79 : decode cX11_count 79 = .ok (.invokevirtual 586, 3) := by decide +kernel
theorem dX11_count_82 : decode cX11_count 82 = .ok (.ireturn, 1) := by decide +kernel
theorem dX11_count_83 : decode cX11_count 83 = .ok (.iload_n 1, 1) := by decide +kernel
theorem dX11_count_84 : decode cX11_count 84 = .ok (.bipush 11, 2) := by decide +kernel
theorem dX11_count_86 : decode cX11_count 86 = .ok (.if_icmp .ge 25, 3) := by decide +kernel
theorem dX11_count_89 : decode cX11_count 89 = .ok (.iload_n 1, 1) := by decide +kernel
theorem dX11_count_90 : decode cX11_count 90 = .ok (.bipush 9, 2) := by decide +kernel
theorem dX11_count_92 : decode cX11_count 92 = .ok (.if_icmp .ne 12, 3) := by decide +kernel
theorem dX11_count_95 : decode cX11_count 95 = .ok (.aload_n 0, 1) := by decide +kernel
theorem dX11_count_96 : decode cX11_count 96 = .ok (.getfield 96, 3) := by decide +kernel
theorem dX11_count_99 : decode cX11_count 99 = .ok (.iconst 0, 1) := by decide +kernel
theorem dX11_count_100 : decode cX11_count 100 = .ok (.iaload, 1) := by decide +kernel
theorem dX11_count_101 : decode cX11_count 101 = .ok (.goto 9, 3) := by decide +kernel
theorem dX11_count_104 : decode cX11_count 104 = .ok (.aload_n 0, 1) := by decide +kernel
theorem dX11_count_105 : decode cX11_count 105 = .ok (.getfield 108, 3) := by decide +kernel
theorem dX11_count_108 : decode cX11_count 108 = .ok (.iconst 0, 1) := by decide +kernel
theorem dX11_count_109 : decode cX11_count 109 = .ok (.iaload, 1) := by decide +kernel
theorem dX11_count_110 : decode cX11_count 110 = .ok (.ireturn, 1) := by decide +kernel
theorem dX11_count_111 : decode cX11_count 111 = .ok (.iload_n 1, 1) := by decide +kernel
theorem dX11_count_112 : decode cX11_count 112 = .ok (.bipush 11, 2) := by decide +kernel
theorem dX11_count_114 : decode cX11_count 114 = .ok (.if_icmp .ne 10, 3) := by decide +kernel
theorem dX11_count_117 : decode cX11_count 117 = .ok (.aload_n 0, 1) := by decide +kernel
theorem dX11_count_118 : decode cX11_count 118 = .ok (.getfield 422, 3) := by decide +kernel
theorem dX11_count_121 : decode cX11_count 121 = .ok (.goto 7, 3) := by decide +kernel
theorem dX11_count_124 : decode cX11_count 124 = .ok (.aload_n 0, 1) := by decide +kernel
theorem dX11_count_125 : decode cX11_count 125 = .ok (.getfield 193, 3) := by decide +kernel
theorem dX11_count_128 : decode cX11_count 128 = .ok (.ireturn, 1) := by decide +kernel
theorem dJ6_bitCount_0f7a4_0 : decode cJ6_bitCount_0f7a4 0 = .ok (.iload_n 0, 1) := by decide +kernel
theorem dJ6_bitCount_0f7a4_1 : decode cJ6_bitCount_0f7a4 1 = .ok (.iload_n 0, 1) := by decide +kernel
theorem dJ6_bitCount_0f7a4_2 : decode cJ6_bitCount_0f7a4 2 = .ok (.iconst 1, 1) := by decide +kernel
theorem dJ6_bitCount_0f7a4_3 : decode cJ6_bitCount_0f7a4 3 = .ok (.iushr, 1) := by decide +kernel
theorem dJ6_bitCount_0f7a4_4 : decode cJ6_bitCount_0f7a4 4 = .ok (.ldc_w 265, 3) := by decide +kernel
theorem dJ6_bitCount_0f7a4_7 : decode cJ6_bitCount_0f7a4 7 = .ok (.iand, 1) := by decide +kernel
theorem dJ6_bitCount_0f7a4_8 : decode cJ6_bitCount_0f7a4 8 = .ok (.isub, 1) := by decide +kernel
theorem dJ6_bitCount_0f7a4_9 : decode cJ6_bitCount_0f7a4 9 = .ok (.istore_n 0, 1) := by decide +kernel
theorem dJ6_bitCount_0f7a4_10 : decode cJ6_bitCount_0f7a4 10 = .ok (.iload_n 0, 1) := by decide +kernel
theorem dJ6_bitCount_0f7a4_11 : decode cJ6_bitCount_0f7a4 11 = .ok (.ldc_w 266, 3) := by decide +kernel
theorem dJ6_bitCount_0f7a4_14 : decode cJ6_bitCount_0f7a4 14 = .ok (.iand, 1) := by decide +kernel
theorem dJ6_bitCount_0f7a4_15 : decode cJ6_bitCount_0f7a4 15 = .ok (.iload_n 0, 1) := by decide +kernel
theorem dJ6_bitCount_0f7a4_16 : decode cJ6_bitCount_0f7a4 16 = .ok (.iconst 2, 1) := by decide +kernel
theorem dJ6_bitCount_0f7a4_17 : decode cJ6_bitCount_0f7a4 17 = .ok (.iushr, 1) := by decide +kernel
theorem dJ6_bitCount_0f7a4_18 : decode cJ6_bitCount_0f7a4 18 = .ok (.ldc_w 266, 3) := by decide +kernel
theorem dJ6_bitCount_0f7a4_21 : decode cJ6_bitCount_0f7a4 21 = .ok (.iand, 1) := by decide +kernel
theorem dJ6_bitCount_0f7a4_22 : decode cJ6_bitCount_0f7a4 22 = .ok (.iadd, 1) := by decide +kernel
theorem dJ6_bitCount_0f7a4_23 : decode cJ6_bitCount_0f7a4 23 = .ok (.istore_n 0, 1) := by decide +kernel
theorem dJ6_bitCount_0f7a4_24 : decode cJ6_bitCount_0f7a4 24 = .ok (.iload_n 0, 1) := by decide +kernel
theorem dJ6_bitCount_0f7a4_25 : decode cJ6_bitCount_0f7a4 25 = .ok (.iload_n 0, 1) := by decide +kernel
theorem dJ6_bitCount_0f7a4_26 : decode cJ6_bitCount_0f7a4 26 = .ok (.iconst 4, 1) := by decide +kernel
theorem dJ6_bitCount_0f7a4_27 : decode cJ6_bitCount_0f7a4 27 = .ok (.iushr, 1) := by decide +kernel
theorem dJ6_bitCount_0f7a4_28 : decode cJ6_bitCount_0f7a4 28 = .ok (.iadd, 1) := by decide +kernel
theorem dJ6_bitCount_0f7a4_29 : decode cJ6_bitCount_0f7a4 29 = .ok (.ldc_w 267, 3) := by decide +kernel
theorem dJ6_bitCount_0f7a4_32 : decode cJ6_bitCount_0f7a4 32 = .ok (.iand, 1) := by decide +kernel
theorem dJ6_bitCount_0f7a4_33 : decode cJ6_bitCount_0f7a4 33 = .ok (.istore_n 0, 1) := by decide +kernel
theorem dJ6_bitCount_0f7a4_34 : decode cJ6_bitCount_0f7a4 34 = .ok (.iload_n 0, 1) := by decide +kernel
theorem dJ6_bitCount_0f7a4_35 : decode cJ6_bitCount_0f7a4 35 = .ok (.iload_n 0, 1) := by decide +kernel
theorem dJ6_bitCount_0f7a4_36 : decode cJ6_bitCount_0f7a4 36 = .ok (.bipush 8, 2) := by decide +kernel
theorem dJ6_bitCount_0f7a4_38 : decode cJ6_bitCount_0f7a4 38 = .ok (.iushr, 1) := by decide +kernel
theorem dJ6_bitCount_0f7a4_39 : decode cJ6_bitCount_0f7a4 39 = .ok (.iadd, 1) := by decide +kernel
theorem dJ6_bitCount_0f7a4_40 : decode cJ6_bitCount_0f7a4 40 = .ok (.istore_n 0, 1) := by decide +kernel
theorem dJ6_bitCount_0f7a4_41 : decode cJ6_bitCount_0f7a4 41 = .ok (.iload_n 0, 1) := by decide +kernel
theorem dJ6_bitCount_0f7a4_42 : decode cJ6_bitCount_0f7a4 42 = .ok (.iload_n 0, 1) := by decide +kernel
theorem dJ6_bitCount_0f7a4_43 : decode cJ6_bitCount_0f7a4 43 = .ok (.bipush 16, 2) := by decide +kernel
theorem dJ6_bitCount_0f7a4_45 : decode cJ6_bitCount_0f7a4 45 = .ok (.iushr, 1) := by decide +kernel
theorem dJ6_bitCount_0f7a4_46 : decode cJ6_bitCount_0f7a4 46 = .ok (.iadd, 1) := by decide +kernel
theorem dJ6_bitCount_0f7a4_47 : decode cJ6_bitCount_0f7a4 47 = .ok (.istore_n 0, 1) := by decide +kernel
theorem dJ6_bitCount_0f7a4_48 : decode cJ6_bitCount_0f7a4 48 = .ok (.iload_n 0, 1) := by decide +kernel
theorem dJ6_bitCount_0f7a4_49 : decode cJ6_bitCount_0f7a4 49 = .ok (.bipush 63, 2) := by decide +kernel
theorem dJ6_bitCount_0f7a4_51 : decode cJ6_bitCount_0f7a4 51 = .ok (.iand, 1) := by decide +kernel
theorem dJ6_bitCount_0f7a4_52 : decode cJ6_bitCount_0f7a4 52 = .ok (.ireturn, 1) := by decide +kernel
theorem dJ9_max_7cf53_0 : decode cJ9_max_7cf53 0 = .ok (.iload_n 0, 1) := by decide +kernel
theorem dJ9_max_7cf53_1 : decode cJ9_max_7cf53 1 = .ok (.iload_n 1, 1) := by decide +kernel
theorem dJ9_max_7cf53_2 : decode cJ9_max_7cf53 2 = .ok (.if_icmp .lt 7, 3) := by decide +kernel
theorem dJ9_max_7cf53_5 : decode cJ9_max_7cf53 5 = .ok (.iload_n 0, 1) := by decide +kernel
theorem dJ9_max_7cf53_6 : decode cJ9_max_7cf53 6 = .ok (.goto 4, 3) := by decide +kernel
theorem dJ9_max_7cf53_9 : decode cJ9_max_7cf53 9 = .ok (.iload_n 1, 1) := by decide +kernel
theorem dJ9_max_7cf53_10 : decode cJ9_max_7cf53 10 = .ok (.ireturn, 1) := by decide +kernel
theorem dJ9_min_7cf53_0 : decode cJ9_min_7cf53 0 = .ok (.iload_n 0, 1) := by decide +kernel
theorem dJ9_min_7cf53_1 : decode cJ9_min_7cf53 1 = .ok (.iload_n 1, 1) := by decide +kernel
theorem dJ9_min_7cf53_2 : decode cJ9_min_7cf53 2 = .ok (.if_icmp .gt 7, 3) := by decide +kernel
theorem dJ9_min_7cf53_5 : decode cJ9_min_7cf53 5 = .ok (.iload_n 0, 1) := by decide +kernel
theorem dJ9_min_7cf53_6 : decode cJ9_min_7cf53 6 = .ok (.goto 4, 3) := by decide +kernel
theorem dJ9_min_7cf53_9 : decode cJ9_min_7cf53 9 = .ok (.iload_n 1, 1) := by decide +kernel
theorem dJ9_min_7cf53_10 : decode cJ9_min_7cf53 10 = .ok (.ireturn, 1) := by decide +kernel
theorem dJ0_length_8abf5_0 : decode cJ0_length_8abf5 0 = .ok (.aload_n 0, 1) := by decide +kernel
theorem dJ0_length_8abf5_1 : decode cJ0_length_8abf5 1 = .ok (.getfield 9, 3) := by decide +kernel
theorem dJ0_length_8abf5_4 : decode cJ0_length_8abf5 4 = .ok (.arraylength, 1) := by decide +kernel
theorem dJ0_length_8abf5_5 : decode cJ0_length_8abf5 5 = .ok (.aload_n 0, 1) := by decide +kernel
theorem dJ0_length_8abf5_6 : decode cJ0_length_8abf5 6 = .ok (.invokevirtual 335, 3) := by decide +kernel
theorem dJ0_length_8abf5_9 : decode cJ0_length_8abf5 9 = .ok (.ishr, 1) := by decide +kernel
theorem dJ0_length_8abf5_10 : decode cJ0_length_8abf5 10 = .ok (.ireturn, 1) := by decide +kernel
theorem dJ0_charAt_5068e_0 : decode cJ0_charAt_5068e 0 = .ok (.aload_n 0, 1) := by decide +kernel
theorem dJ0_charAt_5068e_1 : decode cJ0_charAt_5068e 1 = .ok (.invokevirtual 492, 3) := by decide +kernel
theorem dJ0_charAt_5068e_4 : decode cJ0_charAt_5068e 4 = .ok (.ifCond .eq 12, 3) := by decide +kernel
theorem dJ0_charAt_5068e_7 : decode cJ0_charAt_5068e 7 = .ok (.aload_n 0, 1) := by decide +kernel
theorem dJ0_charAt_5068e_8 : decode cJ0_charAt_5068e 8 = .ok (.getfield 9, 3) := by decide +kernel
theorem dJ0_charAt_5068e_11 : decode cJ0_charAt_5068e 11 = .ok (.iload_n 1, 1) := by decide +kernel
theorem dJ0_charAt_5068e_12 : decode cJ0_charAt_5068e 12 = .ok (.invokestatic 495, 3) := by decide +kernel
theorem dJ0_charAt_5068e_15 : decode cJ0_charAt_5068e 15 = .ok (.ireturn, 1) := by decide +kernel
theorem dJ0_charAt_5068e_16 : decode cJ0_charAt_5068e 16 = .ok (.aload_n 0, 1) := by decide +kernel
theorem dJ0_charAt_5068e_17 : decode cJ0_charAt_5068e 17 = .ok (.getfield 9, 3) := by decide +kernel
theorem dJ0_charAt_5068e_20 : decode cJ0_charAt_5068e 20 = .ok (.iload_n 1, 1) := by decide +kernel
theorem dJ0_charAt_5068e_21 : decode cJ0_charAt_5068e 21 = .ok (.invokestatic 498, 3) := by decide +kernel
theorem dJ0_charAt_5068e_24 : decode cJ0_charAt_5068e 24 = .ok (.ireturn, 1) := by decide +kernel
theorem dJ0_coder_7d493_0 : decode cJ0_coder_7d493 0 = .ok (.getstatic 38, 3) := by decide +kernel
theorem dJ0_coder_7d493_3 : decode cJ0_coder_7d493 3 = .ok (.ifCond .eq 10, 3) := by decide +kernel
theorem dJ0_coder_7d493_6 : decode cJ0_coder_7d493 6 = .ok (.aload_n 0, 1) := by decide +kernel
theorem dJ0_coder_7d493_7 : decode cJ0_coder_7d493 7 = .ok (.getfield 15, 3) := by decide +kernel
theorem dJ0_coder_7d493_10 : decode cJ0_coder_7d493 10 = .ok (.goto 4, 3) := by decide +kernel
theorem dJ0_coder_7d493_13 : decode cJ0_coder_7d493 13 = .ok (.iconst 1, 1) := by decide +kernel
theorem dJ0_coder_7d493_14 : decode cJ0_coder_7d493 14 = .ok (.ireturn, 1) := by decide +kernel
theorem dJ0_isLatin1_aae02_0 : decode cJ0_isLatin1_aae02 0 = .ok (.getstatic 38, 3) := by decide +kernel
theorem dJ0_isLatin1_aae02_3 : decode cJ0_isLatin1_aae02 3 = .ok (.ifCond .eq 14, 3) := by decide +kernel
theorem dJ0_isLatin1_aae02_6 : decode cJ0_isLatin1_aae02 6 = .ok (.aload_n 0, 1) := by decide +kernel
theorem dJ0_isLatin1_aae02_7 : decode cJ0_isLatin1_aae02 7 = .ok (.getfield 15, 3) := by decide +kernel
theorem dJ0_isLatin1_aae02_10 : decode cJ0_isLatin1_aae02 10 = .ok (.ifCond .ne 7, 3) := by decide +kernel
theorem dJ0_isLatin1_aae02_13 : decode cJ0_isLatin1_aae02 13 = .ok (.iconst 1, 1) := by decide +kernel
theorem dJ0_isLatin1_aae02_14 : decode cJ0_isLatin1_aae02 14 = .ok (.goto 4, 3) := by decide +kernel
theorem dJ0_isLatin1_aae02_17 : decode cJ0_isLatin1_aae02 17 = .ok (.iconst 0, 1) := by decide +kernel
theorem dJ0_isLatin1_aae02_18 : decode cJ0_isLatin1_aae02 18 = .ok (.ireturn, 1) := by decide +kernel
theorem dJ0_checkIndex_df160_0 : decode cJ0_checkIndex_df160 0 = .ok (.iload_n 0, 1) := by decide +kernel
theorem dJ0_checkIndex_df160_1 : decode cJ0_checkIndex_df160 1 = .ok (.iload_n 1, 1) := by decide +kernel
theorem dJ0_checkIndex_df160_2 : decode cJ0_checkIndex_df160 2 = .ok (.getstatic 1053, 3) := by decide +kernel
theorem dJ0_checkIndex_df160_5 : decode cJ0_checkIndex_df160 5 = .ok (.invokestatic 1059, 3) := by decide +kernel
theorem dJ0_checkIndex_df160_8 : decode cJ0_checkIndex_df160 8 = .ok (.pop, 1) := by decide +kernel
theorem dJ0_checkIndex_df160_9 : decode cJ0_checkIndex_df160 9 = .ok (.return_, 1) := by decide +kernel
theorem dJ1_charAt_3b067_0 : decode cJ1_charAt_3b067 0 = .ok (.iload_n 1, 1) := by decide +kernel
theorem dJ1_charAt_3b067_1 : decode cJ1_charAt_3b067 1 = .ok (.aload_n 0, 1) := by decide +kernel
theorem dJ1_charAt_3b067_2 : decode cJ1_charAt_3b067 2 = .ok (.arraylength, 1) := by decide +kernel
theorem dJ1_charAt_3b067_3 : decode cJ1_charAt_3b067 3 = .ok (.invokestatic 9, 3) := by decide +kernel
theorem dJ1_charAt_3b067_6 : decode cJ1_charAt_3b067 6 = .ok (.aload_n 0, 1) := by decide +kernel
theorem dJ1_charAt_3b067_7 : decode cJ1_charAt_3b067 7 = .ok (.iload_n 1, 1) := by decide +kernel
theorem dJ1_charAt_3b067_8 : decode cJ1_charAt_3b067 8 = .ok (.baload, 1) := by decide +kernel
theorem dJ1_charAt_3b067_9 : decode cJ1_charAt_3b067 9 = .ok (.sipush 255, 3) := by decide +kernel
theorem dJ1_charAt_3b067_12 : decode cJ1_charAt_3b067 12 = .ok (.iand, 1) := by decide +kernel
theorem dJ1_charAt_3b067_13 : decode cJ1_charAt_3b067 13 = .ok (.i2c, 1) := by decide +kernel
theorem dJ1_charAt_3b067_14 : decode cJ1_charAt_3b067 14 = .ok (.ireturn, 1) := by decide +kernel
theorem dJ2_getChar_3b067_0 : decode cJ2_getChar_3b067 0 = .ok (.getstatic 44, 3) := by decide +kernel
theorem dJ2_getChar_3b067_3 : decode cJ2_getChar_3b067 3 = .ok (.ifCond .ne 25, 3) := by decide +kernel
theorem dJ2_getChar_3b067_6 : decode cJ2_getChar_3b067 6 = .ok (.iload_n 1, 1) := by decide +kernel
theorem dJ2_getChar_3b067_7 : decode cJ2_getChar_3b067 7 = .ok (.ifCond .lt 11, 3) := by decide +kernel
theorem dJ2_getChar_3b067_10 : decode cJ2_getChar_3b067 10 = .ok (.iload_n 1, 1) := by decide +kernel
theorem dJ2_getChar_3b067_11 : decode cJ2_getChar_3b067 11 = .ok (.aload_n 0, 1) := by decide +kernel
theorem dJ2_getChar_3b067_12 : decode cJ2_getChar_3b067 12 = .ok (.invokestatic 48, 3) := by decide +kernel
theorem dJ2_getChar_3b067_15 : decode cJ2_getChar_3b067 15 = .ok (.if_icmp .lt 13, 3) := by decide +kernel
theorem dJ2_getChar_3b067_18 : decode cJ2_getChar_3b067 18 = .ok (.new 52, 3) := by decide +kernel
theorem dJ2_getChar_3b067_21 : decode cJ2_getChar_3b067 21 = .ok (.dup, 1) := by decide +kernel
theorem dJ2_getChar_3b067_22 : decode cJ2_getChar_3b067 22 = .ok (.ldc 54, 2) := by decide +kernel
theorem dJ2_getChar_3b067_24 : decode cJ2_getChar_3b067 24 = .ok (.invokespecial 56, 3) := by decide +kernel
theorem dJ2_getChar_3b067_27 : decode cJ2_getChar_3b067 27 = .ok (.athrow, 1) := by decide +kernel
theorem dJ2_getChar_3b067_28 : decode cJ2_getChar_3b067 28 = .ok (.iload_n 1, 1) := by decide +kernel
theorem dJ2_getChar_3b067_29 : decode cJ2_getChar_3b067 29 = .ok (.iconst 1, 1) := by decide +kernel
theorem dJ2_getChar_3b067_30 : decode cJ2_getChar_3b067 30 = .ok (.ishl, 1) := by decide +kernel
theorem dJ2_getChar_3b067_31 : decode cJ2_getChar_3b067 31 = .ok (.istore_n 1, 1) := by decide +kernel
theorem dJ2_getChar_3b067_32 : decode cJ2_getChar_3b067 32 = .ok (.aload_n 0, 1) := by decide +kernel
theorem dJ2_getChar_3b067_33 : decode cJ2_getChar_3b067 33 = .ok (.iload_n 1, 1) := by decide +kernel
theorem dJ2_getChar_3b067_34 : decode cJ2_getChar_3b067 34 = .ok (.iinc 1 1, 3) := by decide +kernel
theorem dJ2_getChar_3b067_37 : decode cJ2_getChar_3b067 37 = .ok (.baload, 1) := by decide +kernel
theorem dJ2_getChar_3b067_38 : decode cJ2_getChar_3b067 38 = .ok (.sipush 255, 3) := by decide +kernel
theorem dJ2_getChar_3b067_41 : decode cJ2_getChar_3b067 41 = .ok (.iand, 1) := by decide +kernel
theorem dJ2_getChar_3b067_42 : decode cJ2_getChar_3b067 42 = .ok (.getstatic 59, 3) := by decide +kernel
theorem dJ2_getChar_3b067_45 : decode cJ2_getChar_3b067 45 = .ok (.ishl, 1) := by decide +kernel
theorem dJ2_getChar_3b067_46 : decode cJ2_getChar_3b067 46 = .ok (.aload_n 0, 1) := by decide +kernel
theorem dJ2_getChar_3b067_47 : decode cJ2_getChar_3b067 47 = .ok (.iload_n 1, 1) := by decide +kernel
theorem dJ2_getChar_3b067_48 : decode cJ2_getChar_3b067 48 = .ok (.baload, 1) := by decide +kernel
theorem dJ2_getChar_3b067_49 : decode cJ2_getChar_3b067 49 = .ok (.sipush 255, 3) := by decide +kernel
theorem dJ2_getChar_3b067_52 : decode cJ2_getChar_3b067 52 = .ok (.iand, 1) := by decide +kernel
theorem dJ2_getChar_3b067_53 : decode cJ2_getChar_3b067 53 = .ok (.getstatic 63, 3) := by decide +kernel
theorem dJ2_getChar_3b067_56 : decode cJ2_getChar_3b067 56 = .ok (.ishl, 1) := by decide +kernel
theorem dJ2_getChar_3b067_57 : decode cJ2_getChar_3b067 57 = .ok (.ior, 1) := by decide +kernel
theorem dJ2_getChar_3b067_58 : decode cJ2_getChar_3b067 58 = .ok (.i2c, 1) := by decide +kernel
theorem dJ2_getChar_3b067_59 : decode cJ2_getChar_3b067 59 = .ok (.ireturn, 1) := by decide +kernel
theorem dJ2_length_9d52b_0 : decode cJ2_length_9d52b 0 = .ok (.aload_n 0, 1) := by decide +kernel
theorem dJ2_length_9d52b_1 : decode cJ2_length_9d52b 1 = .ok (.arraylength, 1) := by decide +kernel
theorem dJ2_length_9d52b_2 : decode cJ2_length_9d52b 2 = .ok (.iconst 1, 1) := by decide +kernel
theorem dJ2_length_9d52b_3 : decode cJ2_length_9d52b 3 = .ok (.ishr, 1) := by decide +kernel
theorem dJ2_length_9d52b_4 : decode cJ2_length_9d52b 4 = .ok (.ireturn, 1) := by decide +kernel
theorem dJ2_charAt_3b067_0 : decode cJ2_charAt_3b067 0 = .ok (.iload_n 1, 1) := by decide +kernel
theorem dJ2_charAt_3b067_1 : decode cJ2_charAt_3b067 1 = .ok (.aload_n 0, 1) := by decide +kernel
theorem dJ2_charAt_3b067_2 : decode cJ2_charAt_3b067 2 = .ok (.invokestatic 67, 3) := by decide +kernel
theorem dJ2_charAt_3b067_5 : decode cJ2_charAt_3b067 5 = .ok (.aload_n 0, 1) := by decide +kernel
theorem dJ2_charAt_3b067_6 : decode cJ2_charAt_3b067 6 = .ok (.iload_n 1, 1) := by decide +kernel
theorem dJ2_charAt_3b067_7 : decode cJ2_charAt_3b067 7 = .ok (.invokestatic 71, 3) := by decide +kernel
theorem dJ2_charAt_3b067_10 : decode cJ2_charAt_3b067 10 = .ok (.ireturn, 1) := by decide +kernel
theorem dJ2_checkIndex_2214a_0 : decode cJ2_checkIndex_2214a 0 = .ok (.iload_n 0, 1) := by decide +kernel
theorem dJ2_checkIndex_2214a_1 : decode cJ2_checkIndex_2214a 1 = .ok (.aload_n 1, 1) := by decide +kernel
theorem dJ2_checkIndex_2214a_2 : decode cJ2_checkIndex_2214a 2 = .ok (.invokestatic 48, 3) := by decide +kernel
theorem dJ2_checkIndex_2214a_5 : decode cJ2_checkIndex_2214a 5 = .ok (.invokestatic 414, 3) := by decide +kernel
theorem dJ2_checkIndex_2214a_8 : decode cJ2_checkIndex_2214a 8 = .ok (.return_, 1) := by decide +kernel
theorem dJ3_checkIndex_8e157_0 : decode cJ3_checkIndex_8e157 0 = .ok (.iload_n 0, 1) := by decide +kernel
theorem dJ3_checkIndex_8e157_1 : decode cJ3_checkIndex_8e157 1 = .ok (.ifCond .lt 8, 3) := by decide +kernel
theorem dJ3_checkIndex_8e157_4 : decode cJ3_checkIndex_8e157 4 = .ok (.iload_n 0, 1) := by decide +kernel
theorem dJ3_checkIndex_8e157_5 : decode cJ3_checkIndex_8e157 5 = .ok (.iload_n 1, 1) := by decide +kernel
theorem dJ3_checkIndex_8e157_6 : decode cJ3_checkIndex_8e157 6 = .ok (.if_icmp .lt 10, 3) := by decide +kernel
theorem dJ3_checkIndex_8e157_9 : decode cJ3_checkIndex_8e157 9 = .ok (.aload_n 2, 1) := by decide +kernel
theorem dJ3_checkIndex_8e157_10 : decode cJ3_checkIndex_8e157 10 = .ok (.iload_n 0, 1) := by decide +kernel
theorem dJ3_checkIndex_8e157_11 : decode cJ3_checkIndex_8e157 11 = .ok (.iload_n 1, 1) := by decide +kernel
theorem dJ3_checkIndex_8e157_12 : decode cJ3_checkIndex_8e157 12 = .ok (.invokestatic 95, 3) := by decide +kernel
theorem dJ3_checkIndex_8e157_15 : decode cJ3_checkIndex_8e157 15 = .ok (.athrow, 1) := by decide +kernel
theorem dJ3_checkIndex_8e157_16 : decode cJ3_checkIndex_8e157 16 = .ok (.iload_n 0, 1) := by decide +kernel
theorem dJ3_checkIndex_8e157_17 : decode cJ3_checkIndex_8e157 17 = .ok (.ireturn, 1) := by decide +kernel
theorem dL_rests_0 : decode cL_rests 0 = .ok (.aload 4, 2) := by decide +kernel
theorem dL_rests_2 : decode cL_rests 2 = .ok (.iconst 0, 1) := by decide +kernel
theorem dL_rests_3 : decode cL_rests 3 = .ok (.aload_n 0, 1) := by decide +kernel
theorem dL_rests_4 : decode cL_rests 4 = .ok (.iload_n 1, 1) := by decide +kernel
theorem dL_rests_5 : decode cL_rests 5 = .ok (.iload_n 2, 1) := by decide +kernel
theorem dL_rests_6 : decode cL_rests 6 = .ok (.iload_n 3, 1) := by decide +kernel
theorem dL_rests_7 : decode cL_rests 7 = .ok (.invokevirtual 7, 3) := by decide +kernel
theorem dL_rests_10 : decode cL_rests 10 = .ok (.i2l, 1) := by decide +kernel
theorem dL_rests_11 : decode cL_rests 11 = .ok (.lastore, 1) := by decide +kernel
theorem dL_rests_12 : decode cL_rests 12 = .ok (.goto 7, 3) := by decide +kernel
theorem dL_rests_15 : decode cL_rests 15 = .ok (.astore 5, 2) := by decide +kernel
theorem dL_rests_17 : decode cL_rests 17 = .ok (.iconst 1, 1) := by decide +kernel
theorem dL_rests_18 : decode cL_rests 18 = .ok (.ireturn, 1) := by decide +kernel
theorem dL_rests_19 : decode cL_rests 19 = .ok (.iconst 0, 1) := by decide +kernel
theorem dL_rests_20 : decode cL_rests 20 = .ok (.ireturn, 1) := by decide +kernel
theorem dL_law_0 : decode cL_law 0 = .ok (.new 8, 3) := by decide +kernel
theorem dL_law_3 : decode cL_law 3 = .ok (.dup, 1) := by decide +kernel
theorem dL_law_4 : decode cL_law 4 = .ok (.invokespecial 15, 3) := by decide +kernel
theorem dL_law_7 : decode cL_law 7 = .ok (.astore_n 1, 1) := by decide +kernel
theorem dL_law_8 : decode cL_law 8 = .ok (.new 16, 3) := by decide +kernel
theorem dL_law_11 : decode cL_law 11 = .ok (.dup, 1) := by decide +kernel
theorem dL_law_12 : decode cL_law 12 = .ok (.invokespecial 18, 3) := by decide +kernel
theorem dL_law_15 : decode cL_law 15 = .ok (.astore_n 2, 1) := by decide +kernel
theorem dL_law_16 : decode cL_law 16 = .ok (.iconst 1, 1) := by decide +kernel
theorem dL_law_17 : decode cL_law 17 = .ok (.newarray .long, 2) := by decide +kernel
theorem dL_law_19 : decode cL_law 19 = .ok (.astore_n 3, 1) := by decide +kernel
theorem dL_law_20 : decode cL_law 20 = .ok (.iconst 0, 1) := by decide +kernel
theorem dL_law_21 : decode cL_law 21 = .ok (.istore 4, 2) := by decide +kernel
theorem dL_law_23 : decode cL_law 23 = .ok (.iload 4, 2) := by decide +kernel
theorem dL_law_25 : decode cL_law 25 = .ok (.aload_n 0, 1) := by decide +kernel
theorem dL_law_26 : decode cL_law 26 = .ok (.arraylength, 1) := by decide +kernel
theorem dL_law_27 : decode cL_law 27 = .ok (.bipush 7, 2) := by decide +kernel
theorem dL_law_29 : decode cL_law 29 = .ok (.isub, 1) := by decide +kernel
theorem dL_law_30 : decode cL_law 30 = .ok (.if_icmp .gt 998, 3) := by decide +kernel
theorem dL_law_33 : decode cL_law 33 = .ok (.aload_n 0, 1) := by decide +kernel
theorem dL_law_34 : decode cL_law 34 = .ok (.iload 4, 2) := by decide +kernel
theorem dL_law_36 : decode cL_law 36 = .ok (.iaload, 1) := by decide +kernel
theorem dL_law_37 : decode cL_law 37 = .ok (.bipush 31, 2) := by decide +kernel
theorem dL_law_39 : decode cL_law 39 = .ok (.iand, 1) := by decide +kernel
theorem dL_law_40 : decode cL_law 40 = .ok (.tableswitch 982 0 24 #[116, 263, 276, 289, 326, 363, 400, 437, 474, 499, 512, 525, 550, 575, 600, 625, 638, 663, 676, 713, 793, 830, 855, 904, 957], 116) := by decide +kernel
theorem dL_law_156 : decode cL_law 156 = .ok (.aload_n 1, 1) := by decide +kernel
theorem dL_law_157 : decode cL_law 157 = .ok (.aload_n 0, 1) := by decide +kernel
theorem dL_law_158 : decode cL_law 158 = .ok (.iload 4, 2) := by decide +kernel
theorem dL_law_160 : decode cL_law 160 = .ok (.iconst 1, 1) := by decide +kernel
theorem dL_law_161 : decode cL_law 161 = .ok (.iadd, 1) := by decide +kernel
theorem dL_law_162 : decode cL_law 162 = .ok (.iaload, 1) := by decide +kernel
theorem dL_law_163 : decode cL_law 163 = .ok (.i2l, 1) := by decide +kernel
theorem dL_law_164 : decode cL_law 164 = .ok (.bipush 32, 2) := by decide +kernel
theorem dL_law_166 : decode cL_law 166 = .ok (.lshl, 1) := by decide +kernel
theorem dL_law_167 : decode cL_law 167 = .ok (.aload_n 0, 1) := by decide +kernel
theorem dL_law_168 : decode cL_law 168 = .ok (.iload 4, 2) := by decide +kernel
theorem dL_law_170 : decode cL_law 170 = .ok (.iconst 2, 1) := by decide +kernel
theorem dL_law_171 : decode cL_law 171 = .ok (.iadd, 1) := by decide +kernel
theorem dL_law_172 : decode cL_law 172 = .ok (.iaload, 1) := by decide +kernel
theorem dL_law_173 : decode cL_law 173 = .ok (.i2l, 1) := by decide +kernel
theorem dL_law_174 : decode cL_law 174 = .ok (.ldc2_w 19, 3) := by decide +kernel
theorem dL_law_177 : decode cL_law 177 = .ok (.land, 1) := by decide +kernel
theorem dL_law_178 : decode cL_law 178 = .ok (.lor, 1) := by decide +kernel
theorem dL_law_179 : decode cL_law 179 = .ok (.aload_n 0, 1) := by decide +kernel
theorem dL_law_180 : decode cL_law 180 = .ok (.iload 4, 2) := by decide +kernel
theorem dL_law_182 : decode cL_law 182 = .ok (.iconst 3, 1) := by decide +kernel
theorem dL_law_183 : decode cL_law 183 = .ok (.iadd, 1) := by decide +kernel
theorem dL_law_184 : decode cL_law 184 = .ok (.iaload, 1) := by decide +kernel
theorem dL_law_185 : decode cL_law 185 = .ok (.i2l, 1) := by decide +kernel
theorem dL_law_186 : decode cL_law 186 = .ok (.bipush 32, 2) := by decide +kernel
theorem dL_law_188 : decode cL_law 188 = .ok (.lshl, 1) := by decide +kernel
theorem dL_law_189 : decode cL_law 189 = .ok (.aload_n 0, 1) := by decide +kernel
theorem dL_law_190 : decode cL_law 190 = .ok (.iload 4, 2) := by decide +kernel
theorem dL_law_192 : decode cL_law 192 = .ok (.iconst 4, 1) := by decide +kernel
theorem dL_law_193 : decode cL_law 193 = .ok (.iadd, 1) := by decide +kernel
theorem dL_law_194 : decode cL_law 194 = .ok (.iaload, 1) := by decide +kernel
theorem dL_law_195 : decode cL_law 195 = .ok (.i2l, 1) := by decide +kernel
theorem dL_law_196 : decode cL_law 196 = .ok (.ldc2_w 19, 3) := by decide +kernel
theorem dL_law_199 : decode cL_law 199 = .ok (.land, 1) := by decide +kernel
theorem dL_law_200 : decode cL_law 200 = .ok (.lor, 1) := by decide +kernel
theorem dL_law_201 : decode cL_law 201 = .ok (.aload_n 0, 1) := by decide +kernel
theorem dL_law_202 : decode cL_law 202 = .ok (.iload 4, 2) := by decide +kernel
theorem dL_law_204 : decode cL_law 204 = .ok (.iconst 5, 1) := by decide +kernel
theorem dL_law_205 : decode cL_law 205 = .ok (.iadd, 1) := by decide +kernel
theorem dL_law_206 : decode cL_law 206 = .ok (.iaload, 1) := by decide +kernel
theorem dL_law_207 : decode cL_law 207 = .ok (.i2l, 1) := by decide +kernel
theorem dL_law_208 : decode cL_law 208 = .ok (.bipush 32, 2) := by decide +kernel
theorem dL_law_210 : decode cL_law 210 = .ok (.lshl, 1) := by decide +kernel
theorem dL_law_211 : decode cL_law 211 = .ok (.aload_n 0, 1) := by decide +kernel
theorem dL_law_212 : decode cL_law 212 = .ok (.iload 4, 2) := by decide +kernel
theorem dL_law_214 : decode cL_law 214 = .ok (.bipush 6, 2) := by decide +kernel
theorem dL_law_216 : decode cL_law 216 = .ok (.iadd, 1) := by decide +kernel
theorem dL_law_217 : decode cL_law 217 = .ok (.iaload, 1) := by decide +kernel
theorem dL_law_218 : decode cL_law 218 = .ok (.i2l, 1) := by decide +kernel
theorem dL_law_219 : decode cL_law 219 = .ok (.ldc2_w 19, 3) := by decide +kernel
theorem dL_law_222 : decode cL_law 222 = .ok (.land, 1) := by decide +kernel
theorem dL_law_223 : decode cL_law 223 = .ok (.lor, 1) := by decide +kernel
theorem dL_law_224 : decode cL_law 224 = .ok (.invokevirtual 21, 3) := by decide +kernel
theorem dL_law_227 : decode cL_law 227 = .ok (.aload_n 2, 1) := by decide +kernel
theorem dL_law_228 : decode cL_law 228 = .ok (.aload_n 0, 1) := by decide +kernel
theorem dL_law_229 : decode cL_law 229 = .ok (.iload 4, 2) := by decide +kernel
theorem dL_law_231 : decode cL_law 231 = .ok (.iconst 1, 1) := by decide +kernel
theorem dL_law_232 : decode cL_law 232 = .ok (.iadd, 1) := by decide +kernel
theorem dL_law_233 : decode cL_law 233 = .ok (.iaload, 1) := by decide +kernel
theorem dL_law_234 : decode cL_law 234 = .ok (.i2l, 1) := by decide +kernel
theorem dL_law_235 : decode cL_law 235 = .ok (.bipush 32, 2) := by decide +kernel
theorem dL_law_237 : decode cL_law 237 = .ok (.lshl, 1) := by decide +kernel
theorem dL_law_238 : decode cL_law 238 = .ok (.aload_n 0, 1) := by decide +kernel
theorem dL_law_239 : decode cL_law 239 = .ok (.iload 4, 2) := by decide +kernel
theorem dL_law_241 : decode cL_law 241 = .ok (.iconst 2, 1) := by decide +kernel
theorem dL_law_242 : decode cL_law 242 = .ok (.iadd, 1) := by decide +kernel
theorem dL_law_243 : decode cL_law 243 = .ok (.iaload, 1) := by decide +kernel
theorem dL_law_244 : decode cL_law 244 = .ok (.i2l, 1) := by decide +kernel
theorem dL_law_245 : decode cL_law 245 = .ok (.ldc2_w 19, 3) := by decide +kernel
theorem dL_law_248 : decode cL_law 248 = .ok (.land, 1) := by decide +kernel
theorem dL_law_249 : decode cL_law 249 = .ok (.lor, 1) := by decide +kernel
theorem dL_law_250 : decode cL_law 250 = .ok (.aload_n 0, 1) := by decide +kernel
theorem dL_law_251 : decode cL_law 251 = .ok (.iload 4, 2) := by decide +kernel
theorem dL_law_253 : decode cL_law 253 = .ok (.iconst 3, 1) := by decide +kernel
theorem dL_law_254 : decode cL_law 254 = .ok (.iadd, 1) := by decide +kernel
theorem dL_law_255 : decode cL_law 255 = .ok (.iaload, 1) := by decide +kernel
theorem dL_law_256 : decode cL_law 256 = .ok (.i2l, 1) := by decide +kernel
theorem dL_law_257 : decode cL_law 257 = .ok (.bipush 32, 2) := by decide +kernel
theorem dL_law_259 : decode cL_law 259 = .ok (.lshl, 1) := by decide +kernel
theorem dL_law_260 : decode cL_law 260 = .ok (.aload_n 0, 1) := by decide +kernel
theorem dL_law_261 : decode cL_law 261 = .ok (.iload 4, 2) := by decide +kernel
theorem dL_law_263 : decode cL_law 263 = .ok (.iconst 4, 1) := by decide +kernel
theorem dL_law_264 : decode cL_law 264 = .ok (.iadd, 1) := by decide +kernel
theorem dL_law_265 : decode cL_law 265 = .ok (.iaload, 1) := by decide +kernel
theorem dL_law_266 : decode cL_law 266 = .ok (.i2l, 1) := by decide +kernel
theorem dL_law_267 : decode cL_law 267 = .ok (.ldc2_w 19, 3) := by decide +kernel
theorem dL_law_270 : decode cL_law 270 = .ok (.land, 1) := by decide +kernel
theorem dL_law_271 : decode cL_law 271 = .ok (.lor, 1) := by decide +kernel
theorem dL_law_272 : decode cL_law 272 = .ok (.aload_n 0, 1) := by decide +kernel
theorem dL_law_273 : decode cL_law 273 = .ok (.iload 4, 2) := by decide +kernel
theorem dL_law_275 : decode cL_law 275 = .ok (.iconst 5, 1) := by decide +kernel
theorem dL_law_276 : decode cL_law 276 = .ok (.iadd, 1) := by decide +kernel
theorem dL_law_277 : decode cL_law 277 = .ok (.iaload, 1) := by decide +kernel
theorem dL_law_278 : decode cL_law 278 = .ok (.i2l, 1) := by decide +kernel
theorem dL_law_279 : decode cL_law 279 = .ok (.bipush 32, 2) := by decide +kernel
theorem dL_law_281 : decode cL_law 281 = .ok (.lshl, 1) := by decide +kernel
theorem dL_law_282 : decode cL_law 282 = .ok (.aload_n 0, 1) := by decide +kernel
theorem dL_law_283 : decode cL_law 283 = .ok (.iload 4, 2) := by decide +kernel
theorem dL_law_285 : decode cL_law 285 = .ok (.bipush 6, 2) := by decide +kernel
theorem dL_law_287 : decode cL_law 287 = .ok (.iadd, 1) := by decide +kernel
theorem dL_law_288 : decode cL_law 288 = .ok (.iaload, 1) := by decide +kernel
theorem dL_law_289 : decode cL_law 289 = .ok (.i2l, 1) := by decide +kernel
theorem dL_law_290 : decode cL_law 290 = .ok (.ldc2_w 19, 3) := by decide +kernel
theorem dL_law_293 : decode cL_law 293 = .ok (.land, 1) := by decide +kernel
theorem dL_law_294 : decode cL_law 294 = .ok (.lor, 1) := by decide +kernel
theorem dL_law_295 : decode cL_law 295 = .ok (.invokevirtual 25, 3) := by decide +kernel
theorem dL_law_298 : decode cL_law 298 = .ok (.if_icmp .eq 724, 3) := by decide +kernel
theorem dL_law_301 : decode cL_law 301 = .ok (.iconst 0, 1) := by decide +kernel
theorem dL_law_302 : decode cL_law 302 = .ok (.ireturn, 1) := by decide +kernel
theorem dL_law_303 : decode cL_law 303 = .ok (.aload_n 1, 1) := by decide +kernel
theorem dL_law_304 : decode cL_law 304 = .ok (.invokevirtual 26, 3) := by decide +kernel
theorem dL_law_307 : decode cL_law 307 = .ok (.aload_n 2, 1) := by decide +kernel
theorem dL_law_308 : decode cL_law 308 = .ok (.invokevirtual 30, 3) := by decide +kernel
theorem dL_law_311 : decode cL_law 311 = .ok (.if_icmp .eq 711, 3) := by decide +kernel
theorem dL_law_314 : decode cL_law 314 = .ok (.iconst 0, 1) := by decide +kernel
theorem dL_law_315 : decode cL_law 315 = .ok (.ireturn, 1) := by decide +kernel
theorem dL_law_316 : decode cL_law 316 = .ok (.aload_n 1, 1) := by decide +kernel
theorem dL_law_317 : decode cL_law 317 = .ok (.invokevirtual 31, 3) := by decide +kernel
theorem dL_law_320 : decode cL_law 320 = .ok (.aload_n 2, 1) := by decide +kernel
theorem dL_law_321 : decode cL_law 321 = .ok (.invokevirtual 34, 3) := by decide +kernel
theorem dL_law_324 : decode cL_law 324 = .ok (.if_icmp .eq 698, 3) := by decide +kernel
theorem dL_law_327 : decode cL_law 327 = .ok (.iconst 0, 1) := by decide +kernel
theorem dL_law_328 : decode cL_law 328 = .ok (.ireturn, 1) := by decide +kernel
theorem dL_law_329 : decode cL_law 329 = .ok (.aload_n 1, 1) := by decide +kernel
theorem dL_law_330 : decode cL_law 330 = .ok (.aload_n 0, 1) := by decide +kernel
theorem dL_law_331 : decode cL_law 331 = .ok (.iload 4, 2) := by decide +kernel
theorem dL_law_333 : decode cL_law 333 = .ok (.iconst 1, 1) := by decide +kernel
theorem dL_law_334 : decode cL_law 334 = .ok (.iadd, 1) := by decide +kernel
theorem dL_law_335 : decode cL_law 335 = .ok (.iaload, 1) := by decide +kernel
theorem dL_law_336 : decode cL_law 336 = .ok (.aload_n 0, 1) := by decide +kernel
theorem dL_law_337 : decode cL_law 337 = .ok (.iload 4, 2) := by decide +kernel
theorem dL_law_339 : decode cL_law 339 = .ok (.iconst 2, 1) := by decide +kernel
theorem dL_law_340 : decode cL_law 340 = .ok (.iadd, 1) := by decide +kernel
theorem dL_law_341 : decode cL_law 341 = .ok (.iaload, 1) := by decide +kernel
theorem dL_law_342 : decode cL_law 342 = .ok (.invokevirtual 35, 3) := by decide +kernel
theorem dL_law_345 : decode cL_law 345 = .ok (.aload_n 2, 1) := by decide +kernel
theorem dL_law_346 : decode cL_law 346 = .ok (.aload_n 0, 1) := by decide +kernel
theorem dL_law_347 : decode cL_law 347 = .ok (.iload 4, 2) := by decide +kernel
theorem dL_law_349 : decode cL_law 349 = .ok (.iconst 1, 1) := by decide +kernel
theorem dL_law_350 : decode cL_law 350 = .ok (.iadd, 1) := by decide +kernel
theorem dL_law_351 : decode cL_law 351 = .ok (.iaload, 1) := by decide +kernel
theorem dL_law_352 : decode cL_law 352 = .ok (.aload_n 0, 1) := by decide +kernel
theorem dL_law_353 : decode cL_law 353 = .ok (.iload 4, 2) := by decide +kernel
theorem dL_law_355 : decode cL_law 355 = .ok (.iconst 2, 1) := by decide +kernel
theorem dL_law_356 : decode cL_law 356 = .ok (.iadd, 1) := by decide +kernel
theorem dL_law_357 : decode cL_law 357 = .ok (.iaload, 1) := by decide +kernel
theorem dL_law_358 : decode cL_law 358 = .ok (.invokevirtual 39, 3) := by decide +kernel
theorem dL_law_361 : decode cL_law 361 = .ok (.if_icmp .eq 661, 3) := by decide +kernel
theorem dL_law_364 : decode cL_law 364 = .ok (.iconst 0, 1) := by decide +kernel
theorem dL_law_365 : decode cL_law 365 = .ok (.ireturn, 1) := by decide +kernel
theorem dL_law_366 : decode cL_law 366 = .ok (.aload_n 1, 1) := by decide +kernel
theorem dL_law_367 : decode cL_law 367 = .ok (.aload_n 0, 1) := by decide +kernel
theorem dL_law_368 : decode cL_law 368 = .ok (.iload 4, 2) := by decide +kernel
theorem dL_law_370 : decode cL_law 370 = .ok (.iconst 1, 1) := by decide +kernel
theorem dL_law_371 : decode cL_law 371 = .ok (.iadd, 1) := by decide +kernel
theorem dL_law_372 : decode cL_law 372 = .ok (.iaload, 1) := by decide +kernel
theorem dL_law_373 : decode cL_law 373 = .ok (.aload_n 0, 1) := by decide +kernel
theorem dL_law_374 : decode cL_law 374 = .ok (.iload 4, 2) := by decide +kernel
theorem dL_law_376 : decode cL_law 376 = .ok (.iconst 2, 1) := by decide +kernel
theorem dL_law_377 : decode cL_law 377 = .ok (.iadd, 1) := by decide +kernel
theorem dL_law_378 : decode cL_law 378 = .ok (.iaload, 1) := by decide +kernel
theorem dL_law_379 : decode cL_law 379 = .ok (.invokevirtual 40, 3) := by decide +kernel
theorem dL_law_382 : decode cL_law 382 = .ok (.aload_n 2, 1) := by decide +kernel
theorem dL_law_383 : decode cL_law 383 = .ok (.aload_n 0, 1) := by decide +kernel
theorem dL_law_384 : decode cL_law 384 = .ok (.iload 4, 2) := by decide +kernel
theorem dL_law_386 : decode cL_law 386 = .ok (.iconst 1, 1) := by decide +kernel
theorem dL_law_387 : decode cL_law 387 = .ok (.iadd, 1) := by decide +kernel
theorem dL_law_388 : decode cL_law 388 = .ok (.iaload, 1) := by decide +kernel
theorem dL_law_389 : decode cL_law 389 = .ok (.aload_n 0, 1) := by decide +kernel
theorem dL_law_390 : decode cL_law 390 = .ok (.iload 4, 2) := by decide +kernel
theorem dL_law_392 : decode cL_law 392 = .ok (.iconst 2, 1) := by decide +kernel
theorem dL_law_393 : decode cL_law 393 = .ok (.iadd, 1) := by decide +kernel
theorem dL_law_394 : decode cL_law 394 = .ok (.iaload, 1) := by decide +kernel
theorem dL_law_395 : decode cL_law 395 = .ok (.invokevirtual 43, 3) := by decide +kernel
theorem dL_law_398 : decode cL_law 398 = .ok (.if_icmp .eq 624, 3) := by decide +kernel
theorem dL_law_401 : decode cL_law 401 = .ok (.iconst 0, 1) := by decide +kernel
theorem dL_law_402 : decode cL_law 402 = .ok (.ireturn, 1) := by decide +kernel
theorem dL_law_403 : decode cL_law 403 = .ok (.aload_n 1, 1) := by decide +kernel
theorem dL_law_404 : decode cL_law 404 = .ok (.aload_n 0, 1) := by decide +kernel
theorem dL_law_405 : decode cL_law 405 = .ok (.iload 4, 2) := by decide +kernel
theorem dL_law_407 : decode cL_law 407 = .ok (.iconst 1, 1) := by decide +kernel
theorem dL_law_408 : decode cL_law 408 = .ok (.iadd, 1) := by decide +kernel
theorem dL_law_409 : decode cL_law 409 = .ok (.iaload, 1) := by decide +kernel
theorem dL_law_410 : decode cL_law 410 = .ok (.aload_n 0, 1) := by decide +kernel
theorem dL_law_411 : decode cL_law 411 = .ok (.iload 4, 2) := by decide +kernel
theorem dL_law_413 : decode cL_law 413 = .ok (.iconst 2, 1) := by decide +kernel
theorem dL_law_414 : decode cL_law 414 = .ok (.iadd, 1) := by decide +kernel
theorem dL_law_415 : decode cL_law 415 = .ok (.iaload, 1) := by decide +kernel
theorem dL_law_416 : decode cL_law 416 = .ok (.invokevirtual 44, 3) := by decide +kernel
theorem dL_law_419 : decode cL_law 419 = .ok (.aload_n 2, 1) := by decide +kernel
theorem dL_law_420 : decode cL_law 420 = .ok (.aload_n 0, 1) := by decide +kernel
theorem dL_law_421 : decode cL_law 421 = .ok (.iload 4, 2) := by decide +kernel
theorem dL_law_423 : decode cL_law 423 = .ok (.iconst 1, 1) := by decide +kernel
theorem dL_law_424 : decode cL_law 424 = .ok (.iadd, 1) := by decide +kernel
theorem dL_law_425 : decode cL_law 425 = .ok (.iaload, 1) := by decide +kernel
theorem dL_law_426 : decode cL_law 426 = .ok (.aload_n 0, 1) := by decide +kernel
theorem dL_law_427 : decode cL_law 427 = .ok (.iload 4, 2) := by decide +kernel
theorem dL_law_429 : decode cL_law 429 = .ok (.iconst 2, 1) := by decide +kernel
theorem dL_law_430 : decode cL_law 430 = .ok (.iadd, 1) := by decide +kernel
theorem dL_law_431 : decode cL_law 431 = .ok (.iaload, 1) := by decide +kernel
theorem dL_law_432 : decode cL_law 432 = .ok (.invokevirtual 47, 3) := by decide +kernel
theorem dL_law_435 : decode cL_law 435 = .ok (.if_icmp .eq 587, 3) := by decide +kernel
theorem dL_law_438 : decode cL_law 438 = .ok (.iconst 0, 1) := by decide +kernel
theorem dL_law_439 : decode cL_law 439 = .ok (.ireturn, 1) := by decide +kernel
theorem dL_law_440 : decode cL_law 440 = .ok (.aload_n 1, 1) := by decide +kernel
theorem dL_law_441 : decode cL_law 441 = .ok (.aload_n 0, 1) := by decide +kernel
theorem dL_law_442 : decode cL_law 442 = .ok (.iload 4, 2) := by decide +kernel
theorem dL_law_444 : decode cL_law 444 = .ok (.iconst 1, 1) := by decide +kernel
theorem dL_law_445 : decode cL_law 445 = .ok (.iadd, 1) := by decide +kernel
theorem dL_law_446 : decode cL_law 446 = .ok (.iaload, 1) := by decide +kernel
theorem dL_law_447 : decode cL_law 447 = .ok (.aload_n 0, 1) := by decide +kernel
theorem dL_law_448 : decode cL_law 448 = .ok (.iload 4, 2) := by decide +kernel
theorem dL_law_450 : decode cL_law 450 = .ok (.iconst 2, 1) := by decide +kernel
theorem dL_law_451 : decode cL_law 451 = .ok (.iadd, 1) := by decide +kernel
theorem dL_law_452 : decode cL_law 452 = .ok (.iaload, 1) := by decide +kernel
theorem dL_law_453 : decode cL_law 453 = .ok (.invokevirtual 48, 3) := by decide +kernel
theorem dL_law_456 : decode cL_law 456 = .ok (.aload_n 2, 1) := by decide +kernel
theorem dL_law_457 : decode cL_law 457 = .ok (.aload_n 0, 1) := by decide +kernel
theorem dL_law_458 : decode cL_law 458 = .ok (.iload 4, 2) := by decide +kernel
theorem dL_law_460 : decode cL_law 460 = .ok (.iconst 1, 1) := by decide +kernel
theorem dL_law_461 : decode cL_law 461 = .ok (.iadd, 1) := by decide +kernel
theorem dL_law_462 : decode cL_law 462 = .ok (.iaload, 1) := by decide +kernel
theorem dL_law_463 : decode cL_law 463 = .ok (.aload_n 0, 1) := by decide +kernel
theorem dL_law_464 : decode cL_law 464 = .ok (.iload 4, 2) := by decide +kernel
theorem dL_law_466 : decode cL_law 466 = .ok (.iconst 2, 1) := by decide +kernel
theorem dL_law_467 : decode cL_law 467 = .ok (.iadd, 1) := by decide +kernel
theorem dL_law_468 : decode cL_law 468 = .ok (.iaload, 1) := by decide +kernel
theorem dL_law_469 : decode cL_law 469 = .ok (.invokevirtual 51, 3) := by decide +kernel
theorem dL_law_472 : decode cL_law 472 = .ok (.if_icmp .eq 550, 3) := by decide +kernel
theorem dL_law_475 : decode cL_law 475 = .ok (.iconst 0, 1) := by decide +kernel
theorem dL_law_476 : decode cL_law 476 = .ok (.ireturn, 1) := by decide +kernel
theorem dL_law_477 : decode cL_law 477 = .ok (.aload_n 1, 1) := by decide +kernel
theorem dL_law_478 : decode cL_law 478 = .ok (.aload_n 0, 1) := by decide +kernel
theorem dL_law_479 : decode cL_law 479 = .ok (.iload 4, 2) := by decide +kernel
theorem dL_law_481 : decode cL_law 481 = .ok (.iconst 1, 1) := by decide +kernel
theorem dL_law_482 : decode cL_law 482 = .ok (.iadd, 1) := by decide +kernel
theorem dL_law_483 : decode cL_law 483 = .ok (.iaload, 1) := by decide +kernel
theorem dL_law_484 : decode cL_law 484 = .ok (.aload_n 0, 1) := by decide +kernel
theorem dL_law_485 : decode cL_law 485 = .ok (.iload 4, 2) := by decide +kernel
theorem dL_law_487 : decode cL_law 487 = .ok (.iconst 2, 1) := by decide +kernel
theorem dL_law_488 : decode cL_law 488 = .ok (.iadd, 1) := by decide +kernel
theorem dL_law_489 : decode cL_law 489 = .ok (.iaload, 1) := by decide +kernel
theorem dL_law_490 : decode cL_law 490 = .ok (.invokevirtual 52, 3) := by decide +kernel
theorem dL_law_493 : decode cL_law 493 = .ok (.aload_n 2, 1) := by decide +kernel
theorem dL_law_494 : decode cL_law 494 = .ok (.aload_n 0, 1) := by decide +kernel
theorem dL_law_495 : decode cL_law 495 = .ok (.iload 4, 2) := by decide +kernel
theorem dL_law_497 : decode cL_law 497 = .ok (.iconst 1, 1) := by decide +kernel
theorem dL_law_498 : decode cL_law 498 = .ok (.iadd, 1) := by decide +kernel
theorem dL_law_499 : decode cL_law 499 = .ok (.iaload, 1) := by decide +kernel
theorem dL_law_500 : decode cL_law 500 = .ok (.aload_n 0, 1) := by decide +kernel
theorem dL_law_501 : decode cL_law 501 = .ok (.iload 4, 2) := by decide +kernel
theorem dL_law_503 : decode cL_law 503 = .ok (.iconst 2, 1) := by decide +kernel
theorem dL_law_504 : decode cL_law 504 = .ok (.iadd, 1) := by decide +kernel
theorem dL_law_505 : decode cL_law 505 = .ok (.iaload, 1) := by decide +kernel
theorem dL_law_506 : decode cL_law 506 = .ok (.invokevirtual 56, 3) := by decide +kernel
theorem dL_law_509 : decode cL_law 509 = .ok (.if_icmp .eq 513, 3) := by decide +kernel
theorem dL_law_512 : decode cL_law 512 = .ok (.iconst 0, 1) := by decide +kernel
theorem dL_law_513 : decode cL_law 513 = .ok (.ireturn, 1) := by decide +kernel
theorem dL_law_514 : decode cL_law 514 = .ok (.aload_n 1, 1) := by decide +kernel
theorem dL_law_515 : decode cL_law 515 = .ok (.aload_n 0, 1) := by decide +kernel
theorem dL_law_516 : decode cL_law 516 = .ok (.iload 4, 2) := by decide +kernel
theorem dL_law_518 : decode cL_law 518 = .ok (.iconst 1, 1) := by decide +kernel
theorem dL_law_519 : decode cL_law 519 = .ok (.iadd, 1) := by decide +kernel
theorem dL_law_520 : decode cL_law 520 = .ok (.iaload, 1) := by decide +kernel
theorem dL_law_521 : decode cL_law 521 = .ok (.invokevirtual 57, 3) := by decide +kernel
theorem dL_law_524 : decode cL_law 524 = .ok (.aload_n 2, 1) := by decide +kernel
theorem dL_law_525 : decode cL_law 525 = .ok (.aload_n 0, 1) := by decide +kernel
theorem dL_law_526 : decode cL_law 526 = .ok (.iload 4, 2) := by decide +kernel
theorem dL_law_528 : decode cL_law 528 = .ok (.iconst 1, 1) := by decide +kernel
theorem dL_law_529 : decode cL_law 529 = .ok (.iadd, 1) := by decide +kernel
theorem dL_law_530 : decode cL_law 530 = .ok (.iaload, 1) := by decide +kernel
theorem dL_law_531 : decode cL_law 531 = .ok (.invokevirtual 61, 3) := by decide +kernel
theorem dL_law_534 : decode cL_law 534 = .ok (.if_icmp .eq 488, 3) := by decide +kernel
theorem dL_law_537 : decode cL_law 537 = .ok (.iconst 0, 1) := by decide +kernel
theorem dL_law_538 : decode cL_law 538 = .ok (.ireturn, 1) := by decide +kernel
theorem dL_law_539 : decode cL_law 539 = .ok (.aload_n 1, 1) := by decide +kernel
theorem dL_law_540 : decode cL_law 540 = .ok (.invokevirtual 62, 3) := by decide +kernel
theorem dL_law_543 : decode cL_law 543 = .ok (.aload_n 2, 1) := by decide +kernel
theorem dL_law_544 : decode cL_law 544 = .ok (.invokevirtual 65, 3) := by decide +kernel
theorem dL_law_547 : decode cL_law 547 = .ok (.if_icmp .eq 475, 3) := by decide +kernel
theorem dL_law_550 : decode cL_law 550 = .ok (.iconst 0, 1) := by decide +kernel
theorem dL_law_551 : decode cL_law 551 = .ok (.ireturn, 1) := by decide +kernel
theorem dL_law_552 : decode cL_law 552 = .ok (.aload_n 1, 1) := by decide +kernel
theorem dL_law_553 : decode cL_law 553 = .ok (.invokevirtual 66, 3) := by decide +kernel
theorem dL_law_556 : decode cL_law 556 = .ok (.aload_n 2, 1) := by decide +kernel
theorem dL_law_557 : decode cL_law 557 = .ok (.invokevirtual 70, 3) := by decide +kernel
theorem dL_law_560 : decode cL_law 560 = .ok (.if_icmp .eq 462, 3) := by decide +kernel
theorem dL_law_563 : decode cL_law 563 = .ok (.iconst 0, 1) := by decide +kernel
theorem dL_law_564 : decode cL_law 564 = .ok (.ireturn, 1) := by decide +kernel
theorem dL_law_565 : decode cL_law 565 = .ok (.aload_n 1, 1) := by decide +kernel
theorem dL_law_566 : decode cL_law 566 = .ok (.aload_n 0, 1) := by decide +kernel
theorem dL_law_567 : decode cL_law 567 = .ok (.iload 4, 2) := by decide +kernel
theorem dL_law_569 : decode cL_law 569 = .ok (.iconst 1, 1) := by decide +kernel
theorem dL_law_570 : decode cL_law 570 = .ok (.iadd, 1) := by decide +kernel
theorem dL_law_571 : decode cL_law 571 = .ok (.iaload, 1) := by decide +kernel
theorem dL_law_572 : decode cL_law 572 = .ok (.invokevirtual 71, 3) := by decide +kernel
theorem dL_law_575 : decode cL_law 575 = .ok (.aload_n 2, 1) := by decide +kernel
theorem dL_law_576 : decode cL_law 576 = .ok (.aload_n 0, 1) := by decide +kernel
theorem dL_law_577 : decode cL_law 577 = .ok (.iload 4, 2) := by decide +kernel
theorem dL_law_579 : decode cL_law 579 = .ok (.iconst 1, 1) := by decide +kernel
theorem dL_law_580 : decode cL_law 580 = .ok (.iadd, 1) := by decide +kernel
theorem dL_law_581 : decode cL_law 581 = .ok (.iaload, 1) := by decide +kernel
theorem dL_law_582 : decode cL_law 582 = .ok (.invokevirtual 74, 3) := by decide +kernel
theorem dL_law_585 : decode cL_law 585 = .ok (.if_icmp .eq 437, 3) := by decide +kernel
theorem dL_law_588 : decode cL_law 588 = .ok (.iconst 0, 1) := by decide +kernel
theorem dL_law_589 : decode cL_law 589 = .ok (.ireturn, 1) := by decide +kernel
theorem dL_law_590 : decode cL_law 590 = .ok (.aload_n 1, 1) := by decide +kernel
theorem dL_law_591 : decode cL_law 591 = .ok (.aload_n 0, 1) := by decide +kernel
theorem dL_law_592 : decode cL_law 592 = .ok (.iload 4, 2) := by decide +kernel
theorem dL_law_594 : decode cL_law 594 = .ok (.iconst 1, 1) := by decide +kernel
theorem dL_law_595 : decode cL_law 595 = .ok (.iadd, 1) := by decide +kernel
theorem dL_law_596 : decode cL_law 596 = .ok (.iaload, 1) := by decide +kernel
theorem dL_law_597 : decode cL_law 597 = .ok (.invokevirtual 75, 3) := by decide +kernel
theorem dL_law_600 : decode cL_law 600 = .ok (.aload_n 2, 1) := by decide +kernel
theorem dL_law_601 : decode cL_law 601 = .ok (.aload_n 0, 1) := by decide +kernel
theorem dL_law_602 : decode cL_law 602 = .ok (.iload 4, 2) := by decide +kernel
theorem dL_law_604 : decode cL_law 604 = .ok (.iconst 1, 1) := by decide +kernel
theorem dL_law_605 : decode cL_law 605 = .ok (.iadd, 1) := by decide +kernel
theorem dL_law_606 : decode cL_law 606 = .ok (.iaload, 1) := by decide +kernel
theorem dL_law_607 : decode cL_law 607 = .ok (.invokevirtual 78, 3) := by decide +kernel
theorem dL_law_610 : decode cL_law 610 = .ok (.if_icmp .eq 412, 3) := by decide +kernel
theorem dL_law_613 : decode cL_law 613 = .ok (.iconst 0, 1) := by decide +kernel
theorem dL_law_614 : decode cL_law 614 = .ok (.ireturn, 1) := by decide +kernel
theorem dL_law_615 : decode cL_law 615 = .ok (.aload_n 1, 1) := by decide +kernel
theorem dL_law_616 : decode cL_law 616 = .ok (.aload_n 0, 1) := by decide +kernel
theorem dL_law_617 : decode cL_law 617 = .ok (.iload 4, 2) := by decide +kernel
theorem dL_law_619 : decode cL_law 619 = .ok (.iconst 1, 1) := by decide +kernel
theorem dL_law_620 : decode cL_law 620 = .ok (.iadd, 1) := by decide +kernel
theorem dL_law_621 : decode cL_law 621 = .ok (.iaload, 1) := by decide +kernel
theorem dL_law_622 : decode cL_law 622 = .ok (.invokevirtual 79, 3) := by decide +kernel
theorem dL_law_625 : decode cL_law 625 = .ok (.aload_n 2, 1) := by decide +kernel
theorem dL_law_626 : decode cL_law 626 = .ok (.aload_n 0, 1) := by decide +kernel
theorem dL_law_627 : decode cL_law 627 = .ok (.iload 4, 2) := by decide +kernel
theorem dL_law_629 : decode cL_law 629 = .ok (.iconst 1, 1) := by decide +kernel
theorem dL_law_630 : decode cL_law 630 = .ok (.iadd, 1) := by decide +kernel
theorem dL_law_631 : decode cL_law 631 = .ok (.iaload, 1) := by decide +kernel
theorem dL_law_632 : decode cL_law 632 = .ok (.invokevirtual 83, 3) := by decide +kernel
theorem dL_law_635 : decode cL_law 635 = .ok (.if_icmp .eq 387, 3) := by decide +kernel
theorem dL_law_638 : decode cL_law 638 = .ok (.iconst 0, 1) := by decide +kernel
theorem dL_law_639 : decode cL_law 639 = .ok (.ireturn, 1) := by decide +kernel
theorem dL_law_640 : decode cL_law 640 = .ok (.aload_n 1, 1) := by decide +kernel
theorem dL_law_641 : decode cL_law 641 = .ok (.aload_n 0, 1) := by decide +kernel
theorem dL_law_642 : decode cL_law 642 = .ok (.iload 4, 2) := by decide +kernel
theorem dL_law_644 : decode cL_law 644 = .ok (.iconst 1, 1) := by decide +kernel
theorem dL_law_645 : decode cL_law 645 = .ok (.iadd, 1) := by decide +kernel
theorem dL_law_646 : decode cL_law 646 = .ok (.iaload, 1) := by decide +kernel
theorem dL_law_647 : decode cL_law 647 = .ok (.invokevirtual 84, 3) := by decide +kernel
theorem dL_law_650 : decode cL_law 650 = .ok (.aload_n 2, 1) := by decide +kernel
theorem dL_law_651 : decode cL_law 651 = .ok (.aload_n 0, 1) := by decide +kernel
theorem dL_law_652 : decode cL_law 652 = .ok (.iload 4, 2) := by decide +kernel
theorem dL_law_654 : decode cL_law 654 = .ok (.iconst 1, 1) := by decide +kernel
theorem dL_law_655 : decode cL_law 655 = .ok (.iadd, 1) := by decide +kernel
theorem dL_law_656 : decode cL_law 656 = .ok (.iaload, 1) := by decide +kernel
theorem dL_law_657 : decode cL_law 657 = .ok (.invokevirtual 87, 3) := by decide +kernel
theorem dL_law_660 : decode cL_law 660 = .ok (.if_icmp .eq 362, 3) := by decide +kernel
theorem dL_law_663 : decode cL_law 663 = .ok (.iconst 0, 1) := by decide +kernel
theorem dL_law_664 : decode cL_law 664 = .ok (.ireturn, 1) := by decide +kernel
theorem dL_law_665 : decode cL_law 665 = .ok (.aload_n 1, 1) := by decide +kernel
theorem dL_law_666 : decode cL_law 666 = .ok (.invokevirtual 88, 3) := by decide +kernel
theorem dL_law_669 : decode cL_law 669 = .ok (.aload_n 2, 1) := by decide +kernel
theorem dL_law_670 : decode cL_law 670 = .ok (.invokevirtual 91, 3) := by decide +kernel
theorem dL_law_673 : decode cL_law 673 = .ok (.if_icmp .eq 349, 3) := by decide +kernel
theorem dL_law_676 : decode cL_law 676 = .ok (.iconst 0, 1) := by decide +kernel
theorem dL_law_677 : decode cL_law 677 = .ok (.ireturn, 1) := by decide +kernel
theorem dL_law_678 : decode cL_law 678 = .ok (.aload_n 1, 1) := by decide +kernel
theorem dL_law_679 : decode cL_law 679 = .ok (.aload_n 0, 1) := by decide +kernel
theorem dL_law_680 : decode cL_law 680 = .ok (.iload 4, 2) := by decide +kernel
theorem dL_law_682 : decode cL_law 682 = .ok (.iconst 1, 1) := by decide +kernel
theorem dL_law_683 : decode cL_law 683 = .ok (.iadd, 1) := by decide +kernel
theorem dL_law_684 : decode cL_law 684 = .ok (.iaload, 1) := by decide +kernel
theorem dL_law_685 : decode cL_law 685 = .ok (.invokevirtual 92, 3) := by decide +kernel
theorem dL_law_688 : decode cL_law 688 = .ok (.aload_n 2, 1) := by decide +kernel
theorem dL_law_689 : decode cL_law 689 = .ok (.aload_n 0, 1) := by decide +kernel
theorem dL_law_690 : decode cL_law 690 = .ok (.iload 4, 2) := by decide +kernel
theorem dL_law_692 : decode cL_law 692 = .ok (.iconst 1, 1) := by decide +kernel
theorem dL_law_693 : decode cL_law 693 = .ok (.iadd, 1) := by decide +kernel
theorem dL_law_694 : decode cL_law 694 = .ok (.iaload, 1) := by decide +kernel
theorem dL_law_695 : decode cL_law 695 = .ok (.invokevirtual 95, 3) := by decide +kernel
theorem dL_law_698 : decode cL_law 698 = .ok (.if_icmp .eq 324, 3) := by decide +kernel
theorem dL_law_701 : decode cL_law 701 = .ok (.iconst 0, 1) := by decide +kernel
theorem dL_law_702 : decode cL_law 702 = .ok (.ireturn, 1) := by decide +kernel
theorem dL_law_703 : decode cL_law 703 = .ok (.aload_n 1, 1) := by decide +kernel
theorem dL_law_704 : decode cL_law 704 = .ok (.invokevirtual 96, 3) := by decide +kernel
theorem dL_law_707 : decode cL_law 707 = .ok (.aload_n 2, 1) := by decide +kernel
theorem dL_law_708 : decode cL_law 708 = .ok (.invokevirtual 99, 3) := by decide +kernel
theorem dL_law_711 : decode cL_law 711 = .ok (.if_icmp .eq 311, 3) := by decide +kernel
theorem dL_law_714 : decode cL_law 714 = .ok (.iconst 0, 1) := by decide +kernel
theorem dL_law_715 : decode cL_law 715 = .ok (.ireturn, 1) := by decide +kernel
theorem dL_law_716 : decode cL_law 716 = .ok (.aload_n 1, 1) := by decide +kernel
theorem dL_law_717 : decode cL_law 717 = .ok (.aload_n 0, 1) := by decide +kernel
theorem dL_law_718 : decode cL_law 718 = .ok (.iload 4, 2) := by decide +kernel
theorem dL_law_720 : decode cL_law 720 = .ok (.iconst 1, 1) := by decide +kernel
theorem dL_law_721 : decode cL_law 721 = .ok (.iadd, 1) := by decide +kernel
theorem dL_law_722 : decode cL_law 722 = .ok (.iaload, 1) := by decide +kernel
theorem dL_law_723 : decode cL_law 723 = .ok (.aload_n 0, 1) := by decide +kernel
theorem dL_law_724 : decode cL_law 724 = .ok (.iload 4, 2) := by decide +kernel
theorem dL_law_726 : decode cL_law 726 = .ok (.iconst 2, 1) := by decide +kernel
theorem dL_law_727 : decode cL_law 727 = .ok (.iadd, 1) := by decide +kernel
theorem dL_law_728 : decode cL_law 728 = .ok (.iaload, 1) := by decide +kernel
theorem dL_law_729 : decode cL_law 729 = .ok (.invokevirtual 100, 3) := by decide +kernel
theorem dL_law_732 : decode cL_law 732 = .ok (.aload_n 2, 1) := by decide +kernel
theorem dL_law_733 : decode cL_law 733 = .ok (.aload_n 0, 1) := by decide +kernel
theorem dL_law_734 : decode cL_law 734 = .ok (.iload 4, 2) := by decide +kernel
theorem dL_law_736 : decode cL_law 736 = .ok (.iconst 1, 1) := by decide +kernel
theorem dL_law_737 : decode cL_law 737 = .ok (.iadd, 1) := by decide +kernel
theorem dL_law_738 : decode cL_law 738 = .ok (.iaload, 1) := by decide +kernel
theorem dL_law_739 : decode cL_law 739 = .ok (.aload_n 0, 1) := by decide +kernel
theorem dL_law_740 : decode cL_law 740 = .ok (.iload 4, 2) := by decide +kernel
theorem dL_law_742 : decode cL_law 742 = .ok (.iconst 2, 1) := by decide +kernel
theorem dL_law_743 : decode cL_law 743 = .ok (.iadd, 1) := by decide +kernel
theorem dL_law_744 : decode cL_law 744 = .ok (.iaload, 1) := by decide +kernel
theorem dL_law_745 : decode cL_law 745 = .ok (.invokevirtual 103, 3) := by decide +kernel
theorem dL_law_748 : decode cL_law 748 = .ok (.if_icmp .eq 274, 3) := by decide +kernel
theorem dL_law_751 : decode cL_law 751 = .ok (.iconst 0, 1) := by decide +kernel
theorem dL_law_752 : decode cL_law 752 = .ok (.ireturn, 1) := by decide +kernel
theorem dL_law_753 : decode cL_law 753 = .ok (.aload_n 1, 1) := by decide +kernel
theorem dL_law_754 : decode cL_law 754 = .ok (.aload_n 0, 1) := by decide +kernel
theorem dL_law_755 : decode cL_law 755 = .ok (.iload 4, 2) := by decide +kernel
theorem dL_law_757 : decode cL_law 757 = .ok (.iconst 1, 1) := by decide +kernel
theorem dL_law_758 : decode cL_law 758 = .ok (.iadd, 1) := by decide +kernel
theorem dL_law_759 : decode cL_law 759 = .ok (.iaload, 1) := by decide +kernel
theorem dL_law_760 : decode cL_law 760 = .ok (.aload_n 0, 1) := by decide +kernel
theorem dL_law_761 : decode cL_law 761 = .ok (.iload 4, 2) := by decide +kernel
theorem dL_law_763 : decode cL_law 763 = .ok (.iconst 2, 1) := by decide +kernel
theorem dL_law_764 : decode cL_law 764 = .ok (.iadd, 1) := by decide +kernel
theorem dL_law_765 : decode cL_law 765 = .ok (.iaload, 1) := by decide +kernel
theorem dL_law_766 : decode cL_law 766 = .ok (.aload_n 0, 1) := by decide +kernel
theorem dL_law_767 : decode cL_law 767 = .ok (.iload 4, 2) := by decide +kernel
theorem dL_law_769 : decode cL_law 769 = .ok (.iconst 3, 1) := by decide +kernel
theorem dL_law_770 : decode cL_law 770 = .ok (.iadd, 1) := by decide +kernel
theorem dL_law_771 : decode cL_law 771 = .ok (.iaload, 1) := by decide +kernel
theorem dL_law_772 : decode cL_law 772 = .ok (.aload_n 3, 1) := by decide +kernel
theorem dL_law_773 : decode cL_law 773 = .ok (.invokestatic 104, 3) := by decide +kernel
theorem dL_law_776 : decode cL_law 776 = .ok (.istore 5, 2) := by decide +kernel
theorem dL_law_778 : decode cL_law 778 = .ok (.aload_n 2, 1) := by decide +kernel
theorem dL_law_779 : decode cL_law 779 = .ok (.aload_n 0, 1) := by decide +kernel
theorem dL_law_780 : decode cL_law 780 = .ok (.iload 4, 2) := by decide +kernel
theorem dL_law_782 : decode cL_law 782 = .ok (.iconst 1, 1) := by decide +kernel
theorem dL_law_783 : decode cL_law 783 = .ok (.iadd, 1) := by decide +kernel
theorem dL_law_784 : decode cL_law 784 = .ok (.iaload, 1) := by decide +kernel
theorem dL_law_785 : decode cL_law 785 = .ok (.aload_n 0, 1) := by decide +kernel
theorem dL_law_786 : decode cL_law 786 = .ok (.iload 4, 2) := by decide +kernel
theorem dL_law_788 : decode cL_law 788 = .ok (.iconst 2, 1) := by decide +kernel
theorem dL_law_789 : decode cL_law 789 = .ok (.iadd, 1) := by decide +kernel
theorem dL_law_790 : decode cL_law 790 = .ok (.iaload, 1) := by decide +kernel
theorem dL_law_791 : decode cL_law 791 = .ok (.aload_n 0, 1) := by decide +kernel
theorem dL_law_792 : decode cL_law 792 = .ok (.iload 4, 2) := by decide +kernel
theorem dL_law_794 : decode cL_law 794 = .ok (.iconst 3, 1) := by decide +kernel
theorem dL_law_795 : decode cL_law 795 = .ok (.iadd, 1) := by decide +kernel
theorem dL_law_796 : decode cL_law 796 = .ok (.iaload, 1) := by decide +kernel
theorem dL_law_797 : decode cL_law 797 = .ok (.invokevirtual 109, 3) := by decide +kernel
theorem dL_law_800 : decode cL_law 800 = .ok (.istore 6, 2) := by decide +kernel
theorem dL_law_802 : decode cL_law 802 = .ok (.aload_n 2, 1) := by decide +kernel
theorem dL_law_803 : decode cL_law 803 = .ok (.invokevirtual 110, 3) := by decide +kernel
theorem dL_law_806 : decode cL_law 806 = .ok (.iload 5, 2) := by decide +kernel
theorem dL_law_808 : decode cL_law 808 = .ok (.if_icmp .eq 5, 3) := by decide +kernel
theorem dL_law_811 : decode cL_law 811 = .ok (.iconst 0, 1) := by decide +kernel
theorem dL_law_812 : decode cL_law 812 = .ok (.ireturn, 1) := by decide +kernel
theorem dL_law_813 : decode cL_law 813 = .ok (.iload 5, 2) := by decide +kernel
theorem dL_law_815 : decode cL_law 815 = .ok (.ifCond .ne 15, 3) := by decide +kernel
theorem dL_law_818 : decode cL_law 818 = .ok (.aload_n 3, 1) := by decide +kernel
theorem dL_law_819 : decode cL_law 819 = .ok (.iconst 0, 1) := by decide +kernel
theorem dL_law_820 : decode cL_law 820 = .ok (.laload, 1) := by decide +kernel
theorem dL_law_821 : decode cL_law 821 = .ok (.iload 6, 2) := by decide +kernel
theorem dL_law_823 : decode cL_law 823 = .ok (.i2l, 1) := by decide +kernel
theorem dL_law_824 : decode cL_law 824 = .ok (.lcmp, 1) := by decide +kernel
theorem dL_law_825 : decode cL_law 825 = .ok (.ifCond .eq 5, 3) := by decide +kernel
theorem dL_law_828 : decode cL_law 828 = .ok (.iconst 0, 1) := by decide +kernel
theorem dL_law_829 : decode cL_law 829 = .ok (.ireturn, 1) := by decide +kernel
theorem dL_law_830 : decode cL_law 830 = .ok (.goto 192, 3) := by decide +kernel
theorem dL_law_833 : decode cL_law 833 = .ok (.aload_n 1, 1) := by decide +kernel
theorem dL_law_834 : decode cL_law 834 = .ok (.aload_n 0, 1) := by decide +kernel
theorem dL_law_835 : decode cL_law 835 = .ok (.iload 4, 2) := by decide +kernel
theorem dL_law_837 : decode cL_law 837 = .ok (.iconst 1, 1) := by decide +kernel
theorem dL_law_838 : decode cL_law 838 = .ok (.iadd, 1) := by decide +kernel
theorem dL_law_839 : decode cL_law 839 = .ok (.iaload, 1) := by decide +kernel
theorem dL_law_840 : decode cL_law 840 = .ok (.aload_n 0, 1) := by decide +kernel
theorem dL_law_841 : decode cL_law 841 = .ok (.iload 4, 2) := by decide +kernel
theorem dL_law_843 : decode cL_law 843 = .ok (.iconst 2, 1) := by decide +kernel
theorem dL_law_844 : decode cL_law 844 = .ok (.iadd, 1) := by decide +kernel
theorem dL_law_845 : decode cL_law 845 = .ok (.iaload, 1) := by decide +kernel
theorem dL_law_846 : decode cL_law 846 = .ok (.invokevirtual 113, 3) := by decide +kernel
theorem dL_law_849 : decode cL_law 849 = .ok (.aload_n 2, 1) := by decide +kernel
theorem dL_law_850 : decode cL_law 850 = .ok (.aload_n 0, 1) := by decide +kernel
theorem dL_law_851 : decode cL_law 851 = .ok (.iload 4, 2) := by decide +kernel
theorem dL_law_853 : decode cL_law 853 = .ok (.iconst 1, 1) := by decide +kernel
theorem dL_law_854 : decode cL_law 854 = .ok (.iadd, 1) := by decide +kernel
theorem dL_law_855 : decode cL_law 855 = .ok (.iaload, 1) := by decide +kernel
theorem dL_law_856 : decode cL_law 856 = .ok (.aload_n 0, 1) := by decide +kernel
theorem dL_law_857 : decode cL_law 857 = .ok (.iload 4, 2) := by decide +kernel
theorem dL_law_859 : decode cL_law 859 = .ok (.iconst 2, 1) := by decide +kernel
theorem dL_law_860 : decode cL_law 860 = .ok (.iadd, 1) := by decide +kernel
theorem dL_law_861 : decode cL_law 861 = .ok (.iaload, 1) := by decide +kernel
theorem dL_law_862 : decode cL_law 862 = .ok (.invokevirtual 116, 3) := by decide +kernel
theorem dL_law_865 : decode cL_law 865 = .ok (.if_icmp .eq 157, 3) := by decide +kernel
theorem dL_law_868 : decode cL_law 868 = .ok (.iconst 0, 1) := by decide +kernel
theorem dL_law_869 : decode cL_law 869 = .ok (.ireturn, 1) := by decide +kernel
theorem dL_law_870 : decode cL_law 870 = .ok (.aload_n 1, 1) := by decide +kernel
theorem dL_law_871 : decode cL_law 871 = .ok (.aload_n 0, 1) := by decide +kernel
theorem dL_law_872 : decode cL_law 872 = .ok (.iload 4, 2) := by decide +kernel
theorem dL_law_874 : decode cL_law 874 = .ok (.iconst 1, 1) := by decide +kernel
theorem dL_law_875 : decode cL_law 875 = .ok (.iadd, 1) := by decide +kernel
theorem dL_law_876 : decode cL_law 876 = .ok (.iaload, 1) := by decide +kernel
theorem dL_law_877 : decode cL_law 877 = .ok (.invokevirtual 117, 3) := by decide +kernel
theorem dL_law_880 : decode cL_law 880 = .ok (.aload_n 2, 1) := by decide +kernel
theorem dL_law_881 : decode cL_law 881 = .ok (.aload_n 0, 1) := by decide +kernel
theorem dL_law_882 : decode cL_law 882 = .ok (.iload 4, 2) := by decide +kernel
theorem dL_law_884 : decode cL_law 884 = .ok (.iconst 1, 1) := by decide +kernel
theorem dL_law_885 : decode cL_law 885 = .ok (.iadd, 1) := by decide +kernel
theorem dL_law_886 : decode cL_law 886 = .ok (.iaload, 1) := by decide +kernel
theorem dL_law_887 : decode cL_law 887 = .ok (.invokevirtual 120, 3) := by decide +kernel
theorem dL_law_890 : decode cL_law 890 = .ok (.if_icmp .eq 132, 3) := by decide +kernel
theorem dL_law_893 : decode cL_law 893 = .ok (.iconst 0, 1) := by decide +kernel
theorem dL_law_894 : decode cL_law 894 = .ok (.ireturn, 1) := by decide +kernel
theorem dL_law_895 : decode cL_law 895 = .ok (.aload_n 1, 1) := by decide +kernel
theorem dL_law_896 : decode cL_law 896 = .ok (.aload_n 0, 1) := by decide +kernel
theorem dL_law_897 : decode cL_law 897 = .ok (.iload 4, 2) := by decide +kernel
theorem dL_law_899 : decode cL_law 899 = .ok (.iconst 1, 1) := by decide +kernel
theorem dL_law_900 : decode cL_law 900 = .ok (.iadd, 1) := by decide +kernel
theorem dL_law_901 : decode cL_law 901 = .ok (.iaload, 1) := by decide +kernel
theorem dL_law_902 : decode cL_law 902 = .ok (.aload_n 0, 1) := by decide +kernel
theorem dL_law_903 : decode cL_law 903 = .ok (.iload 4, 2) := by decide +kernel
theorem dL_law_905 : decode cL_law 905 = .ok (.iconst 2, 1) := by decide +kernel
theorem dL_law_906 : decode cL_law 906 = .ok (.iadd, 1) := by decide +kernel
theorem dL_law_907 : decode cL_law 907 = .ok (.iaload, 1) := by decide +kernel
theorem dL_law_908 : decode cL_law 908 = .ok (.aload_n 0, 1) := by decide +kernel
theorem dL_law_909 : decode cL_law 909 = .ok (.iload 4, 2) := by decide +kernel
theorem dL_law_911 : decode cL_law 911 = .ok (.iconst 3, 1) := by decide +kernel
theorem dL_law_912 : decode cL_law 912 = .ok (.iadd, 1) := by decide +kernel
theorem dL_law_913 : decode cL_law 913 = .ok (.iaload, 1) := by decide +kernel
theorem dL_law_914 : decode cL_law 914 = .ok (.invokevirtual 121, 3) := by decide +kernel
theorem dL_law_917 : decode cL_law 917 = .ok (.aload_n 2, 1) := by decide +kernel
theorem dL_law_918 : decode cL_law 918 = .ok (.aload_n 0, 1) := by decide +kernel
theorem dL_law_919 : decode cL_law 919 = .ok (.iload 4, 2) := by decide +kernel
theorem dL_law_921 : decode cL_law 921 = .ok (.iconst 1, 1) := by decide +kernel
theorem dL_law_922 : decode cL_law 922 = .ok (.iadd, 1) := by decide +kernel
theorem dL_law_923 : decode cL_law 923 = .ok (.iaload, 1) := by decide +kernel
theorem dL_law_924 : decode cL_law 924 = .ok (.aload_n 0, 1) := by decide +kernel
theorem dL_law_925 : decode cL_law 925 = .ok (.iload 4, 2) := by decide +kernel
theorem dL_law_927 : decode cL_law 927 = .ok (.iconst 2, 1) := by decide +kernel
theorem dL_law_928 : decode cL_law 928 = .ok (.iadd, 1) := by decide +kernel
theorem dL_law_929 : decode cL_law 929 = .ok (.iaload, 1) := by decide +kernel
theorem dL_law_930 : decode cL_law 930 = .ok (.aload_n 0, 1) := by decide +kernel
theorem dL_law_931 : decode cL_law 931 = .ok (.iload 4, 2) := by decide +kernel
theorem dL_law_933 : decode cL_law 933 = .ok (.iconst 3, 1) := by decide +kernel
theorem dL_law_934 : decode cL_law 934 = .ok (.iadd, 1) := by decide +kernel
theorem dL_law_935 : decode cL_law 935 = .ok (.iaload, 1) := by decide +kernel
theorem dL_law_936 : decode cL_law 936 = .ok (.invokevirtual 124, 3) := by decide +kernel
theorem dL_law_939 : decode cL_law 939 = .ok (.if_icmp .eq 83, 3) := by decide +kernel
theorem dL_law_942 : decode cL_law 942 = .ok (.iconst 0, 1) := by decide +kernel
theorem dL_law_943 : decode cL_law 943 = .ok (.ireturn, 1) := by decide +kernel
theorem dL_law_944 : decode cL_law 944 = .ok (.aload_n 1, 1) := by decide +kernel
theorem dL_law_945 : decode cL_law 945 = .ok (.aload_n 0, 1) := by decide +kernel
theorem dL_law_946 : decode cL_law 946 = .ok (.iload 4, 2) := by decide +kernel
theorem dL_law_948 : decode cL_law 948 = .ok (.iconst 1, 1) := by decide +kernel
theorem dL_law_949 : decode cL_law 949 = .ok (.iadd, 1) := by decide +kernel
theorem dL_law_950 : decode cL_law 950 = .ok (.iaload, 1) := by decide +kernel
theorem dL_law_951 : decode cL_law 951 = .ok (.aload_n 0, 1) := by decide +kernel
theorem dL_law_952 : decode cL_law 952 = .ok (.iload 4, 2) := by decide +kernel
theorem dL_law_954 : decode cL_law 954 = .ok (.iconst 2, 1) := by decide +kernel
theorem dL_law_955 : decode cL_law 955 = .ok (.iadd, 1) := by decide +kernel
theorem dL_law_956 : decode cL_law 956 = .ok (.iaload, 1) := by decide +kernel
theorem dL_law_957 : decode cL_law 957 = .ok (.ifCond .eq 7, 3) := by decide +kernel
theorem dL_law_960 : decode cL_law 960 = .ok (.iconst 1, 1) := by decide +kernel
theorem dL_law_961 : decode cL_law 961 = .ok (.goto 4, 3) := by decide +kernel
theorem dL_law_964 : decode cL_law 964 = .ok (.iconst 0, 1) := by decide +kernel
theorem dL_law_965 : decode cL_law 965 = .ok (.invokevirtual 125, 3) := by decide +kernel
theorem dL_law_968 : decode cL_law 968 = .ok (.aload_n 2, 1) := by decide +kernel
theorem dL_law_969 : decode cL_law 969 = .ok (.aload_n 0, 1) := by decide +kernel
theorem dL_law_970 : decode cL_law 970 = .ok (.iload 4, 2) := by decide +kernel
theorem dL_law_972 : decode cL_law 972 = .ok (.iconst 1, 1) := by decide +kernel
theorem dL_law_973 : decode cL_law 973 = .ok (.iadd, 1) := by decide +kernel
theorem dL_law_974 : decode cL_law 974 = .ok (.iaload, 1) := by decide +kernel
theorem dL_law_975 : decode cL_law 975 = .ok (.aload_n 0, 1) := by decide +kernel
theorem dL_law_976 : decode cL_law 976 = .ok (.iload 4, 2) := by decide +kernel
theorem dL_law_978 : decode cL_law 978 = .ok (.iconst 2, 1) := by decide +kernel
theorem dL_law_979 : decode cL_law 979 = .ok (.iadd, 1) := by decide +kernel
theorem dL_law_980 : decode cL_law 980 = .ok (.iaload, 1) := by decide +kernel
theorem dL_law_981 : decode cL_law 981 = .ok (.ifCond .eq 7, 3) := by decide +kernel
theorem dL_law_984 : decode cL_law 984 = .ok (.iconst 1, 1) := by decide +kernel
theorem dL_law_985 : decode cL_law 985 = .ok (.goto 4, 3) := by decide +kernel
theorem dL_law_988 : decode cL_law 988 = .ok (.iconst 0, 1) := by decide +kernel
theorem dL_law_989 : decode cL_law 989 = .ok (.invokevirtual 129, 3) := by decide +kernel
theorem dL_law_992 : decode cL_law 992 = .ok (.if_icmp .eq 30, 3) := by decide +kernel
theorem dL_law_995 : decode cL_law 995 = .ok (.iconst 0, 1) := by decide +kernel
theorem dL_law_996 : decode cL_law 996 = .ok (.ireturn, 1) := by decide +kernel
theorem dL_law_997 : decode cL_law 997 = .ok (.aload_n 1, 1) := by decide +kernel
theorem dL_law_998 : decode cL_law 998 = .ok (.aload_n 0, 1) := by decide +kernel
theorem dL_law_999 : decode cL_law 999 = .ok (.iload 4, 2) := by decide +kernel
theorem dL_law_1001 : decode cL_law 1001 = .ok (.iconst 1, 1) := by decide +kernel
theorem dL_law_1002 : decode cL_law 1002 = .ok (.iadd, 1) := by decide +kernel
theorem dL_law_1003 : decode cL_law 1003 = .ok (.iaload, 1) := by decide +kernel
theorem dL_law_1004 : decode cL_law 1004 = .ok (.invokevirtual 130, 3) := by decide +kernel
theorem dL_law_1007 : decode cL_law 1007 = .ok (.aload_n 2, 1) := by decide +kernel
theorem dL_law_1008 : decode cL_law 1008 = .ok (.aload_n 0, 1) := by decide +kernel
theorem dL_law_1009 : decode cL_law 1009 = .ok (.iload 4, 2) := by decide +kernel
theorem dL_law_1011 : decode cL_law 1011 = .ok (.iconst 1, 1) := by decide +kernel
theorem dL_law_1012 : decode cL_law 1012 = .ok (.iadd, 1) := by decide +kernel
theorem dL_law_1013 : decode cL_law 1013 = .ok (.iaload, 1) := by decide +kernel
theorem dL_law_1014 : decode cL_law 1014 = .ok (.invokevirtual 133, 3) := by decide +kernel
theorem dL_law_1017 : decode cL_law 1017 = .ok (.if_icmp .eq 5, 3) := by decide +kernel
theorem dL_law_1020 : decode cL_law 1020 = .ok (.iconst 0, 1) := by decide +kernel
theorem dL_law_1021 : decode cL_law 1021 = .ok (.ireturn, 1) := by decide +kernel
theorem dL_law_1022 : decode cL_law 1022 = .ok (.iinc 4 7, 3) := by decide +kernel
theorem dL_law_1025 : decode cL_law 1025 = .ok (.goto (-1002), 3) := by decide +kernel
theorem dL_law_1028 : decode cL_law 1028 = .ok (.iconst 1, 1) := by decide +kernel
theorem dL_law_1029 : decode cL_law 1029 = .ok (.ireturn, 1) := by decide +kernel
