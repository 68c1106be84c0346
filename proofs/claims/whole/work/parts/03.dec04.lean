theorem dX11_guestsIn_23 : decode cX11_guestsIn 23 = .ok (.iload_n 1, 1) := by decide +kernel
theorem dX11_guestsIn_24 : decode cX11_guestsIn 24 = .ok (.if_icmp .ne 9, 3) := by decide +kernel
theorem dX11_guestsIn_27 : decode cX11_guestsIn 27 = .ok (.iconst 1, 1) := by decide +kernel
theorem dX11_guestsIn_28 : decode cX11_guestsIn 28 = .ok (.iload_n 3, 1) := by decide +kernel
theorem dX11_guestsIn_29 : decode cX11_guestsIn 29 = .ok (.ishl, 1) := by decide +kernel
theorem dX11_guestsIn_30 : decode cX11_guestsIn 30 = .ok (.goto 4, 3) := by decide +kernel
theorem dX11_guestsIn_33 : decode cX11_guestsIn 33 = .ok (.iconst 0, 1) := by decide +kernel
theorem dX11_guestsIn_34 : decode cX11_guestsIn 34 = .ok (.ior, 1) := by decide +kernel
theorem dX11_guestsIn_35 : decode cX11_guestsIn 35 = .ok (.istore_n 2, 1) := by decide +kernel
theorem dX11_guestsIn_36 : decode cX11_guestsIn 36 = .ok (.iinc 3 1, 3) := by decide +kernel
theorem dX11_guestsIn_39 : decode cX11_guestsIn 39 = .ok (.goto (-35), 3) := by decide +kernel
theorem dX11_guestsIn_42 : decode cX11_guestsIn 42 = .ok (.iload_n 2, 1) := by decide +kernel
theorem dX11_guestsIn_43 : decode cX11_guestsIn 43 = .ok (.ireturn, 1) := by decide +kernel
theorem dX11_seeBy_0 : decode cX11_seeBy 0 = .ok (.iload_n 1, 1) := by decide +kernel
theorem dX11_seeBy_1 : decode cX11_seeBy 1 = .ok (.ifCond .eq 7, 3) := by decide +kernel
theorem dX11_seeBy_4 : decode cX11_seeBy 4 = .ok (.iconst 5, 1) := by decide +kernel
theorem dX11_seeBy_5 : decode cX11_seeBy 5 = .ok (.goto 4, 3) := by decide +kernel
theorem dX11_seeBy_8 : decode cX11_seeBy 8 = .ok (.iconst 0, 1) := by decide +kernel
theorem dX11_seeBy_9 : decode cX11_seeBy 9 = .ok (.aload_n 0, 1) := by decide +kernel
theorem dX11_seeBy_10 : decode cX11_seeBy 10 = .ok (.getfield 114, 3) := by decide +kernel
theorem dX11_seeBy_13 : decode cX11_seeBy 13 = .ok (.bipush 8, 2) := by decide +kernel
theorem dX11_seeBy_15 : decode cX11_seeBy 15 = .ok (.iload_n 2, 1) := by decide +kernel
theorem dX11_seeBy_16 : decode cX11_seeBy 16 = .ok (.iadd, 1) := by decide +kernel
theorem dX11_seeBy_17 : decode cX11_seeBy 17 = .ok (.iaload, 1) := by decide +kernel
theorem dX11_seeBy_18 : decode cX11_seeBy 18 = .ok (.iadd, 1) := by decide +kernel
theorem dX11_seeBy_19 : decode cX11_seeBy 19 = .ok (.iload_n 3, 1) := by decide +kernel
theorem dX11_seeBy_20 : decode cX11_seeBy 20 = .ok (.isub, 1) := by decide +kernel
theorem dX11_seeBy_21 : decode cX11_seeBy 21 = .ok (.istore 4, 2) := by decide +kernel
theorem dX11_seeBy_23 : decode cX11_seeBy 23 = .ok (.aload_n 0, 1) := by decide +kernel
theorem dX11_seeBy_24 : decode cX11_seeBy 24 = .ok (.getfield 53, 3) := by decide +kernel
theorem dX11_seeBy_27 : decode cX11_seeBy 27 = .ok (.iconst 0, 1) := by decide +kernel
theorem dX11_seeBy_28 : decode cX11_seeBy 28 = .ok (.iaload, 1) := by decide +kernel
theorem dX11_seeBy_29 : decode cX11_seeBy 29 = .ok (.aload_n 0, 1) := by decide +kernel
theorem dX11_seeBy_30 : decode cX11_seeBy 30 = .ok (.getfield 50, 3) := by decide +kernel
theorem dX11_seeBy_33 : decode cX11_seeBy 33 = .ok (.iconst 0, 1) := by decide +kernel
theorem dX11_seeBy_34 : decode cX11_seeBy 34 = .ok (.iaload, 1) := by decide +kernel
theorem dX11_seeBy_35 : decode cX11_seeBy 35 = .ok (.if_icmp .le 47, 3) := by decide +kernel
theorem dX11_seeBy_38 : decode cX11_seeBy 38 = .ok (.aload_n 0, 1) := by decide +kernel
theorem dX11_seeBy_39 : decode cX11_seeBy 39 = .ok (.getfield 93, 3) := by decide +kernel
theorem dX11_seeBy_42 : decode cX11_seeBy 42 = .ok (.iconst 1, 1) := by decide +kernel
theorem dX11_seeBy_43 : decode cX11_seeBy 43 = .ok (.iload_n 1, 1) := by decide +kernel
theorem dX11_seeBy_44 : decode cX11_seeBy 44 = .ok (.ifCond .eq 7, 3) := by decide +kernel
theorem dX11_seeBy_47 : decode cX11_seeBy 47 = .ok (.iconst 1, 1) := by decide +kernel
theorem dX11_seeBy_48 : decode cX11_seeBy 48 = .ok (.goto 4, 3) := by decide +kernel
theorem dX11_seeBy_51 : decode cX11_seeBy 51 = .ok (.iconst 0, 1) := by decide +kernel
theorem dX11_seeBy_52 : decode cX11_seeBy 52 = .ok (.iastore, 1) := by decide +kernel
theorem dX11_seeBy_53 : decode cX11_seeBy 53 = .ok (.aload_n 0, 1) := by decide +kernel
theorem dX11_seeBy_54 : decode cX11_seeBy 54 = .ok (.getfield 93, 3) := by decide +kernel
theorem dX11_seeBy_57 : decode cX11_seeBy 57 = .ok (.iconst 2, 1) := by decide +kernel
theorem dX11_seeBy_58 : decode cX11_seeBy 58 = .ok (.aload_n 0, 1) := by decide +kernel
theorem dX11_seeBy_59 : decode cX11_seeBy 59 = .ok (.getfield 114, 3) := by decide +kernel
theorem dX11_seeBy_62 : decode cX11_seeBy 62 = .ok (.bipush 8, 2) := by decide +kernel
theorem dX11_seeBy_64 : decode cX11_seeBy 64 = .ok (.iload_n 2, 1) := by decide +kernel
theorem dX11_seeBy_65 : decode cX11_seeBy 65 = .ok (.iadd, 1) := by decide +kernel
theorem dX11_seeBy_66 : decode cX11_seeBy 66 = .ok (.iaload, 1) := by decide +kernel
theorem dX11_seeBy_67 : decode cX11_seeBy 67 = .ok (.iastore, 1) := by decide +kernel
theorem dX11_seeBy_68 : decode cX11_seeBy 68 = .ok (.aload_n 0, 1) := by decide +kernel
theorem dX11_seeBy_69 : decode cX11_seeBy 69 = .ok (.getfield 93, 3) := by decide +kernel
theorem dX11_seeBy_72 : decode cX11_seeBy 72 = .ok (.iconst 3, 1) := by decide +kernel
theorem dX11_seeBy_73 : decode cX11_seeBy 73 = .ok (.iload_n 3, 1) := by decide +kernel
theorem dX11_seeBy_74 : decode cX11_seeBy 74 = .ok (.iastore, 1) := by decide +kernel
theorem dX11_seeBy_75 : decode cX11_seeBy 75 = .ok (.aload_n 0, 1) := by decide +kernel
theorem dX11_seeBy_76 : decode cX11_seeBy 76 = .ok (.iconst 0, 1) := by decide +kernel
theorem dX11_seeBy_77 : decode cX11_seeBy 77 = .ok (.invokevirtual 432, 3) := by decide +kernel
theorem dX11_seeBy_80 : decode cX11_seeBy 80 = .ok (.istore 4, 2) := by decide +kernel
theorem dX11_seeBy_82 : decode cX11_seeBy 82 = .ok (.iload 4, 2) := by decide +kernel
theorem dX11_seeBy_84 : decode cX11_seeBy 84 = .ok (.iconst 0, 1) := by decide +kernel
theorem dX11_seeBy_85 : decode cX11_seeBy 85 = .ok (.bipush 99, 2) := by decide +kernel
theorem dX11_seeBy_87 : decode cX11_seeBy 87 = .ok (.invokestatic 435, 3) := by decide +kernel
theorem dX11_seeBy_90 : decode cX11_seeBy 90 = .ok (.ireturn, 1) := by decide +kernel
theorem dX11_worthBy_0 : decode cX11_worthBy 0 = .ok (.iconst 0, 1) := by decide +kernel
theorem dX11_worthBy_1 : decode cX11_worthBy 1 = .ok (.istore_n 3, 1) := by decide +kernel
theorem dX11_worthBy_2 : decode cX11_worthBy 2 = .ok (.iload_n 2, 1) := by decide +kernel
theorem dX11_worthBy_3 : decode cX11_worthBy 3 = .ok (.invokestatic 439, 3) := by decide +kernel
theorem dX11_worthBy_6 : decode cX11_worthBy 6 = .ok (.iconst 1, 1) := by decide +kernel
theorem dX11_worthBy_7 : decode cX11_worthBy 7 = .ok (.isub, 1) := by decide +kernel
theorem dX11_worthBy_8 : decode cX11_worthBy 8 = .ok (.istore 4, 2) := by decide +kernel
theorem dX11_worthBy_10 : decode cX11_worthBy 10 = .ok (.iconst 0, 1) := by decide +kernel
theorem dX11_worthBy_11 : decode cX11_worthBy 11 = .ok (.istore 5, 2) := by decide +kernel
theorem dX11_worthBy_13 : decode cX11_worthBy 13 = .ok (.iload 5, 2) := by decide +kernel
theorem dX11_worthBy_15 : decode cX11_worthBy 15 = .ok (.aload_n 0, 1) := by decide +kernel
theorem dX11_worthBy_16 : decode cX11_worthBy 16 = .ok (.getfield 13, 3) := by decide +kernel
theorem dX11_worthBy_19 : decode cX11_worthBy 19 = .ok (.iconst 1, 1) := by decide +kernel
theorem dX11_worthBy_20 : decode cX11_worthBy 20 = .ok (.iaload, 1) := by decide +kernel
theorem dX11_worthBy_21 : decode cX11_worthBy 21 = .ok (.if_icmp .ge 54, 3) := by decide +kernel
theorem dX11_worthBy_24 : decode cX11_worthBy 24 = .ok (.iload_n 3, 1) := by decide +kernel
theorem dX11_worthBy_25 : decode cX11_worthBy 25 = .ok (.iload_n 2, 1) := by decide +kernel
theorem dX11_worthBy_26 : decode cX11_worthBy 26 = .ok (.iload 5, 2) := by decide +kernel
theorem dX11_worthBy_28 : decode cX11_worthBy 28 = .ok (.ishr, 1) := by decide +kernel
theorem dX11_worthBy_29 : decode cX11_worthBy 29 = .ok (.iconst 1, 1) := by decide +kernel
theorem dX11_worthBy_30 : decode cX11_worthBy 30 = .ok (.iand, 1) := by decide +kernel
theorem dX11_worthBy_31 : decode cX11_worthBy 31 = .ok (.iconst 1, 1) := by decide +kernel
theorem dX11_worthBy_32 : decode cX11_worthBy 32 = .ok (.if_icmp .ne 34, 3) := by decide +kernel
theorem dX11_worthBy_35 : decode cX11_worthBy 35 = .ok (.aload_n 0, 1) := by decide +kernel
theorem dX11_worthBy_36 : decode cX11_worthBy 36 = .ok (.iload_n 1, 1) := by decide +kernel
theorem dX11_worthBy_37 : decode cX11_worthBy 37 = .ok (.aload_n 0, 1) := by decide +kernel
theorem dX11_worthBy_38 : decode cX11_worthBy 38 = .ok (.getfield 29, 3) := by decide +kernel
theorem dX11_worthBy_41 : decode cX11_worthBy 41 = .ok (.iload 5, 2) := by decide +kernel
theorem dX11_worthBy_43 : decode cX11_worthBy 43 = .ok (.iaload, 1) := by decide +kernel
theorem dX11_worthBy_44 : decode cX11_worthBy 44 = .ok (.ishr, 1) := by decide +kernel
theorem dX11_worthBy_45 : decode cX11_worthBy 45 = .ok (.iconst 1, 1) := by decide +kernel
theorem dX11_worthBy_46 : decode cX11_worthBy 46 = .ok (.iand, 1) := by decide +kernel
theorem dX11_worthBy_47 : decode cX11_worthBy 47 = .ok (.iconst 1, 1) := by decide +kernel
theorem dX11_worthBy_48 : decode cX11_worthBy 48 = .ok (.if_icmp .ne 7, 3) := by decide +kernel
theorem dX11_worthBy_51 : decode cX11_worthBy 51 = .ok (.iconst 1, 1) := by decide +kernel
theorem dX11_worthBy_52 : decode cX11_worthBy 52 = .ok (.goto 4, 3) := by decide +kernel
theorem dX11_worthBy_55 : decode cX11_worthBy 55 = .ok (.iconst 0, 1) := by decide +kernel
theorem dX11_worthBy_56 : decode cX11_worthBy 56 = .ok (.iload 5, 2) := by decide +kernel
theorem dX11_worthBy_58 : decode cX11_worthBy 58 = .ok (.iload 4, 2) := by decide +kernel
theorem dX11_worthBy_60 : decode cX11_worthBy 60 = .ok (.invokevirtual 442, 3) := by decide +kernel
theorem dX11_worthBy_63 : decode cX11_worthBy 63 = .ok (.goto 4, 3) := by decide +kernel
theorem dX11_worthBy_66 : decode cX11_worthBy 66 = .ok (.iconst 0, 1) := by decide +kernel
theorem dX11_worthBy_67 : decode cX11_worthBy 67 = .ok (.iadd, 1) := by decide +kernel
theorem dX11_worthBy_68 : decode cX11_worthBy 68 = .ok (.istore_n 3, 1) := by decide +kernel
theorem dX11_worthBy_69 : decode cX11_worthBy 69 = .ok (.iinc 5 1, 3) := by decide +kernel
theorem dX11_worthBy_72 : decode cX11_worthBy 72 = .ok (.goto (-59), 3) := by decide +kernel
theorem dX11_worthBy_75 : decode cX11_worthBy 75 = .ok (.iload_n 3, 1) := by decide +kernel
theorem dX11_worthBy_76 : decode cX11_worthBy 76 = .ok (.ireturn, 1) := by decide +kernel
theorem dX11_laysWorths_0 : decode cX11_laysWorths 0 = .ok (.iconst 0, 1) := by decide +kernel
theorem dX11_laysWorths_1 : decode cX11_laysWorths 1 = .ok (.istore_n 1, 1) := by decide +kernel
theorem dX11_laysWorths_2 : decode cX11_laysWorths 2 = .ok (.iload_n 1, 1) := by decide +kernel
theorem dX11_laysWorths_3 : decode cX11_laysWorths 3 = .ok (.aload_n 0, 1) := by decide +kernel
theorem dX11_laysWorths_4 : decode cX11_laysWorths 4 = .ok (.getfield 13, 3) := by decide +kernel
theorem dX11_laysWorths_7 : decode cX11_laysWorths 7 = .ok (.iconst 2, 1) := by decide +kernel
theorem dX11_laysWorths_8 : decode cX11_laysWorths 8 = .ok (.iaload, 1) := by decide +kernel
theorem dX11_laysWorths_9 : decode cX11_laysWorths 9 = .ok (.if_icmp .ge 49, 3) := by decide +kernel
theorem dX11_laysWorths_12 : decode cX11_laysWorths 12 = .ok (.iconst 0, 1) := by decide +kernel
theorem dX11_laysWorths_13 : decode cX11_laysWorths 13 = .ok (.istore_n 2, 1) := by decide +kernel
theorem dX11_laysWorths_14 : decode cX11_laysWorths 14 = .ok (.iload_n 2, 1) := by decide +kernel
theorem dX11_laysWorths_15 : decode cX11_laysWorths 15 = .ok (.aload_n 0, 1) := by decide +kernel
theorem dX11_laysWorths_16 : decode cX11_laysWorths 16 = .ok (.invokevirtual 446, 3) := by decide +kernel
theorem dX11_laysWorths_19 : decode cX11_laysWorths 19 = .ok (.if_icmp .gt 33, 3) := by decide +kernel
theorem dX11_laysWorths_22 : decode cX11_laysWorths 22 = .ok (.aload_n 0, 1) := by decide +kernel
theorem dX11_laysWorths_23 : decode cX11_laysWorths 23 = .ok (.getfield 132, 3) := by decide +kernel
theorem dX11_laysWorths_26 : decode cX11_laysWorths 26 = .ok (.bipush 64, 2) := by decide +kernel
theorem dX11_laysWorths_28 : decode cX11_laysWorths 28 = .ok (.iload_n 1, 1) := by decide +kernel
theorem dX11_laysWorths_29 : decode cX11_laysWorths 29 = .ok (.imul, 1) := by decide +kernel
theorem dX11_laysWorths_30 : decode cX11_laysWorths 30 = .ok (.iload_n 2, 1) := by decide +kernel
theorem dX11_laysWorths_31 : decode cX11_laysWorths 31 = .ok (.iadd, 1) := by decide +kernel
theorem dX11_laysWorths_32 : decode cX11_laysWorths 32 = .ok (.aload_n 0, 1) := by decide +kernel
theorem dX11_laysWorths_33 : decode cX11_laysWorths 33 = .ok (.iconst 1, 1) := by decide +kernel
theorem dX11_laysWorths_34 : decode cX11_laysWorths 34 = .ok (.aload_n 0, 1) := by decide +kernel
theorem dX11_laysWorths_35 : decode cX11_laysWorths 35 = .ok (.getfield 38, 3) := by decide +kernel
theorem dX11_laysWorths_38 : decode cX11_laysWorths 38 = .ok (.iload_n 1, 1) := by decide +kernel
theorem dX11_laysWorths_39 : decode cX11_laysWorths 39 = .ok (.iaload, 1) := by decide +kernel
theorem dX11_laysWorths_40 : decode cX11_laysWorths 40 = .ok (.ishl, 1) := by decide +kernel
theorem dX11_laysWorths_41 : decode cX11_laysWorths 41 = .ok (.iload_n 2, 1) := by decide +kernel
theorem dX11_laysWorths_42 : decode cX11_laysWorths 42 = .ok (.invokevirtual 449, 3) := by decide +kernel
theorem dX11_laysWorths_45 : decode cX11_laysWorths 45 = .ok (.iastore, 1) := by decide +kernel
theorem dX11_laysWorths_46 : decode cX11_laysWorths 46 = .ok (.iinc 2 1, 3) := by decide +kernel
theorem dX11_laysWorths_49 : decode cX11_laysWorths 49 = .ok (.goto (-35), 3) := by decide +kernel
theorem dX11_laysWorths_52 : decode cX11_laysWorths 52 = .ok (.iinc 1 1, 3) := by decide +kernel
theorem dX11_laysWorths_55 : decode cX11_laysWorths 55 = .ok (.goto (-53), 3) := by decide +kernel
theorem dX11_laysWorths_58 : decode cX11_laysWorths 58 = .ok (.return_, 1) := by decide +kernel
theorem dX11_chooses_0 : decode cX11_chooses 0 = .ok (.iconst 0, 1) := by decide +kernel
theorem dX11_chooses_1 : decode cX11_chooses 1 = .ok (.istore_n 1, 1) := by decide +kernel
theorem dX11_chooses_2 : decode cX11_chooses 2 = .ok (.iconst 0, 1) := by decide +kernel
theorem dX11_chooses_3 : decode cX11_chooses 3 = .ok (.istore_n 2, 1) := by decide +kernel
theorem dX11_chooses_4 : decode cX11_chooses 4 = .ok (.iload_n 2, 1) := by decide +kernel
theorem dX11_chooses_5 : decode cX11_chooses 5 = .ok (.aload_n 0, 1) := by decide +kernel
theorem dX11_chooses_6 : decode cX11_chooses 6 = .ok (.getfield 13, 3) := by decide +kernel
theorem dX11_chooses_9 : decode cX11_chooses 9 = .ok (.iconst 0, 1) := by decide +kernel
theorem dX11_chooses_10 : decode cX11_chooses 10 = .ok (.iaload, 1) := by decide +kernel
theorem dX11_chooses_11 : decode cX11_chooses 11 = .ok (.if_icmp .ge 28, 3) := by decide +kernel
theorem dX11_chooses_14 : decode cX11_chooses 14 = .ok (.aload_n 0, 1) := by decide +kernel
theorem dX11_chooses_15 : decode cX11_chooses 15 = .ok (.getfield 138, 3) := by decide +kernel
theorem dX11_chooses_18 : decode cX11_chooses 18 = .ok (.iload_n 2, 1) := by decide +kernel
theorem dX11_chooses_19 : decode cX11_chooses 19 = .ok (.aload_n 0, 1) := by decide +kernel
theorem dX11_chooses_20 : decode cX11_chooses 20 = .ok (.getfield 26, 3) := by decide +kernel
theorem dX11_chooses_23 : decode cX11_chooses 23 = .ok (.iload_n 2, 1) := by decide +kernel
theorem dX11_chooses_24 : decode cX11_chooses 24 = .ok (.iaload, 1) := by decide +kernel
theorem dX11_chooses_25 : decode cX11_chooses 25 = .ok (.iastore, 1) := by decide +kernel
theorem dX11_chooses_26 : decode cX11_chooses 26 = .ok (.aload_n 0, 1) := by decide +kernel
theorem dX11_chooses_27 : decode cX11_chooses 27 = .ok (.getfield 147, 3) := by decide +kernel
theorem dX11_chooses_30 : decode cX11_chooses 30 = .ok (.iload_n 2, 1) := by decide +kernel
theorem dX11_chooses_31 : decode cX11_chooses 31 = .ok (.iconst 0, 1) := by decide +kernel
theorem dX11_chooses_32 : decode cX11_chooses 32 = .ok (.iastore, 1) := by decide +kernel
theorem dX11_chooses_33 : decode cX11_chooses 33 = .ok (.iinc 2 1, 3) := by decide +kernel
theorem dX11_chooses_36 : decode cX11_chooses 36 = .ok (.goto (-32), 3) := by decide +kernel
theorem dX11_chooses_39 : decode cX11_chooses 39 = .ok (.iconst 0, 1) := by decide +kernel
theorem dX11_chooses_40 : decode cX11_chooses 40 = .ok (.istore_n 2, 1) := by decide +kernel
theorem dX11_chooses_41 : decode cX11_chooses 41 = .ok (.iload_n 2, 1) := by decide +kernel
theorem dX11_chooses_42 : decode cX11_chooses 42 = .ok (.aload_n 0, 1) := by decide +kernel
theorem dX11_chooses_43 : decode cX11_chooses 43 = .ok (.getfield 13, 3) := by decide +kernel
theorem dX11_chooses_46 : decode cX11_chooses 46 = .ok (.iconst 2, 1) := by decide +kernel
theorem dX11_chooses_47 : decode cX11_chooses 47 = .ok (.iaload, 1) := by decide +kernel
theorem dX11_chooses_48 : decode cX11_chooses 48 = .ok (.if_icmp .ge 145, 3) := by decide +kernel
theorem dX11_chooses_51 : decode cX11_chooses 51 = .ok (.iconst (-1), 1) := by decide +kernel
theorem dX11_chooses_52 : decode cX11_chooses 52 = .ok (.istore_n 3, 1) := by decide +kernel
theorem dX11_chooses_53 : decode cX11_chooses 53 = .ok (.iconst 0, 1) := by decide +kernel
theorem dX11_chooses_54 : decode cX11_chooses 54 = .ok (.istore 4, 2) := by decide +kernel
theorem dX11_chooses_56 : decode cX11_chooses 56 = .ok (.iconst 0, 1) := by decide +kernel
theorem dX11_chooses_57 : decode cX11_chooses 57 = .ok (.istore 5, 2) := by decide +kernel
theorem dX11_chooses_59 : decode cX11_chooses 59 = .ok (.iload 5, 2) := by decide +kernel
theorem dX11_chooses_61 : decode cX11_chooses 61 = .ok (.aload_n 0, 1) := by decide +kernel
theorem dX11_chooses_62 : decode cX11_chooses 62 = .ok (.getfield 13, 3) := by decide +kernel
theorem dX11_chooses_65 : decode cX11_chooses 65 = .ok (.iconst 0, 1) := by decide +kernel
theorem dX11_chooses_66 : decode cX11_chooses 66 = .ok (.iaload, 1) := by decide +kernel
theorem dX11_chooses_67 : decode cX11_chooses 67 = .ok (.if_icmp .ge 55, 3) := by decide +kernel
theorem dX11_chooses_70 : decode cX11_chooses 70 = .ok (.aload_n 0, 1) := by decide +kernel
theorem dX11_chooses_71 : decode cX11_chooses 71 = .ok (.getfield 132, 3) := by decide +kernel
theorem dX11_chooses_74 : decode cX11_chooses 74 = .ok (.bipush 64, 2) := by decide +kernel
theorem dX11_chooses_76 : decode cX11_chooses 76 = .ok (.iload_n 2, 1) := by decide +kernel
theorem dX11_chooses_77 : decode cX11_chooses 77 = .ok (.imul, 1) := by decide +kernel
theorem dX11_chooses_78 : decode cX11_chooses 78 = .ok (.aload_n 0, 1) := by decide +kernel
theorem dX11_chooses_79 : decode cX11_chooses 79 = .ok (.getfield 135, 3) := by decide +kernel
theorem dX11_chooses_82 : decode cX11_chooses 82 = .ok (.iload 5, 2) := by decide +kernel
theorem dX11_chooses_84 : decode cX11_chooses 84 = .ok (.iaload, 1) := by decide +kernel
theorem dX11_chooses_85 : decode cX11_chooses 85 = .ok (.iadd, 1) := by decide +kernel
theorem dX11_chooses_86 : decode cX11_chooses 86 = .ok (.iaload, 1) := by decide +kernel
theorem dX11_chooses_87 : decode cX11_chooses 87 = .ok (.istore 6, 2) := by decide +kernel
theorem dX11_chooses_89 : decode cX11_chooses 89 = .ok (.aload_n 0, 1) := by decide +kernel
theorem dX11_chooses_90 : decode cX11_chooses 90 = .ok (.getfield 138, 3) := by decide +kernel
theorem dX11_chooses_93 : decode cX11_chooses 93 = .ok (.iload 5, 2) := by decide +kernel
theorem dX11_chooses_95 : decode cX11_chooses 95 = .ok (.iaload, 1) := by decide +kernel
theorem dX11_chooses_96 : decode cX11_chooses 96 = .ok (.ifCond .eq 20, 3) := by decide +kernel
theorem dX11_chooses_99 : decode cX11_chooses 99 = .ok (.iload 6, 2) := by decide +kernel
theorem dX11_chooses_101 : decode cX11_chooses 101 = .ok (.iload 4, 2) := by decide +kernel
theorem dX11_chooses_103 : decode cX11_chooses 103 = .ok (.if_icmp .gt 6, 3) := by decide +kernel
theorem dX11_chooses_106 : decode cX11_chooses 106 = .ok (.goto 10, 3) := by decide +kernel
theorem dX11_chooses_109 : decode cX11_chooses 109 = .ok (.iload 5, 2) := by decide +kernel
theorem dX11_chooses_111 : decode cX11_chooses 111 = .ok (.istore_n 3, 1) := by decide +kernel
theorem dX11_chooses_112 : decode cX11_chooses 112 = .ok (.iload 6, 2) := by decide +kernel
theorem dX11_chooses_114 : decode cX11_chooses 114 = .ok (.istore 4, 2) := by decide +kernel
theorem dX11_chooses_116 : decode cX11_chooses 116 = .ok (.iinc 5 1, 3) := by decide +kernel
theorem dX11_chooses_119 : decode cX11_chooses 119 = .ok (.goto (-60), 3) := by decide +kernel
theorem dX11_chooses_122 : decode cX11_chooses 122 = .ok (.aload_n 0, 1) := by decide +kernel
theorem dX11_chooses_123 : decode cX11_chooses 123 = .ok (.getfield 141, 3) := by decide +kernel
theorem dX11_chooses_126 : decode cX11_chooses 126 = .ok (.iload_n 2, 1) := by decide +kernel
theorem dX11_chooses_127 : decode cX11_chooses 127 = .ok (.iload_n 3, 1) := by decide +kernel
theorem dX11_chooses_128 : decode cX11_chooses 128 = .ok (.iastore, 1) := by decide +kernel
theorem dX11_chooses_129 : decode cX11_chooses 129 = .ok (.aload_n 0, 1) := by decide +kernel
theorem dX11_chooses_130 : decode cX11_chooses 130 = .ok (.getfield 144, 3) := by decide +kernel
theorem dX11_chooses_133 : decode cX11_chooses 133 = .ok (.iload_n 2, 1) := by decide +kernel
theorem dX11_chooses_134 : decode cX11_chooses 134 = .ok (.iload 4, 2) := by decide +kernel
theorem dX11_chooses_136 : decode cX11_chooses 136 = .ok (.aload_n 0, 1) := by decide +kernel
theorem dX11_chooses_137 : decode cX11_chooses 137 = .ok (.getfield 114, 3) := by decide +kernel
theorem dX11_chooses_140 : decode cX11_chooses 140 = .ok (.bipush 14, 2) := by decide +kernel
theorem dX11_chooses_142 : decode cX11_chooses 142 = .ok (.iload_n 2, 1) := by decide +kernel
theorem dX11_chooses_143 : decode cX11_chooses 143 = .ok (.iadd, 1) := by decide +kernel
theorem dX11_chooses_144 : decode cX11_chooses 144 = .ok (.iaload, 1) := by decide +kernel
theorem dX11_chooses_145 : decode cX11_chooses 145 = .ok (.invokestatic 453, 3) := by decide +kernel
theorem dX11_chooses_148 : decode cX11_chooses 148 = .ok (.iastore, 1) := by decide +kernel
theorem dX11_chooses_149 : decode cX11_chooses 149 = .ok (.iload_n 1, 1) := by decide +kernel
theorem dX11_chooses_150 : decode cX11_chooses 150 = .ok (.aload_n 0, 1) := by decide +kernel
theorem dX11_chooses_151 : decode cX11_chooses 151 = .ok (.getfield 144, 3) := by decide +kernel
theorem dX11_chooses_154 : decode cX11_chooses 154 = .ok (.iload_n 2, 1) := by decide +kernel
theorem dX11_chooses_155 : decode cX11_chooses 155 = .ok (.iaload, 1) := by decide +kernel
theorem dX11_chooses_156 : decode cX11_chooses 156 = .ok (.iadd, 1) := by decide +kernel
theorem dX11_chooses_157 : decode cX11_chooses 157 = .ok (.istore_n 1, 1) := by decide +kernel
theorem dX11_chooses_158 : decode cX11_chooses 158 = .ok (.iload_n 3, 1) := by decide +kernel
theorem dX11_chooses_159 : decode cX11_chooses 159 = .ok (.ifCond .ge 6, 3) := by decide +kernel
theorem dX11_chooses_162 : decode cX11_chooses 162 = .ok (.goto 25, 3) := by decide +kernel
theorem dX11_chooses_165 : decode cX11_chooses 165 = .ok (.aload_n 0, 1) := by decide +kernel
theorem dX11_chooses_166 : decode cX11_chooses 166 = .ok (.getfield 138, 3) := by decide +kernel
theorem dX11_chooses_169 : decode cX11_chooses 169 = .ok (.iload_n 3, 1) := by decide +kernel
theorem dX11_chooses_170 : decode cX11_chooses 170 = .ok (.dup2, 1) := by decide +kernel
theorem dX11_chooses_171 : decode cX11_chooses 171 = .ok (.iaload, 1) := by decide +kernel
theorem dX11_chooses_172 : decode cX11_chooses 172 = .ok (.iconst 1, 1) := by decide +kernel
theorem dX11_chooses_173 : decode cX11_chooses 173 = .ok (.isub, 1) := by decide +kernel
theorem dX11_chooses_174 : decode cX11_chooses 174 = .ok (.iastore, 1) := by decide +kernel
theorem dX11_chooses_175 : decode cX11_chooses 175 = .ok (.aload_n 0, 1) := by decide +kernel
theorem dX11_chooses_176 : decode cX11_chooses 176 = .ok (.getfield 147, 3) := by decide +kernel
theorem dX11_chooses_179 : decode cX11_chooses 179 = .ok (.iload_n 3, 1) := by decide +kernel
theorem dX11_chooses_180 : decode cX11_chooses 180 = .ok (.dup2, 1) := by decide +kernel
theorem dX11_chooses_181 : decode cX11_chooses 181 = .ok (.iaload, 1) := by decide +kernel
theorem dX11_chooses_182 : decode cX11_chooses 182 = .ok (.iconst 1, 1) := by decide +kernel
theorem dX11_chooses_183 : decode cX11_chooses 183 = .ok (.iload_n 2, 1) := by decide +kernel
theorem dX11_chooses_184 : decode cX11_chooses 184 = .ok (.ishl, 1) := by decide +kernel
theorem dX11_chooses_185 : decode cX11_chooses 185 = .ok (.ior, 1) := by decide +kernel
theorem dX11_chooses_186 : decode cX11_chooses 186 = .ok (.iastore, 1) := by decide +kernel
theorem dX11_chooses_187 : decode cX11_chooses 187 = .ok (.iinc 2 1, 3) := by decide +kernel
theorem dX11_chooses_190 : decode cX11_chooses 190 = .ok (.goto (-149), 3) := by decide +kernel
theorem dX11_chooses_193 : decode cX11_chooses 193 = .ok (.iload_n 1, 1) := by decide +kernel
theorem dX11_chooses_194 : decode cX11_chooses 194 = .ok (.ireturn, 1) := by decide +kernel
theorem dX11_laysPens_0 : decode cX11_laysPens 0 = .ok (.iconst 0, 1) := by decide +kernel
theorem dX11_laysPens_1 : decode cX11_laysPens 1 = .ok (.istore_n 1, 1) := by decide +kernel
theorem dX11_laysPens_2 : decode cX11_laysPens 2 = .ok (.iload_n 1, 1) := by decide +kernel
theorem dX11_laysPens_3 : decode cX11_laysPens 3 = .ok (.aload_n 0, 1) := by decide +kernel
theorem dX11_laysPens_4 : decode cX11_laysPens 4 = .ok (.getfield 13, 3) := by decide +kernel
theorem dX11_laysPens_7 : decode cX11_laysPens 7 = .ok (.iconst 0, 1) := by decide +kernel
theorem dX11_laysPens_8 : decode cX11_laysPens 8 = .ok (.iaload, 1) := by decide +kernel
theorem dX11_laysPens_9 : decode cX11_laysPens 9 = .ok (.if_icmp .ge 20, 3) := by decide +kernel
theorem dX11_laysPens_12 : decode cX11_laysPens 12 = .ok (.aload_n 0, 1) := by decide +kernel
theorem dX11_laysPens_13 : decode cX11_laysPens 13 = .ok (.getfield 135, 3) := by decide +kernel
theorem dX11_laysPens_16 : decode cX11_laysPens 16 = .ok (.iload_n 1, 1) := by decide +kernel
theorem dX11_laysPens_17 : decode cX11_laysPens 17 = .ok (.aload_n 0, 1) := by decide +kernel
theorem dX11_laysPens_18 : decode cX11_laysPens 18 = .ok (.iload_n 1, 1) := by decide +kernel
theorem dX11_laysPens_19 : decode cX11_laysPens 19 = .ok (.invokevirtual 458, 3) := by decide +kernel
theorem dX11_laysPens_22 : decode cX11_laysPens 22 = .ok (.iastore, 1) := by decide +kernel
theorem dX11_laysPens_23 : decode cX11_laysPens 23 = .ok (.iinc 1 1, 3) := by decide +kernel
theorem dX11_laysPens_26 : decode cX11_laysPens 26 = .ok (.goto (-24), 3) := by decide +kernel
theorem dX11_laysPens_29 : decode cX11_laysPens 29 = .ok (.return_, 1) := by decide +kernel
theorem dX11_looks_0 : decode cX11_looks 0 = .ok (.aload_n 0, 1) := by decide +kernel
theorem dX11_looks_1 : decode cX11_looks 1 = .ok (.invokevirtual 461, 3) := by decide +kernel
theorem dX11_looks_4 : decode cX11_looks 4 = .ok (.aload_n 0, 1) := by decide +kernel
theorem dX11_looks_5 : decode cX11_looks 5 = .ok (.invokevirtual 464, 3) := by decide +kernel
theorem dX11_looks_8 : decode cX11_looks 8 = .ok (.aload_n 0, 1) := by decide +kernel
theorem dX11_looks_9 : decode cX11_looks 9 = .ok (.invokevirtual 467, 3) := by decide +kernel
theorem dX11_looks_12 : decode cX11_looks 12 = .ok (.ireturn, 1) := by decide +kernel
theorem dX11_moodBy_0 : decode cX11_moodBy 0 = .ok (.aload_n 0, 1) := by decide +kernel
theorem dX11_moodBy_1 : decode cX11_moodBy 1 = .ok (.getfield 135, 3) := by decide +kernel
theorem dX11_moodBy_4 : decode cX11_moodBy 4 = .ok (.iload_n 2, 1) := by decide +kernel
theorem dX11_moodBy_5 : decode cX11_moodBy 5 = .ok (.iaload, 1) := by decide +kernel
theorem dX11_moodBy_6 : decode cX11_moodBy 6 = .ok (.invokestatic 439, 3) := by decide +kernel
theorem dX11_moodBy_9 : decode cX11_moodBy 9 = .ok (.iconst 1, 1) := by decide +kernel
theorem dX11_moodBy_10 : decode cX11_moodBy 10 = .ok (.isub, 1) := by decide +kernel
theorem dX11_moodBy_11 : decode cX11_moodBy 11 = .ok (.istore_n 3, 1) := by decide +kernel
theorem dX11_moodBy_12 : decode cX11_moodBy 12 = .ok (.aload_n 0, 1) := by decide +kernel
theorem dX11_moodBy_13 : decode cX11_moodBy 13 = .ok (.getfield 147, 3) := by decide +kernel
theorem dX11_moodBy_16 : decode cX11_moodBy 16 = .ok (.iload_n 2, 1) := by decide +kernel
theorem dX11_moodBy_17 : decode cX11_moodBy 17 = .ok (.iaload, 1) := by decide +kernel
theorem dX11_moodBy_18 : decode cX11_moodBy 18 = .ok (.invokestatic 439, 3) := by decide +kernel
theorem dX11_moodBy_21 : decode cX11_moodBy 21 = .ok (.istore 4, 2) := by decide +kernel
theorem dX11_moodBy_23 : decode cX11_moodBy 23 = .ok (.aload_n 0, 1) := by decide +kernel
theorem dX11_moodBy_24 : decode cX11_moodBy 24 = .ok (.getfield 114, 3) := by decide +kernel
theorem dX11_moodBy_27 : decode cX11_moodBy 27 = .ok (.iconst 0, 1) := by decide +kernel
theorem dX11_moodBy_28 : decode cX11_moodBy 28 = .ok (.iaload, 1) := by decide +kernel
theorem dX11_moodBy_29 : decode cX11_moodBy 29 = .ok (.bipush 10, 2) := by decide +kernel
theorem dX11_moodBy_31 : decode cX11_moodBy 31 = .ok (.irem, 1) := by decide +kernel
theorem dX11_moodBy_32 : decode cX11_moodBy 32 = .ok (.aload_n 0, 1) := by decide +kernel
theorem dX11_moodBy_33 : decode cX11_moodBy 33 = .ok (.getfield 13, 3) := by decide +kernel
theorem dX11_moodBy_36 : decode cX11_moodBy 36 = .ok (.iconst 5, 1) := by decide +kernel
theorem dX11_moodBy_37 : decode cX11_moodBy 37 = .ok (.iaload, 1) := by decide +kernel
theorem dX11_moodBy_38 : decode cX11_moodBy 38 = .ok (.if_icmp .ne 7, 3) := by decide +kernel
theorem dX11_moodBy_41 : decode cX11_moodBy 41 = .ok (.iconst 1, 1) := by decide +kernel
theorem dX11_moodBy_42 : decode cX11_moodBy 42 = .ok (.goto 4, 3) := by decide +kernel
theorem dX11_moodBy_45 : decode cX11_moodBy 45 = .ok (.iconst 0, 1) := by decide +kernel
theorem dX11_moodBy_46 : decode cX11_moodBy 46 = .ok (.istore 5, 2) := by decide +kernel
theorem dX11_moodBy_48 : decode cX11_moodBy 48 = .ok (.aload_n 0, 1) := by decide +kernel
theorem dX11_moodBy_49 : decode cX11_moodBy 49 = .ok (.getfield 114, 3) := by decide +kernel
theorem dX11_moodBy_52 : decode cX11_moodBy 52 = .ok (.bipush 8, 2) := by decide +kernel
theorem dX11_moodBy_54 : decode cX11_moodBy 54 = .ok (.iload_n 1, 1) := by decide +kernel
theorem dX11_moodBy_55 : decode cX11_moodBy 55 = .ok (.iadd, 1) := by decide +kernel
theorem dX11_moodBy_56 : decode cX11_moodBy 56 = .ok (.iaload, 1) := by decide +kernel
theorem dX11_moodBy_57 : decode cX11_moodBy 57 = .ok (.iconst 1, 1) := by decide +kernel
theorem dX11_moodBy_58 : decode cX11_moodBy 58 = .ok (.isub, 1) := by decide +kernel
theorem dX11_moodBy_59 : decode cX11_moodBy 59 = .ok (.iload 4, 2) := by decide +kernel
theorem dX11_moodBy_61 : decode cX11_moodBy 61 = .ok (.iadd, 1) := by decide +kernel
theorem dX11_moodBy_62 : decode cX11_moodBy 62 = .ok (.iload 5, 2) := by decide +kernel
theorem dX11_moodBy_64 : decode cX11_moodBy 64 = .ok (.iconst 2, 1) := by decide +kernel
theorem dX11_moodBy_65 : decode cX11_moodBy 65 = .ok (.imul, 1) := by decide +kernel
theorem dX11_moodBy_66 : decode cX11_moodBy 66 = .ok (.iadd, 1) := by decide +kernel
theorem dX11_moodBy_67 : decode cX11_moodBy 67 = .ok (.iload_n 3, 1) := by decide +kernel
theorem dX11_moodBy_68 : decode cX11_moodBy 68 = .ok (.isub, 1) := by decide +kernel
theorem dX11_moodBy_69 : decode cX11_moodBy 69 = .ok (.istore 6, 2) := by decide +kernel
theorem dX11_moodBy_71 : decode cX11_moodBy 71 = .ok (.aload_n 0, 1) := by decide +kernel
theorem dX11_moodBy_72 : decode cX11_moodBy 72 = .ok (.getfield 53, 3) := by decide +kernel
theorem dX11_moodBy_75 : decode cX11_moodBy 75 = .ok (.iconst 1, 1) := by decide +kernel
theorem dX11_moodBy_76 : decode cX11_moodBy 76 = .ok (.iaload, 1) := by decide +kernel
theorem dX11_moodBy_77 : decode cX11_moodBy 77 = .ok (.aload_n 0, 1) := by decide +kernel
theorem dX11_moodBy_78 : decode cX11_moodBy 78 = .ok (.getfield 50, 3) := by decide +kernel
theorem dX11_moodBy_81 : decode cX11_moodBy 81 = .ok (.iconst 1, 1) := by decide +kernel
theorem dX11_moodBy_82 : decode cX11_moodBy 82 = .ok (.iaload, 1) := by decide +kernel
theorem dX11_moodBy_83 : decode cX11_moodBy 83 = .ok (.if_icmp .le 48, 3) := by decide +kernel
theorem dX11_moodBy_86 : decode cX11_moodBy 86 = .ok (.aload_n 0, 1) := by decide +kernel
theorem dX11_moodBy_87 : decode cX11_moodBy 87 = .ok (.getfield 93, 3) := by decide +kernel
theorem dX11_moodBy_90 : decode cX11_moodBy 90 = .ok (.iconst 2, 1) := by decide +kernel
theorem dX11_moodBy_91 : decode cX11_moodBy 91 = .ok (.aload_n 0, 1) := by decide +kernel
theorem dX11_moodBy_92 : decode cX11_moodBy 92 = .ok (.getfield 114, 3) := by decide +kernel
theorem dX11_moodBy_95 : decode cX11_moodBy 95 = .ok (.bipush 8, 2) := by decide +kernel
theorem dX11_moodBy_97 : decode cX11_moodBy 97 = .ok (.iload_n 1, 1) := by decide +kernel
theorem dX11_moodBy_98 : decode cX11_moodBy 98 = .ok (.iadd, 1) := by decide +kernel
theorem dX11_moodBy_99 : decode cX11_moodBy 99 = .ok (.iaload, 1) := by decide +kernel
theorem dX11_moodBy_100 : decode cX11_moodBy 100 = .ok (.iastore, 1) := by decide +kernel
theorem dX11_moodBy_101 : decode cX11_moodBy 101 = .ok (.aload_n 0, 1) := by decide +kernel
theorem dX11_moodBy_102 : decode cX11_moodBy 102 = .ok (.getfield 93, 3) := by decide +kernel
theorem dX11_moodBy_105 : decode cX11_moodBy 105 = .ok (.iconst 3, 1) := by decide +kernel
theorem dX11_moodBy_106 : decode cX11_moodBy 106 = .ok (.iload_n 3, 1) := by decide +kernel
theorem dX11_moodBy_107 : decode cX11_moodBy 107 = .ok (.iastore, 1) := by decide +kernel
theorem dX11_moodBy_108 : decode cX11_moodBy 108 = .ok (.aload_n 0, 1) := by decide +kernel
theorem dX11_moodBy_109 : decode cX11_moodBy 109 = .ok (.getfield 93, 3) := by decide +kernel
theorem dX11_moodBy_112 : decode cX11_moodBy 112 = .ok (.iconst 4, 1) := by decide +kernel
theorem dX11_moodBy_113 : decode cX11_moodBy 113 = .ok (.iload 4, 2) := by decide +kernel
theorem dX11_moodBy_115 : decode cX11_moodBy 115 = .ok (.iastore, 1) := by decide +kernel
theorem dX11_moodBy_116 : decode cX11_moodBy 116 = .ok (.aload_n 0, 1) := by decide +kernel
theorem dX11_moodBy_117 : decode cX11_moodBy 117 = .ok (.getfield 93, 3) := by decide +kernel
theorem dX11_moodBy_120 : decode cX11_moodBy 120 = .ok (.iconst 5, 1) := by decide +kernel
theorem dX11_moodBy_121 : decode cX11_moodBy 121 = .ok (.iload 5, 2) := by decide +kernel
theorem dX11_moodBy_123 : decode cX11_moodBy 123 = .ok (.iastore, 1) := by decide +kernel
theorem dX11_moodBy_124 : decode cX11_moodBy 124 = .ok (.aload_n 0, 1) := by decide +kernel
theorem dX11_moodBy_125 : decode cX11_moodBy 125 = .ok (.iconst 1, 1) := by decide +kernel
theorem dX11_moodBy_126 : decode cX11_moodBy 126 = .ok (.invokevirtual 432, 3) := by decide +kernel
theorem dX11_moodBy_129 : decode cX11_moodBy 129 = .ok (.istore 6, 2) := by decide +kernel
theorem dX11_moodBy_131 : decode cX11_moodBy 131 = .ok (.iload 6, 2) := by decide +kernel
theorem dX11_moodBy_133 : decode cX11_moodBy 133 = .ok (.iconst 0, 1) := by decide +kernel
theorem dX11_moodBy_134 : decode cX11_moodBy 134 = .ok (.bipush 9, 2) := by decide +kernel
theorem dX11_moodBy_136 : decode cX11_moodBy 136 = .ok (.invokestatic 435, 3) := by decide +kernel
theorem dX11_moodBy_139 : decode cX11_moodBy 139 = .ok (.ireturn, 1) := by decide +kernel
theorem dX11_passes_0 : decode cX11_passes 0 = .ok (.aload_n 0, 1) := by decide +kernel
theorem dX11_passes_1 : decode cX11_passes 1 = .ok (.invokevirtual 470, 3) := by decide +kernel
theorem dX11_passes_4 : decode cX11_passes 4 = .ok (.istore_n 2, 1) := by decide +kernel
theorem dX11_passes_5 : decode cX11_passes 5 = .ok (.iconst 0, 1) := by decide +kernel
theorem dX11_passes_6 : decode cX11_passes 6 = .ok (.istore_n 3, 1) := by decide +kernel
theorem dX11_passes_7 : decode cX11_passes 7 = .ok (.iload_n 3, 1) := by decide +kernel
theorem dX11_passes_8 : decode cX11_passes 8 = .ok (.aload_n 0, 1) := by decide +kernel
theorem dX11_passes_9 : decode cX11_passes 9 = .ok (.getfield 13, 3) := by decide +kernel
theorem dX11_passes_12 : decode cX11_passes 12 = .ok (.iconst 2, 1) := by decide +kernel
theorem dX11_passes_13 : decode cX11_passes 13 = .ok (.iaload, 1) := by decide +kernel
theorem dX11_passes_14 : decode cX11_passes 14 = .ok (.if_icmp .ge 31, 3) := by decide +kernel
theorem dX11_passes_17 : decode cX11_passes 17 = .ok (.iload_n 1, 1) := by decide +kernel
theorem dX11_passes_18 : decode cX11_passes 18 = .ok (.ifCond .eq 27, 3) := by decide +kernel
theorem dX11_passes_21 : decode cX11_passes 21 = .ok (.aload_n 0, 1) := by decide +kernel
theorem dX11_passes_22 : decode cX11_passes 22 = .ok (.getfield 114, 3) := by decide +kernel
theorem dX11_passes_25 : decode cX11_passes 25 = .ok (.bipush 14, 2) := by decide +kernel
theorem dX11_passes_27 : decode cX11_passes 27 = .ok (.iload_n 3, 1) := by decide +kernel
theorem dX11_passes_28 : decode cX11_passes 28 = .ok (.iadd, 1) := by decide +kernel
theorem dX11_passes_29 : decode cX11_passes 29 = .ok (.dup2, 1) := by decide +kernel
theorem dX11_passes_30 : decode cX11_passes 30 = .ok (.iaload, 1) := by decide +kernel
theorem dX11_passes_31 : decode cX11_passes 31 = .ok (.aload_n 0, 1) := by decide +kernel
theorem dX11_passes_32 : decode cX11_passes 32 = .ok (.getfield 144, 3) := by decide +kernel
theorem dX11_passes_35 : decode cX11_passes 35 = .ok (.iload_n 3, 1) := by decide +kernel
theorem dX11_passes_36 : decode cX11_passes 36 = .ok (.iaload, 1) := by decide +kernel
theorem dX11_passes_37 : decode cX11_passes 37 = .ok (.isub, 1) := by decide +kernel
theorem dX11_passes_38 : decode cX11_passes 38 = .ok (.iastore, 1) := by decide +kernel
theorem dX11_passes_39 : decode cX11_passes 39 = .ok (.iinc 3 1, 3) := by decide +kernel
theorem dX11_passes_42 : decode cX11_passes 42 = .ok (.goto (-35), 3) := by decide +kernel
theorem dX11_passes_45 : decode cX11_passes 45 = .ok (.iconst 0, 1) := by decide +kernel
theorem dX11_passes_46 : decode cX11_passes 46 = .ok (.istore_n 3, 1) := by decide +kernel
theorem dX11_passes_47 : decode cX11_passes 47 = .ok (.iload_n 3, 1) := by decide +kernel
theorem dX11_passes_48 : decode cX11_passes 48 = .ok (.aload_n 0, 1) := by decide +kernel
theorem dX11_passes_49 : decode cX11_passes 49 = .ok (.getfield 13, 3) := by decide +kernel
theorem dX11_passes_52 : decode cX11_passes 52 = .ok (.iconst 0, 1) := by decide +kernel
theorem dX11_passes_53 : decode cX11_passes 53 = .ok (.iaload, 1) := by decide +kernel
theorem dX11_passes_54 : decode cX11_passes 54 = .ok (.if_icmp .ge 20, 3) := by decide +kernel
theorem dX11_passes_57 : decode cX11_passes 57 = .ok (.iload_n 1, 1) := by decide +kernel
theorem dX11_passes_58 : decode cX11_passes 58 = .ok (.ifCond .ne 16, 3) := by decide +kernel
theorem dX11_passes_61 : decode cX11_passes 61 = .ok (.aload_n 0, 1) := by decide +kernel
theorem dX11_passes_62 : decode cX11_passes 62 = .ok (.getfield 147, 3) := by decide +kernel
theorem dX11_passes_65 : decode cX11_passes 65 = .ok (.iload_n 3, 1) := by decide +kernel
theorem dX11_passes_66 : decode cX11_passes 66 = .ok (.iconst 0, 1) := by decide +kernel
theorem dX11_passes_67 : decode cX11_passes 67 = .ok (.iastore, 1) := by decide +kernel
theorem dX11_passes_68 : decode cX11_passes 68 = .ok (.iinc 3 1, 3) := by decide +kernel
theorem dX11_passes_71 : decode cX11_passes 71 = .ok (.goto (-24), 3) := by decide +kernel
theorem dX11_passes_74 : decode cX11_passes 74 = .ok (.iconst 0, 1) := by decide +kernel
theorem dX11_passes_75 : decode cX11_passes 75 = .ok (.istore_n 3, 1) := by decide +kernel
theorem dX11_passes_76 : decode cX11_passes 76 = .ok (.iload_n 3, 1) := by decide +kernel
theorem dX11_passes_77 : decode cX11_passes 77 = .ok (.aload_n 0, 1) := by decide +kernel
theorem dX11_passes_78 : decode cX11_passes 78 = .ok (.getfield 13, 3) := by decide +kernel
theorem dX11_passes_81 : decode cX11_passes 81 = .ok (.iconst 1, 1) := by decide +kernel
theorem dX11_passes_82 : decode cX11_passes 82 = .ok (.iaload, 1) := by decide +kernel
theorem dX11_passes_83 : decode cX11_passes 83 = .ok (.if_icmp .ge 28, 3) := by decide +kernel
theorem dX11_passes_86 : decode cX11_passes 86 = .ok (.aload_n 0, 1) := by decide +kernel
theorem dX11_passes_87 : decode cX11_passes 87 = .ok (.getfield 150, 3) := by decide +kernel
theorem dX11_passes_90 : decode cX11_passes 90 = .ok (.iload_n 3, 1) := by decide +kernel
theorem dX11_passes_91 : decode cX11_passes 91 = .ok (.aload_n 0, 1) := by decide +kernel
theorem dX11_passes_92 : decode cX11_passes 92 = .ok (.iload_n 3, 1) := by decide +kernel
theorem dX11_passes_93 : decode cX11_passes 93 = .ok (.aload_n 0, 1) := by decide +kernel
theorem dX11_passes_94 : decode cX11_passes 94 = .ok (.getfield 114, 3) := by decide +kernel
theorem dX11_passes_97 : decode cX11_passes 97 = .ok (.iconst 2, 1) := by decide +kernel
theorem dX11_passes_98 : decode cX11_passes 98 = .ok (.iload_n 3, 1) := by decide +kernel
theorem dX11_passes_99 : decode cX11_passes 99 = .ok (.iadd, 1) := by decide +kernel
theorem dX11_passes_100 : decode cX11_passes 100 = .ok (.iaload, 1) := by decide +kernel
theorem dX11_passes_101 : decode cX11_passes 101 = .ok (.invokevirtual 473, 3) := by decide +kernel
theorem dX11_passes_104 : decode cX11_passes 104 = .ok (.iastore, 1) := by decide +kernel
theorem dX11_passes_105 : decode cX11_passes 105 = .ok (.iinc 3 1, 3) := by decide +kernel
theorem dX11_passes_108 : decode cX11_passes 108 = .ok (.goto (-32), 3) := by decide +kernel
theorem dX11_passes_111 : decode cX11_passes 111 = .ok (.iconst 0, 1) := by decide +kernel
theorem dX11_passes_112 : decode cX11_passes 112 = .ok (.istore_n 3, 1) := by decide +kernel
theorem dX11_passes_113 : decode cX11_passes 113 = .ok (.iload_n 3, 1) := by decide +kernel
theorem dX11_passes_114 : decode cX11_passes 114 = .ok (.aload_n 0, 1) := by decide +kernel
theorem dX11_passes_115 : decode cX11_passes 115 = .ok (.getfield 13, 3) := by decide +kernel
theorem dX11_passes_118 : decode cX11_passes 118 = .ok (.iconst 1, 1) := by decide +kernel
theorem dX11_passes_119 : decode cX11_passes 119 = .ok (.iaload, 1) := by decide +kernel
theorem dX11_passes_120 : decode cX11_passes 120 = .ok (.if_icmp .ge 24, 3) := by decide +kernel
theorem dX11_passes_123 : decode cX11_passes 123 = .ok (.aload_n 0, 1) := by decide +kernel
theorem dX11_passes_124 : decode cX11_passes 124 = .ok (.getfield 114, 3) := by decide +kernel
theorem dX11_passes_127 : decode cX11_passes 127 = .ok (.bipush 8, 2) := by decide +kernel
theorem dX11_passes_129 : decode cX11_passes 129 = .ok (.iload_n 3, 1) := by decide +kernel
theorem dX11_passes_130 : decode cX11_passes 130 = .ok (.iadd, 1) := by decide +kernel
theorem dX11_passes_131 : decode cX11_passes 131 = .ok (.aload_n 0, 1) := by decide +kernel
theorem dX11_passes_132 : decode cX11_passes 132 = .ok (.getfield 150, 3) := by decide +kernel
theorem dX11_passes_135 : decode cX11_passes 135 = .ok (.iload_n 3, 1) := by decide +kernel
theorem dX11_passes_136 : decode cX11_passes 136 = .ok (.iaload, 1) := by decide +kernel
theorem dX11_passes_137 : decode cX11_passes 137 = .ok (.iastore, 1) := by decide +kernel
theorem dX11_passes_138 : decode cX11_passes 138 = .ok (.iinc 3 1, 3) := by decide +kernel
theorem dX11_passes_141 : decode cX11_passes 141 = .ok (.goto (-28), 3) := by decide +kernel
theorem dX11_passes_144 : decode cX11_passes 144 = .ok (.aload_n 0, 1) := by decide +kernel
theorem dX11_passes_145 : decode cX11_passes 145 = .ok (.getfield 114, 3) := by decide +kernel
theorem dX11_passes_148 : decode cX11_passes 148 = .ok (.iconst 1, 1) := by decide +kernel
theorem dX11_passes_149 : decode cX11_passes 149 = .ok (.dup2, 1) := by decide +kernel
theorem dX11_passes_150 : decode cX11_passes 150 = .ok (.iaload, 1) := by decide +kernel
theorem dX11_passes_151 : decode cX11_passes 151 = .ok (.iload_n 1, 1) := by decide +kernel
theorem dX11_passes_152 : decode cX11_passes 152 = .ok (.ifCond .eq 7, 3) := by decide +kernel
theorem dX11_passes_155 : decode cX11_passes 155 = .ok (.iload_n 2, 1) := by decide +kernel
theorem dX11_passes_156 : decode cX11_passes 156 = .ok (.goto 4, 3) := by decide +kernel
theorem dX11_passes_159 : decode cX11_passes 159 = .ok (.iconst 0, 1) := by decide +kernel
theorem dX11_passes_160 : decode cX11_passes 160 = .ok (.iadd, 1) := by decide +kernel
theorem dX11_passes_161 : decode cX11_passes 161 = .ok (.iastore, 1) := by decide +kernel
theorem dX11_passes_162 : decode cX11_passes 162 = .ok (.aload_n 0, 1) := by decide +kernel
theorem dX11_passes_163 : decode cX11_passes 163 = .ok (.getfield 114, 3) := by decide +kernel
theorem dX11_passes_166 : decode cX11_passes 166 = .ok (.iconst 0, 1) := by decide +kernel
theorem dX11_passes_167 : decode cX11_passes 167 = .ok (.dup2, 1) := by decide +kernel
theorem dX11_passes_168 : decode cX11_passes 168 = .ok (.iaload, 1) := by decide +kernel
theorem dX11_passes_169 : decode cX11_passes 169 = .ok (.iconst 1, 1) := by decide +kernel
theorem dX11_passes_170 : decode cX11_passes 170 = .ok (.iadd, 1) := by decide +kernel
theorem dX11_passes_171 : decode cX11_passes 171 = .ok (.iastore, 1) := by decide +kernel
theorem dX11_passes_172 : decode cX11_passes 172 = .ok (.iload_n 1, 1) := by decide +kernel
theorem dX11_passes_173 : decode cX11_passes 173 = .ok (.ifCond .eq 7, 3) := by decide +kernel
theorem dX11_passes_176 : decode cX11_passes 176 = .ok (.iload_n 2, 1) := by decide +kernel
theorem dX11_passes_177 : decode cX11_passes 177 = .ok (.goto 4, 3) := by decide +kernel
theorem dX11_passes_180 : decode cX11_passes 180 = .ok (.iconst 0, 1) := by decide +kernel
theorem dX11_passes_181 : decode cX11_passes 181 = .ok (.ireturn, 1) := by decide +kernel
theorem dX11_pacing_0 : decode cX11_pacing 0 = .ok (.iconst 0, 1) := by decide +kernel
theorem dX11_pacing_1 : decode cX11_pacing 1 = .ok (.istore_n 1, 1) := by decide +kernel
theorem dX11_pacing_2 : decode cX11_pacing 2 = .ok (.iconst 0, 1) := by decide +kernel
theorem dX11_pacing_3 : decode cX11_pacing 3 = .ok (.istore_n 2, 1) := by decide +kernel
theorem dX11_pacing_4 : decode cX11_pacing 4 = .ok (.iload_n 2, 1) := by decide +kernel
theorem dX11_pacing_5 : decode cX11_pacing 5 = .ok (.aload_n 0, 1) := by decide +kernel
theorem dX11_pacing_6 : decode cX11_pacing 6 = .ok (.getfield 13, 3) := by decide +kernel
theorem dX11_pacing_9 : decode cX11_pacing 9 = .ok (.iconst 1, 1) := by decide +kernel
theorem dX11_pacing_10 : decode cX11_pacing 10 = .ok (.iaload, 1) := by decide +kernel
theorem dX11_pacing_11 : decode cX11_pacing 11 = .ok (.if_icmp .ge 31, 3) := by decide +kernel
theorem dX11_pacing_14 : decode cX11_pacing 14 = .ok (.iload_n 1, 1) := by decide +kernel
theorem dX11_pacing_15 : decode cX11_pacing 15 = .ok (.aload_n 0, 1) := by decide +kernel
theorem dX11_pacing_16 : decode cX11_pacing 16 = .ok (.getfield 114, 3) := by decide +kernel
theorem dX11_pacing_19 : decode cX11_pacing 19 = .ok (.bipush 8, 2) := by decide +kernel
theorem dX11_pacing_21 : decode cX11_pacing 21 = .ok (.iload_n 2, 1) := by decide +kernel
theorem dX11_pacing_22 : decode cX11_pacing 22 = .ok (.iadd, 1) := by decide +kernel
theorem dX11_pacing_23 : decode cX11_pacing 23 = .ok (.iaload, 1) := by decide +kernel
theorem dX11_pacing_24 : decode cX11_pacing 24 = .ok (.ifCond .ne 9, 3) := by decide +kernel
theorem dX11_pacing_27 : decode cX11_pacing 27 = .ok (.iconst 1, 1) := by decide +kernel
theorem dX11_pacing_28 : decode cX11_pacing 28 = .ok (.iload_n 2, 1) := by decide +kernel
theorem dX11_pacing_29 : decode cX11_pacing 29 = .ok (.ishl, 1) := by decide +kernel
theorem dX11_pacing_30 : decode cX11_pacing 30 = .ok (.goto 4, 3) := by decide +kernel
theorem dX11_pacing_33 : decode cX11_pacing 33 = .ok (.iconst 0, 1) := by decide +kernel
theorem dX11_pacing_34 : decode cX11_pacing 34 = .ok (.ior, 1) := by decide +kernel
theorem dX11_pacing_35 : decode cX11_pacing 35 = .ok (.istore_n 1, 1) := by decide +kernel
theorem dX11_pacing_36 : decode cX11_pacing 36 = .ok (.iinc 2 1, 3) := by decide +kernel
theorem dX11_pacing_39 : decode cX11_pacing 39 = .ok (.goto (-35), 3) := by decide +kernel
theorem dX11_pacing_42 : decode cX11_pacing 42 = .ok (.iload_n 1, 1) := by decide +kernel
theorem dX11_pacing_43 : decode cX11_pacing 43 = .ok (.ireturn, 1) := by decide +kernel
theorem dX11_pen_0 : decode cX11_pen 0 = .ok (.aload_n 0, 1) := by decide +kernel
theorem dX11_pen_1 : decode cX11_pen 1 = .ok (.iconst 0, 1) := by decide +kernel
theorem dX11_pen_2 : decode cX11_pen 2 = .ok (.putfield 187, 3) := by decide +kernel
theorem dX11_pen_5 : decode cX11_pen 5 = .ok (.aload_n 0, 1) := by decide +kernel
theorem dX11_pen_6 : decode cX11_pen 6 = .ok (.iload_n 1, 1) := by decide +kernel
theorem dX11_pen_7 : decode cX11_pen 7 = .ok (.invokevirtual 476, 3) := by decide +kernel
theorem dX11_pen_10 : decode cX11_pen 10 = .ok (.ifCond .eq 12, 3) := by decide +kernel
theorem dX11_pen_13 : decode cX11_pen 13 = .ok (.iload_n 2, 1) := by decide +kernel
theorem dX11_pen_14 : decode cX11_pen 14 = .ok (.iconst 0, 1) := by decide +kernel
theorem dX11_pen_15 : decode cX11_pen 15 = .ok (.iconst 2, 1) := by decide +kernel
theorem dX11_pen_16 : decode cX11_pen 16 = .ok (.invokestatic 326, 3) := by decide +kernel
theorem dX11_pen_19 : decode cX11_pen 19 = .ok (.ifCond .ne 5, 3) := by decide +kernel
theorem dX11_pen_22 : decode cX11_pen 22 = .ok (.iconst (-1), 1) := by decide +kernel
theorem dX11_pen_23 : decode cX11_pen 23 = .ok (.ireturn, 1) := by decide +kernel
theorem dX11_pen_24 : decode cX11_pen 24 = .ok (.iload_n 2, 1) := by decide +kernel
theorem dX11_pen_25 : decode cX11_pen 25 = .ok (.iconst 2, 1) := by decide +kernel
theorem dX11_pen_26 : decode cX11_pen 26 = .ok (.if_icmp .ge 22, 3) := by decide +kernel
theorem dX11_pen_29 : decode cX11_pen 29 = .ok (.iload_n 2, 1) := by decide +kernel
theorem dX11_pen_30 : decode cX11_pen 30 = .ok (.ifCond .ne 12, 3) := by decide +kernel
theorem dX11_pen_33 : decode cX11_pen 33 = .ok (.aload_n 0, 1) := by decide +kernel
theorem dX11_pen_34 : decode cX11_pen 34 = .ok (.getfield 26, 3) := by decide +kernel
theorem dX11_pen_37 : decode cX11_pen 37 = .ok (.iload_n 1, 1) := by decide +kernel
theorem dX11_pen_38 : decode cX11_pen 38 = .ok (.iaload, 1) := by decide +kernel
theorem dX11_pen_39 : decode cX11_pen 39 = .ok (.goto 8, 3) := by decide +kernel
theorem dX11_pen_42 : decode cX11_pen 42 = .ok (.aload_n 0, 1) := by decide +kernel
theorem dX11_pen_43 : decode cX11_pen 43 = .ok (.iload_n 1, 1) := by decide +kernel
theorem dX11_pen_44 : decode cX11_pen 44 = .ok (.invokevirtual 458, 3) := by decide +kernel
theorem dX11_pen_47 : decode cX11_pen 47 = .ok (.ireturn, 1) := by decide +kernel
theorem dX11_pen_48 : decode cX11_pen 48 = .ok (.aload_n 0, 1) := by decide +kernel
theorem dX11_pen_49 : decode cX11_pen 49 = .ok (.invokevirtual 470, 3) := by decide +kernel
theorem dX11_pen_52 : decode cX11_pen 52 = .ok (.pop, 1) := by decide +kernel
theorem dX11_pen_53 : decode cX11_pen 53 = .ok (.aload_n 0, 1) := by decide +kernel
theorem dX11_pen_54 : decode cX11_pen 54 = .ok (.getfield 147, 3) := by decide +kernel
theorem dX11_pen_57 : decode cX11_pen 57 = .ok (.iload_n 1, 1) := by decide +kernel
theorem dX11_pen_58 : decode cX11_pen 58 = .ok (.iaload, 1) := by decide +kernel
theorem dX11_pen_59 : decode cX11_pen 59 = .ok (.ireturn, 1) := by decide +kernel
theorem dX11_guest_0 : decode cX11_guest 0 = .ok (.aload_n 0, 1) := by decide +kernel
theorem dX11_guest_1 : decode cX11_guest 1 = .ok (.iconst 0, 1) := by decide +kernel
theorem dX11_guest_2 : decode cX11_guest 2 = .ok (.putfield 187, 3) := by decide +kernel
theorem dX11_guest_5 : decode cX11_guest 5 = .ok (.aload_n 0, 1) := by decide +kernel
theorem dX11_guest_6 : decode cX11_guest 6 = .ok (.iload_n 1, 1) := by decide +kernel
theorem dX11_guest_7 : decode cX11_guest 7 = .ok (.invokevirtual 479, 3) := by decide +kernel
theorem dX11_guest_10 : decode cX11_guest 10 = .ok (.ifCond .eq 12, 3) := by decide +kernel
theorem dX11_guest_13 : decode cX11_guest 13 = .ok (.iload_n 2, 1) := by decide +kernel
theorem dX11_guest_14 : decode cX11_guest 14 = .ok (.iconst 0, 1) := by decide +kernel
theorem dX11_guest_15 : decode cX11_guest 15 = .ok (.iconst 3, 1) := by decide +kernel
theorem dX11_guest_16 : decode cX11_guest 16 = .ok (.invokestatic 326, 3) := by decide +kernel
theorem dX11_guest_19 : decode cX11_guest 19 = .ok (.ifCond .ne 5, 3) := by decide +kernel
theorem dX11_guest_22 : decode cX11_guest 22 = .ok (.iconst (-1), 1) := by decide +kernel
theorem dX11_guest_23 : decode cX11_guest 23 = .ok (.ireturn, 1) := by decide +kernel
theorem dX11_guest_24 : decode cX11_guest 24 = .ok (.iload_n 2, 1) := by decide +kernel
theorem dX11_guest_25 : decode cX11_guest 25 = .ok (.iconst 3, 1) := by decide +kernel
theorem dX11_guest_26 : decode cX11_guest 26 = .ok (.if_icmp .ge 42, 3) := by decide +kernel
theorem dX11_guest_29 : decode cX11_guest 29 = .ok (.iload_n 2, 1) := by decide +kernel
theorem dX11_guest_30 : decode cX11_guest 30 = .ok (.ifCond .ne 12, 3) := by decide +kernel
theorem dX11_guest_33 : decode cX11_guest 33 = .ok (.aload_n 0, 1) := by decide +kernel
theorem dX11_guest_34 : decode cX11_guest 34 = .ok (.getfield 29, 3) := by decide +kernel
theorem dX11_guest_37 : decode cX11_guest 37 = .ok (.iload_n 1, 1) := by decide +kernel
theorem dX11_guest_38 : decode cX11_guest 38 = .ok (.iaload, 1) := by decide +kernel
theorem dX11_guest_39 : decode cX11_guest 39 = .ok (.goto 28, 3) := by decide +kernel
theorem dX11_guest_42 : decode cX11_guest 42 = .ok (.iload_n 2, 1) := by decide +kernel
theorem dX11_guest_43 : decode cX11_guest 43 = .ok (.iconst 1, 1) := by decide +kernel
theorem dX11_guest_44 : decode cX11_guest 44 = .ok (.if_icmp .ne 15, 3) := by decide +kernel
theorem dX11_guest_47 : decode cX11_guest 47 = .ok (.aload_n 0, 1) := by decide +kernel
theorem dX11_guest_48 : decode cX11_guest 48 = .ok (.getfield 114, 3) := by decide +kernel
theorem dX11_guest_51 : decode cX11_guest 51 = .ok (.bipush 8, 2) := by decide +kernel
theorem dX11_guest_53 : decode cX11_guest 53 = .ok (.iload_n 1, 1) := by decide +kernel
theorem dX11_guest_54 : decode cX11_guest 54 = .ok (.iadd, 1) := by decide +kernel
theorem dX11_guest_55 : decode cX11_guest 55 = .ok (.iaload, 1) := by decide +kernel
theorem dX11_guest_56 : decode cX11_guest 56 = .ok (.goto 11, 3) := by decide +kernel
theorem dX11_guest_59 : decode cX11_guest 59 = .ok (.aload_n 0, 1) := by decide +kernel
theorem dX11_guest_60 : decode cX11_guest 60 = .ok (.getfield 114, 3) := by decide +kernel
theorem dX11_guest_63 : decode cX11_guest 63 = .ok (.iconst 2, 1) := by decide +kernel
theorem dX11_guest_64 : decode cX11_guest 64 = .ok (.iload_n 1, 1) := by decide +kernel
theorem dX11_guest_65 : decode cX11_guest 65 = .ok (.iadd, 1) := by decide +kernel
theorem dX11_guest_66 : decode cX11_guest 66 = .ok (.iaload, 1) := by decide +kernel
theorem dX11_guest_67 : decode cX11_guest 67 = .ok (.ireturn, 1) := by decide +kernel
theorem dX11_guest_68 : decode cX11_guest 68 = .ok (.aload_n 0, 1) := by decide +kernel
theorem dX11_guest_69 : decode cX11_guest 69 = .ok (.invokevirtual 470, 3) := by decide +kernel
theorem dX11_guest_72 : decode cX11_guest 72 = .ok (.pop, 1) := by decide +kernel
theorem dX11_guest_73 : decode cX11_guest 73 = .ok (.aload_n 0, 1) := by decide +kernel
theorem dX11_guest_74 : decode cX11_guest 74 = .ok (.iload_n 1, 1) := by decide +kernel
theorem dX11_guest_75 : decode cX11_guest 75 = .ok (.aload_n 0, 1) := by decide +kernel
theorem dX11_guest_76 : decode cX11_guest 76 = .ok (.getfield 114, 3) := by decide +kernel
theorem dX11_guest_79 : decode cX11_guest 79 = .ok (.iconst 2, 1) := by decide +kernel
theorem dX11_guest_80 : decode cX11_guest 80 = .ok (.iload_n 1, 1) := by decide +kernel
theorem dX11_guest_81 : decode cX11_guest 81 = .ok (.iadd, 1) := by decide +kernel
theorem dX11_guest_82 : decode cX11_guest 82 = .ok (.iaload, 1) := by decide +kernel
theorem dX11_guest_83 : decode cX11_guest 83 = .ok (.invokevirtual 473, 3) := by decide +kernel
theorem dX11_guest_86 : decode cX11_guest 86 = .ok (.ireturn, 1) := by decide +kernel
theorem dX11_animal_0 : decode cX11_animal 0 = .ok (.aload_n 0, 1) := by decide +kernel
theorem dX11_animal_1 : decode cX11_animal 1 = .ok (.iconst 0, 1) := by decide +kernel
theorem dX11_animal_2 : decode cX11_animal 2 = .ok (.putfield 187, 3) := by decide +kernel
theorem dX11_animal_5 : decode cX11_animal 5 = .ok (.aload_n 0, 1) := by decide +kernel
theorem dX11_animal_6 : decode cX11_animal 6 = .ok (.iload_n 1, 1) := by decide +kernel
theorem dX11_animal_7 : decode cX11_animal 7 = .ok (.invokevirtual 482, 3) := by decide +kernel
theorem dX11_animal_10 : decode cX11_animal 10 = .ok (.ifCond .eq 12, 3) := by decide +kernel
theorem dX11_animal_13 : decode cX11_animal 13 = .ok (.iload_n 2, 1) := by decide +kernel
theorem dX11_animal_14 : decode cX11_animal 14 = .ok (.iconst 0, 1) := by decide +kernel
theorem dX11_animal_15 : decode cX11_animal 15 = .ok (.iconst 3, 1) := by decide +kernel
theorem dX11_animal_16 : decode cX11_animal 16 = .ok (.invokestatic 326, 3) := by decide +kernel
theorem dX11_animal_19 : decode cX11_animal 19 = .ok (.ifCond .ne 6, 3) := by decide +kernel
theorem dX11_animal_22 : decode cX11_animal 22 = .ok (.bipush (-2), 2) := by decide +kernel
theorem dX11_animal_24 : decode cX11_animal 24 = .ok (.ireturn, 1) := by decide +kernel
theorem dX11_animal_25 : decode cX11_animal 25 = .ok (.iload_n 2, 1) := by decide +kernel
theorem dX11_animal_26 : decode cX11_animal 26 = .ok (.iconst 2, 1) := by decide +kernel
theorem dX11_animal_27 : decode cX11_animal 27 = .ok (.if_icmp .ge 26, 3) := by decide +kernel
theorem dX11_animal_30 : decode cX11_animal 30 = .ok (.iload_n 2, 1) := by decide +kernel
theorem dX11_animal_31 : decode cX11_animal 31 = .ok (.ifCond .ne 12, 3) := by decide +kernel
theorem dX11_animal_34 : decode cX11_animal 34 = .ok (.aload_n 0, 1) := by decide +kernel
theorem dX11_animal_35 : decode cX11_animal 35 = .ok (.getfield 38, 3) := by decide +kernel
theorem dX11_animal_38 : decode cX11_animal 38 = .ok (.iload_n 1, 1) := by decide +kernel
theorem dX11_animal_39 : decode cX11_animal 39 = .ok (.iaload, 1) := by decide +kernel
theorem dX11_animal_40 : decode cX11_animal 40 = .ok (.goto 12, 3) := by decide +kernel
theorem dX11_animal_43 : decode cX11_animal 43 = .ok (.aload_n 0, 1) := by decide +kernel
theorem dX11_animal_44 : decode cX11_animal 44 = .ok (.getfield 114, 3) := by decide +kernel
theorem dX11_animal_47 : decode cX11_animal 47 = .ok (.bipush 14, 2) := by decide +kernel
theorem dX11_animal_49 : decode cX11_animal 49 = .ok (.iload_n 1, 1) := by decide +kernel
theorem dX11_animal_50 : decode cX11_animal 50 = .ok (.iadd, 1) := by decide +kernel
theorem dX11_animal_51 : decode cX11_animal 51 = .ok (.iaload, 1) := by decide +kernel
theorem dX11_animal_52 : decode cX11_animal 52 = .ok (.ireturn, 1) := by decide +kernel
theorem dX11_animal_53 : decode cX11_animal 53 = .ok (.aload_n 0, 1) := by decide +kernel
theorem dX11_animal_54 : decode cX11_animal 54 = .ok (.invokevirtual 470, 3) := by decide +kernel
theorem dX11_animal_57 : decode cX11_animal 57 = .ok (.pop, 1) := by decide +kernel
theorem dX11_animal_58 : decode cX11_animal 58 = .ok (.iload_n 2, 1) := by decide +kernel
theorem dX11_animal_59 : decode cX11_animal 59 = .ok (.iconst 2, 1) := by decide +kernel
theorem dX11_animal_60 : decode cX11_animal 60 = .ok (.if_icmp .ne 12, 3) := by decide +kernel
theorem dX11_animal_63 : decode cX11_animal 63 = .ok (.aload_n 0, 1) := by decide +kernel
theorem dX11_animal_64 : decode cX11_animal 64 = .ok (.getfield 141, 3) := by decide +kernel
theorem dX11_animal_67 : decode cX11_animal 67 = .ok (.iload_n 1, 1) := by decide +kernel
theorem dX11_animal_68 : decode cX11_animal 68 = .ok (.iaload, 1) := by decide +kernel
theorem dX11_animal_69 : decode cX11_animal 69 = .ok (.goto 9, 3) := by decide +kernel
theorem dX11_animal_72 : decode cX11_animal 72 = .ok (.aload_n 0, 1) := by decide +kernel
theorem dX11_animal_73 : decode cX11_animal 73 = .ok (.getfield 144, 3) := by decide +kernel
theorem dX11_animal_76 : decode cX11_animal 76 = .ok (.iload_n 1, 1) := by decide +kernel
theorem dX11_animal_77 : decode cX11_animal 77 = .ok (.iaload, 1) := by decide +kernel
theorem dX11_animal_78 : decode cX11_animal 78 = .ok (.ireturn, 1) := by decide +kernel
theorem dX11_worth_0 : decode cX11_worth 0 = .ok (.aload_n 0, 1) := by decide +kernel
theorem dX11_worth_1 : decode cX11_worth 1 = .ok (.iconst 0, 1) := by decide +kernel
theorem dX11_worth_2 : decode cX11_worth 2 = .ok (.putfield 187, 3) := by decide +kernel
theorem dX11_worth_5 : decode cX11_worth 5 = .ok (.aload_n 0, 1) := by decide +kernel
theorem dX11_worth_6 : decode cX11_worth 6 = .ok (.iload_n 1, 1) := by decide +kernel
theorem dX11_worth_7 : decode cX11_worth 7 = .ok (.invokevirtual 482, 3) := by decide +kernel
theorem dX11_worth_10 : decode cX11_worth 10 = .ok (.ifCond .eq 31, 3) := by decide +kernel
theorem dX11_worth_13 : decode cX11_worth 13 = .ok (.aload_n 0, 1) := by decide +kernel
theorem dX11_worth_14 : decode cX11_worth 14 = .ok (.iload_n 2, 1) := by decide +kernel
theorem dX11_worth_15 : decode cX11_worth 15 = .ok (.invokevirtual 476, 3) := by decide +kernel
theorem dX11_worth_18 : decode cX11_worth 18 = .ok (.ifCond .eq 23, 3) := by decide +kernel
theorem dX11_worth_21 : decode cX11_worth 21 = .ok (.aload_n 0, 1) := by decide +kernel
theorem dX11_worth_22 : decode cX11_worth 22 = .ok (.iconst 1, 1) := by decide +kernel
theorem dX11_worth_23 : decode cX11_worth 23 = .ok (.aload_n 0, 1) := by decide +kernel
theorem dX11_worth_24 : decode cX11_worth 24 = .ok (.getfield 38, 3) := by decide +kernel
theorem dX11_worth_27 : decode cX11_worth 27 = .ok (.iload_n 1, 1) := by decide +kernel
theorem dX11_worth_28 : decode cX11_worth 28 = .ok (.iaload, 1) := by decide +kernel
theorem dX11_worth_29 : decode cX11_worth 29 = .ok (.ishl, 1) := by decide +kernel
theorem dX11_worth_30 : decode cX11_worth 30 = .ok (.aload_n 0, 1) := by decide +kernel
theorem dX11_worth_31 : decode cX11_worth 31 = .ok (.iload_n 2, 1) := by decide +kernel
theorem dX11_worth_32 : decode cX11_worth 32 = .ok (.invokevirtual 458, 3) := by decide +kernel
theorem dX11_worth_35 : decode cX11_worth 35 = .ok (.invokevirtual 449, 3) := by decide +kernel
theorem dX11_worth_38 : decode cX11_worth 38 = .ok (.goto 4, 3) := by decide +kernel
theorem dX11_worth_41 : decode cX11_worth 41 = .ok (.iconst (-1), 1) := by decide +kernel
theorem dX11_worth_42 : decode cX11_worth 42 = .ok (.ireturn, 1) := by decide +kernel
theorem dX11_keeps_0 : decode cX11_keeps 0 = .ok (.aload_n 0, 1) := by decide +kernel
theorem dX11_keeps_1 : decode cX11_keeps 1 = .ok (.getfield 422, 3) := by decide +kernel
theorem dX11_keeps_4 : decode cX11_keeps 4 = .ok (.bipush 16, 2) := by decide +kernel
theorem dX11_keeps_6 : decode cX11_keeps 6 = .ok (.if_icmp .ne 43, 3) := by decide +kernel
theorem dX11_keeps_9 : decode cX11_keeps 9 = .ok (.iconst 0, 1) := by decide +kernel
theorem dX11_keeps_10 : decode cX11_keeps 10 = .ok (.istore_n 1, 1) := by decide +kernel
theorem dX11_keeps_11 : decode cX11_keeps 11 = .ok (.iload_n 1, 1) := by decide +kernel
theorem dX11_keeps_12 : decode cX11_keeps 12 = .ok (.sipush 285, 3) := by decide +kernel
theorem dX11_keeps_15 : decode cX11_keeps 15 = .ok (.if_icmp .ge 24, 3) := by decide +kernel
theorem dX11_keeps_18 : decode cX11_keeps 18 = .ok (.aload_n 0, 1) := by decide +kernel
theorem dX11_keeps_19 : decode cX11_keeps 19 = .ok (.getfield 126, 3) := by decide +kernel
theorem dX11_keeps_22 : decode cX11_keeps 22 = .ok (.iload_n 1, 1) := by decide +kernel
theorem dX11_keeps_23 : decode cX11_keeps 23 = .ok (.aload_n 0, 1) := by decide +kernel
theorem dX11_keeps_24 : decode cX11_keeps 24 = .ok (.getfield 126, 3) := by decide +kernel
theorem dX11_keeps_27 : decode cX11_keeps 27 = .ok (.iload_n 1, 1) := by decide +kernel
theorem dX11_keeps_28 : decode cX11_keeps 28 = .ok (.bipush 19, 2) := by decide +kernel
theorem dX11_keeps_30 : decode cX11_keeps 30 = .ok (.iadd, 1) := by decide +kernel
theorem dX11_keeps_31 : decode cX11_keeps 31 = .ok (.iaload, 1) := by decide +kernel
theorem dX11_keeps_32 : decode cX11_keeps 32 = .ok (.iastore, 1) := by decide +kernel
theorem dX11_keeps_33 : decode cX11_keeps 33 = .ok (.iinc 1 1, 3) := by decide +kernel
theorem dX11_keeps_36 : decode cX11_keeps 36 = .ok (.goto (-25), 3) := by decide +kernel
theorem dX11_keeps_39 : decode cX11_keeps 39 = .ok (.aload_n 0, 1) := by decide +kernel
theorem dX11_keeps_40 : decode cX11_keeps 40 = .ok (.dup, 1) := by decide +kernel
theorem dX11_keeps_41 : decode cX11_keeps 41 = .ok (.getfield 422, 3) := by decide +kernel
theorem dX11_keeps_44 : decode cX11_keeps 44 = .ok (.iconst 1, 1) := by decide +kernel
theorem dX11_keeps_45 : decode cX11_keeps 45 = .ok (.isub, 1) := by decide +kernel
theorem dX11_keeps_46 : decode cX11_keeps 46 = .ok (.putfield 422, 3) := by decide +kernel
theorem dX11_keeps_49 : decode cX11_keeps 49 = .ok (.aload_n 0, 1) := by decide +kernel
theorem dX11_keeps_50 : decode cX11_keeps 50 = .ok (.getfield 114, 3) := by decide +kernel
theorem dX11_keeps_53 : decode cX11_keeps 53 = .ok (.iconst 0, 1) := by decide +kernel
theorem dX11_keeps_54 : decode cX11_keeps 54 = .ok (.aload_n 0, 1) := by decide +kernel
theorem dX11_keeps_55 : decode cX11_keeps 55 = .ok (.getfield 126, 3) := by decide +kernel
theorem dX11_keeps_58 : decode cX11_keeps 58 = .ok (.bipush 19, 2) := by decide +kernel
theorem dX11_keeps_60 : decode cX11_keeps 60 = .ok (.aload_n 0, 1) := by decide +kernel
theorem dX11_keeps_61 : decode cX11_keeps 61 = .ok (.getfield 422, 3) := by decide +kernel
theorem dX11_keeps_64 : decode cX11_keeps 64 = .ok (.imul, 1) := by decide +kernel
theorem dX11_keeps_65 : decode cX11_keeps 65 = .ok (.invokestatic 485, 3) := by decide +kernel
theorem dX11_keeps_68 : decode cX11_keeps 68 = .ok (.aload_n 0, 1) := by decide +kernel
theorem dX11_keeps_69 : decode cX11_keeps 69 = .ok (.dup, 1) := by decide +kernel
theorem dX11_keeps_70 : decode cX11_keeps 70 = .ok (.getfield 422, 3) := by decide +kernel
theorem dX11_keeps_73 : decode cX11_keeps 73 = .ok (.iconst 1, 1) := by decide +kernel
theorem dX11_keeps_74 : decode cX11_keeps 74 = .ok (.iadd, 1) := by decide +kernel
theorem dX11_keeps_75 : decode cX11_keeps 75 = .ok (.putfield 422, 3) := by decide +kernel
theorem dX11_keeps_78 : decode cX11_keeps 78 = .ok (.return_, 1) := by decide +kernel
theorem dX11_canMove_0 : decode cX11_canMove 0 = .ok (.aload_n 0, 1) := by decide +kernel
theorem dX11_canMove_1 : decode cX11_canMove 1 = .ok (.getfield 114, 3) := by decide +kernel
theorem dX11_canMove_4 : decode cX11_canMove 4 = .ok (.iconst 2, 1) := by decide +kernel
theorem dX11_canMove_5 : decode cX11_canMove 5 = .ok (.iload_n 1, 1) := by decide +kernel
theorem dX11_canMove_6 : decode cX11_canMove 6 = .ok (.iadd, 1) := by decide +kernel
theorem dX11_canMove_7 : decode cX11_canMove 7 = .ok (.iaload, 1) := by decide +kernel
theorem dX11_canMove_8 : decode cX11_canMove 8 = .ok (.iload_n 2, 1) := by decide +kernel
theorem dX11_canMove_9 : decode cX11_canMove 9 = .ok (.if_icmp .eq 22, 3) := by decide +kernel
theorem dX11_canMove_12 : decode cX11_canMove 12 = .ok (.aload_n 0, 1) := by decide +kernel
theorem dX11_canMove_13 : decode cX11_canMove 13 = .ok (.iload_n 2, 1) := by decide +kernel
theorem dX11_canMove_14 : decode cX11_canMove 14 = .ok (.invokevirtual 458, 3) := by decide +kernel
theorem dX11_canMove_17 : decode cX11_canMove 17 = .ok (.aload_n 0, 1) := by decide +kernel
theorem dX11_canMove_18 : decode cX11_canMove 18 = .ok (.getfield 47, 3) := by decide +kernel
theorem dX11_canMove_21 : decode cX11_canMove 21 = .ok (.iload_n 1, 1) := by decide +kernel
theorem dX11_canMove_22 : decode cX11_canMove 22 = .ok (.iaload, 1) := by decide +kernel
theorem dX11_canMove_23 : decode cX11_canMove 23 = .ok (.iand, 1) := by decide +kernel
theorem dX11_canMove_24 : decode cX11_canMove 24 = .ok (.ifCond .ne 7, 3) := by decide +kernel
theorem dX11_canMove_27 : decode cX11_canMove 27 = .ok (.iconst 1, 1) := by decide +kernel
theorem dX11_canMove_28 : decode cX11_canMove 28 = .ok (.goto 4, 3) := by decide +kernel
theorem dX11_canMove_31 : decode cX11_canMove 31 = .ok (.iconst 0, 1) := by decide +kernel
theorem dX11_canMove_32 : decode cX11_canMove 32 = .ok (.ireturn, 1) := by decide +kernel
theorem dX11_move_0 : decode cX11_move 0 = .ok (.aload_n 0, 1) := by decide +kernel
theorem dX11_move_1 : decode cX11_move 1 = .ok (.iconst 0, 1) := by decide +kernel
theorem dX11_move_2 : decode cX11_move 2 = .ok (.putfield 187, 3) := by decide +kernel
theorem dX11_move_5 : decode cX11_move 5 = .ok (.aload_n 0, 1) := by decide +kernel
theorem dX11_move_6 : decode cX11_move 6 = .ok (.iload_n 1, 1) := by decide +kernel
theorem dX11_move_7 : decode cX11_move 7 = .ok (.invokevirtual 479, 3) := by decide +kernel
theorem dX11_move_10 : decode cX11_move 10 = .ok (.ifCond .eq 20, 3) := by decide +kernel
theorem dX11_move_13 : decode cX11_move 13 = .ok (.aload_n 0, 1) := by decide +kernel
theorem dX11_move_14 : decode cX11_move 14 = .ok (.iload_n 2, 1) := by decide +kernel
theorem dX11_move_15 : decode cX11_move 15 = .ok (.invokevirtual 476, 3) := by decide +kernel
theorem dX11_move_18 : decode cX11_move 18 = .ok (.ifCond .eq 12, 3) := by decide +kernel
theorem dX11_move_21 : decode cX11_move 21 = .ok (.aload_n 0, 1) := by decide +kernel
theorem dX11_move_22 : decode cX11_move 22 = .ok (.iload_n 1, 1) := by decide +kernel
theorem dX11_move_23 : decode cX11_move 23 = .ok (.iload_n 2, 1) := by decide +kernel
theorem dX11_move_24 : decode cX11_move 24 = .ok (.invokevirtual 489, 3) := by decide +kernel
theorem dX11_move_27 : decode cX11_move 27 = .ok (.ifCond .ne 5, 3) := by decide +kernel
theorem dX11_move_30 : decode cX11_move 30 = .ok (.iconst 0, 1) := by decide +kernel
theorem dX11_move_31 : decode cX11_move 31 = .ok (.ireturn, 1) := by decide +kernel
theorem dX11_move_32 : decode cX11_move 32 = .ok (.aload_n 0, 1) := by decide +kernel
theorem dX11_move_33 : decode cX11_move 33 = .ok (.invokevirtual 492, 3) := by decide +kernel
theorem dX11_move_36 : decode cX11_move 36 = .ok (.aload_n 0, 1) := by decide +kernel
theorem dX11_move_37 : decode cX11_move 37 = .ok (.getfield 114, 3) := by decide +kernel
theorem dX11_move_40 : decode cX11_move 40 = .ok (.iconst 2, 1) := by decide +kernel
theorem dX11_move_41 : decode cX11_move 41 = .ok (.iload_n 1, 1) := by decide +kernel
theorem dX11_move_42 : decode cX11_move 42 = .ok (.iadd, 1) := by decide +kernel
theorem dX11_move_43 : decode cX11_move 43 = .ok (.iload_n 2, 1) := by decide +kernel
theorem dX11_move_44 : decode cX11_move 44 = .ok (.iastore, 1) := by decide +kernel
theorem dX11_move_45 : decode cX11_move 45 = .ok (.iconst 1, 1) := by decide +kernel
theorem dX11_move_46 : decode cX11_move 46 = .ok (.ireturn, 1) := by decide +kernel
theorem dX11_moodWithTyre_0 : decode cX11_moodWithTyre 0 = .ok (.bipush 9, 2) := by decide +kernel
theorem dX11_moodWithTyre_2 : decode cX11_moodWithTyre 2 = .ok (.aload_n 0, 1) := by decide +kernel
theorem dX11_moodWithTyre_3 : decode cX11_moodWithTyre 3 = .ok (.getfield 114, 3) := by decide +kernel
theorem dX11_moodWithTyre_6 : decode cX11_moodWithTyre 6 = .ok (.bipush 8, 2) := by decide +kernel
theorem dX11_moodWithTyre_8 : decode cX11_moodWithTyre 8 = .ok (.iload_n 1, 1) := by decide +kernel
theorem dX11_moodWithTyre_9 : decode cX11_moodWithTyre 9 = .ok (.iadd, 1) := by decide +kernel
theorem dX11_moodWithTyre_10 : decode cX11_moodWithTyre 10 = .ok (.iaload, 1) := by decide +kernel
theorem dX11_moodWithTyre_11 : decode cX11_moodWithTyre 11 = .ok (.aload_n 0, 1) := by decide +kernel
theorem dX11_moodWithTyre_12 : decode cX11_moodWithTyre 12 = .ok (.getfield 13, 3) := by decide +kernel
theorem dX11_moodWithTyre_15 : decode cX11_moodWithTyre 15 = .ok (.bipush 6, 2) := by decide +kernel
theorem dX11_moodWithTyre_17 : decode cX11_moodWithTyre 17 = .ok (.iaload, 1) := by decide +kernel
theorem dX11_moodWithTyre_18 : decode cX11_moodWithTyre 18 = .ok (.iadd, 1) := by decide +kernel
theorem dX11_moodWithTyre_19 : decode cX11_moodWithTyre 19 = .ok (.invokestatic 453, 3) := by decide +kernel
theorem dX11_moodWithTyre_22 : decode cX11_moodWithTyre 22 = .ok (.ireturn, 1) := by decide +kernel
theorem dX11_givesTyre_0 : decode cX11_givesTyre 0 = .ok (.aload_n 0, 1) := by decide +kernel
theorem dX11_givesTyre_1 : decode cX11_givesTyre 1 = .ok (.getfield 114, 3) := by decide +kernel
theorem dX11_givesTyre_4 : decode cX11_givesTyre 4 = .ok (.bipush 8, 2) := by decide +kernel
theorem dX11_givesTyre_6 : decode cX11_givesTyre 6 = .ok (.iload_n 1, 1) := by decide +kernel
theorem dX11_givesTyre_7 : decode cX11_givesTyre 7 = .ok (.iadd, 1) := by decide +kernel
theorem dX11_givesTyre_8 : decode cX11_givesTyre 8 = .ok (.aload_n 0, 1) := by decide +kernel
theorem dX11_givesTyre_9 : decode cX11_givesTyre 9 = .ok (.iload_n 1, 1) := by decide +kernel
theorem dX11_givesTyre_10 : decode cX11_givesTyre 10 = .ok (.invokevirtual 495, 3) := by decide +kernel
theorem dX11_givesTyre_13 : decode cX11_givesTyre 13 = .ok (.iastore, 1) := by decide +kernel
theorem dX11_givesTyre_14 : decode cX11_givesTyre 14 = .ok (.aload_n 0, 1) := by decide +kernel
theorem dX11_givesTyre_15 : decode cX11_givesTyre 15 = .ok (.getfield 114, 3) := by decide +kernel
theorem dX11_givesTyre_18 : decode cX11_givesTyre 18 = .ok (.iconst 1, 1) := by decide +kernel
theorem dX11_givesTyre_19 : decode cX11_givesTyre 19 = .ok (.dup2, 1) := by decide +kernel
theorem dX11_givesTyre_20 : decode cX11_givesTyre 20 = .ok (.iaload, 1) := by decide +kernel
theorem dX11_givesTyre_21 : decode cX11_givesTyre 21 = .ok (.aload_n 0, 1) := by decide +kernel
theorem dX11_givesTyre_22 : decode cX11_givesTyre 22 = .ok (.getfield 13, 3) := by decide +kernel
theorem dX11_givesTyre_25 : decode cX11_givesTyre 25 = .ok (.bipush 7, 2) := by decide +kernel
theorem dX11_givesTyre_27 : decode cX11_givesTyre 27 = .ok (.iaload, 1) := by decide +kernel
theorem dX11_givesTyre_28 : decode cX11_givesTyre 28 = .ok (.isub, 1) := by decide +kernel
theorem dX11_givesTyre_29 : decode cX11_givesTyre 29 = .ok (.iastore, 1) := by decide +kernel
theorem dX11_givesTyre_30 : decode cX11_givesTyre 30 = .ok (.return_, 1) := by decide +kernel
theorem dX11_tyre_0 : decode cX11_tyre 0 = .ok (.aload_n 0, 1) := by decide +kernel
theorem dX11_tyre_1 : decode cX11_tyre 1 = .ok (.iconst 0, 1) := by decide +kernel
theorem dX11_tyre_2 : decode cX11_tyre 2 = .ok (.putfield 187, 3) := by decide +kernel
theorem dX11_tyre_5 : decode cX11_tyre 5 = .ok (.aload_n 0, 1) := by decide +kernel
theorem dX11_tyre_6 : decode cX11_tyre 6 = .ok (.iload_n 1, 1) := by decide +kernel
theorem dX11_tyre_7 : decode cX11_tyre 7 = .ok (.invokevirtual 479, 3) := by decide +kernel
theorem dX11_tyre_10 : decode cX11_tyre 10 = .ok (.ifCond .eq 19, 3) := by decide +kernel
theorem dX11_tyre_13 : decode cX11_tyre 13 = .ok (.aload_n 0, 1) := by decide +kernel
theorem dX11_tyre_14 : decode cX11_tyre 14 = .ok (.getfield 114, 3) := by decide +kernel
theorem dX11_tyre_17 : decode cX11_tyre 17 = .ok (.iconst 1, 1) := by decide +kernel
theorem dX11_tyre_18 : decode cX11_tyre 18 = .ok (.iaload, 1) := by decide +kernel
theorem dX11_tyre_19 : decode cX11_tyre 19 = .ok (.aload_n 0, 1) := by decide +kernel
theorem dX11_tyre_20 : decode cX11_tyre 20 = .ok (.getfield 13, 3) := by decide +kernel
theorem dX11_tyre_23 : decode cX11_tyre 23 = .ok (.bipush 7, 2) := by decide +kernel
theorem dX11_tyre_25 : decode cX11_tyre 25 = .ok (.iaload, 1) := by decide +kernel
theorem dX11_tyre_26 : decode cX11_tyre 26 = .ok (.if_icmp .ge 5, 3) := by decide +kernel
theorem dX11_tyre_29 : decode cX11_tyre 29 = .ok (.iconst (-1), 1) := by decide +kernel
theorem dX11_tyre_30 : decode cX11_tyre 30 = .ok (.ireturn, 1) := by decide +kernel
theorem dX11_tyre_31 : decode cX11_tyre 31 = .ok (.aload_n 0, 1) := by decide +kernel
theorem dX11_tyre_32 : decode cX11_tyre 32 = .ok (.invokevirtual 492, 3) := by decide +kernel
theorem dX11_tyre_35 : decode cX11_tyre 35 = .ok (.aload_n 0, 1) := by decide +kernel
theorem dX11_tyre_36 : decode cX11_tyre 36 = .ok (.iload_n 1, 1) := by decide +kernel
theorem dX11_tyre_37 : decode cX11_tyre 37 = .ok (.invokevirtual 498, 3) := by decide +kernel
theorem dX11_tyre_40 : decode cX11_tyre 40 = .ok (.aload_n 0, 1) := by decide +kernel
theorem dX11_tyre_41 : decode cX11_tyre 41 = .ok (.getfield 114, 3) := by decide +kernel
theorem dX11_tyre_44 : decode cX11_tyre 44 = .ok (.bipush 8, 2) := by decide +kernel
theorem dX11_tyre_46 : decode cX11_tyre 46 = .ok (.iload_n 1, 1) := by decide +kernel
theorem dX11_tyre_47 : decode cX11_tyre 47 = .ok (.iadd, 1) := by decide +kernel
theorem dX11_tyre_48 : decode cX11_tyre 48 = .ok (.iaload, 1) := by decide +kernel
theorem dX11_tyre_49 : decode cX11_tyre 49 = .ok (.ireturn, 1) := by decide +kernel
theorem dX11_hour_0 : decode cX11_hour 0 = .ok (.aload_n 0, 1) := by decide +kernel
theorem dX11_hour_1 : decode cX11_hour 1 = .ok (.iconst 0, 1) := by decide +kernel
theorem dX11_hour_2 : decode cX11_hour 2 = .ok (.putfield 187, 3) := by decide +kernel
theorem dX11_hour_5 : decode cX11_hour 5 = .ok (.aload_n 0, 1) := by decide +kernel
theorem dX11_hour_6 : decode cX11_hour 6 = .ok (.invokevirtual 492, 3) := by decide +kernel
theorem dX11_hour_9 : decode cX11_hour 9 = .ok (.aload_n 0, 1) := by decide +kernel
theorem dX11_hour_10 : decode cX11_hour 10 = .ok (.iconst 1, 1) := by decide +kernel
theorem dX11_hour_11 : decode cX11_hour 11 = .ok (.invokevirtual 501, 3) := by decide +kernel
theorem dX11_hour_14 : decode cX11_hour 14 = .ok (.ireturn, 1) := by decide +kernel
theorem dX11_undo_0 : decode cX11_undo 0 = .ok (.aload_n 0, 1) := by decide +kernel
theorem dX11_undo_1 : decode cX11_undo 1 = .ok (.iconst 0, 1) := by decide +kernel
theorem dX11_undo_2 : decode cX11_undo 2 = .ok (.putfield 187, 3) := by decide +kernel
theorem dX11_undo_5 : decode cX11_undo 5 = .ok (.aload_n 0, 1) := by decide +kernel
theorem dX11_undo_6 : decode cX11_undo 6 = .ok (.getfield 422, 3) := by decide +kernel
theorem dX11_undo_9 : decode cX11_undo 9 = .ok (.ifCond .ne 5, 3) := by decide +kernel
theorem dX11_undo_12 : decode cX11_undo 12 = .ok (.iconst 0, 1) := by decide +kernel
theorem dX11_undo_13 : decode cX11_undo 13 = .ok (.ireturn, 1) := by decide +kernel
theorem dX11_undo_14 : decode cX11_undo 14 = .ok (.aload_n 0, 1) := by decide +kernel
theorem dX11_undo_15 : decode cX11_undo 15 = .ok (.dup, 1) := by decide +kernel
theorem dX11_undo_16 : decode cX11_undo 16 = .ok (.getfield 422, 3) := by decide +kernel
theorem dX11_undo_19 : decode cX11_undo 19 = .ok (.iconst 1, 1) := by decide +kernel
theorem dX11_undo_20 : decode cX11_undo 20 = .ok (.isub, 1) := by decide +kernel
theorem dX11_undo_21 : decode cX11_undo 21 = .ok (.putfield 422, 3) := by decide +kernel
theorem dX11_undo_24 : decode cX11_undo 24 = .ok (.aload_n 0, 1) := by decide +kernel
theorem dX11_undo_25 : decode cX11_undo 25 = .ok (.getfield 126, 3) := by decide +kernel
theorem dX11_undo_28 : decode cX11_undo 28 = .ok (.bipush 19, 2) := by decide +kernel
theorem dX11_undo_30 : decode cX11_undo 30 = .ok (.aload_n 0, 1) := by decide +kernel
theorem dX11_undo_31 : decode cX11_undo 31 = .ok (.getfield 422, 3) := by decide +kernel
theorem dX11_undo_34 : decode cX11_undo 34 = .ok (.imul, 1) := by decide +kernel
theorem dX11_undo_35 : decode cX11_undo 35 = .ok (.aload_n 0, 1) := by decide +kernel
theorem dX11_undo_36 : decode cX11_undo 36 = .ok (.getfield 114, 3) := by decide +kernel
theorem dX11_undo_39 : decode cX11_undo 39 = .ok (.iconst 0, 1) := by decide +kernel
theorem dX11_undo_40 : decode cX11_undo 40 = .ok (.invokestatic 485, 3) := by decide +kernel
theorem dX11_undo_43 : decode cX11_undo 43 = .ok (.iconst 1, 1) := by decide +kernel
theorem dX11_undo_44 : decode cX11_undo 44 = .ok (.ireturn, 1) := by decide +kernel
theorem dX11_goes_0 : decode cX11_goes 0 = .ok (.aload_n 0, 1) := by decide +kernel
theorem dX11_goes_1 : decode cX11_goes 1 = .ok (.getfield 99, 3) := by decide +kernel
theorem dX11_goes_4 : decode cX11_goes 4 = .ok (.iload_n 1, 1) := by decide +kernel
theorem dX11_goes_5 : decode cX11_goes 5 = .ok (.iaload, 1) := by decide +kernel
theorem dX11_goes_6 : decode cX11_goes 6 = .ok (.istore_n 2, 1) := by decide +kernel
theorem dX11_goes_7 : decode cX11_goes 7 = .ok (.aload_n 0, 1) := by decide +kernel
theorem dX11_goes_8 : decode cX11_goes 8 = .ok (.getfield 102, 3) := by decide +kernel
theorem dX11_goes_11 : decode cX11_goes 11 = .ok (.iload_n 1, 1) := by decide +kernel
theorem dX11_goes_12 : decode cX11_goes 12 = .ok (.iaload, 1) := by decide +kernel
theorem dX11_goes_13 : decode cX11_goes 13 = .ok (.istore_n 3, 1) := by decide +kernel
theorem dX11_goes_14 : decode cX11_goes 14 = .ok (.iload_n 2, 1) := by decide +kernel
theorem dX11_goes_15 : decode cX11_goes 15 = .ok (.iconst 2, 1) := by decide +kernel
theorem dX11_goes_16 : decode cX11_goes 16 = .ok (.if_icmp .ne 12, 3) := by decide +kernel
theorem dX11_goes_19 : decode cX11_goes 19 = .ok (.aload_n 0, 1) := by decide +kernel
theorem dX11_goes_20 : decode cX11_goes 20 = .ok (.iconst 1, 1) := by decide +kernel
theorem dX11_goes_21 : decode cX11_goes 21 = .ok (.invokevirtual 501, 3) := by decide +kernel
theorem dX11_goes_24 : decode cX11_goes 24 = .ok (.pop, 1) := by decide +kernel
theorem dX11_goes_25 : decode cX11_goes 25 = .ok (.goto 63, 3) := by decide +kernel
theorem dX11_goes_28 : decode cX11_goes 28 = .ok (.iload_n 2, 1) := by decide +kernel
theorem dX11_goes_29 : decode cX11_goes 29 = .ok (.ifCond .ne 36, 3) := by decide +kernel
theorem dX11_goes_32 : decode cX11_goes 32 = .ok (.aload_n 0, 1) := by decide +kernel
theorem dX11_goes_33 : decode cX11_goes 33 = .ok (.iload_n 3, 1) := by decide +kernel
theorem dX11_goes_34 : decode cX11_goes 34 = .ok (.aload_n 0, 1) := by decide +kernel
theorem dX11_goes_35 : decode cX11_goes 35 = .ok (.getfield 105, 3) := by decide +kernel
theorem dX11_goes_38 : decode cX11_goes 38 = .ok (.iload_n 1, 1) := by decide +kernel
theorem dX11_goes_39 : decode cX11_goes 39 = .ok (.iaload, 1) := by decide +kernel
theorem dX11_goes_40 : decode cX11_goes 40 = .ok (.invokevirtual 489, 3) := by decide +kernel
theorem dX11_goes_43 : decode cX11_goes 43 = .ok (.ifCond .ne 5, 3) := by decide +kernel
theorem dX11_goes_46 : decode cX11_goes 46 = .ok (.iconst 0, 1) := by decide +kernel
theorem dX11_goes_47 : decode cX11_goes 47 = .ok (.ireturn, 1) := by decide +kernel
theorem dX11_goes_48 : decode cX11_goes 48 = .ok (.aload_n 0, 1) := by decide +kernel
theorem dX11_goes_49 : decode cX11_goes 49 = .ok (.getfield 114, 3) := by decide +kernel
theorem dX11_goes_52 : decode cX11_goes 52 = .ok (.iconst 2, 1) := by decide +kernel
theorem dX11_goes_53 : decode cX11_goes 53 = .ok (.iload_n 3, 1) := by decide +kernel
theorem dX11_goes_54 : decode cX11_goes 54 = .ok (.iadd, 1) := by decide +kernel
theorem dX11_goes_55 : decode cX11_goes 55 = .ok (.aload_n 0, 1) := by decide +kernel
theorem dX11_goes_56 : decode cX11_goes 56 = .ok (.getfield 105, 3) := by decide +kernel
theorem dX11_goes_59 : decode cX11_goes 59 = .ok (.iload_n 1, 1) := by decide +kernel
theorem dX11_goes_60 : decode cX11_goes 60 = .ok (.iaload, 1) := by decide +kernel
theorem dX11_goes_61 : decode cX11_goes 61 = .ok (.iastore, 1) := by decide +kernel
theorem dX11_goes_62 : decode cX11_goes 62 = .ok (.goto 26, 3) := by decide +kernel
theorem dX11_goes_65 : decode cX11_goes 65 = .ok (.aload_n 0, 1) := by decide +kernel
theorem dX11_goes_66 : decode cX11_goes 66 = .ok (.getfield 114, 3) := by decide +kernel
theorem dX11_goes_69 : decode cX11_goes 69 = .ok (.iconst 1, 1) := by decide +kernel
theorem dX11_goes_70 : decode cX11_goes 70 = .ok (.iaload, 1) := by decide +kernel
theorem dX11_goes_71 : decode cX11_goes 71 = .ok (.aload_n 0, 1) := by decide +kernel
theorem dX11_goes_72 : decode cX11_goes 72 = .ok (.getfield 13, 3) := by decide +kernel
theorem dX11_goes_75 : decode cX11_goes 75 = .ok (.bipush 7, 2) := by decide +kernel
theorem dX11_goes_77 : decode cX11_goes 77 = .ok (.iaload, 1) := by decide +kernel
theorem dX11_goes_78 : decode cX11_goes 78 = .ok (.if_icmp .ge 5, 3) := by decide +kernel
theorem dX11_goes_81 : decode cX11_goes 81 = .ok (.iconst 0, 1) := by decide +kernel
theorem dX11_goes_82 : decode cX11_goes 82 = .ok (.ireturn, 1) := by decide +kernel
theorem dX11_goes_83 : decode cX11_goes 83 = .ok (.aload_n 0, 1) := by decide +kernel
theorem dX11_goes_84 : decode cX11_goes 84 = .ok (.iload_n 3, 1) := by decide +kernel
theorem dX11_goes_85 : decode cX11_goes 85 = .ok (.invokevirtual 498, 3) := by decide +kernel
theorem dX11_goes_88 : decode cX11_goes 88 = .ok (.iconst 1, 1) := by decide +kernel
theorem dX11_goes_89 : decode cX11_goes 89 = .ok (.ireturn, 1) := by decide +kernel
theorem dX11_judged_0 : decode cX11_judged 0 = .ok (.aload_n 0, 1) := by decide +kernel
theorem dX11_judged_1 : decode cX11_judged 1 = .ok (.iconst 0, 1) := by decide +kernel
theorem dX11_judged_2 : decode cX11_judged 2 = .ok (.putfield 187, 3) := by decide +kernel
theorem dX11_judged_5 : decode cX11_judged 5 = .ok (.iload_n 1, 1) := by decide +kernel
theorem dX11_judged_6 : decode cX11_judged 6 = .ok (.iconst 0, 1) := by decide +kernel
theorem dX11_judged_7 : decode cX11_judged 7 = .ok (.iconst 2, 1) := by decide +kernel
theorem dX11_judged_8 : decode cX11_judged 8 = .ok (.invokestatic 326, 3) := by decide +kernel
theorem dX11_judged_11 : decode cX11_judged 11 = .ok (.ifCond .ne 6, 3) := by decide +kernel
theorem dX11_judged_14 : decode cX11_judged 14 = .ok (.bipush (-2), 2) := by decide +kernel
theorem dX11_judged_16 : decode cX11_judged 16 = .ok (.ireturn, 1) := by decide +kernel
theorem dX11_judged_17 : decode cX11_judged 17 = .ok (.aload_n 0, 1) := by decide +kernel
theorem dX11_judged_18 : decode cX11_judged 18 = .ok (.getfield 114, 3) := by decide +kernel
theorem dX11_judged_21 : decode cX11_judged 21 = .ok (.iconst 0, 1) := by decide +kernel
theorem dX11_judged_22 : decode cX11_judged 22 = .ok (.aload_n 0, 1) := by decide +kernel
theorem dX11_judged_23 : decode cX11_judged 23 = .ok (.getfield 117, 3) := by decide +kernel
theorem dX11_judged_26 : decode cX11_judged 26 = .ok (.iconst 0, 1) := by decide +kernel
theorem dX11_judged_27 : decode cX11_judged 27 = .ok (.invokestatic 485, 3) := by decide +kernel
theorem dX11_judged_30 : decode cX11_judged 30 = .ok (.aload_n 0, 1) := by decide +kernel
theorem dX11_judged_31 : decode cX11_judged 31 = .ok (.invokevirtual 181, 3) := by decide +kernel
theorem dX11_judged_34 : decode cX11_judged 34 = .ok (.iconst (-1), 1) := by decide +kernel
theorem dX11_judged_35 : decode cX11_judged 35 = .ok (.istore_n 2, 1) := by decide +kernel
theorem dX11_judged_36 : decode cX11_judged 36 = .ok (.iconst (-1), 1) := by decide +kernel
theorem dX11_judged_37 : decode cX11_judged 37 = .ok (.istore_n 3, 1) := by decide +kernel
theorem dX11_judged_38 : decode cX11_judged 38 = .ok (.iconst 0, 1) := by decide +kernel
theorem dX11_judged_39 : decode cX11_judged 39 = .ok (.istore 4, 2) := by decide +kernel
theorem dX11_judged_41 : decode cX11_judged 41 = .ok (.iload 4, 2) := by decide +kernel
theorem dX11_judged_43 : decode cX11_judged 43 = .ok (.aload_n 0, 1) := by decide +kernel
theorem dX11_judged_44 : decode cX11_judged 44 = .ok (.getfield 96, 3) := by decide +kernel
theorem dX11_judged_47 : decode cX11_judged 47 = .ok (.iconst 0, 1) := by decide +kernel
theorem dX11_judged_48 : decode cX11_judged 48 = .ok (.iaload, 1) := by decide +kernel
theorem dX11_judged_49 : decode cX11_judged 49 = .ok (.if_icmp .ge 48, 3) := by decide +kernel
theorem dX11_judged_52 : decode cX11_judged 52 = .ok (.aload_n 0, 1) := by decide +kernel
theorem dX11_judged_53 : decode cX11_judged 53 = .ok (.iload 4, 2) := by decide +kernel
theorem dX11_judged_55 : decode cX11_judged 55 = .ok (.invokevirtual 505, 3) := by decide +kernel
theorem dX11_judged_58 : decode cX11_judged 58 = .ok (.istore 5, 2) := by decide +kernel
theorem dX11_judged_60 : decode cX11_judged 60 = .ok (.iload 5, 2) := by decide +kernel
theorem dX11_judged_62 : decode cX11_judged 62 = .ok (.ifCond .ne 10, 3) := by decide +kernel
theorem dX11_judged_65 : decode cX11_judged 65 = .ok (.iload_n 2, 1) := by decide +kernel
theorem dX11_judged_66 : decode cX11_judged 66 = .ok (.ifCond .ge 6, 3) := by decide +kernel
theorem dX11_judged_69 : decode cX11_judged 69 = .ok (.iload 4, 2) := by decide +kernel
theorem dX11_judged_71 : decode cX11_judged 71 = .ok (.istore_n 2, 1) := by decide +kernel
theorem dX11_judged_72 : decode cX11_judged 72 = .ok (.iload 5, 2) := by decide +kernel
theorem dX11_judged_74 : decode cX11_judged 74 = .ok (.ifCond .eq 17, 3) := by decide +kernel
theorem dX11_judged_77 : decode cX11_judged 77 = .ok (.iload_n 3, 1) := by decide +kernel
theorem dX11_judged_78 : decode cX11_judged 78 = .ok (.ifCond .ge 13, 3) := by decide +kernel
theorem dX11_judged_81 : decode cX11_judged 81 = .ok (.aload_n 0, 1) := by decide +kernel
theorem dX11_judged_82 : decode cX11_judged 82 = .ok (.invokevirtual 508, 3) := by decide +kernel
theorem dX11_judged_85 : decode cX11_judged 85 = .ok (.ifCond .eq 6, 3) := by decide +kernel
theorem dX11_judged_88 : decode cX11_judged 88 = .ok (.iload 4, 2) := by decide +kernel
theorem dX11_judged_90 : decode cX11_judged 90 = .ok (.istore_n 3, 1) := by decide +kernel
theorem dX11_judged_91 : decode cX11_judged 91 = .ok (.iinc 4 1, 3) := by decide +kernel
theorem dX11_judged_94 : decode cX11_judged 94 = .ok (.goto (-53), 3) := by decide +kernel
theorem dX11_judged_97 : decode cX11_judged 97 = .ok (.aload_n 0, 1) := by decide +kernel
theorem dX11_judged_98 : decode cX11_judged 98 = .ok (.getfield 114, 3) := by decide +kernel
theorem dX11_judged_101 : decode cX11_judged 101 = .ok (.iconst 1, 1) := by decide +kernel
theorem dX11_judged_102 : decode cX11_judged 102 = .ok (.iaload, 1) := by decide +kernel
theorem dX11_judged_103 : decode cX11_judged 103 = .ok (.istore 4, 2) := by decide +kernel
theorem dX11_judged_105 : decode cX11_judged 105 = .ok (.aload_n 0, 1) := by decide +kernel
theorem dX11_judged_106 : decode cX11_judged 106 = .ok (.getfield 117, 3) := by decide +kernel
theorem dX11_judged_109 : decode cX11_judged 109 = .ok (.iconst 0, 1) := by decide +kernel
theorem dX11_judged_110 : decode cX11_judged 110 = .ok (.aload_n 0, 1) := by decide +kernel
theorem dX11_judged_111 : decode cX11_judged 111 = .ok (.getfield 114, 3) := by decide +kernel
theorem dX11_judged_114 : decode cX11_judged 114 = .ok (.iconst 0, 1) := by decide +kernel
theorem dX11_judged_115 : decode cX11_judged 115 = .ok (.invokestatic 485, 3) := by decide +kernel
theorem dX11_judged_118 : decode cX11_judged 118 = .ok (.iload_n 1, 1) := by decide +kernel
theorem dX11_judged_119 : decode cX11_judged 119 = .ok (.ifCond .ne 7, 3) := by decide +kernel
theorem dX11_judged_122 : decode cX11_judged 122 = .ok (.iload_n 2, 1) := by decide +kernel
theorem dX11_judged_123 : decode cX11_judged 123 = .ok (.goto 14, 3) := by decide +kernel
theorem dX11_judged_126 : decode cX11_judged 126 = .ok (.iload_n 1, 1) := by decide +kernel
theorem dX11_judged_127 : decode cX11_judged 127 = .ok (.iconst 1, 1) := by decide +kernel
theorem dX11_judged_128 : decode cX11_judged 128 = .ok (.if_icmp .ne 7, 3) := by decide +kernel
theorem dX11_judged_131 : decode cX11_judged 131 = .ok (.iload_n 3, 1) := by decide +kernel
theorem dX11_judged_132 : decode cX11_judged 132 = .ok (.goto 5, 3) := by decide +kernel
theorem dX11_judged_135 : decode cX11_judged 135 = .ok (.iload 4, 2) := by decide +kernel
theorem dX11_judged_137 : decode cX11_judged 137 = .ok (.ireturn, 1) := by decide +kernel
theorem dX11_seatsGuest_0 : decode cX11_seatsGuest 0 = .ok (.iload_n 1, 1) := by decide +kernel
theorem dX11_seatsGuest_1 : decode cX11_seatsGuest 1 = .ok (.aload_n 0, 1) := by decide +kernel
theorem dX11_seatsGuest_2 : decode cX11_seatsGuest 2 = .ok (.getfield 13, 3) := by decide +kernel
theorem dX11_seatsGuest_5 : decode cX11_seatsGuest 5 = .ok (.iconst 1, 1) := by decide +kernel
theorem dX11_seatsGuest_6 : decode cX11_seatsGuest 6 = .ok (.iaload, 1) := by decide +kernel
theorem dX11_seatsGuest_7 : decode cX11_seatsGuest 7 = .ok (.if_icmp .ne 115, 3) := by decide +kernel
theorem dX11_seatsGuest_10 : decode cX11_seatsGuest 10 = .ok (.aload_n 0, 1) := by decide +kernel
theorem dX11_seatsGuest_11 : decode cX11_seatsGuest 11 = .ok (.invokevirtual 467, 3) := by decide +kernel
theorem dX11_seatsGuest_14 : decode cX11_seatsGuest 14 = .ok (.istore_n 2, 1) := by decide +kernel
theorem dX11_seatsGuest_15 : decode cX11_seatsGuest 15 = .ok (.iload_n 2, 1) := by decide +kernel
theorem dX11_seatsGuest_16 : decode cX11_seatsGuest 16 = .ok (.aload_n 0, 1) := by decide +kernel
theorem dX11_seatsGuest_17 : decode cX11_seatsGuest 17 = .ok (.getfield 511, 3) := by decide +kernel
theorem dX11_seatsGuest_20 : decode cX11_seatsGuest 20 = .ok (.if_icmp .ge 4, 3) := by decide +kernel
theorem dX11_seatsGuest_23 : decode cX11_seatsGuest 23 = .ok (.return_, 1) := by decide +kernel
theorem dX11_seatsGuest_24 : decode cX11_seatsGuest 24 = .ok (.iconst 0, 1) := by decide +kernel
theorem dX11_seatsGuest_25 : decode cX11_seatsGuest 25 = .ok (.istore_n 3, 1) := by decide +kernel
theorem dX11_seatsGuest_26 : decode cX11_seatsGuest 26 = .ok (.iconst 0, 1) := by decide +kernel
theorem dX11_seatsGuest_27 : decode cX11_seatsGuest 27 = .ok (.istore 4, 2) := by decide +kernel
theorem dX11_seatsGuest_29 : decode cX11_seatsGuest 29 = .ok (.iload 4, 2) := by decide +kernel
theorem dX11_seatsGuest_31 : decode cX11_seatsGuest 31 = .ok (.iload_n 1, 1) := by decide +kernel
theorem dX11_seatsGuest_32 : decode cX11_seatsGuest 32 = .ok (.if_icmp .ge 33, 3) := by decide +kernel
theorem dX11_seatsGuest_35 : decode cX11_seatsGuest 35 = .ok (.iload_n 3, 1) := by decide +kernel
theorem dX11_seatsGuest_36 : decode cX11_seatsGuest 36 = .ok (.aload_n 0, 1) := by decide +kernel
theorem dX11_seatsGuest_37 : decode cX11_seatsGuest 37 = .ok (.iload 4, 2) := by decide +kernel
theorem dX11_seatsGuest_39 : decode cX11_seatsGuest 39 = .ok (.aload_n 0, 1) := by decide +kernel
theorem dX11_seatsGuest_40 : decode cX11_seatsGuest 40 = .ok (.getfield 153, 3) := by decide +kernel
theorem dX11_seatsGuest_43 : decode cX11_seatsGuest 43 = .ok (.iload 4, 2) := by decide +kernel
theorem dX11_seatsGuest_45 : decode cX11_seatsGuest 45 = .ok (.iaload, 1) := by decide +kernel
theorem dX11_seatsGuest_46 : decode cX11_seatsGuest 46 = .ok (.invokevirtual 473, 3) := by decide +kernel
theorem dX11_seatsGuest_49 : decode cX11_seatsGuest 49 = .ok (.ifCond .ne 7, 3) := by decide +kernel
theorem dX11_seatsGuest_52 : decode cX11_seatsGuest 52 = .ok (.iconst 1, 1) := by decide +kernel
theorem dX11_seatsGuest_53 : decode cX11_seatsGuest 53 = .ok (.goto 4, 3) := by decide +kernel
theorem dX11_seatsGuest_56 : decode cX11_seatsGuest 56 = .ok (.iconst 0, 1) := by decide +kernel
theorem dX11_seatsGuest_57 : decode cX11_seatsGuest 57 = .ok (.iadd, 1) := by decide +kernel
theorem dX11_seatsGuest_58 : decode cX11_seatsGuest 58 = .ok (.istore_n 3, 1) := by decide +kernel
theorem dX11_seatsGuest_59 : decode cX11_seatsGuest 59 = .ok (.iinc 4 1, 3) := by decide +kernel
theorem dX11_seatsGuest_62 : decode cX11_seatsGuest 62 = .ok (.goto (-33), 3) := by decide +kernel
theorem dX11_seatsGuest_65 : decode cX11_seatsGuest 65 = .ok (.iload_n 2, 1) := by decide +kernel
theorem dX11_seatsGuest_66 : decode cX11_seatsGuest 66 = .ok (.aload_n 0, 1) := by decide +kernel
theorem dX11_seatsGuest_67 : decode cX11_seatsGuest 67 = .ok (.getfield 511, 3) := by decide +kernel
theorem dX11_seatsGuest_70 : decode cX11_seatsGuest 70 = .ok (.if_icmp .ne 12, 3) := by decide +kernel
theorem dX11_seatsGuest_73 : decode cX11_seatsGuest 73 = .ok (.iload_n 3, 1) := by decide +kernel
theorem dX11_seatsGuest_74 : decode cX11_seatsGuest 74 = .ok (.aload_n 0, 1) := by decide +kernel
theorem dX11_seatsGuest_75 : decode cX11_seatsGuest 75 = .ok (.getfield 514, 3) := by decide +kernel
theorem dX11_seatsGuest_78 : decode cX11_seatsGuest 78 = .ok (.if_icmp .lt 4, 3) := by decide +kernel
theorem dX11_seatsGuest_81 : decode cX11_seatsGuest 81 = .ok (.return_, 1) := by decide +kernel
theorem dX11_seatsGuest_82 : decode cX11_seatsGuest 82 = .ok (.aload_n 0, 1) := by decide +kernel
theorem dX11_seatsGuest_83 : decode cX11_seatsGuest 83 = .ok (.iload_n 2, 1) := by decide +kernel
theorem dX11_seatsGuest_84 : decode cX11_seatsGuest 84 = .ok (.putfield 511, 3) := by decide +kernel
theorem dX11_seatsGuest_87 : decode cX11_seatsGuest 87 = .ok (.aload_n 0, 1) := by decide +kernel
theorem dX11_seatsGuest_88 : decode cX11_seatsGuest 88 = .ok (.iload_n 3, 1) := by decide +kernel
theorem dX11_seatsGuest_89 : decode cX11_seatsGuest 89 = .ok (.putfield 514, 3) := by decide +kernel
theorem dX11_seatsGuest_92 : decode cX11_seatsGuest 92 = .ok (.iconst 0, 1) := by decide +kernel
theorem dX11_seatsGuest_93 : decode cX11_seatsGuest 93 = .ok (.istore 4, 2) := by decide +kernel
theorem dX11_seatsGuest_95 : decode cX11_seatsGuest 95 = .ok (.iload 4, 2) := by decide +kernel
theorem dX11_seatsGuest_97 : decode cX11_seatsGuest 97 = .ok (.iload_n 1, 1) := by decide +kernel
theorem dX11_seatsGuest_98 : decode cX11_seatsGuest 98 = .ok (.if_icmp .ge 23, 3) := by decide +kernel
theorem dX11_seatsGuest_101 : decode cX11_seatsGuest 101 = .ok (.aload_n 0, 1) := by decide +kernel
theorem dX11_seatsGuest_102 : decode cX11_seatsGuest 102 = .ok (.getfield 156, 3) := by decide +kernel
theorem dX11_seatsGuest_105 : decode cX11_seatsGuest 105 = .ok (.iload 4, 2) := by decide +kernel
theorem dX11_seatsGuest_107 : decode cX11_seatsGuest 107 = .ok (.aload_n 0, 1) := by decide +kernel
theorem dX11_seatsGuest_108 : decode cX11_seatsGuest 108 = .ok (.getfield 153, 3) := by decide +kernel
theorem dX11_seatsGuest_111 : decode cX11_seatsGuest 111 = .ok (.iload 4, 2) := by decide +kernel
theorem dX11_seatsGuest_113 : decode cX11_seatsGuest 113 = .ok (.iaload, 1) := by decide +kernel
theorem dX11_seatsGuest_114 : decode cX11_seatsGuest 114 = .ok (.iastore, 1) := by decide +kernel
theorem dX11_seatsGuest_115 : decode cX11_seatsGuest 115 = .ok (.iinc 4 1, 3) := by decide +kernel
theorem dX11_seatsGuest_118 : decode cX11_seatsGuest 118 = .ok (.goto (-23), 3) := by decide +kernel
theorem dX11_seatsGuest_121 : decode cX11_seatsGuest 121 = .ok (.return_, 1) := by decide +kernel
theorem dX11_seatsGuest_122 : decode cX11_seatsGuest 122 = .ok (.iconst 0, 1) := by decide +kernel
theorem dX11_seatsGuest_123 : decode cX11_seatsGuest 123 = .ok (.istore_n 2, 1) := by decide +kernel
theorem dX11_seatsGuest_124 : decode cX11_seatsGuest 124 = .ok (.iload_n 2, 1) := by decide +kernel
theorem dX11_seatsGuest_125 : decode cX11_seatsGuest 125 = .ok (.aload_n 0, 1) := by decide +kernel
theorem dX11_seatsGuest_126 : decode cX11_seatsGuest 126 = .ok (.getfield 13, 3) := by decide +kernel
theorem dX11_seatsGuest_129 : decode cX11_seatsGuest 129 = .ok (.iconst 0, 1) := by decide +kernel
theorem dX11_seatsGuest_130 : decode cX11_seatsGuest 130 = .ok (.iaload, 1) := by decide +kernel
theorem dX11_seatsGuest_131 : decode cX11_seatsGuest 131 = .ok (.if_icmp .ge 68, 3) := by decide +kernel
theorem dX11_seatsGuest_134 : decode cX11_seatsGuest 134 = .ok (.aload_n 0, 1) := by decide +kernel
theorem dX11_seatsGuest_135 : decode cX11_seatsGuest 135 = .ok (.getfield 135, 3) := by decide +kernel
theorem dX11_seatsGuest_138 : decode cX11_seatsGuest 138 = .ok (.iload_n 2, 1) := by decide +kernel
theorem dX11_seatsGuest_139 : decode cX11_seatsGuest 139 = .ok (.iaload, 1) := by decide +kernel
theorem dX11_seatsGuest_140 : decode cX11_seatsGuest 140 = .ok (.aload_n 0, 1) := by decide +kernel
theorem dX11_seatsGuest_141 : decode cX11_seatsGuest 141 = .ok (.getfield 47, 3) := by decide +kernel
theorem dX11_seatsGuest_144 : decode cX11_seatsGuest 144 = .ok (.iload_n 1, 1) := by decide +kernel
theorem dX11_seatsGuest_145 : decode cX11_seatsGuest 145 = .ok (.iaload, 1) := by decide +kernel
theorem dX11_seatsGuest_146 : decode cX11_seatsGuest 146 = .ok (.iand, 1) := by decide +kernel
theorem dX11_seatsGuest_147 : decode cX11_seatsGuest 147 = .ok (.ifCond .eq 6, 3) := by decide +kernel
theorem dX11_seatsGuest_150 : decode cX11_seatsGuest 150 = .ok (.goto 43, 3) := by decide +kernel
theorem dX11_seatsGuest_153 : decode cX11_seatsGuest 153 = .ok (.aload_n 0, 1) := by decide +kernel
theorem dX11_seatsGuest_154 : decode cX11_seatsGuest 154 = .ok (.getfield 135, 3) := by decide +kernel
theorem dX11_seatsGuest_157 : decode cX11_seatsGuest 157 = .ok (.iload_n 2, 1) := by decide +kernel
theorem dX11_seatsGuest_158 : decode cX11_seatsGuest 158 = .ok (.dup2, 1) := by decide +kernel
theorem dX11_seatsGuest_159 : decode cX11_seatsGuest 159 = .ok (.iaload, 1) := by decide +kernel
theorem dX11_seatsGuest_160 : decode cX11_seatsGuest 160 = .ok (.iconst 1, 1) := by decide +kernel
theorem dX11_seatsGuest_161 : decode cX11_seatsGuest 161 = .ok (.iload_n 1, 1) := by decide +kernel
theorem dX11_seatsGuest_162 : decode cX11_seatsGuest 162 = .ok (.ishl, 1) := by decide +kernel
theorem dX11_seatsGuest_163 : decode cX11_seatsGuest 163 = .ok (.ior, 1) := by decide +kernel
theorem dX11_seatsGuest_164 : decode cX11_seatsGuest 164 = .ok (.iastore, 1) := by decide +kernel
theorem dX11_seatsGuest_165 : decode cX11_seatsGuest 165 = .ok (.aload_n 0, 1) := by decide +kernel
theorem dX11_seatsGuest_166 : decode cX11_seatsGuest 166 = .ok (.getfield 153, 3) := by decide +kernel
theorem dX11_seatsGuest_169 : decode cX11_seatsGuest 169 = .ok (.iload_n 1, 1) := by decide +kernel
theorem dX11_seatsGuest_170 : decode cX11_seatsGuest 170 = .ok (.iload_n 2, 1) := by decide +kernel
theorem dX11_seatsGuest_171 : decode cX11_seatsGuest 171 = .ok (.iastore, 1) := by decide +kernel
theorem dX11_seatsGuest_172 : decode cX11_seatsGuest 172 = .ok (.aload_n 0, 1) := by decide +kernel
theorem dX11_seatsGuest_173 : decode cX11_seatsGuest 173 = .ok (.iload_n 1, 1) := by decide +kernel
theorem dX11_seatsGuest_174 : decode cX11_seatsGuest 174 = .ok (.iconst 1, 1) := by decide +kernel
theorem dX11_seatsGuest_175 : decode cX11_seatsGuest 175 = .ok (.iadd, 1) := by decide +kernel
theorem dX11_seatsGuest_176 : decode cX11_seatsGuest 176 = .ok (.invokevirtual 517, 3) := by decide +kernel
theorem dX11_seatsGuest_179 : decode cX11_seatsGuest 179 = .ok (.aload_n 0, 1) := by decide +kernel
theorem dX11_seatsGuest_180 : decode cX11_seatsGuest 180 = .ok (.getfield 135, 3) := by decide +kernel
theorem dX11_seatsGuest_183 : decode cX11_seatsGuest 183 = .ok (.iload_n 2, 1) := by decide +kernel
theorem dX11_seatsGuest_184 : decode cX11_seatsGuest 184 = .ok (.dup2, 1) := by decide +kernel
theorem dX11_seatsGuest_185 : decode cX11_seatsGuest 185 = .ok (.iaload, 1) := by decide +kernel
theorem dX11_seatsGuest_186 : decode cX11_seatsGuest 186 = .ok (.iconst 1, 1) := by decide +kernel
theorem dX11_seatsGuest_187 : decode cX11_seatsGuest 187 = .ok (.iload_n 1, 1) := by decide +kernel
theorem dX11_seatsGuest_188 : decode cX11_seatsGuest 188 = .ok (.ishl, 1) := by decide +kernel
theorem dX11_seatsGuest_189 : decode cX11_seatsGuest 189 = .ok (.iconst (-1), 1) := by decide +kernel
theorem dX11_seatsGuest_190 : decode cX11_seatsGuest 190 = .ok (.ixor, 1) := by decide +kernel
theorem dX11_seatsGuest_191 : decode cX11_seatsGuest 191 = .ok (.iand, 1) := by decide +kernel
theorem dX11_seatsGuest_192 : decode cX11_seatsGuest 192 = .ok (.iastore, 1) := by decide +kernel
theorem dX11_seatsGuest_193 : decode cX11_seatsGuest 193 = .ok (.iinc 2 1, 3) := by decide +kernel
theorem dX11_seatsGuest_196 : decode cX11_seatsGuest 196 = .ok (.goto (-72), 3) := by decide +kernel
theorem dX11_seatsGuest_199 : decode cX11_seatsGuest 199 = .ok (.return_, 1) := by decide +kernel
theorem dX11_show_0 : decode cX11_show 0 = .ok (.aload_n 0, 1) := by decide +kernel
theorem dX11_show_1 : decode cX11_show 1 = .ok (.iconst 0, 1) := by decide +kernel
theorem dX11_show_2 : decode cX11_show 2 = .ok (.putfield 187, 3) := by decide +kernel
theorem dX11_show_5 : decode cX11_show 5 = .ok (.iload_n 1, 1) := by decide +kernel
theorem dX11_show_6 : decode cX11_show 6 = .ok (.iconst 0, 1) := by decide +kernel
theorem dX11_show_7 : decode cX11_show 7 = .ok (.iconst 1, 1) := by decide +kernel
theorem dX11_show_8 : decode cX11_show 8 = .ok (.aload_n 0, 1) := by decide +kernel
theorem dX11_show_9 : decode cX11_show 9 = .ok (.getfield 13, 3) := by decide +kernel
theorem dX11_show_12 : decode cX11_show 12 = .ok (.iconst 1, 1) := by decide +kernel
theorem dX11_show_13 : decode cX11_show 13 = .ok (.iaload, 1) := by decide +kernel
theorem dX11_show_14 : decode cX11_show 14 = .ok (.iadd, 1) := by decide +kernel
theorem dX11_show_15 : decode cX11_show 15 = .ok (.invokestatic 326, 3) := by decide +kernel
theorem dX11_show_18 : decode cX11_show 18 = .ok (.ifCond .ne 5, 3) := by decide +kernel
theorem dX11_show_21 : decode cX11_show 21 = .ok (.iconst (-1), 1) := by decide +kernel
theorem dX11_show_22 : decode cX11_show 22 = .ok (.ireturn, 1) := by decide +kernel
theorem dX11_show_23 : decode cX11_show 23 = .ok (.aload_n 0, 1) := by decide +kernel
theorem dX11_show_24 : decode cX11_show 24 = .ok (.invokevirtual 461, 3) := by decide +kernel
theorem dX11_show_27 : decode cX11_show 27 = .ok (.iconst 0, 1) := by decide +kernel
theorem dX11_show_28 : decode cX11_show 28 = .ok (.istore_n 2, 1) := by decide +kernel
theorem dX11_show_29 : decode cX11_show 29 = .ok (.iload_n 2, 1) := by decide +kernel
theorem dX11_show_30 : decode cX11_show 30 = .ok (.bipush 6, 2) := by decide +kernel
theorem dX11_show_32 : decode cX11_show 32 = .ok (.if_icmp .ge 16, 3) := by decide +kernel
theorem dX11_show_35 : decode cX11_show 35 = .ok (.aload_n 0, 1) := by decide +kernel
theorem dX11_show_36 : decode cX11_show 36 = .ok (.getfield 135, 3) := by decide +kernel
theorem dX11_show_39 : decode cX11_show 39 = .ok (.iload_n 2, 1) := by decide +kernel
theorem dX11_show_40 : decode cX11_show 40 = .ok (.iconst 0, 1) := by decide +kernel
theorem dX11_show_41 : decode cX11_show 41 = .ok (.iastore, 1) := by decide +kernel
theorem dX11_show_42 : decode cX11_show 42 = .ok (.iinc 2 1, 3) := by decide +kernel
theorem dX11_show_45 : decode cX11_show 45 = .ok (.goto (-16), 3) := by decide +kernel
theorem dX11_show_48 : decode cX11_show 48 = .ok (.aload_n 0, 1) := by decide +kernel
theorem dX11_show_49 : decode cX11_show 49 = .ok (.iconst (-1), 1) := by decide +kernel
theorem dX11_show_50 : decode cX11_show 50 = .ok (.putfield 511, 3) := by decide +kernel
theorem dX11_show_53 : decode cX11_show 53 = .ok (.aload_n 0, 1) := by decide +kernel
theorem dX11_show_54 : decode cX11_show 54 = .ok (.iconst 0, 1) := by decide +kernel
theorem dX11_show_55 : decode cX11_show 55 = .ok (.putfield 514, 3) := by decide +kernel
theorem dX11_show_58 : decode cX11_show 58 = .ok (.aload_n 0, 1) := by decide +kernel
theorem dX11_show_59 : decode cX11_show 59 = .ok (.iconst 0, 1) := by decide +kernel
theorem dX11_show_60 : decode cX11_show 60 = .ok (.invokevirtual 517, 3) := by decide +kernel
theorem dX11_show_63 : decode cX11_show 63 = .ok (.aload_n 0, 1) := by decide +kernel
theorem dX11_show_64 : decode cX11_show 64 = .ok (.getfield 511, 3) := by decide +kernel
theorem dX11_show_67 : decode cX11_show 67 = .ok (.ifCond .ge 5, 3) := by decide +kernel
theorem dX11_show_70 : decode cX11_show 70 = .ok (.iconst (-1), 1) := by decide +kernel
theorem dX11_show_71 : decode cX11_show 71 = .ok (.ireturn, 1) := by decide +kernel
theorem dX11_show_72 : decode cX11_show 72 = .ok (.iload_n 1, 1) := by decide +kernel
theorem dX11_show_73 : decode cX11_show 73 = .ok (.ifCond .ne 10, 3) := by decide +kernel
theorem dX11_show_76 : decode cX11_show 76 = .ok (.aload_n 0, 1) := by decide +kernel
theorem dX11_show_77 : decode cX11_show 77 = .ok (.getfield 511, 3) := by decide +kernel
theorem dX11_show_80 : decode cX11_show 80 = .ok (.goto 23, 3) := by decide +kernel
theorem dX11_show_83 : decode cX11_show 83 = .ok (.iload_n 1, 1) := by decide +kernel
theorem dX11_show_84 : decode cX11_show 84 = .ok (.iconst 1, 1) := by decide +kernel
theorem dX11_show_85 : decode cX11_show 85 = .ok (.if_icmp .ne 10, 3) := by decide +kernel
theorem dX11_show_88 : decode cX11_show 88 = .ok (.aload_n 0, 1) := by decide +kernel
theorem dX11_show_89 : decode cX11_show 89 = .ok (.getfield 514, 3) := by decide +kernel
theorem dX11_show_92 : decode cX11_show 92 = .ok (.goto 11, 3) := by decide +kernel
theorem dX11_show_95 : decode cX11_show 95 = .ok (.aload_n 0, 1) := by decide +kernel
theorem dX11_show_96 : decode cX11_show 96 = .ok (.getfield 156, 3) := by decide +kernel
theorem dX11_show_99 : decode cX11_show 99 = .ok (.iload_n 1, 1) := by decide +kernel
theorem dX11_show_100 : decode cX11_show 100 = .ok (.iconst 2, 1) := by decide +kernel
theorem dX11_show_101 : decode cX11_show 101 = .ok (.isub, 1) := by decide +kernel
theorem dX11_show_102 : decode cX11_show 102 = .ok (.iaload, 1) := by decide +kernel
theorem dX11_show_103 : decode cX11_show 103 = .ok (.ireturn, 1) := by decide +kernel
theorem dX11_choiceOf_0 : decode cX11_choiceOf 0 = .ok (.iconst (-1), 1) := by decide +kernel
theorem dX11_choiceOf_1 : decode cX11_choiceOf 1 = .ok (.istore_n 2, 1) := by decide +kernel
theorem dX11_choiceOf_2 : decode cX11_choiceOf 2 = .ok (.iconst 0, 1) := by decide +kernel
theorem dX11_choiceOf_3 : decode cX11_choiceOf 3 = .ok (.istore_n 3, 1) := by decide +kernel
theorem dX11_choiceOf_4 : decode cX11_choiceOf 4 = .ok (.iconst 0, 1) := by decide +kernel
theorem dX11_choiceOf_5 : decode cX11_choiceOf 5 = .ok (.istore 4, 2) := by decide +kernel
theorem dX11_choiceOf_7 : decode cX11_choiceOf 7 = .ok (.iload 4, 2) := by decide +kernel
theorem dX11_choiceOf_9 : decode cX11_choiceOf 9 = .ok (.aload_n 0, 1) := by decide +kernel
theorem dX11_choiceOf_10 : decode cX11_choiceOf 10 = .ok (.getfield 13, 3) := by decide +kernel
theorem dX11_choiceOf_13 : decode cX11_choiceOf 13 = .ok (.iconst 0, 1) := by decide +kernel
theorem dX11_choiceOf_14 : decode cX11_choiceOf 14 = .ok (.iaload, 1) := by decide +kernel
theorem dX11_choiceOf_15 : decode cX11_choiceOf 15 = .ok (.if_icmp .ge 51, 3) := by decide +kernel
theorem dX11_choiceOf_18 : decode cX11_choiceOf 18 = .ok (.aload_n 0, 1) := by decide +kernel
theorem dX11_choiceOf_19 : decode cX11_choiceOf 19 = .ok (.getfield 26, 3) := by decide +kernel
theorem dX11_choiceOf_22 : decode cX11_choiceOf 22 = .ok (.iload 4, 2) := by decide +kernel
theorem dX11_choiceOf_24 : decode cX11_choiceOf 24 = .ok (.iaload, 1) := by decide +kernel
theorem dX11_choiceOf_25 : decode cX11_choiceOf 25 = .ok (.ifCond .ne 7, 3) := by decide +kernel
theorem dX11_choiceOf_28 : decode cX11_choiceOf 28 = .ok (.iconst 0, 1) := by decide +kernel
theorem dX11_choiceOf_29 : decode cX11_choiceOf 29 = .ok (.goto 14, 3) := by decide +kernel
theorem dX11_choiceOf_32 : decode cX11_choiceOf 32 = .ok (.aload_n 0, 1) := by decide +kernel
theorem dX11_choiceOf_33 : decode cX11_choiceOf 33 = .ok (.iload_n 1, 1) := by decide +kernel
theorem dX11_choiceOf_34 : decode cX11_choiceOf 34 = .ok (.aload_n 0, 1) := by decide +kernel
theorem dX11_choiceOf_35 : decode cX11_choiceOf 35 = .ok (.iload 4, 2) := by decide +kernel
theorem dX11_choiceOf_37 : decode cX11_choiceOf 37 = .ok (.invokevirtual 458, 3) := by decide +kernel
theorem dX11_choiceOf_40 : decode cX11_choiceOf 40 = .ok (.invokevirtual 449, 3) := by decide +kernel
theorem dX11_choiceOf_43 : decode cX11_choiceOf 43 = .ok (.istore 5, 2) := by decide +kernel
theorem dX11_choiceOf_45 : decode cX11_choiceOf 45 = .ok (.iload 5, 2) := by decide +kernel
theorem dX11_choiceOf_47 : decode cX11_choiceOf 47 = .ok (.iload_n 3, 1) := by decide +kernel
theorem dX11_choiceOf_48 : decode cX11_choiceOf 48 = .ok (.if_icmp .gt 6, 3) := by decide +kernel
theorem dX11_choiceOf_51 : decode cX11_choiceOf 51 = .ok (.goto 9, 3) := by decide +kernel
theorem dX11_choiceOf_54 : decode cX11_choiceOf 54 = .ok (.iload 4, 2) := by decide +kernel
theorem dX11_choiceOf_56 : decode cX11_choiceOf 56 = .ok (.istore_n 2, 1) := by decide +kernel
theorem dX11_choiceOf_57 : decode cX11_choiceOf 57 = .ok (.iload 5, 2) := by decide +kernel
theorem dX11_choiceOf_59 : decode cX11_choiceOf 59 = .ok (.istore_n 3, 1) := by decide +kernel
theorem dX11_choiceOf_60 : decode cX11_choiceOf 60 = .ok (.iinc 4 1, 3) := by decide +kernel
theorem dX11_choiceOf_63 : decode cX11_choiceOf 63 = .ok (.goto (-56), 3) := by decide +kernel
theorem dX11_choiceOf_66 : decode cX11_choiceOf 66 = .ok (.iload_n 2, 1) := by decide +kernel
theorem dX11_choiceOf_67 : decode cX11_choiceOf 67 = .ok (.ireturn, 1) := by decide +kernel
theorem dX11_tell_0 : decode cX11_tell 0 = .ok (.aload_n 0, 1) := by decide +kernel
theorem dX11_tell_1 : decode cX11_tell 1 = .ok (.iconst 0, 1) := by decide +kernel
theorem dX11_tell_2 : decode cX11_tell 2 = .ok (.putfield 187, 3) := by decide +kernel
theorem dX11_tell_5 : decode cX11_tell 5 = .ok (.iload_n 1, 1) := by decide +kernel
theorem dX11_tell_6 : decode cX11_tell 6 = .ok (.iconst (-1), 1) := by decide +kernel
theorem dX11_tell_7 : decode cX11_tell 7 = .ok (.if_icmp .eq 20, 3) := by decide +kernel
theorem dX11_tell_10 : decode cX11_tell 10 = .ok (.aload_n 0, 1) := by decide +kernel
theorem dX11_tell_11 : decode cX11_tell 11 = .ok (.iload_n 1, 1) := by decide +kernel
theorem dX11_tell_12 : decode cX11_tell 12 = .ok (.invokevirtual 476, 3) := by decide +kernel
theorem dX11_tell_15 : decode cX11_tell 15 = .ok (.ifCond .eq 23, 3) := by decide +kernel
theorem dX11_tell_18 : decode cX11_tell 18 = .ok (.aload_n 0, 1) := by decide +kernel
theorem dX11_tell_19 : decode cX11_tell 19 = .ok (.getfield 26, 3) := by decide +kernel
theorem dX11_tell_22 : decode cX11_tell 22 = .ok (.iload_n 1, 1) := by decide +kernel
theorem dX11_tell_23 : decode cX11_tell 23 = .ok (.iaload, 1) := by decide +kernel
theorem dX11_tell_24 : decode cX11_tell 24 = .ok (.ifCond .eq 14, 3) := by decide +kernel
theorem dX11_tell_27 : decode cX11_tell 27 = .ok (.aload_n 0, 1) := by decide +kernel
theorem dX11_tell_28 : decode cX11_tell 28 = .ok (.getfield 108, 3) := by decide +kernel
theorem dX11_tell_31 : decode cX11_tell 31 = .ok (.iconst 0, 1) := by decide +kernel
theorem dX11_tell_32 : decode cX11_tell 32 = .ok (.iaload, 1) := by decide +kernel
theorem dX11_tell_33 : decode cX11_tell 33 = .ok (.bipush 8, 2) := by decide +kernel
theorem dX11_tell_35 : decode cX11_tell 35 = .ok (.if_icmp .ne 5, 3) := by decide +kernel
theorem dX11_tell_38 : decode cX11_tell 38 = .ok (.iconst 0, 1) := by decide +kernel
theorem dX11_tell_39 : decode cX11_tell 39 = .ok (.ireturn, 1) := by decide +kernel
theorem dX11_tell_40 : decode cX11_tell 40 = .ok (.iconst 0, 1) := by decide +kernel
theorem dX11_tell_41 : decode cX11_tell 41 = .ok (.istore_n 2, 1) := by decide +kernel
theorem dX11_tell_42 : decode cX11_tell 42 = .ok (.iload_n 2, 1) := by decide +kernel
theorem dX11_tell_43 : decode cX11_tell 43 = .ok (.bipush 16, 2) := by decide +kernel
theorem dX11_tell_45 : decode cX11_tell 45 = .ok (.if_icmp .ge 32, 3) := by decide +kernel
theorem dX11_tell_48 : decode cX11_tell 48 = .ok (.aload_n 0, 1) := by decide +kernel
theorem dX11_tell_49 : decode cX11_tell 49 = .ok (.iload_n 2, 1) := by decide +kernel
theorem dX11_tell_50 : decode cX11_tell 50 = .ok (.invokevirtual 520, 3) := by decide +kernel
theorem dX11_tell_53 : decode cX11_tell 53 = .ok (.iload_n 1, 1) := by decide +kernel
theorem dX11_tell_54 : decode cX11_tell 54 = .ok (.if_icmp .eq 17, 3) := by decide +kernel
theorem dX11_tell_57 : decode cX11_tell 57 = .ok (.aload_n 0, 1) := by decide +kernel
theorem dX11_tell_58 : decode cX11_tell 58 = .ok (.getfield 111, 3) := by decide +kernel
theorem dX11_tell_61 : decode cX11_tell 61 = .ok (.iconst 0, 1) := by decide +kernel
theorem dX11_tell_62 : decode cX11_tell 62 = .ok (.dup2, 1) := by decide +kernel
theorem dX11_tell_63 : decode cX11_tell 63 = .ok (.iaload, 1) := by decide +kernel
theorem dX11_tell_64 : decode cX11_tell 64 = .ok (.iconst 1, 1) := by decide +kernel
theorem dX11_tell_65 : decode cX11_tell 65 = .ok (.iload_n 2, 1) := by decide +kernel
theorem dX11_tell_66 : decode cX11_tell 66 = .ok (.ishl, 1) := by decide +kernel
theorem dX11_tell_67 : decode cX11_tell 67 = .ok (.iconst (-1), 1) := by decide +kernel
theorem dX11_tell_68 : decode cX11_tell 68 = .ok (.ixor, 1) := by decide +kernel
theorem dX11_tell_69 : decode cX11_tell 69 = .ok (.iand, 1) := by decide +kernel
theorem dX11_tell_70 : decode cX11_tell 70 = .ok (.iastore, 1) := by decide +kernel
theorem dX11_tell_71 : decode cX11_tell 71 = .ok (.iinc 2 1, 3) := by decide +kernel
theorem dX11_tell_74 : decode cX11_tell 74 = .ok (.goto (-32), 3) := by decide +kernel
theorem dX11_tell_77 : decode cX11_tell 77 = .ok (.aload_n 0, 1) := by decide +kernel
theorem dX11_tell_78 : decode cX11_tell 78 = .ok (.getfield 108, 3) := by decide +kernel
theorem dX11_tell_81 : decode cX11_tell 81 = .ok (.iconst 0, 1) := by decide +kernel
theorem dX11_tell_82 : decode cX11_tell 82 = .ok (.dup2, 1) := by decide +kernel
theorem dX11_tell_83 : decode cX11_tell 83 = .ok (.iaload, 1) := by decide +kernel
theorem dX11_tell_84 : decode cX11_tell 84 = .ok (.iconst 1, 1) := by decide +kernel
theorem dX11_tell_85 : decode cX11_tell 85 = .ok (.iadd, 1) := by decide +kernel
theorem dX11_tell_86 : decode cX11_tell 86 = .ok (.iastore, 1) := by decide +kernel
theorem dX11_tell_87 : decode cX11_tell 87 = .ok (.iconst 1, 1) := by decide +kernel
theorem dX11_tell_88 : decode cX11_tell 88 = .ok (.ireturn, 1) := by decide +kernel
theorem dX11_isFit_0 : decode cX11_isFit 0 = .ok (.aload_n 0, 1) := by decide +kernel
theorem dX11_isFit_1 : decode cX11_isFit 1 = .ok (.getfield 111, 3) := by decide +kernel
theorem dX11_isFit_4 : decode cX11_isFit 4 = .ok (.iconst 0, 1) := by decide +kernel
theorem dX11_isFit_5 : decode cX11_isFit 5 = .ok (.iaload, 1) := by decide +kernel
theorem dX11_isFit_6 : decode cX11_isFit 6 = .ok (.iload_n 1, 1) := by decide +kernel
theorem dX11_isFit_7 : decode cX11_isFit 7 = .ok (.ishr, 1) := by decide +kernel
theorem dX11_isFit_8 : decode cX11_isFit 8 = .ok (.iconst 1, 1) := by decide +kernel
theorem dX11_isFit_9 : decode cX11_isFit 9 = .ok (.iand, 1) := by decide +kernel
theorem dX11_isFit_10 : decode cX11_isFit 10 = .ok (.iconst 1, 1) := by decide +kernel
theorem dX11_isFit_11 : decode cX11_isFit 11 = .ok (.if_icmp .ne 7, 3) := by decide +kernel
theorem dX11_isFit_14 : decode cX11_isFit 14 = .ok (.iconst 1, 1) := by decide +kernel
theorem dX11_isFit_15 : decode cX11_isFit 15 = .ok (.goto 4, 3) := by decide +kernel
theorem dX11_isFit_18 : decode cX11_isFit 18 = .ok (.iconst 0, 1) := by decide +kernel
theorem dX11_isFit_19 : decode cX11_isFit 19 = .ok (.ireturn, 1) := by decide +kernel
theorem dX11_sets_0 : decode cX11_sets 0 = .ok (.aload_n 0, 1) := by decide +kernel
theorem dX11_sets_1 : decode cX11_sets 1 = .ok (.iconst 0, 1) := by decide +kernel
theorem dX11_sets_2 : decode cX11_sets 2 = .ok (.putfield 187, 3) := by decide +kernel
theorem dX11_sets_5 : decode cX11_sets 5 = .ok (.iload_n 1, 1) := by decide +kernel
theorem dX11_sets_6 : decode cX11_sets 6 = .ok (.iconst 0, 1) := by decide +kernel
theorem dX11_sets_7 : decode cX11_sets 7 = .ok (.iconst 3, 1) := by decide +kernel
theorem dX11_sets_8 : decode cX11_sets 8 = .ok (.invokestatic 326, 3) := by decide +kernel
theorem dX11_sets_11 : decode cX11_sets 11 = .ok (.ifCond .ne 5, 3) := by decide +kernel
theorem dX11_sets_14 : decode cX11_sets 14 = .ok (.iconst (-1), 1) := by decide +kernel
theorem dX11_sets_15 : decode cX11_sets 15 = .ok (.ireturn, 1) := by decide +kernel
theorem dX11_sets_16 : decode cX11_sets 16 = .ok (.iconst 0, 1) := by decide +kernel
theorem dX11_sets_17 : decode cX11_sets 17 = .ok (.istore_n 2, 1) := by decide +kernel
theorem dX11_sets_18 : decode cX11_sets 18 = .ok (.bipush 15, 2) := by decide +kernel
theorem dX11_sets_20 : decode cX11_sets 20 = .ok (.istore_n 3, 1) := by decide +kernel
theorem dX11_sets_21 : decode cX11_sets 21 = .ok (.iconst 0, 1) := by decide +kernel
theorem dX11_sets_22 : decode cX11_sets 22 = .ok (.istore 4, 2) := by decide +kernel
theorem dX11_sets_24 : decode cX11_sets 24 = .ok (.iconst (-1), 1) := by decide +kernel
theorem dX11_sets_25 : decode cX11_sets 25 = .ok (.istore 5, 2) := by decide +kernel
theorem dX11_sets_27 : decode cX11_sets 27 = .ok (.iconst 0, 1) := by decide +kernel
theorem dX11_sets_28 : decode cX11_sets 28 = .ok (.istore 6, 2) := by decide +kernel
theorem dX11_sets_30 : decode cX11_sets 30 = .ok (.iload 6, 2) := by decide +kernel
theorem dX11_sets_32 : decode cX11_sets 32 = .ok (.bipush 16, 2) := by decide +kernel
theorem dX11_sets_34 : decode cX11_sets 34 = .ok (.if_icmp .ge 58, 3) := by decide +kernel
theorem dX11_sets_37 : decode cX11_sets 37 = .ok (.aload_n 0, 1) := by decide +kernel
theorem dX11_sets_38 : decode cX11_sets 38 = .ok (.iload 6, 2) := by decide +kernel
theorem dX11_sets_40 : decode cX11_sets 40 = .ok (.invokevirtual 523, 3) := by decide +kernel
theorem dX11_sets_43 : decode cX11_sets 43 = .ok (.ifCond .ne 6, 3) := by decide +kernel
theorem dX11_sets_46 : decode cX11_sets 46 = .ok (.goto 40, 3) := by decide +kernel
theorem dX11_sets_49 : decode cX11_sets 49 = .ok (.iinc 2 1, 3) := by decide +kernel
theorem dX11_sets_52 : decode cX11_sets 52 = .ok (.iload_n 3, 1) := by decide +kernel
theorem dX11_sets_53 : decode cX11_sets 53 = .ok (.iload 6, 2) := by decide +kernel
theorem dX11_sets_55 : decode cX11_sets 55 = .ok (.iand, 1) := by decide +kernel
theorem dX11_sets_56 : decode cX11_sets 56 = .ok (.istore_n 3, 1) := by decide +kernel
theorem dX11_sets_57 : decode cX11_sets 57 = .ok (.iload 4, 2) := by decide +kernel
theorem dX11_sets_59 : decode cX11_sets 59 = .ok (.iload 6, 2) := by decide +kernel
theorem dX11_sets_61 : decode cX11_sets 61 = .ok (.ior, 1) := by decide +kernel
theorem dX11_sets_62 : decode cX11_sets 62 = .ok (.istore 4, 2) := by decide +kernel
theorem dX11_sets_64 : decode cX11_sets 64 = .ok (.iload 5, 2) := by decide +kernel
theorem dX11_sets_66 : decode cX11_sets 66 = .ok (.ifCond .lt 16, 3) := by decide +kernel
theorem dX11_sets_69 : decode cX11_sets 69 = .ok (.iload 6, 2) := by decide +kernel
theorem dX11_sets_71 : decode cX11_sets 71 = .ok (.invokestatic 439, 3) := by decide +kernel
theorem dX11_sets_74 : decode cX11_sets 74 = .ok (.iload 5, 2) := by decide +kernel
theorem dX11_sets_76 : decode cX11_sets 76 = .ok (.invokestatic 439, 3) := by decide +kernel
theorem dX11_sets_79 : decode cX11_sets 79 = .ok (.if_icmp .ge 7, 3) := by decide +kernel
theorem dX11_sets_82 : decode cX11_sets 82 = .ok (.iload 6, 2) := by decide +kernel
theorem dX11_sets_84 : decode cX11_sets 84 = .ok (.istore 5, 2) := by decide +kernel
theorem dX11_sets_86 : decode cX11_sets 86 = .ok (.iinc 6 1, 3) := by decide +kernel
theorem dX11_sets_89 : decode cX11_sets 89 = .ok (.goto (-59), 3) := by decide +kernel
theorem dX11_sets_92 : decode cX11_sets 92 = .ok (.iload_n 2, 1) := by decide +kernel
theorem dX11_sets_93 : decode cX11_sets 93 = .ok (.ifCond .eq 7, 3) := by decide +kernel
theorem dX11_sets_96 : decode cX11_sets 96 = .ok (.iload_n 1, 1) := by decide +kernel
theorem dX11_sets_97 : decode cX11_sets 97 = .ok (.ifCond .ne 13, 3) := by decide +kernel
theorem dX11_sets_100 : decode cX11_sets 100 = .ok (.iload_n 1, 1) := by decide +kernel
theorem dX11_sets_101 : decode cX11_sets 101 = .ok (.ifCond .ne 7, 3) := by decide +kernel
theorem dX11_sets_104 : decode cX11_sets 104 = .ok (.iload_n 2, 1) := by decide +kernel
theorem dX11_sets_105 : decode cX11_sets 105 = .ok (.goto 4, 3) := by decide +kernel
theorem dX11_sets_108 : decode cX11_sets 108 = .ok (.iconst (-1), 1) := by decide +kernel
theorem dX11_sets_109 : decode cX11_sets 109 = .ok (.ireturn, 1) := by decide +kernel
theorem dX11_sets_110 : decode cX11_sets 110 = .ok (.iload_n 1, 1) := by decide +kernel
theorem dX11_sets_111 : decode cX11_sets 111 = .ok (.iconst 1, 1) := by decide +kernel
theorem dX11_sets_112 : decode cX11_sets 112 = .ok (.if_icmp .ne 7, 3) := by decide +kernel
theorem dX11_sets_115 : decode cX11_sets 115 = .ok (.iload_n 3, 1) := by decide +kernel
theorem dX11_sets_116 : decode cX11_sets 116 = .ok (.goto 15, 3) := by decide +kernel
theorem dX11_sets_119 : decode cX11_sets 119 = .ok (.iload_n 1, 1) := by decide +kernel
theorem dX11_sets_120 : decode cX11_sets 120 = .ok (.iconst 2, 1) := by decide +kernel
theorem dX11_sets_121 : decode cX11_sets 121 = .ok (.if_icmp .ne 8, 3) := by decide +kernel
theorem dX11_sets_124 : decode cX11_sets 124 = .ok (.iload 4, 2) := by decide +kernel
theorem dX11_sets_126 : decode cX11_sets 126 = .ok (.goto 5, 3) := by decide +kernel
theorem dX11_sets_129 : decode cX11_sets 129 = .ok (.iload 5, 2) := by decide +kernel
theorem dX11_sets_131 : decode cX11_sets 131 = .ok (.ireturn, 1) := by decide +kernel
theorem dX11_next_0 : decode cX11_next 0 = .ok (.aload_n 0, 1) := by decide +kernel
theorem dX11_next_1 : decode cX11_next 1 = .ok (.iconst 0, 1) := by decide +kernel
theorem dX11_next_2 : decode cX11_next 2 = .ok (.putfield 187, 3) := by decide +kernel
theorem dX11_next_5 : decode cX11_next 5 = .ok (.aload_n 0, 1) := by decide +kernel
theorem dX11_next_6 : decode cX11_next 6 = .ok (.getfield 111, 3) := by decide +kernel
theorem dX11_next_9 : decode cX11_next 9 = .ok (.iconst 0, 1) := by decide +kernel
theorem dX11_next_10 : decode cX11_next 10 = .ok (.iaload, 1) := by decide +kernel
theorem dX11_next_11 : decode cX11_next 11 = .ok (.invokestatic 439, 3) := by decide +kernel
theorem dX11_next_14 : decode cX11_next 14 = .ok (.istore_n 1, 1) := by decide +kernel
theorem dX11_next_15 : decode cX11_next 15 = .ok (.iconst (-1), 1) := by decide +kernel
theorem dX11_next_16 : decode cX11_next 16 = .ok (.istore_n 2, 1) := by decide +kernel
theorem dX11_next_17 : decode cX11_next 17 = .ok (.iload_n 1, 1) := by decide +kernel
theorem dX11_next_18 : decode cX11_next 18 = .ok (.istore_n 3, 1) := by decide +kernel
theorem dX11_next_19 : decode cX11_next 19 = .ok (.iconst 0, 1) := by decide +kernel
theorem dX11_next_20 : decode cX11_next 20 = .ok (.istore 4, 2) := by decide +kernel
theorem dX11_next_22 : decode cX11_next 22 = .ok (.iload 4, 2) := by decide +kernel
theorem dX11_next_24 : decode cX11_next 24 = .ok (.aload_n 0, 1) := by decide +kernel
theorem dX11_next_25 : decode cX11_next 25 = .ok (.getfield 13, 3) := by decide +kernel
theorem dX11_next_28 : decode cX11_next 28 = .ok (.iconst 1, 1) := by decide +kernel
theorem dX11_next_29 : decode cX11_next 29 = .ok (.iaload, 1) := by decide +kernel
theorem dX11_next_30 : decode cX11_next 30 = .ok (.if_icmp .ge 104, 3) := by decide +kernel
theorem dX11_next_33 : decode cX11_next 33 = .ok (.iconst 0, 1) := by decide +kernel
theorem dX11_next_34 : decode cX11_next 34 = .ok (.istore 5, 2) := by decide +kernel
theorem dX11_next_36 : decode cX11_next 36 = .ok (.iconst 0, 1) := by decide +kernel
theorem dX11_next_37 : decode cX11_next 37 = .ok (.istore 6, 2) := by decide +kernel
theorem dX11_next_39 : decode cX11_next 39 = .ok (.iload 6, 2) := by decide +kernel
theorem dX11_next_41 : decode cX11_next 41 = .ok (.bipush 16, 2) := by decide +kernel
theorem dX11_next_43 : decode cX11_next 43 = .ok (.if_icmp .ge 59, 3) := by decide +kernel
theorem dX11_next_46 : decode cX11_next 46 = .ok (.iload 5, 2) := by decide +kernel
theorem dX11_next_48 : decode cX11_next 48 = .ok (.aload_n 0, 1) := by decide +kernel
theorem dX11_next_49 : decode cX11_next 49 = .ok (.iload 6, 2) := by decide +kernel
theorem dX11_next_51 : decode cX11_next 51 = .ok (.invokevirtual 523, 3) := by decide +kernel
theorem dX11_next_54 : decode cX11_next 54 = .ok (.ifCond .eq 38, 3) := by decide +kernel
theorem dX11_next_57 : decode cX11_next 57 = .ok (.aload_n 0, 1) := by decide +kernel
theorem dX11_next_58 : decode cX11_next 58 = .ok (.iload 6, 2) := by decide +kernel
theorem dX11_next_60 : decode cX11_next 60 = .ok (.aload_n 0, 1) := by decide +kernel
theorem dX11_next_61 : decode cX11_next 61 = .ok (.getfield 29, 3) := by decide +kernel
theorem dX11_next_64 : decode cX11_next 64 = .ok (.iload 4, 2) := by decide +kernel
theorem dX11_next_66 : decode cX11_next 66 = .ok (.iaload, 1) := by decide +kernel
theorem dX11_next_67 : decode cX11_next 67 = .ok (.ishr, 1) := by decide +kernel
theorem dX11_next_68 : decode cX11_next 68 = .ok (.iconst 1, 1) := by decide +kernel
theorem dX11_next_69 : decode cX11_next 69 = .ok (.iand, 1) := by decide +kernel
theorem dX11_next_70 : decode cX11_next 70 = .ok (.iconst 1, 1) := by decide +kernel
theorem dX11_next_71 : decode cX11_next 71 = .ok (.if_icmp .ne 7, 3) := by decide +kernel
theorem dX11_next_74 : decode cX11_next 74 = .ok (.iconst 1, 1) := by decide +kernel
theorem dX11_next_75 : decode cX11_next 75 = .ok (.goto 4, 3) := by decide +kernel
theorem dX11_next_78 : decode cX11_next 78 = .ok (.iconst 0, 1) := by decide +kernel
theorem dX11_next_79 : decode cX11_next 79 = .ok (.iload 4, 2) := by decide +kernel
theorem dX11_next_81 : decode cX11_next 81 = .ok (.iconst 0, 1) := by decide +kernel
theorem dX11_next_82 : decode cX11_next 82 = .ok (.invokevirtual 442, 3) := by decide +kernel
theorem dX11_next_85 : decode cX11_next 85 = .ok (.ifCond .le 7, 3) := by decide +kernel
theorem dX11_next_88 : decode cX11_next 88 = .ok (.iconst 1, 1) := by decide +kernel
theorem dX11_next_89 : decode cX11_next 89 = .ok (.goto 4, 3) := by decide +kernel
theorem dX11_next_92 : decode cX11_next 92 = .ok (.iconst 0, 1) := by decide +kernel
theorem dX11_next_93 : decode cX11_next 93 = .ok (.iadd, 1) := by decide +kernel
theorem dX11_next_94 : decode cX11_next 94 = .ok (.istore 5, 2) := by decide +kernel
theorem dX11_next_96 : decode cX11_next 96 = .ok (.iinc 6 1, 3) := by decide +kernel
theorem dX11_next_99 : decode cX11_next 99 = .ok (.goto (-60), 3) := by decide +kernel
theorem dX11_next_102 : decode cX11_next 102 = .ok (.iload 5, 2) := by decide +kernel
theorem dX11_next_104 : decode cX11_next 104 = .ok (.iload_n 1, 1) := by decide +kernel
theorem dX11_next_105 : decode cX11_next 105 = .ok (.iload 5, 2) := by decide +kernel
theorem dX11_next_107 : decode cX11_next 107 = .ok (.isub, 1) := by decide +kernel
theorem dX11_next_108 : decode cX11_next 108 = .ok (.invokestatic 526, 3) := by decide +kernel
theorem dX11_next_111 : decode cX11_next 111 = .ok (.istore 6, 2) := by decide +kernel
theorem dX11_next_113 : decode cX11_next 113 = .ok (.iload 6, 2) := by decide +kernel
theorem dX11_next_115 : decode cX11_next 115 = .ok (.iload_n 3, 1) := by decide +kernel
theorem dX11_next_116 : decode cX11_next 116 = .ok (.if_icmp .lt 6, 3) := by decide +kernel
theorem dX11_next_119 : decode cX11_next 119 = .ok (.goto 9, 3) := by decide +kernel
theorem dX11_next_122 : decode cX11_next 122 = .ok (.iload 6, 2) := by decide +kernel
theorem dX11_next_124 : decode cX11_next 124 = .ok (.istore_n 3, 1) := by decide +kernel
theorem dX11_next_125 : decode cX11_next 125 = .ok (.iload 4, 2) := by decide +kernel
theorem dX11_next_127 : decode cX11_next 127 = .ok (.istore_n 2, 1) := by decide +kernel
theorem dX11_next_128 : decode cX11_next 128 = .ok (.iinc 4 1, 3) := by decide +kernel
theorem dX11_next_131 : decode cX11_next 131 = .ok (.goto (-109), 3) := by decide +kernel
theorem dX11_next_134 : decode cX11_next 134 = .ok (.iload_n 2, 1) := by decide +kernel
theorem dX11_next_135 : decode cX11_next 135 = .ok (.ireturn, 1) := by decide +kernel
theorem dX11_parts_0 : decode cX11_parts 0 = .ok (.aload_n 0, 1) := by decide +kernel
theorem dX11_parts_1 : decode cX11_parts 1 = .ok (.getfield 529, 3) := by decide +kernel
theorem dX11_parts_4 : decode cX11_parts 4 = .ok (.ifCond .lt 12, 3) := by decide +kernel
theorem dX11_parts_7 : decode cX11_parts 7 = .ok (.iload_n 2, 1) := by decide +kernel
theorem dX11_parts_8 : decode cX11_parts 8 = .ok (.aload_n 0, 1) := by decide +kernel
theorem dX11_parts_9 : decode cX11_parts 9 = .ok (.getfield 529, 3) := by decide +kernel
theorem dX11_parts_12 : decode cX11_parts 12 = .ok (.if_icmp .lt 4, 3) := by decide +kernel
theorem dX11_parts_15 : decode cX11_parts 15 = .ok (.return_, 1) := by decide +kernel
theorem dX11_parts_16 : decode cX11_parts 16 = .ok (.iload_n 1, 1) := by decide +kernel
theorem dX11_parts_17 : decode cX11_parts 17 = .ok (.aload_n 0, 1) := by decide +kernel
theorem dX11_parts_18 : decode cX11_parts 18 = .ok (.getfield 13, 3) := by decide +kernel
theorem dX11_parts_21 : decode cX11_parts 21 = .ok (.iconst 1, 1) := by decide +kernel
theorem dX11_parts_22 : decode cX11_parts 22 = .ok (.iaload, 1) := by decide +kernel
theorem dX11_parts_23 : decode cX11_parts 23 = .ok (.if_icmp .ne 34, 3) := by decide +kernel
theorem dX11_parts_26 : decode cX11_parts 26 = .ok (.aload_n 0, 1) := by decide +kernel
theorem dX11_parts_27 : decode cX11_parts 27 = .ok (.iload_n 2, 1) := by decide +kernel
theorem dX11_parts_28 : decode cX11_parts 28 = .ok (.putfield 529, 3) := by decide +kernel
theorem dX11_parts_31 : decode cX11_parts 31 = .ok (.iconst 0, 1) := by decide +kernel
theorem dX11_parts_32 : decode cX11_parts 32 = .ok (.istore_n 3, 1) := by decide +kernel
theorem dX11_parts_33 : decode cX11_parts 33 = .ok (.iload_n 3, 1) := by decide +kernel
theorem dX11_parts_34 : decode cX11_parts 34 = .ok (.iload_n 1, 1) := by decide +kernel
theorem dX11_parts_35 : decode cX11_parts 35 = .ok (.if_icmp .ge 21, 3) := by decide +kernel
theorem dX11_parts_38 : decode cX11_parts 38 = .ok (.aload_n 0, 1) := by decide +kernel
theorem dX11_parts_39 : decode cX11_parts 39 = .ok (.getfield 162, 3) := by decide +kernel
theorem dX11_parts_42 : decode cX11_parts 42 = .ok (.iload_n 3, 1) := by decide +kernel
theorem dX11_parts_43 : decode cX11_parts 43 = .ok (.aload_n 0, 1) := by decide +kernel
theorem dX11_parts_44 : decode cX11_parts 44 = .ok (.getfield 159, 3) := by decide +kernel
theorem dX11_parts_47 : decode cX11_parts 47 = .ok (.iload_n 3, 1) := by decide +kernel
theorem dX11_parts_48 : decode cX11_parts 48 = .ok (.iaload, 1) := by decide +kernel
theorem dX11_parts_49 : decode cX11_parts 49 = .ok (.iastore, 1) := by decide +kernel
theorem dX11_parts_50 : decode cX11_parts 50 = .ok (.iinc 3 1, 3) := by decide +kernel
theorem dX11_parts_53 : decode cX11_parts 53 = .ok (.goto (-20), 3) := by decide +kernel
theorem dX11_parts_56 : decode cX11_parts 56 = .ok (.return_, 1) := by decide +kernel
theorem dX11_parts_57 : decode cX11_parts 57 = .ok (.iconst 0, 1) := by decide +kernel
theorem dX11_parts_58 : decode cX11_parts 58 = .ok (.istore_n 3, 1) := by decide +kernel
theorem dX11_parts_59 : decode cX11_parts 59 = .ok (.iload_n 3, 1) := by decide +kernel
theorem dX11_parts_60 : decode cX11_parts 60 = .ok (.iload_n 2, 1) := by decide +kernel
theorem dX11_parts_61 : decode cX11_parts 61 = .ok (.if_icmp .gt 87, 3) := by decide +kernel
theorem dX11_parts_64 : decode cX11_parts 64 = .ok (.iload_n 3, 1) := by decide +kernel
theorem dX11_parts_65 : decode cX11_parts 65 = .ok (.iload_n 2, 1) := by decide +kernel
theorem dX11_parts_66 : decode cX11_parts 66 = .ok (.if_icmp .ne 7, 3) := by decide +kernel
theorem dX11_parts_69 : decode cX11_parts 69 = .ok (.iconst 0, 1) := by decide +kernel
theorem dX11_parts_70 : decode cX11_parts 70 = .ok (.goto 9, 3) := by decide +kernel
theorem dX11_parts_73 : decode cX11_parts 73 = .ok (.aload_n 0, 1) := by decide +kernel
theorem dX11_parts_74 : decode cX11_parts 74 = .ok (.getfield 165, 3) := by decide +kernel
theorem dX11_parts_77 : decode cX11_parts 77 = .ok (.iload_n 3, 1) := by decide +kernel
theorem dX11_parts_78 : decode cX11_parts 78 = .ok (.iaload, 1) := by decide +kernel
theorem dX11_parts_79 : decode cX11_parts 79 = .ok (.istore 4, 2) := by decide +kernel
theorem dX11_parts_81 : decode cX11_parts 81 = .ok (.iload 4, 2) := by decide +kernel
theorem dX11_parts_83 : decode cX11_parts 83 = .ok (.aload_n 0, 1) := by decide +kernel
theorem dX11_parts_84 : decode cX11_parts 84 = .ok (.getfield 47, 3) := by decide +kernel
theorem dX11_parts_87 : decode cX11_parts 87 = .ok (.iload_n 1, 1) := by decide +kernel
theorem dX11_parts_88 : decode cX11_parts 88 = .ok (.iaload, 1) := by decide +kernel
theorem dX11_parts_89 : decode cX11_parts 89 = .ok (.iand, 1) := by decide +kernel
theorem dX11_parts_90 : decode cX11_parts 90 = .ok (.ifCond .eq 6, 3) := by decide +kernel
theorem dX11_parts_93 : decode cX11_parts 93 = .ok (.goto 49, 3) := by decide +kernel
theorem dX11_parts_96 : decode cX11_parts 96 = .ok (.aload_n 0, 1) := by decide +kernel
theorem dX11_parts_97 : decode cX11_parts 97 = .ok (.getfield 165, 3) := by decide +kernel
theorem dX11_parts_100 : decode cX11_parts 100 = .ok (.iload_n 3, 1) := by decide +kernel
theorem dX11_parts_101 : decode cX11_parts 101 = .ok (.iload 4, 2) := by decide +kernel
theorem dX11_parts_103 : decode cX11_parts 103 = .ok (.iconst 1, 1) := by decide +kernel
theorem dX11_parts_104 : decode cX11_parts 104 = .ok (.iload_n 1, 1) := by decide +kernel
theorem dX11_parts_105 : decode cX11_parts 105 = .ok (.ishl, 1) := by decide +kernel
theorem dX11_parts_106 : decode cX11_parts 106 = .ok (.ior, 1) := by decide +kernel
theorem dX11_parts_107 : decode cX11_parts 107 = .ok (.iastore, 1) := by decide +kernel
theorem dX11_parts_108 : decode cX11_parts 108 = .ok (.aload_n 0, 1) := by decide +kernel
theorem dX11_parts_109 : decode cX11_parts 109 = .ok (.getfield 159, 3) := by decide +kernel
theorem dX11_parts_112 : decode cX11_parts 112 = .ok (.iload_n 1, 1) := by decide +kernel
theorem dX11_parts_113 : decode cX11_parts 113 = .ok (.iload_n 3, 1) := by decide +kernel
theorem dX11_parts_114 : decode cX11_parts 114 = .ok (.iastore, 1) := by decide +kernel
theorem dX11_parts_115 : decode cX11_parts 115 = .ok (.aload_n 0, 1) := by decide +kernel
theorem dX11_parts_116 : decode cX11_parts 116 = .ok (.iload_n 1, 1) := by decide +kernel
theorem dX11_parts_117 : decode cX11_parts 117 = .ok (.iconst 1, 1) := by decide +kernel
theorem dX11_parts_118 : decode cX11_parts 118 = .ok (.iadd, 1) := by decide +kernel
theorem dX11_parts_119 : decode cX11_parts 119 = .ok (.iload_n 3, 1) := by decide +kernel
theorem dX11_parts_120 : decode cX11_parts 120 = .ok (.iload_n 2, 1) := by decide +kernel
theorem dX11_parts_121 : decode cX11_parts 121 = .ok (.if_icmp .ne 9, 3) := by decide +kernel
theorem dX11_parts_124 : decode cX11_parts 124 = .ok (.iload_n 2, 1) := by decide +kernel
theorem dX11_parts_125 : decode cX11_parts 125 = .ok (.iconst 1, 1) := by decide +kernel
theorem dX11_parts_126 : decode cX11_parts 126 = .ok (.iadd, 1) := by decide +kernel
theorem dX11_parts_127 : decode cX11_parts 127 = .ok (.goto 4, 3) := by decide +kernel
theorem dX11_parts_130 : decode cX11_parts 130 = .ok (.iload_n 2, 1) := by decide +kernel
theorem dX11_parts_131 : decode cX11_parts 131 = .ok (.invokevirtual 532, 3) := by decide +kernel
theorem dX11_parts_134 : decode cX11_parts 134 = .ok (.aload_n 0, 1) := by decide +kernel
theorem dX11_parts_135 : decode cX11_parts 135 = .ok (.getfield 165, 3) := by decide +kernel
theorem dX11_parts_138 : decode cX11_parts 138 = .ok (.iload_n 3, 1) := by decide +kernel
theorem dX11_parts_139 : decode cX11_parts 139 = .ok (.iload 4, 2) := by decide +kernel
theorem dX11_parts_141 : decode cX11_parts 141 = .ok (.iastore, 1) := by decide +kernel
theorem dX11_parts_142 : decode cX11_parts 142 = .ok (.iinc 3 1, 3) := by decide +kernel
theorem dX11_parts_145 : decode cX11_parts 145 = .ok (.goto (-86), 3) := by decide +kernel
theorem dX11_parts_148 : decode cX11_parts 148 = .ok (.return_, 1) := by decide +kernel
theorem dX11_apart_0 : decode cX11_apart 0 = .ok (.aload_n 0, 1) := by decide +kernel
theorem dX11_apart_1 : decode cX11_apart 1 = .ok (.iconst 0, 1) := by decide +kernel
theorem dX11_apart_2 : decode cX11_apart 2 = .ok (.putfield 187, 3) := by decide +kernel
theorem dX11_apart_5 : decode cX11_apart 5 = .ok (.iload_n 1, 1) := by decide +kernel
theorem dX11_apart_6 : decode cX11_apart 6 = .ok (.iconst (-1), 1) := by decide +kernel
theorem dX11_apart_7 : decode cX11_apart 7 = .ok (.if_icmp .eq 14, 3) := by decide +kernel
theorem dX11_apart_10 : decode cX11_apart 10 = .ok (.aload_n 0, 1) := by decide +kernel
theorem dX11_apart_11 : decode cX11_apart 11 = .ok (.iload_n 1, 1) := by decide +kernel
theorem dX11_apart_12 : decode cX11_apart 12 = .ok (.invokevirtual 479, 3) := by decide +kernel
theorem dX11_apart_15 : decode cX11_apart 15 = .ok (.ifCond .ne 6, 3) := by decide +kernel
theorem dX11_apart_18 : decode cX11_apart 18 = .ok (.bipush (-2), 2) := by decide +kernel
theorem dX11_apart_20 : decode cX11_apart 20 = .ok (.ireturn, 1) := by decide +kernel
theorem dX11_apart_21 : decode cX11_apart 21 = .ok (.aload_n 0, 1) := by decide +kernel
theorem dX11_apart_22 : decode cX11_apart 22 = .ok (.iconst (-1), 1) := by decide +kernel
theorem dX11_apart_23 : decode cX11_apart 23 = .ok (.putfield 529, 3) := by decide +kernel
theorem dX11_apart_26 : decode cX11_apart 26 = .ok (.aload_n 0, 1) := by decide +kernel
theorem dX11_apart_27 : decode cX11_apart 27 = .ok (.iconst 0, 1) := by decide +kernel
theorem dX11_apart_28 : decode cX11_apart 28 = .ok (.iconst 0, 1) := by decide +kernel
theorem dX11_apart_29 : decode cX11_apart 29 = .ok (.invokevirtual 532, 3) := by decide +kernel
theorem dX11_apart_32 : decode cX11_apart 32 = .ok (.iload_n 1, 1) := by decide +kernel
theorem dX11_apart_33 : decode cX11_apart 33 = .ok (.iconst (-1), 1) := by decide +kernel
theorem dX11_apart_34 : decode cX11_apart 34 = .ok (.if_icmp .ne 10, 3) := by decide +kernel
theorem dX11_apart_37 : decode cX11_apart 37 = .ok (.aload_n 0, 1) := by decide +kernel
theorem dX11_apart_38 : decode cX11_apart 38 = .ok (.getfield 529, 3) := by decide +kernel
theorem dX11_apart_41 : decode cX11_apart 41 = .ok (.goto 9, 3) := by decide +kernel
theorem dX11_apart_44 : decode cX11_apart 44 = .ok (.aload_n 0, 1) := by decide +kernel
theorem dX11_apart_45 : decode cX11_apart 45 = .ok (.getfield 162, 3) := by decide +kernel
theorem dX11_apart_48 : decode cX11_apart 48 = .ok (.iload_n 1, 1) := by decide +kernel
theorem dX11_apart_49 : decode cX11_apart 49 = .ok (.iaload, 1) := by decide +kernel
theorem dX11_apart_50 : decode cX11_apart 50 = .ok (.ireturn, 1) := by decide +kernel
theorem dX11_tyres_0 : decode cX11_tyres 0 = .ok (.aload_n 0, 1) := by decide +kernel
theorem dX11_tyres_1 : decode cX11_tyres 1 = .ok (.iconst 0, 1) := by decide +kernel
theorem dX11_tyres_2 : decode cX11_tyres 2 = .ok (.putfield 187, 3) := by decide +kernel
theorem dX11_tyres_5 : decode cX11_tyres 5 = .ok (.aload_n 0, 1) := by decide +kernel
theorem dX11_tyres_6 : decode cX11_tyres 6 = .ok (.getfield 114, 3) := by decide +kernel
theorem dX11_tyres_9 : decode cX11_tyres 9 = .ok (.iconst 0, 1) := by decide +kernel
theorem dX11_tyres_10 : decode cX11_tyres 10 = .ok (.aload_n 0, 1) := by decide +kernel
theorem dX11_tyres_11 : decode cX11_tyres 11 = .ok (.getfield 117, 3) := by decide +kernel
theorem dX11_tyres_14 : decode cX11_tyres 14 = .ok (.iconst 0, 1) := by decide +kernel
theorem dX11_tyres_15 : decode cX11_tyres 15 = .ok (.invokestatic 485, 3) := by decide +kernel
theorem dX11_tyres_18 : decode cX11_tyres 18 = .ok (.iconst (-1), 1) := by decide +kernel
theorem dX11_tyres_19 : decode cX11_tyres 19 = .ok (.istore_n 1, 1) := by decide +kernel
theorem dX11_tyres_20 : decode cX11_tyres 20 = .ok (.iconst 0, 1) := by decide +kernel
theorem dX11_tyres_21 : decode cX11_tyres 21 = .ok (.istore_n 2, 1) := by decide +kernel
theorem dX11_tyres_22 : decode cX11_tyres 22 = .ok (.iload_n 2, 1) := by decide +kernel
theorem dX11_tyres_23 : decode cX11_tyres 23 = .ok (.aload_n 0, 1) := by decide +kernel
theorem dX11_tyres_24 : decode cX11_tyres 24 = .ok (.invokevirtual 446, 3) := by decide +kernel
theorem dX11_tyres_27 : decode cX11_tyres 27 = .ok (.if_icmp .gt 96, 3) := by decide +kernel
theorem dX11_tyres_30 : decode cX11_tyres 30 = .ok (.iload_n 1, 1) := by decide +kernel
theorem dX11_tyres_31 : decode cX11_tyres 31 = .ok (.ifCond .lt 17, 3) := by decide +kernel
theorem dX11_tyres_34 : decode cX11_tyres 34 = .ok (.iload_n 2, 1) := by decide +kernel
theorem dX11_tyres_35 : decode cX11_tyres 35 = .ok (.invokestatic 439, 3) := by decide +kernel
theorem dX11_tyres_38 : decode cX11_tyres 38 = .ok (.iload_n 1, 1) := by decide +kernel
theorem dX11_tyres_39 : decode cX11_tyres 39 = .ok (.invokestatic 439, 3) := by decide +kernel
theorem dX11_tyres_42 : decode cX11_tyres 42 = .ok (.if_icmp .lt 6, 3) := by decide +kernel
theorem dX11_tyres_45 : decode cX11_tyres 45 = .ok (.goto 72, 3) := by decide +kernel
theorem dX11_tyres_48 : decode cX11_tyres 48 = .ok (.iconst 0, 1) := by decide +kernel
theorem dX11_tyres_49 : decode cX11_tyres 49 = .ok (.istore_n 3, 1) := by decide +kernel
theorem dX11_tyres_50 : decode cX11_tyres 50 = .ok (.iload_n 3, 1) := by decide +kernel
theorem dX11_tyres_51 : decode cX11_tyres 51 = .ok (.aload_n 0, 1) := by decide +kernel
theorem dX11_tyres_52 : decode cX11_tyres 52 = .ok (.getfield 13, 3) := by decide +kernel
theorem dX11_tyres_55 : decode cX11_tyres 55 = .ok (.iconst 1, 1) := by decide +kernel
theorem dX11_tyres_56 : decode cX11_tyres 56 = .ok (.iaload, 1) := by decide +kernel
theorem dX11_tyres_57 : decode cX11_tyres 57 = .ok (.if_icmp .ge 32, 3) := by decide +kernel
theorem dX11_tyres_60 : decode cX11_tyres 60 = .ok (.iload_n 2, 1) := by decide +kernel
theorem dX11_tyres_61 : decode cX11_tyres 61 = .ok (.iload_n 3, 1) := by decide +kernel
theorem dX11_tyres_62 : decode cX11_tyres 62 = .ok (.ishr, 1) := by decide +kernel
theorem dX11_tyres_63 : decode cX11_tyres 63 = .ok (.iconst 1, 1) := by decide +kernel
theorem dX11_tyres_64 : decode cX11_tyres 64 = .ok (.iand, 1) := by decide +kernel
theorem dX11_tyres_65 : decode cX11_tyres 65 = .ok (.iconst 1, 1) := by decide +kernel
theorem dX11_tyres_66 : decode cX11_tyres 66 = .ok (.if_icmp .ne 17, 3) := by decide +kernel
theorem dX11_tyres_69 : decode cX11_tyres 69 = .ok (.aload_n 0, 1) := by decide +kernel
theorem dX11_tyres_70 : decode cX11_tyres 70 = .ok (.getfield 114, 3) := by decide +kernel
theorem dX11_tyres_73 : decode cX11_tyres 73 = .ok (.bipush 8, 2) := by decide +kernel
theorem dX11_tyres_75 : decode cX11_tyres 75 = .ok (.iload_n 3, 1) := by decide +kernel
theorem dX11_tyres_76 : decode cX11_tyres 76 = .ok (.iadd, 1) := by decide +kernel
theorem dX11_tyres_77 : decode cX11_tyres 77 = .ok (.aload_n 0, 1) := by decide +kernel
theorem dX11_tyres_78 : decode cX11_tyres 78 = .ok (.iload_n 3, 1) := by decide +kernel
theorem dX11_tyres_79 : decode cX11_tyres 79 = .ok (.invokevirtual 495, 3) := by decide +kernel
theorem dX11_tyres_82 : decode cX11_tyres 82 = .ok (.iastore, 1) := by decide +kernel
theorem dX11_tyres_83 : decode cX11_tyres 83 = .ok (.iinc 3 1, 3) := by decide +kernel
theorem dX11_tyres_86 : decode cX11_tyres 86 = .ok (.goto (-36), 3) := by decide +kernel
theorem dX11_tyres_89 : decode cX11_tyres 89 = .ok (.aload_n 0, 1) := by decide +kernel
theorem dX11_tyres_90 : decode cX11_tyres 90 = .ok (.iconst 1, 1) := by decide +kernel
theorem dX11_tyres_91 : decode cX11_tyres 91 = .ok (.invokevirtual 501, 3) := by decide +kernel
theorem dX11_tyres_94 : decode cX11_tyres 94 = .ok (.pop, 1) := by decide +kernel
theorem dX11_tyres_95 : decode cX11_tyres 95 = .ok (.aload_n 0, 1) := by decide +kernel
theorem dX11_tyres_96 : decode cX11_tyres 96 = .ok (.invokevirtual 508, 3) := by decide +kernel
theorem dX11_tyres_99 : decode cX11_tyres 99 = .ok (.ifCond .ne 5, 3) := by decide +kernel
theorem dX11_tyres_102 : decode cX11_tyres 102 = .ok (.iload_n 2, 1) := by decide +kernel
theorem dX11_tyres_103 : decode cX11_tyres 103 = .ok (.istore_n 1, 1) := by decide +kernel
theorem dX11_tyres_104 : decode cX11_tyres 104 = .ok (.aload_n 0, 1) := by decide +kernel
theorem dX11_tyres_105 : decode cX11_tyres 105 = .ok (.getfield 117, 3) := by decide +kernel
theorem dX11_tyres_108 : decode cX11_tyres 108 = .ok (.iconst 0, 1) := by decide +kernel
theorem dX11_tyres_109 : decode cX11_tyres 109 = .ok (.aload_n 0, 1) := by decide +kernel
theorem dX11_tyres_110 : decode cX11_tyres 110 = .ok (.getfield 114, 3) := by decide +kernel
theorem dX11_tyres_113 : decode cX11_tyres 113 = .ok (.iconst 0, 1) := by decide +kernel
theorem dX11_tyres_114 : decode cX11_tyres 114 = .ok (.invokestatic 485, 3) := by decide +kernel
theorem dX11_tyres_117 : decode cX11_tyres 117 = .ok (.iinc 2 1, 3) := by decide +kernel
theorem dX11_tyres_120 : decode cX11_tyres 120 = .ok (.goto (-98), 3) := by decide +kernel
theorem dX11_tyres_123 : decode cX11_tyres 123 = .ok (.iload_n 1, 1) := by decide +kernel
theorem dX11_tyres_124 : decode cX11_tyres 124 = .ok (.ireturn, 1) := by decide +kernel
theorem dX11_laysWays_0 : decode cX11_laysWays 0 = .ok (.iconst 0, 1) := by decide +kernel
theorem dX11_laysWays_1 : decode cX11_laysWays 1 = .ok (.istore_n 1, 1) := by decide +kernel
theorem dX11_laysWays_2 : decode cX11_laysWays 2 = .ok (.iload_n 1, 1) := by decide +kernel
theorem dX11_laysWays_3 : decode cX11_laysWays 3 = .ok (.bipush 36, 2) := by decide +kernel
theorem dX11_laysWays_5 : decode cX11_laysWays 5 = .ok (.if_icmp .ge 51, 3) := by decide +kernel
theorem dX11_laysWays_8 : decode cX11_laysWays 8 = .ok (.aload_n 0, 1) := by decide +kernel
theorem dX11_laysWays_9 : decode cX11_laysWays 9 = .ok (.getfield 168, 3) := by decide +kernel
theorem dX11_laysWays_12 : decode cX11_laysWays 12 = .ok (.iload_n 1, 1) := by decide +kernel
theorem dX11_laysWays_13 : decode cX11_laysWays 13 = .ok (.iload_n 1, 1) := by decide +kernel
theorem dX11_laysWays_14 : decode cX11_laysWays 14 = .ok (.bipush 6, 2) := by decide +kernel
theorem dX11_laysWays_16 : decode cX11_laysWays 16 = .ok (.idiv, 1) := by decide +kernel
theorem dX11_laysWays_17 : decode cX11_laysWays 17 = .ok (.iload_n 1, 1) := by decide +kernel
theorem dX11_laysWays_18 : decode cX11_laysWays 18 = .ok (.bipush 6, 2) := by decide +kernel
theorem dX11_laysWays_20 : decode cX11_laysWays 20 = .ok (.irem, 1) := by decide +kernel
theorem dX11_laysWays_21 : decode cX11_laysWays 21 = .ok (.if_icmp .ne 7, 3) := by decide +kernel
theorem dX11_laysWays_24 : decode cX11_laysWays 24 = .ok (.iconst 0, 1) := by decide +kernel
theorem dX11_laysWays_25 : decode cX11_laysWays 25 = .ok (.goto 24, 3) := by decide +kernel
theorem dX11_laysWays_28 : decode cX11_laysWays 28 = .ok (.aload_n 0, 1) := by decide +kernel
theorem dX11_laysWays_29 : decode cX11_laysWays 29 = .ok (.getfield 44, 3) := by decide +kernel
theorem dX11_laysWays_32 : decode cX11_laysWays 32 = .ok (.iload_n 1, 1) := by decide +kernel
theorem dX11_laysWays_33 : decode cX11_laysWays 33 = .ok (.iaload, 1) := by decide +kernel
theorem dX11_laysWays_34 : decode cX11_laysWays 34 = .ok (.ifCond .le 12, 3) := by decide +kernel
theorem dX11_laysWays_37 : decode cX11_laysWays 37 = .ok (.aload_n 0, 1) := by decide +kernel
theorem dX11_laysWays_38 : decode cX11_laysWays 38 = .ok (.getfield 44, 3) := by decide +kernel
theorem dX11_laysWays_41 : decode cX11_laysWays 41 = .ok (.iload_n 1, 1) := by decide +kernel
theorem dX11_laysWays_42 : decode cX11_laysWays 42 = .ok (.iaload, 1) := by decide +kernel
theorem dX11_laysWays_43 : decode cX11_laysWays 43 = .ok (.goto 6, 3) := by decide +kernel
theorem dX11_laysWays_46 : decode cX11_laysWays 46 = .ok (.ldc_w 535, 3) := by decide +kernel
theorem dX11_laysWays_49 : decode cX11_laysWays 49 = .ok (.iastore, 1) := by decide +kernel
theorem dX11_laysWays_50 : decode cX11_laysWays 50 = .ok (.iinc 1 1, 3) := by decide +kernel
theorem dX11_laysWays_53 : decode cX11_laysWays 53 = .ok (.goto (-51), 3) := by decide +kernel
theorem dX11_laysWays_56 : decode cX11_laysWays 56 = .ok (.iconst 0, 1) := by decide +kernel
theorem dX11_laysWays_57 : decode cX11_laysWays 57 = .ok (.istore_n 1, 1) := by decide +kernel
theorem dX11_laysWays_58 : decode cX11_laysWays 58 = .ok (.iload_n 1, 1) := by decide +kernel
theorem dX11_laysWays_59 : decode cX11_laysWays 59 = .ok (.bipush 6, 2) := by decide +kernel
theorem dX11_laysWays_61 : decode cX11_laysWays 61 = .ok (.if_icmp .ge 67, 3) := by decide +kernel
theorem dX11_laysWays_64 : decode cX11_laysWays 64 = .ok (.iconst 0, 1) := by decide +kernel
theorem dX11_laysWays_65 : decode cX11_laysWays 65 = .ok (.istore_n 2, 1) := by decide +kernel
theorem dX11_laysWays_66 : decode cX11_laysWays 66 = .ok (.iload_n 2, 1) := by decide +kernel
theorem dX11_laysWays_67 : decode cX11_laysWays 67 = .ok (.bipush 36, 2) := by decide +kernel
theorem dX11_laysWays_69 : decode cX11_laysWays 69 = .ok (.if_icmp .ge 53, 3) := by decide +kernel
theorem dX11_laysWays_72 : decode cX11_laysWays 72 = .ok (.aload_n 0, 1) := by decide +kernel
theorem dX11_laysWays_73 : decode cX11_laysWays 73 = .ok (.getfield 168, 3) := by decide +kernel
theorem dX11_laysWays_76 : decode cX11_laysWays 76 = .ok (.iload_n 2, 1) := by decide +kernel
theorem dX11_laysWays_77 : decode cX11_laysWays 77 = .ok (.aload_n 0, 1) := by decide +kernel
theorem dX11_laysWays_78 : decode cX11_laysWays 78 = .ok (.getfield 168, 3) := by decide +kernel
theorem dX11_laysWays_81 : decode cX11_laysWays 81 = .ok (.iload_n 2, 1) := by decide +kernel
theorem dX11_laysWays_82 : decode cX11_laysWays 82 = .ok (.iaload, 1) := by decide +kernel
theorem dX11_laysWays_83 : decode cX11_laysWays 83 = .ok (.aload_n 0, 1) := by decide +kernel
theorem dX11_laysWays_84 : decode cX11_laysWays 84 = .ok (.getfield 168, 3) := by decide +kernel
theorem dX11_laysWays_87 : decode cX11_laysWays 87 = .ok (.iload_n 2, 1) := by decide +kernel
theorem dX11_laysWays_88 : decode cX11_laysWays 88 = .ok (.bipush 6, 2) := by decide +kernel
theorem dX11_laysWays_90 : decode cX11_laysWays 90 = .ok (.idiv, 1) := by decide +kernel
theorem dX11_laysWays_91 : decode cX11_laysWays 91 = .ok (.bipush 6, 2) := by decide +kernel
theorem dX11_laysWays_93 : decode cX11_laysWays 93 = .ok (.imul, 1) := by decide +kernel
theorem dX11_laysWays_94 : decode cX11_laysWays 94 = .ok (.iload_n 1, 1) := by decide +kernel
theorem dX11_laysWays_95 : decode cX11_laysWays 95 = .ok (.iadd, 1) := by decide +kernel
theorem dX11_laysWays_96 : decode cX11_laysWays 96 = .ok (.iaload, 1) := by decide +kernel
theorem dX11_laysWays_97 : decode cX11_laysWays 97 = .ok (.aload_n 0, 1) := by decide +kernel
theorem dX11_laysWays_98 : decode cX11_laysWays 98 = .ok (.getfield 168, 3) := by decide +kernel
theorem dX11_laysWays_101 : decode cX11_laysWays 101 = .ok (.iload_n 1, 1) := by decide +kernel
theorem dX11_laysWays_102 : decode cX11_laysWays 102 = .ok (.bipush 6, 2) := by decide +kernel
theorem dX11_laysWays_104 : decode cX11_laysWays 104 = .ok (.imul, 1) := by decide +kernel
theorem dX11_laysWays_105 : decode cX11_laysWays 105 = .ok (.iload_n 2, 1) := by decide +kernel
theorem dX11_laysWays_106 : decode cX11_laysWays 106 = .ok (.bipush 6, 2) := by decide +kernel
theorem dX11_laysWays_108 : decode cX11_laysWays 108 = .ok (.irem, 1) := by decide +kernel
theorem dX11_laysWays_109 : decode cX11_laysWays 109 = .ok (.iadd, 1) := by decide +kernel
theorem dX11_laysWays_110 : decode cX11_laysWays 110 = .ok (.iaload, 1) := by decide +kernel
theorem dX11_laysWays_111 : decode cX11_laysWays 111 = .ok (.iadd, 1) := by decide +kernel
theorem dX11_laysWays_112 : decode cX11_laysWays 112 = .ok (.invokestatic 453, 3) := by decide +kernel
theorem dX11_laysWays_115 : decode cX11_laysWays 115 = .ok (.iastore, 1) := by decide +kernel
theorem dX11_laysWays_116 : decode cX11_laysWays 116 = .ok (.iinc 2 1, 3) := by decide +kernel
theorem dX11_laysWays_119 : decode cX11_laysWays 119 = .ok (.goto (-53), 3) := by decide +kernel
theorem dX11_laysWays_122 : decode cX11_laysWays 122 = .ok (.iinc 1 1, 3) := by decide +kernel
theorem dX11_laysWays_125 : decode cX11_laysWays 125 = .ok (.goto (-67), 3) := by decide +kernel
theorem dX11_laysWays_128 : decode cX11_laysWays 128 = .ok (.return_, 1) := by decide +kernel
theorem dX11_goesPast_0 : decode cX11_goesPast 0 = .ok (.aload_n 0, 1) := by decide +kernel
theorem dX11_goesPast_1 : decode cX11_goesPast 1 = .ok (.getfield 536, 3) := by decide +kernel
theorem dX11_goesPast_4 : decode cX11_goesPast 4 = .ok (.ifCond .lt 13, 3) := by decide +kernel
theorem dX11_goesPast_7 : decode cX11_goesPast 7 = .ok (.iload 4, 2) := by decide +kernel
theorem dX11_goesPast_9 : decode cX11_goesPast 9 = .ok (.aload_n 0, 1) := by decide +kernel
theorem dX11_goesPast_10 : decode cX11_goesPast 10 = .ok (.getfield 536, 3) := by decide +kernel
theorem dX11_goesPast_13 : decode cX11_goesPast 13 = .ok (.if_icmp .lt 4, 3) := by decide +kernel
theorem dX11_goesPast_16 : decode cX11_goesPast 16 = .ok (.return_, 1) := by decide +kernel
theorem dX11_goesPast_17 : decode cX11_goesPast 17 = .ok (.iload_n 2, 1) := by decide +kernel
theorem dX11_goesPast_18 : decode cX11_goesPast 18 = .ok (.ifCond .ne 44, 3) := by decide +kernel
theorem dX11_goesPast_21 : decode cX11_goesPast 21 = .ok (.aload_n 0, 1) := by decide +kernel
theorem dX11_goesPast_22 : decode cX11_goesPast 22 = .ok (.iload 4, 2) := by decide +kernel
theorem dX11_goesPast_24 : decode cX11_goesPast 24 = .ok (.putfield 536, 3) := by decide +kernel
theorem dX11_goesPast_27 : decode cX11_goesPast 27 = .ok (.aload_n 0, 1) := by decide +kernel
theorem dX11_goesPast_28 : decode cX11_goesPast 28 = .ok (.iload_n 3, 1) := by decide +kernel
theorem dX11_goesPast_29 : decode cX11_goesPast 29 = .ok (.putfield 539, 3) := by decide +kernel
theorem dX11_goesPast_32 : decode cX11_goesPast 32 = .ok (.iconst 0, 1) := by decide +kernel
theorem dX11_goesPast_33 : decode cX11_goesPast 33 = .ok (.istore 5, 2) := by decide +kernel
theorem dX11_goesPast_35 : decode cX11_goesPast 35 = .ok (.iload 5, 2) := by decide +kernel
theorem dX11_goesPast_37 : decode cX11_goesPast 37 = .ok (.iload_n 3, 1) := by decide +kernel
theorem dX11_goesPast_38 : decode cX11_goesPast 38 = .ok (.if_icmp .ge 23, 3) := by decide +kernel
theorem dX11_goesPast_41 : decode cX11_goesPast 41 = .ok (.aload_n 0, 1) := by decide +kernel
theorem dX11_goesPast_42 : decode cX11_goesPast 42 = .ok (.getfield 174, 3) := by decide +kernel
theorem dX11_goesPast_45 : decode cX11_goesPast 45 = .ok (.iload 5, 2) := by decide +kernel
theorem dX11_goesPast_47 : decode cX11_goesPast 47 = .ok (.aload_n 0, 1) := by decide +kernel
theorem dX11_goesPast_48 : decode cX11_goesPast 48 = .ok (.getfield 171, 3) := by decide +kernel
theorem dX11_goesPast_51 : decode cX11_goesPast 51 = .ok (.iload 5, 2) := by decide +kernel
theorem dX11_goesPast_53 : decode cX11_goesPast 53 = .ok (.iaload, 1) := by decide +kernel
theorem dX11_goesPast_54 : decode cX11_goesPast 54 = .ok (.iastore, 1) := by decide +kernel
theorem dX11_goesPast_55 : decode cX11_goesPast 55 = .ok (.iinc 5 1, 3) := by decide +kernel
theorem dX11_goesPast_58 : decode cX11_goesPast 58 = .ok (.goto (-23), 3) := by decide +kernel
theorem dX11_goesPast_61 : decode cX11_goesPast 61 = .ok (.return_, 1) := by decide +kernel
theorem dX11_goesPast_62 : decode cX11_goesPast 62 = .ok (.iconst 0, 1) := by decide +kernel
theorem dX11_goesPast_63 : decode cX11_goesPast 63 = .ok (.istore 5, 2) := by decide +kernel
theorem dX11_goesPast_65 : decode cX11_goesPast 65 = .ok (.iload 5, 2) := by decide +kernel
theorem dX11_goesPast_67 : decode cX11_goesPast 67 = .ok (.aload_n 0, 1) := by decide +kernel
theorem dX11_goesPast_68 : decode cX11_goesPast 68 = .ok (.getfield 13, 3) := by decide +kernel
theorem dX11_goesPast_71 : decode cX11_goesPast 71 = .ok (.iconst 0, 1) := by decide +kernel
theorem dX11_goesPast_72 : decode cX11_goesPast 72 = .ok (.iaload, 1) := by decide +kernel
theorem dX11_goesPast_73 : decode cX11_goesPast 73 = .ok (.if_icmp .ge 79, 3) := by decide +kernel
theorem dX11_goesPast_76 : decode cX11_goesPast 76 = .ok (.iload_n 2, 1) := by decide +kernel
theorem dX11_goesPast_77 : decode cX11_goesPast 77 = .ok (.iload 5, 2) := by decide +kernel
theorem dX11_goesPast_79 : decode cX11_goesPast 79 = .ok (.ishr, 1) := by decide +kernel
theorem dX11_goesPast_80 : decode cX11_goesPast 80 = .ok (.iconst 1, 1) := by decide +kernel
theorem dX11_goesPast_81 : decode cX11_goesPast 81 = .ok (.iand, 1) := by decide +kernel
theorem dX11_goesPast_82 : decode cX11_goesPast 82 = .ok (.ifCond .eq 64, 3) := by decide +kernel
theorem dX11_goesPast_85 : decode cX11_goesPast 85 = .ok (.aload_n 0, 1) := by decide +kernel
theorem dX11_goesPast_86 : decode cX11_goesPast 86 = .ok (.getfield 168, 3) := by decide +kernel
theorem dX11_goesPast_89 : decode cX11_goesPast 89 = .ok (.bipush 6, 2) := by decide +kernel
theorem dX11_goesPast_91 : decode cX11_goesPast 91 = .ok (.iload_n 1, 1) := by decide +kernel
theorem dX11_goesPast_92 : decode cX11_goesPast 92 = .ok (.imul, 1) := by decide +kernel
theorem dX11_goesPast_93 : decode cX11_goesPast 93 = .ok (.iload 5, 2) := by decide +kernel
theorem dX11_goesPast_95 : decode cX11_goesPast 95 = .ok (.iadd, 1) := by decide +kernel
theorem dX11_goesPast_96 : decode cX11_goesPast 96 = .ok (.iaload, 1) := by decide +kernel
theorem dX11_goesPast_97 : decode cX11_goesPast 97 = .ok (.ldc_w 535, 3) := by decide +kernel
theorem dX11_goesPast_100 : decode cX11_goesPast 100 = .ok (.if_icmp .lt 6, 3) := by decide +kernel
theorem dX11_goesPast_103 : decode cX11_goesPast 103 = .ok (.goto 43, 3) := by decide +kernel
theorem dX11_goesPast_106 : decode cX11_goesPast 106 = .ok (.aload_n 0, 1) := by decide +kernel
theorem dX11_goesPast_107 : decode cX11_goesPast 107 = .ok (.getfield 171, 3) := by decide +kernel
theorem dX11_goesPast_110 : decode cX11_goesPast 110 = .ok (.iload_n 3, 1) := by decide +kernel
theorem dX11_goesPast_111 : decode cX11_goesPast 111 = .ok (.iload 5, 2) := by decide +kernel
theorem dX11_goesPast_113 : decode cX11_goesPast 113 = .ok (.iastore, 1) := by decide +kernel
theorem dX11_goesPast_114 : decode cX11_goesPast 114 = .ok (.aload_n 0, 1) := by decide +kernel
theorem dX11_goesPast_115 : decode cX11_goesPast 115 = .ok (.iload 5, 2) := by decide +kernel
theorem dX11_goesPast_117 : decode cX11_goesPast 117 = .ok (.iload_n 2, 1) := by decide +kernel
theorem dX11_goesPast_118 : decode cX11_goesPast 118 = .ok (.iconst 1, 1) := by decide +kernel
theorem dX11_goesPast_119 : decode cX11_goesPast 119 = .ok (.iload 5, 2) := by decide +kernel
theorem dX11_goesPast_121 : decode cX11_goesPast 121 = .ok (.ishl, 1) := by decide +kernel
theorem dX11_goesPast_122 : decode cX11_goesPast 122 = .ok (.iconst (-1), 1) := by decide +kernel
theorem dX11_goesPast_123 : decode cX11_goesPast 123 = .ok (.ixor, 1) := by decide +kernel
theorem dX11_goesPast_124 : decode cX11_goesPast 124 = .ok (.iand, 1) := by decide +kernel
theorem dX11_goesPast_125 : decode cX11_goesPast 125 = .ok (.iload_n 3, 1) := by decide +kernel
theorem dX11_goesPast_126 : decode cX11_goesPast 126 = .ok (.iconst 1, 1) := by decide +kernel
theorem dX11_goesPast_127 : decode cX11_goesPast 127 = .ok (.iadd, 1) := by decide +kernel
theorem dX11_goesPast_128 : decode cX11_goesPast 128 = .ok (.iload 4, 2) := by decide +kernel
theorem dX11_goesPast_130 : decode cX11_goesPast 130 = .ok (.aload_n 0, 1) := by decide +kernel
theorem dX11_goesPast_131 : decode cX11_goesPast 131 = .ok (.getfield 168, 3) := by decide +kernel
theorem dX11_goesPast_134 : decode cX11_goesPast 134 = .ok (.bipush 6, 2) := by decide +kernel
theorem dX11_goesPast_136 : decode cX11_goesPast 136 = .ok (.iload_n 1, 1) := by decide +kernel
theorem dX11_goesPast_137 : decode cX11_goesPast 137 = .ok (.imul, 1) := by decide +kernel
theorem dX11_goesPast_138 : decode cX11_goesPast 138 = .ok (.iload 5, 2) := by decide +kernel
theorem dX11_goesPast_140 : decode cX11_goesPast 140 = .ok (.iadd, 1) := by decide +kernel
theorem dX11_goesPast_141 : decode cX11_goesPast 141 = .ok (.iaload, 1) := by decide +kernel
theorem dX11_goesPast_142 : decode cX11_goesPast 142 = .ok (.iadd, 1) := by decide +kernel
theorem dX11_goesPast_143 : decode cX11_goesPast 143 = .ok (.invokevirtual 542, 3) := by decide +kernel
theorem dX11_goesPast_146 : decode cX11_goesPast 146 = .ok (.iinc 5 1, 3) := by decide +kernel
theorem dX11_goesPast_149 : decode cX11_goesPast 149 = .ok (.goto (-84), 3) := by decide +kernel
theorem dX11_goesPast_152 : decode cX11_goesPast 152 = .ok (.return_, 1) := by decide +kernel
theorem dX11_walk_0 : decode cX11_walk 0 = .ok (.aload_n 0, 1) := by decide +kernel
theorem dX11_walk_1 : decode cX11_walk 1 = .ok (.iconst 0, 1) := by decide +kernel
theorem dX11_walk_2 : decode cX11_walk 2 = .ok (.putfield 187, 3) := by decide +kernel
theorem dX11_walk_5 : decode cX11_walk 5 = .ok (.aload_n 0, 1) := by decide +kernel
theorem dX11_walk_6 : decode cX11_walk 6 = .ok (.iload_n 1, 1) := by decide +kernel
theorem dX11_walk_7 : decode cX11_walk 7 = .ok (.invokevirtual 476, 3) := by decide +kernel
theorem dX11_walk_10 : decode cX11_walk 10 = .ok (.ifCond .eq 7, 3) := by decide +kernel
theorem dX11_walk_13 : decode cX11_walk 13 = .ok (.iload_n 2, 1) := by decide +kernel
theorem dX11_walk_14 : decode cX11_walk 14 = .ok (.ifCond .ge 5, 3) := by decide +kernel
theorem dX11_walk_17 : decode cX11_walk 17 = .ok (.iconst (-1), 1) := by decide +kernel
theorem dX11_walk_18 : decode cX11_walk 18 = .ok (.ireturn, 1) := by decide +kernel
theorem dX11_walk_19 : decode cX11_walk 19 = .ok (.aload_n 0, 1) := by decide +kernel
theorem dX11_walk_20 : decode cX11_walk 20 = .ok (.invokevirtual 546, 3) := by decide +kernel
theorem dX11_walk_23 : decode cX11_walk 23 = .ok (.iconst 0, 1) := by decide +kernel
theorem dX11_walk_24 : decode cX11_walk 24 = .ok (.istore_n 3, 1) := by decide +kernel
theorem dX11_walk_25 : decode cX11_walk 25 = .ok (.iconst 0, 1) := by decide +kernel
theorem dX11_walk_26 : decode cX11_walk 26 = .ok (.istore 4, 2) := by decide +kernel
theorem dX11_walk_28 : decode cX11_walk 28 = .ok (.iload 4, 2) := by decide +kernel
theorem dX11_walk_30 : decode cX11_walk 30 = .ok (.aload_n 0, 1) := by decide +kernel
theorem dX11_walk_31 : decode cX11_walk 31 = .ok (.getfield 13, 3) := by decide +kernel
theorem dX11_walk_34 : decode cX11_walk 34 = .ok (.iconst 0, 1) := by decide +kernel
theorem dX11_walk_35 : decode cX11_walk 35 = .ok (.iaload, 1) := by decide +kernel
theorem dX11_walk_36 : decode cX11_walk 36 = .ok (.if_icmp .ge 29, 3) := by decide +kernel
theorem dX11_walk_39 : decode cX11_walk 39 = .ok (.iload_n 3, 1) := by decide +kernel
theorem dX11_walk_40 : decode cX11_walk 40 = .ok (.aload_n 0, 1) := by decide +kernel
theorem dX11_walk_41 : decode cX11_walk 41 = .ok (.iload 4, 2) := by decide +kernel
theorem dX11_walk_43 : decode cX11_walk 43 = .ok (.invokevirtual 458, 3) := by decide +kernel
theorem dX11_walk_46 : decode cX11_walk 46 = .ok (.ifCond .eq 10, 3) := by decide +kernel
theorem dX11_walk_49 : decode cX11_walk 49 = .ok (.iconst 1, 1) := by decide +kernel
theorem dX11_walk_50 : decode cX11_walk 50 = .ok (.iload 4, 2) := by decide +kernel
theorem dX11_walk_52 : decode cX11_walk 52 = .ok (.ishl, 1) := by decide +kernel
theorem dX11_walk_53 : decode cX11_walk 53 = .ok (.goto 4, 3) := by decide +kernel
theorem dX11_walk_56 : decode cX11_walk 56 = .ok (.iconst 0, 1) := by decide +kernel
theorem dX11_walk_57 : decode cX11_walk 57 = .ok (.ior, 1) := by decide +kernel
theorem dX11_walk_58 : decode cX11_walk 58 = .ok (.istore_n 3, 1) := by decide +kernel
theorem dX11_walk_59 : decode cX11_walk 59 = .ok (.iinc 4 1, 3) := by decide +kernel
theorem dX11_walk_62 : decode cX11_walk 62 = .ok (.goto (-34), 3) := by decide +kernel
theorem dX11_walk_65 : decode cX11_walk 65 = .ok (.aload_n 0, 1) := by decide +kernel
theorem dX11_walk_66 : decode cX11_walk 66 = .ok (.iconst (-1), 1) := by decide +kernel
theorem dX11_walk_67 : decode cX11_walk 67 = .ok (.putfield 536, 3) := by decide +kernel
theorem dX11_walk_70 : decode cX11_walk 70 = .ok (.aload_n 0, 1) := by decide +kernel
theorem dX11_walk_71 : decode cX11_walk 71 = .ok (.iconst 0, 1) := by decide +kernel
theorem dX11_walk_72 : decode cX11_walk 72 = .ok (.putfield 539, 3) := by decide +kernel
theorem dX11_walk_75 : decode cX11_walk 75 = .ok (.aload_n 0, 1) := by decide +kernel
theorem dX11_walk_76 : decode cX11_walk 76 = .ok (.iload_n 1, 1) := by decide +kernel
theorem dX11_walk_77 : decode cX11_walk 77 = .ok (.iload_n 3, 1) := by decide +kernel
theorem dX11_walk_78 : decode cX11_walk 78 = .ok (.iconst 0, 1) := by decide +kernel
theorem dX11_walk_79 : decode cX11_walk 79 = .ok (.iconst 0, 1) := by decide +kernel
theorem dX11_walk_80 : decode cX11_walk 80 = .ok (.invokevirtual 542, 3) := by decide +kernel
theorem dX11_walk_83 : decode cX11_walk 83 = .ok (.aload_n 0, 1) := by decide +kernel
theorem dX11_walk_84 : decode cX11_walk 84 = .ok (.getfield 536, 3) := by decide +kernel
theorem dX11_walk_87 : decode cX11_walk 87 = .ok (.ifCond .lt 11, 3) := by decide +kernel
theorem dX11_walk_90 : decode cX11_walk 90 = .ok (.iload_n 2, 1) := by decide +kernel
theorem dX11_walk_91 : decode cX11_walk 91 = .ok (.aload_n 0, 1) := by decide +kernel
theorem dX11_walk_92 : decode cX11_walk 92 = .ok (.getfield 539, 3) := by decide +kernel
theorem dX11_walk_95 : decode cX11_walk 95 = .ok (.if_icmp .le 5, 3) := by decide +kernel
theorem dX11_walk_98 : decode cX11_walk 98 = .ok (.iconst (-1), 1) := by decide +kernel
theorem dX11_walk_99 : decode cX11_walk 99 = .ok (.ireturn, 1) := by decide +kernel
theorem dX11_walk_100 : decode cX11_walk 100 = .ok (.iload_n 2, 1) := by decide +kernel
theorem dX11_walk_101 : decode cX11_walk 101 = .ok (.ifCond .ne 10, 3) := by decide +kernel
theorem dX11_walk_104 : decode cX11_walk 104 = .ok (.aload_n 0, 1) := by decide +kernel
theorem dX11_walk_105 : decode cX11_walk 105 = .ok (.getfield 536, 3) := by decide +kernel
theorem dX11_walk_108 : decode cX11_walk 108 = .ok (.goto 11, 3) := by decide +kernel
theorem dX11_walk_111 : decode cX11_walk 111 = .ok (.aload_n 0, 1) := by decide +kernel
theorem dX11_walk_112 : decode cX11_walk 112 = .ok (.getfield 174, 3) := by decide +kernel
theorem dX11_walk_115 : decode cX11_walk 115 = .ok (.iload_n 2, 1) := by decide +kernel
theorem dX11_walk_116 : decode cX11_walk 116 = .ok (.iconst 1, 1) := by decide +kernel
theorem dX11_walk_117 : decode cX11_walk 117 = .ok (.isub, 1) := by decide +kernel
theorem dX11_walk_118 : decode cX11_walk 118 = .ok (.iaload, 1) := by decide +kernel
theorem dX11_walk_119 : decode cX11_walk 119 = .ok (.ireturn, 1) := by decide +kernel
theorem dX11_gets_0 : decode cX11_gets 0 = .ok (.iload_n 2, 1) := by decide +kernel
theorem dX11_gets_1 : decode cX11_gets 1 = .ok (.iload_n 1, 1) := by decide +kernel
theorem dX11_gets_2 : decode cX11_gets 2 = .ok (.isub, 1) := by decide +kernel
theorem dX11_gets_3 : decode cX11_gets 3 = .ok (.iload_n 2, 1) := by decide +kernel
theorem dX11_gets_4 : decode cX11_gets 4 = .ok (.iload_n 3, 1) := by decide +kernel
theorem dX11_gets_5 : decode cX11_gets 5 = .ok (.if_icmp .ge 7, 3) := by decide +kernel
theorem dX11_gets_8 : decode cX11_gets 8 = .ok (.iload_n 0, 1) := by decide +kernel
theorem dX11_gets_9 : decode cX11_gets 9 = .ok (.goto 15, 3) := by decide +kernel
theorem dX11_gets_12 : decode cX11_gets 12 = .ok (.iload_n 2, 1) := by decide +kernel
theorem dX11_gets_13 : decode cX11_gets 13 = .ok (.iload_n 3, 1) := by decide +kernel
theorem dX11_gets_14 : decode cX11_gets 14 = .ok (.if_icmp .ne 9, 3) := by decide +kernel
theorem dX11_gets_17 : decode cX11_gets 17 = .ok (.iload_n 0, 1) := by decide +kernel
theorem dX11_gets_18 : decode cX11_gets 18 = .ok (.iconst 2, 1) := by decide +kernel
theorem dX11_gets_19 : decode cX11_gets 19 = .ok (.idiv, 1) := by decide +kernel
theorem dX11_gets_20 : decode cX11_gets 20 = .ok (.goto 4, 3) := by decide +kernel
theorem dX11_gets_23 : decode cX11_gets 23 = .ok (.iconst 0, 1) := by decide +kernel
theorem dX11_gets_24 : decode cX11_gets 24 = .ok (.imul, 1) := by decide +kernel
theorem dX11_gets_25 : decode cX11_gets 25 = .ok (.ireturn, 1) := by decide +kernel
theorem dX11_isRest_0 : decode cX11_isRest 0 = .ok (.iconst 1, 1) := by decide +kernel
theorem dX11_isRest_1 : decode cX11_isRest 1 = .ok (.istore 4, 2) := by decide +kernel
theorem dX11_isRest_3 : decode cX11_isRest 3 = .ok (.iload 4, 2) := by decide +kernel
theorem dX11_isRest_5 : decode cX11_isRest 5 = .ok (.bipush 7, 2) := by decide +kernel
theorem dX11_isRest_7 : decode cX11_isRest 7 = .ok (.if_icmp .ge 47, 3) := by decide +kernel
theorem dX11_isRest_10 : decode cX11_isRest 10 = .ok (.iload_n 0, 1) := by decide +kernel
theorem dX11_isRest_11 : decode cX11_isRest 11 = .ok (.iload_n 1, 1) := by decide +kernel
theorem dX11_isRest_12 : decode cX11_isRest 12 = .ok (.iload 4, 2) := by decide +kernel
theorem dX11_isRest_14 : decode cX11_isRest 14 = .ok (.iload_n 3, 1) := by decide +kernel
theorem dX11_isRest_15 : decode cX11_isRest 15 = .ok (.invokestatic 549, 3) := by decide +kernel
theorem dX11_isRest_18 : decode cX11_isRest 18 = .ok (.iload_n 0, 1) := by decide +kernel
theorem dX11_isRest_19 : decode cX11_isRest 19 = .ok (.iload_n 1, 1) := by decide +kernel
theorem dX11_isRest_20 : decode cX11_isRest 20 = .ok (.iload_n 2, 1) := by decide +kernel
theorem dX11_isRest_21 : decode cX11_isRest 21 = .ok (.iload_n 3, 1) := by decide +kernel
theorem dX11_isRest_22 : decode cX11_isRest 22 = .ok (.invokestatic 549, 3) := by decide +kernel
theorem dX11_isRest_25 : decode cX11_isRest 25 = .ok (.if_icmp .gt 21, 3) := by decide +kernel
theorem dX11_isRest_28 : decode cX11_isRest 28 = .ok (.iload_n 0, 1) := by decide +kernel
theorem dX11_isRest_29 : decode cX11_isRest 29 = .ok (.iload_n 1, 1) := by decide +kernel
theorem dX11_isRest_30 : decode cX11_isRest 30 = .ok (.iload 4, 2) := by decide +kernel
theorem dX11_isRest_32 : decode cX11_isRest 32 = .ok (.iload_n 2, 1) := by decide +kernel
theorem dX11_isRest_33 : decode cX11_isRest 33 = .ok (.invokestatic 549, 3) := by decide +kernel
theorem dX11_isRest_36 : decode cX11_isRest 36 = .ok (.iload_n 0, 1) := by decide +kernel
theorem dX11_isRest_37 : decode cX11_isRest 37 = .ok (.iload_n 1, 1) := by decide +kernel
theorem dX11_isRest_38 : decode cX11_isRest 38 = .ok (.iload_n 3, 1) := by decide +kernel
theorem dX11_isRest_39 : decode cX11_isRest 39 = .ok (.iload_n 2, 1) := by decide +kernel
theorem dX11_isRest_40 : decode cX11_isRest 40 = .ok (.invokestatic 549, 3) := by decide +kernel
theorem dX11_isRest_43 : decode cX11_isRest 43 = .ok (.if_icmp .le 5, 3) := by decide +kernel
theorem dX11_isRest_46 : decode cX11_isRest 46 = .ok (.iconst 0, 1) := by decide +kernel
theorem dX11_isRest_47 : decode cX11_isRest 47 = .ok (.ireturn, 1) := by decide +kernel
theorem dX11_isRest_48 : decode cX11_isRest 48 = .ok (.iinc 4 1, 3) := by decide +kernel
theorem dX11_isRest_51 : decode cX11_isRest 51 = .ok (.goto (-48), 3) := by decide +kernel
theorem dX11_isRest_54 : decode cX11_isRest 54 = .ok (.iconst 1, 1) := by decide +kernel
theorem dX11_isRest_55 : decode cX11_isRest 55 = .ok (.ireturn, 1) := by decide +kernel
theorem dX11_rests_0 : decode cX11_rests 0 = .ok (.aload_n 0, 1) := by decide +kernel
theorem dX11_rests_1 : decode cX11_rests 1 = .ok (.iload_n 1, 1) := by decide +kernel
theorem dX11_rests_2 : decode cX11_rests 2 = .ok (.iconst 0, 1) := by decide +kernel
theorem dX11_rests_3 : decode cX11_rests 3 = .ok (.bipush 20, 2) := by decide +kernel
theorem dX11_rests_5 : decode cX11_rests 5 = .ok (.invokestatic 326, 3) := by decide +kernel
theorem dX11_rests_8 : decode cX11_rests 8 = .ok (.ifCond .eq 22, 3) := by decide +kernel
theorem dX11_rests_11 : decode cX11_rests 11 = .ok (.iload_n 2, 1) := by decide +kernel
theorem dX11_rests_12 : decode cX11_rests 12 = .ok (.iconst 0, 1) := by decide +kernel
theorem dX11_rests_13 : decode cX11_rests 13 = .ok (.bipush 9, 2) := by decide +kernel
theorem dX11_rests_15 : decode cX11_rests 15 = .ok (.invokestatic 326, 3) := by decide +kernel
theorem dX11_rests_18 : decode cX11_rests 18 = .ok (.ifCond .eq 12, 3) := by decide +kernel
theorem dX11_rests_21 : decode cX11_rests 21 = .ok (.iload_n 3, 1) := by decide +kernel
theorem dX11_rests_22 : decode cX11_rests 22 = .ok (.iconst (-1), 1) := by decide +kernel
theorem dX11_rests_23 : decode cX11_rests 23 = .ok (.if_icmp .lt 7, 3) := by decide +kernel
theorem dX11_rests_26 : decode cX11_rests 26 = .ok (.iconst 0, 1) := by decide +kernel
theorem dX11_rests_27 : decode cX11_rests 27 = .ok (.goto 4, 3) := by decide +kernel
theorem dX11_rests_30 : decode cX11_rests 30 = .ok (.iconst 1, 1) := by decide +kernel
theorem dX11_rests_31 : decode cX11_rests 31 = .ok (.putfield 187, 3) := by decide +kernel
theorem dX11_rests_34 : decode cX11_rests 34 = .ok (.aload_n 0, 1) := by decide +kernel
theorem dX11_rests_35 : decode cX11_rests 35 = .ok (.getfield 187, 3) := by decide +kernel
theorem dX11_rests_38 : decode cX11_rests 38 = .ok (.iconst 1, 1) := by decide +kernel
theorem dX11_rests_39 : decode cX11_rests 39 = .ok (.if_icmp .ne 5, 3) := by decide +kernel
theorem dX11_rests_42 : decode cX11_rests 42 = .ok (.iconst 0, 1) := by decide +kernel
theorem dX11_rests_43 : decode cX11_rests 43 = .ok (.ireturn, 1) := by decide +kernel
theorem dX11_rests_44 : decode cX11_rests 44 = .ok (.iconst 0, 1) := by decide +kernel
theorem dX11_rests_45 : decode cX11_rests 45 = .ok (.istore 4, 2) := by decide +kernel
theorem dX11_rests_47 : decode cX11_rests 47 = .ok (.iconst 1, 1) := by decide +kernel
theorem dX11_rests_48 : decode cX11_rests 48 = .ok (.istore 5, 2) := by decide +kernel
theorem dX11_rests_50 : decode cX11_rests 50 = .ok (.iload 5, 2) := by decide +kernel
theorem dX11_rests_52 : decode cX11_rests 52 = .ok (.bipush 7, 2) := by decide +kernel
theorem dX11_rests_54 : decode cX11_rests 54 = .ok (.if_icmp .ge 58, 3) := by decide +kernel
theorem dX11_rests_57 : decode cX11_rests 57 = .ok (.iconst 1, 1) := by decide +kernel
theorem dX11_rests_58 : decode cX11_rests 58 = .ok (.istore 6, 2) := by decide +kernel
theorem dX11_rests_60 : decode cX11_rests 60 = .ok (.iload 6, 2) := by decide +kernel
theorem dX11_rests_62 : decode cX11_rests 62 = .ok (.bipush 7, 2) := by decide +kernel
theorem dX11_rests_64 : decode cX11_rests 64 = .ok (.if_icmp .ge 42, 3) := by decide +kernel
theorem dX11_rests_67 : decode cX11_rests 67 = .ok (.iload_n 1, 1) := by decide +kernel
theorem dX11_rests_68 : decode cX11_rests 68 = .ok (.iload_n 2, 1) := by decide +kernel
theorem dX11_rests_69 : decode cX11_rests 69 = .ok (.iload 5, 2) := by decide +kernel
theorem dX11_rests_71 : decode cX11_rests 71 = .ok (.iload 6, 2) := by decide +kernel
theorem dX11_rests_73 : decode cX11_rests 73 = .ok (.invokestatic 553, 3) := by decide +kernel
theorem dX11_rests_76 : decode cX11_rests 76 = .ok (.ifCond .ne 6, 3) := by decide +kernel
theorem dX11_rests_79 : decode cX11_rests 79 = .ok (.goto 21, 3) := by decide +kernel
theorem dX11_rests_82 : decode cX11_rests 82 = .ok (.iload 4, 2) := by decide +kernel
theorem dX11_rests_84 : decode cX11_rests 84 = .ok (.iload_n 3, 1) := by decide +kernel
theorem dX11_rests_85 : decode cX11_rests 85 = .ok (.if_icmp .ne 12, 3) := by decide +kernel
theorem dX11_rests_88 : decode cX11_rests 88 = .ok (.bipush 10, 2) := by decide +kernel
theorem dX11_rests_90 : decode cX11_rests 90 = .ok (.iload 5, 2) := by decide +kernel
theorem dX11_rests_92 : decode cX11_rests 92 = .ok (.imul, 1) := by decide +kernel
theorem dX11_rests_93 : decode cX11_rests 93 = .ok (.iload 6, 2) := by decide +kernel
theorem dX11_rests_95 : decode cX11_rests 95 = .ok (.iadd, 1) := by decide +kernel
theorem dX11_rests_96 : decode cX11_rests 96 = .ok (.ireturn, 1) := by decide +kernel
theorem dX11_rests_97 : decode cX11_rests 97 = .ok (.iinc 4 1, 3) := by decide +kernel
theorem dX11_rests_100 : decode cX11_rests 100 = .ok (.iinc 6 1, 3) := by decide +kernel
theorem dX11_rests_103 : decode cX11_rests 103 = .ok (.goto (-43), 3) := by decide +kernel
theorem dX11_rests_106 : decode cX11_rests 106 = .ok (.iinc 5 1, 3) := by decide +kernel
theorem dX11_rests_109 : decode cX11_rests 109 = .ok (.goto (-59), 3) := by decide +kernel
theorem dX11_rests_112 : decode cX11_rests 112 = .ok (.aload_n 0, 1) := by decide +kernel
theorem dX11_rests_113 : decode cX11_rests 113 = .ok (.iload_n 3, 1) := by decide +kernel
theorem dX11_rests_114 : decode cX11_rests 114 = .ok (.iconst (-1), 1) := by decide +kernel
theorem dX11_rests_115 : decode cX11_rests 115 = .ok (.if_icmp .ne 7, 3) := by decide +kernel
theorem dX11_rests_118 : decode cX11_rests 118 = .ok (.iconst 0, 1) := by decide +kernel
theorem dX11_rests_119 : decode cX11_rests 119 = .ok (.goto 4, 3) := by decide +kernel
theorem dX11_rests_122 : decode cX11_rests 122 = .ok (.iconst 1, 1) := by decide +kernel
