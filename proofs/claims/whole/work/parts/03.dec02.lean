theorem dX10_zoo_21 : decode cX10_zoo 21 = .ok (.aload_n 0, 1) := by decide +kernel
theorem dX10_zoo_22 : decode cX10_zoo 22 = .ok (.aload_n 0, 1) := by decide +kernel
theorem dX10_zoo_23 : decode cX10_zoo 23 = .ok (.getfield 60, 3) := by decide +kernel
theorem dX10_zoo_26 : decode cX10_zoo 26 = .ok (.putfield 56, 3) := by decide +kernel
theorem dX10_zoo_29 : decode cX10_zoo 29 = .ok (.aload_n 0, 1) := by decide +kernel
theorem dX10_zoo_30 : decode cX10_zoo 30 = .ok (.aload_n 2, 1) := by decide +kernel
theorem dX10_zoo_31 : decode cX10_zoo 31 = .ok (.putfield 60, 3) := by decide +kernel
theorem dX10_zoo_34 : decode cX10_zoo 34 = .ok (.aload_n 0, 1) := by decide +kernel
theorem dX10_zoo_35 : decode cX10_zoo 35 = .ok (.getfield 66, 3) := by decide +kernel
theorem dX10_zoo_38 : decode cX10_zoo 38 = .ok (.aload_n 0, 1) := by decide +kernel
theorem dX10_zoo_39 : decode cX10_zoo 39 = .ok (.getfield 56, 3) := by decide +kernel
theorem dX10_zoo_42 : decode cX10_zoo 42 = .ok (.getfield 103, 3) := by decide +kernel
theorem dX10_zoo_45 : decode cX10_zoo 45 = .ok (.invokevirtual 106, 3) := by decide +kernel
theorem dX10_zoo_48 : decode cX10_zoo 48 = .ok (.aload_n 0, 1) := by decide +kernel
theorem dX10_zoo_49 : decode cX10_zoo 49 = .ok (.iconst 0, 1) := by decide +kernel
theorem dX10_zoo_50 : decode cX10_zoo 50 = .ok (.putfield 110, 3) := by decide +kernel
theorem dX10_zoo_53 : decode cX10_zoo 53 = .ok (.aload_n 0, 1) := by decide +kernel
theorem dX10_zoo_54 : decode cX10_zoo 54 = .ok (.getfield 35, 3) := by decide +kernel
theorem dX10_zoo_57 : decode cX10_zoo 57 = .ok (.iconst 0, 1) := by decide +kernel
theorem dX10_zoo_58 : decode cX10_zoo 58 = .ok (.putfield 113, 3) := by decide +kernel
theorem dX10_zoo_61 : decode cX10_zoo 61 = .ok (.iconst 0, 1) := by decide +kernel
theorem dX10_zoo_62 : decode cX10_zoo 62 = .ok (.istore_n 3, 1) := by decide +kernel
theorem dX10_zoo_63 : decode cX10_zoo 63 = .ok (.iload_n 3, 1) := by decide +kernel
theorem dX10_zoo_64 : decode cX10_zoo 64 = .ok (.iconst 4, 1) := by decide +kernel
theorem dX10_zoo_65 : decode cX10_zoo 65 = .ok (.if_icmp .ge 19, 3) := by decide +kernel
theorem dX10_zoo_68 : decode cX10_zoo 68 = .ok (.aload_n 0, 1) := by decide +kernel
theorem dX10_zoo_69 : decode cX10_zoo 69 = .ok (.getfield 70, 3) := by decide +kernel
theorem dX10_zoo_72 : decode cX10_zoo 72 = .ok (.iload_n 3, 1) := by decide +kernel
theorem dX10_zoo_73 : decode cX10_zoo 73 = .ok (.aaload, 1) := by decide +kernel
theorem dX10_zoo_74 : decode cX10_zoo 74 = .ok (.iconst 0, 1) := by decide +kernel
theorem dX10_zoo_75 : decode cX10_zoo 75 = .ok (.putfield 117, 3) := by decide +kernel
theorem dX10_zoo_78 : decode cX10_zoo 78 = .ok (.iinc 3 1, 3) := by decide +kernel
theorem dX10_zoo_81 : decode cX10_zoo 81 = .ok (.goto (-18), 3) := by decide +kernel
theorem dX10_zoo_84 : decode cX10_zoo 84 = .ok (.iload_n 1, 1) := by decide +kernel
theorem dX10_zoo_85 : decode cX10_zoo 85 = .ok (.ireturn, 1) := by decide +kernel
theorem dX10_days_0 : decode cX10_days 0 = .ok (.aload_n 0, 1) := by decide +kernel
theorem dX10_days_1 : decode cX10_days 1 = .ok (.getfield 21, 3) := by decide +kernel
theorem dX10_days_4 : decode cX10_days 4 = .ok (.aload_n 0, 1) := by decide +kernel
theorem dX10_days_5 : decode cX10_days 5 = .ok (.getfield 56, 3) := by decide +kernel
theorem dX10_days_8 : decode cX10_days 8 = .ok (.invokevirtual 120, 3) := by decide +kernel
theorem dX10_days_11 : decode cX10_days 11 = .ok (.istore_n 1, 1) := by decide +kernel
theorem dX10_days_12 : decode cX10_days 12 = .ok (.iload_n 1, 1) := by decide +kernel
theorem dX10_days_13 : decode cX10_days 13 = .ok (.ifCond .ne 24, 3) := by decide +kernel
theorem dX10_days_16 : decode cX10_days 16 = .ok (.aload_n 0, 1) := by decide +kernel
theorem dX10_days_17 : decode cX10_days 17 = .ok (.getfield 66, 3) := by decide +kernel
theorem dX10_days_20 : decode cX10_days 20 = .ok (.aload_n 0, 1) := by decide +kernel
theorem dX10_days_21 : decode cX10_days 21 = .ok (.getfield 21, 3) := by decide +kernel
theorem dX10_days_24 : decode cX10_days 24 = .ok (.getfield 123, 3) := by decide +kernel
theorem dX10_days_27 : decode cX10_days 27 = .ok (.aload_n 0, 1) := by decide +kernel
theorem dX10_days_28 : decode cX10_days 28 = .ok (.getfield 21, 3) := by decide +kernel
theorem dX10_days_31 : decode cX10_days 31 = .ok (.getfield 127, 3) := by decide +kernel
theorem dX10_days_34 : decode cX10_days 34 = .ok (.invokevirtual 130, 3) := by decide +kernel
theorem dX10_days_37 : decode cX10_days 37 = .ok (.iload_n 1, 1) := by decide +kernel
theorem dX10_days_38 : decode cX10_days 38 = .ok (.ireturn, 1) := by decide +kernel
theorem dX10_pen_0 : decode cX10_pen 0 = .ok (.aload_n 0, 1) := by decide +kernel
theorem dX10_pen_1 : decode cX10_pen 1 = .ok (.iload_n 1, 1) := by decide +kernel
theorem dX10_pen_2 : decode cX10_pen 2 = .ok (.invokevirtual 134, 3) := by decide +kernel
theorem dX10_pen_5 : decode cX10_pen 5 = .ok (.ifCond .ne 5, 3) := by decide +kernel
theorem dX10_pen_8 : decode cX10_pen 8 = .ok (.iconst (-1), 1) := by decide +kernel
theorem dX10_pen_9 : decode cX10_pen 9 = .ok (.ireturn, 1) := by decide +kernel
theorem dX10_pen_10 : decode cX10_pen 10 = .ok (.iload_n 2, 1) := by decide +kernel
theorem dX10_pen_11 : decode cX10_pen 11 = .ok (.tableswitch 83 0 2 #[25, 35, 54], 25) := by decide +kernel
theorem dX10_pen_36 : decode cX10_pen 36 = .ok (.aload_n 0, 1) := by decide +kernel
theorem dX10_pen_37 : decode cX10_pen 37 = .ok (.getfield 56, 3) := by decide +kernel
theorem dX10_pen_40 : decode cX10_pen 40 = .ok (.getfield 138, 3) := by decide +kernel
theorem dX10_pen_43 : decode cX10_pen 43 = .ok (.iload_n 1, 1) := by decide +kernel
theorem dX10_pen_44 : decode cX10_pen 44 = .ok (.iaload, 1) := by decide +kernel
theorem dX10_pen_45 : decode cX10_pen 45 = .ok (.ireturn, 1) := by decide +kernel
theorem dX10_pen_46 : decode cX10_pen 46 = .ok (.aload_n 0, 1) := by decide +kernel
theorem dX10_pen_47 : decode cX10_pen 47 = .ok (.getfield 66, 3) := by decide +kernel
theorem dX10_pen_50 : decode cX10_pen 50 = .ok (.getfield 141, 3) := by decide +kernel
theorem dX10_pen_53 : decode cX10_pen 53 = .ok (.iload_n 1, 1) := by decide +kernel
theorem dX10_pen_54 : decode cX10_pen 54 = .ok (.aload_n 0, 1) := by decide +kernel
theorem dX10_pen_55 : decode cX10_pen 55 = .ok (.getfield 56, 3) := by decide +kernel
theorem dX10_pen_58 : decode cX10_pen 58 = .ok (.getfield 144, 3) := by decide +kernel
theorem dX10_pen_61 : decode cX10_pen 61 = .ok (.invokevirtual 147, 3) := by decide +kernel
theorem dX10_pen_64 : decode cX10_pen 64 = .ok (.ireturn, 1) := by decide +kernel
theorem dX10_pen_65 : decode cX10_pen 65 = .ok (.aload_n 0, 1) := by decide +kernel
theorem dX10_pen_66 : decode cX10_pen 66 = .ok (.getfield 28, 3) := by decide +kernel
theorem dX10_pen_69 : decode cX10_pen 69 = .ok (.aload_n 0, 1) := by decide +kernel
theorem dX10_pen_70 : decode cX10_pen 70 = .ok (.getfield 56, 3) := by decide +kernel
theorem dX10_pen_73 : decode cX10_pen 73 = .ok (.aload_n 0, 1) := by decide +kernel
theorem dX10_pen_74 : decode cX10_pen 74 = .ok (.getfield 66, 3) := by decide +kernel
theorem dX10_pen_77 : decode cX10_pen 77 = .ok (.getfield 141, 3) := by decide +kernel
theorem dX10_pen_80 : decode cX10_pen 80 = .ok (.iconst 1, 1) := by decide +kernel
theorem dX10_pen_81 : decode cX10_pen 81 = .ok (.invokevirtual 151, 3) := by decide +kernel
theorem dX10_pen_84 : decode cX10_pen 84 = .ok (.aload_n 0, 1) := by decide +kernel
theorem dX10_pen_85 : decode cX10_pen 85 = .ok (.getfield 28, 3) := by decide +kernel
theorem dX10_pen_88 : decode cX10_pen 88 = .ok (.getfield 155, 3) := by decide +kernel
theorem dX10_pen_91 : decode cX10_pen 91 = .ok (.iload_n 1, 1) := by decide +kernel
theorem dX10_pen_92 : decode cX10_pen 92 = .ok (.iaload, 1) := by decide +kernel
theorem dX10_pen_93 : decode cX10_pen 93 = .ok (.ireturn, 1) := by decide +kernel
theorem dX10_pen_94 : decode cX10_pen 94 = .ok (.iconst (-1), 1) := by decide +kernel
theorem dX10_pen_95 : decode cX10_pen 95 = .ok (.ireturn, 1) := by decide +kernel
theorem dX10_guest_0 : decode cX10_guest 0 = .ok (.aload_n 0, 1) := by decide +kernel
theorem dX10_guest_1 : decode cX10_guest 1 = .ok (.iload_n 1, 1) := by decide +kernel
theorem dX10_guest_2 : decode cX10_guest 2 = .ok (.invokevirtual 158, 3) := by decide +kernel
theorem dX10_guest_5 : decode cX10_guest 5 = .ok (.ifCond .ne 5, 3) := by decide +kernel
theorem dX10_guest_8 : decode cX10_guest 8 = .ok (.iconst (-1), 1) := by decide +kernel
theorem dX10_guest_9 : decode cX10_guest 9 = .ok (.ireturn, 1) := by decide +kernel
theorem dX10_guest_10 : decode cX10_guest 10 = .ok (.iload_n 2, 1) := by decide +kernel
theorem dX10_guest_11 : decode cX10_guest 11 = .ok (.tableswitch 94 0 3 #[29, 39, 52, 65], 29) := by decide +kernel
theorem dX10_guest_40 : decode cX10_guest 40 = .ok (.aload_n 0, 1) := by decide +kernel
theorem dX10_guest_41 : decode cX10_guest 41 = .ok (.getfield 56, 3) := by decide +kernel
theorem dX10_guest_44 : decode cX10_guest 44 = .ok (.getfield 161, 3) := by decide +kernel
theorem dX10_guest_47 : decode cX10_guest 47 = .ok (.iload_n 1, 1) := by decide +kernel
theorem dX10_guest_48 : decode cX10_guest 48 = .ok (.iaload, 1) := by decide +kernel
theorem dX10_guest_49 : decode cX10_guest 49 = .ok (.ireturn, 1) := by decide +kernel
theorem dX10_guest_50 : decode cX10_guest 50 = .ok (.aload_n 0, 1) := by decide +kernel
theorem dX10_guest_51 : decode cX10_guest 51 = .ok (.getfield 66, 3) := by decide +kernel
theorem dX10_guest_54 : decode cX10_guest 54 = .ok (.getfield 141, 3) := by decide +kernel
theorem dX10_guest_57 : decode cX10_guest 57 = .ok (.getfield 164, 3) := by decide +kernel
theorem dX10_guest_60 : decode cX10_guest 60 = .ok (.iload_n 1, 1) := by decide +kernel
theorem dX10_guest_61 : decode cX10_guest 61 = .ok (.iaload, 1) := by decide +kernel
theorem dX10_guest_62 : decode cX10_guest 62 = .ok (.ireturn, 1) := by decide +kernel
theorem dX10_guest_63 : decode cX10_guest 63 = .ok (.aload_n 0, 1) := by decide +kernel
theorem dX10_guest_64 : decode cX10_guest 64 = .ok (.getfield 66, 3) := by decide +kernel
theorem dX10_guest_67 : decode cX10_guest 67 = .ok (.getfield 141, 3) := by decide +kernel
theorem dX10_guest_70 : decode cX10_guest 70 = .ok (.getfield 167, 3) := by decide +kernel
theorem dX10_guest_73 : decode cX10_guest 73 = .ok (.iload_n 1, 1) := by decide +kernel
theorem dX10_guest_74 : decode cX10_guest 74 = .ok (.iaload, 1) := by decide +kernel
theorem dX10_guest_75 : decode cX10_guest 75 = .ok (.ireturn, 1) := by decide +kernel
theorem dX10_guest_76 : decode cX10_guest 76 = .ok (.aload_n 0, 1) := by decide +kernel
theorem dX10_guest_77 : decode cX10_guest 77 = .ok (.getfield 28, 3) := by decide +kernel
theorem dX10_guest_80 : decode cX10_guest 80 = .ok (.aload_n 0, 1) := by decide +kernel
theorem dX10_guest_81 : decode cX10_guest 81 = .ok (.getfield 56, 3) := by decide +kernel
theorem dX10_guest_84 : decode cX10_guest 84 = .ok (.aload_n 0, 1) := by decide +kernel
theorem dX10_guest_85 : decode cX10_guest 85 = .ok (.getfield 66, 3) := by decide +kernel
theorem dX10_guest_88 : decode cX10_guest 88 = .ok (.getfield 141, 3) := by decide +kernel
theorem dX10_guest_91 : decode cX10_guest 91 = .ok (.iconst 1, 1) := by decide +kernel
theorem dX10_guest_92 : decode cX10_guest 92 = .ok (.invokevirtual 151, 3) := by decide +kernel
theorem dX10_guest_95 : decode cX10_guest 95 = .ok (.aload_n 0, 1) := by decide +kernel
theorem dX10_guest_96 : decode cX10_guest 96 = .ok (.getfield 28, 3) := by decide +kernel
theorem dX10_guest_99 : decode cX10_guest 99 = .ok (.getfield 170, 3) := by decide +kernel
theorem dX10_guest_102 : decode cX10_guest 102 = .ok (.iload_n 1, 1) := by decide +kernel
theorem dX10_guest_103 : decode cX10_guest 103 = .ok (.iaload, 1) := by decide +kernel
theorem dX10_guest_104 : decode cX10_guest 104 = .ok (.ireturn, 1) := by decide +kernel
theorem dX10_guest_105 : decode cX10_guest 105 = .ok (.iconst (-1), 1) := by decide +kernel
theorem dX10_guest_106 : decode cX10_guest 106 = .ok (.ireturn, 1) := by decide +kernel
theorem dX10_animal_0 : decode cX10_animal 0 = .ok (.aload_n 0, 1) := by decide +kernel
theorem dX10_animal_1 : decode cX10_animal 1 = .ok (.iload_n 1, 1) := by decide +kernel
theorem dX10_animal_2 : decode cX10_animal 2 = .ok (.invokevirtual 173, 3) := by decide +kernel
theorem dX10_animal_5 : decode cX10_animal 5 = .ok (.ifCond .ne 6, 3) := by decide +kernel
theorem dX10_animal_8 : decode cX10_animal 8 = .ok (.bipush (-2), 2) := by decide +kernel
theorem dX10_animal_10 : decode cX10_animal 10 = .ok (.ireturn, 1) := by decide +kernel
theorem dX10_animal_11 : decode cX10_animal 11 = .ok (.iload_n 2, 1) := by decide +kernel
theorem dX10_animal_12 : decode cX10_animal 12 = .ok (.tableswitch 113 0 3 #[32, 42, 55, 84], 32) := by decide +kernel
theorem dX10_animal_44 : decode cX10_animal 44 = .ok (.aload_n 0, 1) := by decide +kernel
theorem dX10_animal_45 : decode cX10_animal 45 = .ok (.getfield 56, 3) := by decide +kernel
theorem dX10_animal_48 : decode cX10_animal 48 = .ok (.getfield 176, 3) := by decide +kernel
theorem dX10_animal_51 : decode cX10_animal 51 = .ok (.iload_n 1, 1) := by decide +kernel
theorem dX10_animal_52 : decode cX10_animal 52 = .ok (.iaload, 1) := by decide +kernel
theorem dX10_animal_53 : decode cX10_animal 53 = .ok (.ireturn, 1) := by decide +kernel
theorem dX10_animal_54 : decode cX10_animal 54 = .ok (.aload_n 0, 1) := by decide +kernel
theorem dX10_animal_55 : decode cX10_animal 55 = .ok (.getfield 66, 3) := by decide +kernel
theorem dX10_animal_58 : decode cX10_animal 58 = .ok (.getfield 141, 3) := by decide +kernel
theorem dX10_animal_61 : decode cX10_animal 61 = .ok (.getfield 179, 3) := by decide +kernel
theorem dX10_animal_64 : decode cX10_animal 64 = .ok (.iload_n 1, 1) := by decide +kernel
theorem dX10_animal_65 : decode cX10_animal 65 = .ok (.iaload, 1) := by decide +kernel
theorem dX10_animal_66 : decode cX10_animal 66 = .ok (.ireturn, 1) := by decide +kernel
theorem dX10_animal_67 : decode cX10_animal 67 = .ok (.aload_n 0, 1) := by decide +kernel
theorem dX10_animal_68 : decode cX10_animal 68 = .ok (.getfield 28, 3) := by decide +kernel
theorem dX10_animal_71 : decode cX10_animal 71 = .ok (.aload_n 0, 1) := by decide +kernel
theorem dX10_animal_72 : decode cX10_animal 72 = .ok (.getfield 56, 3) := by decide +kernel
theorem dX10_animal_75 : decode cX10_animal 75 = .ok (.aload_n 0, 1) := by decide +kernel
theorem dX10_animal_76 : decode cX10_animal 76 = .ok (.getfield 66, 3) := by decide +kernel
theorem dX10_animal_79 : decode cX10_animal 79 = .ok (.getfield 141, 3) := by decide +kernel
theorem dX10_animal_82 : decode cX10_animal 82 = .ok (.iconst 1, 1) := by decide +kernel
theorem dX10_animal_83 : decode cX10_animal 83 = .ok (.invokevirtual 151, 3) := by decide +kernel
theorem dX10_animal_86 : decode cX10_animal 86 = .ok (.aload_n 0, 1) := by decide +kernel
theorem dX10_animal_87 : decode cX10_animal 87 = .ok (.getfield 28, 3) := by decide +kernel
theorem dX10_animal_90 : decode cX10_animal 90 = .ok (.getfield 182, 3) := by decide +kernel
theorem dX10_animal_93 : decode cX10_animal 93 = .ok (.iload_n 1, 1) := by decide +kernel
theorem dX10_animal_94 : decode cX10_animal 94 = .ok (.iaload, 1) := by decide +kernel
theorem dX10_animal_95 : decode cX10_animal 95 = .ok (.ireturn, 1) := by decide +kernel
theorem dX10_animal_96 : decode cX10_animal 96 = .ok (.aload_n 0, 1) := by decide +kernel
theorem dX10_animal_97 : decode cX10_animal 97 = .ok (.getfield 28, 3) := by decide +kernel
theorem dX10_animal_100 : decode cX10_animal 100 = .ok (.aload_n 0, 1) := by decide +kernel
theorem dX10_animal_101 : decode cX10_animal 101 = .ok (.getfield 56, 3) := by decide +kernel
theorem dX10_animal_104 : decode cX10_animal 104 = .ok (.aload_n 0, 1) := by decide +kernel
theorem dX10_animal_105 : decode cX10_animal 105 = .ok (.getfield 66, 3) := by decide +kernel
theorem dX10_animal_108 : decode cX10_animal 108 = .ok (.getfield 141, 3) := by decide +kernel
theorem dX10_animal_111 : decode cX10_animal 111 = .ok (.iconst 1, 1) := by decide +kernel
theorem dX10_animal_112 : decode cX10_animal 112 = .ok (.invokevirtual 151, 3) := by decide +kernel
theorem dX10_animal_115 : decode cX10_animal 115 = .ok (.aload_n 0, 1) := by decide +kernel
theorem dX10_animal_116 : decode cX10_animal 116 = .ok (.getfield 28, 3) := by decide +kernel
theorem dX10_animal_119 : decode cX10_animal 119 = .ok (.getfield 185, 3) := by decide +kernel
theorem dX10_animal_122 : decode cX10_animal 122 = .ok (.iload_n 1, 1) := by decide +kernel
theorem dX10_animal_123 : decode cX10_animal 123 = .ok (.iaload, 1) := by decide +kernel
theorem dX10_animal_124 : decode cX10_animal 124 = .ok (.ireturn, 1) := by decide +kernel
theorem dX10_animal_125 : decode cX10_animal 125 = .ok (.bipush (-2), 2) := by decide +kernel
theorem dX10_animal_127 : decode cX10_animal 127 = .ok (.ireturn, 1) := by decide +kernel
theorem dX10_worth_0 : decode cX10_worth 0 = .ok (.aload_n 0, 1) := by decide +kernel
theorem dX10_worth_1 : decode cX10_worth 1 = .ok (.iload_n 1, 1) := by decide +kernel
theorem dX10_worth_2 : decode cX10_worth 2 = .ok (.invokevirtual 173, 3) := by decide +kernel
theorem dX10_worth_5 : decode cX10_worth 5 = .ok (.ifCond .eq 11, 3) := by decide +kernel
theorem dX10_worth_8 : decode cX10_worth 8 = .ok (.aload_n 0, 1) := by decide +kernel
theorem dX10_worth_9 : decode cX10_worth 9 = .ok (.iload_n 2, 1) := by decide +kernel
theorem dX10_worth_10 : decode cX10_worth 10 = .ok (.invokevirtual 134, 3) := by decide +kernel
theorem dX10_worth_13 : decode cX10_worth 13 = .ok (.ifCond .ne 5, 3) := by decide +kernel
theorem dX10_worth_16 : decode cX10_worth 16 = .ok (.iconst (-1), 1) := by decide +kernel
theorem dX10_worth_17 : decode cX10_worth 17 = .ok (.ireturn, 1) := by decide +kernel
theorem dX10_worth_18 : decode cX10_worth 18 = .ok (.aload_n 0, 1) := by decide +kernel
theorem dX10_worth_19 : decode cX10_worth 19 = .ok (.getfield 28, 3) := by decide +kernel
theorem dX10_worth_22 : decode cX10_worth 22 = .ok (.aload_n 0, 1) := by decide +kernel
theorem dX10_worth_23 : decode cX10_worth 23 = .ok (.getfield 56, 3) := by decide +kernel
theorem dX10_worth_26 : decode cX10_worth 26 = .ok (.aload_n 0, 1) := by decide +kernel
theorem dX10_worth_27 : decode cX10_worth 27 = .ok (.getfield 66, 3) := by decide +kernel
theorem dX10_worth_30 : decode cX10_worth 30 = .ok (.getfield 141, 3) := by decide +kernel
theorem dX10_worth_33 : decode cX10_worth 33 = .ok (.invokevirtual 188, 3) := by decide +kernel
theorem dX10_worth_36 : decode cX10_worth 36 = .ok (.aload_n 0, 1) := by decide +kernel
theorem dX10_worth_37 : decode cX10_worth 37 = .ok (.getfield 28, 3) := by decide +kernel
theorem dX10_worth_40 : decode cX10_worth 40 = .ok (.iconst 1, 1) := by decide +kernel
theorem dX10_worth_41 : decode cX10_worth 41 = .ok (.aload_n 0, 1) := by decide +kernel
theorem dX10_worth_42 : decode cX10_worth 42 = .ok (.getfield 56, 3) := by decide +kernel
theorem dX10_worth_45 : decode cX10_worth 45 = .ok (.getfield 176, 3) := by decide +kernel
theorem dX10_worth_48 : decode cX10_worth 48 = .ok (.iload_n 1, 1) := by decide +kernel
theorem dX10_worth_49 : decode cX10_worth 49 = .ok (.iaload, 1) := by decide +kernel
theorem dX10_worth_50 : decode cX10_worth 50 = .ok (.ishl, 1) := by decide +kernel
theorem dX10_worth_51 : decode cX10_worth 51 = .ok (.iload_n 2, 1) := by decide +kernel
theorem dX10_worth_52 : decode cX10_worth 52 = .ok (.invokevirtual 192, 3) := by decide +kernel
theorem dX10_worth_55 : decode cX10_worth 55 = .ok (.ireturn, 1) := by decide +kernel
theorem dX10_move_0 : decode cX10_move 0 = .ok (.aload_n 0, 1) := by decide +kernel
theorem dX10_move_1 : decode cX10_move 1 = .ok (.iload_n 1, 1) := by decide +kernel
theorem dX10_move_2 : decode cX10_move 2 = .ok (.invokevirtual 158, 3) := by decide +kernel
theorem dX10_move_5 : decode cX10_move 5 = .ok (.ifCond .eq 28, 3) := by decide +kernel
theorem dX10_move_8 : decode cX10_move 8 = .ok (.aload_n 0, 1) := by decide +kernel
theorem dX10_move_9 : decode cX10_move 9 = .ok (.iload_n 2, 1) := by decide +kernel
theorem dX10_move_10 : decode cX10_move 10 = .ok (.invokevirtual 134, 3) := by decide +kernel
theorem dX10_move_13 : decode cX10_move 13 = .ok (.ifCond .eq 20, 3) := by decide +kernel
theorem dX10_move_16 : decode cX10_move 16 = .ok (.aload_n 0, 1) := by decide +kernel
theorem dX10_move_17 : decode cX10_move 17 = .ok (.iconst 0, 1) := by decide +kernel
theorem dX10_move_18 : decode cX10_move 18 = .ok (.iload_n 1, 1) := by decide +kernel
theorem dX10_move_19 : decode cX10_move 19 = .ok (.iload_n 2, 1) := by decide +kernel
theorem dX10_move_20 : decode cX10_move 20 = .ok (.invokestatic 195, 3) := by decide +kernel
theorem dX10_move_23 : decode cX10_move 23 = .ok (.invokevirtual 199, 3) := by decide +kernel
theorem dX10_move_26 : decode cX10_move 26 = .ok (.ifCond .eq 7, 3) := by decide +kernel
theorem dX10_move_29 : decode cX10_move 29 = .ok (.iconst 1, 1) := by decide +kernel
theorem dX10_move_30 : decode cX10_move 30 = .ok (.goto 4, 3) := by decide +kernel
theorem dX10_move_33 : decode cX10_move 33 = .ok (.iconst 0, 1) := by decide +kernel
theorem dX10_move_34 : decode cX10_move 34 = .ok (.ireturn, 1) := by decide +kernel
theorem dX10_tyre_0 : decode cX10_tyre 0 = .ok (.aload_n 0, 1) := by decide +kernel
theorem dX10_tyre_1 : decode cX10_tyre 1 = .ok (.iload_n 1, 1) := by decide +kernel
theorem dX10_tyre_2 : decode cX10_tyre 2 = .ok (.invokevirtual 158, 3) := by decide +kernel
theorem dX10_tyre_5 : decode cX10_tyre 5 = .ok (.ifCond .eq 16, 3) := by decide +kernel
theorem dX10_tyre_8 : decode cX10_tyre 8 = .ok (.aload_n 0, 1) := by decide +kernel
theorem dX10_tyre_9 : decode cX10_tyre 9 = .ok (.iconst 1, 1) := by decide +kernel
theorem dX10_tyre_10 : decode cX10_tyre 10 = .ok (.iload_n 1, 1) := by decide +kernel
theorem dX10_tyre_11 : decode cX10_tyre 11 = .ok (.iconst 0, 1) := by decide +kernel
theorem dX10_tyre_12 : decode cX10_tyre 12 = .ok (.invokestatic 195, 3) := by decide +kernel
theorem dX10_tyre_15 : decode cX10_tyre 15 = .ok (.invokevirtual 199, 3) := by decide +kernel
theorem dX10_tyre_18 : decode cX10_tyre 18 = .ok (.ifCond .ne 5, 3) := by decide +kernel
theorem dX10_tyre_21 : decode cX10_tyre 21 = .ok (.iconst (-1), 1) := by decide +kernel
theorem dX10_tyre_22 : decode cX10_tyre 22 = .ok (.ireturn, 1) := by decide +kernel
theorem dX10_tyre_23 : decode cX10_tyre 23 = .ok (.aload_n 0, 1) := by decide +kernel
theorem dX10_tyre_24 : decode cX10_tyre 24 = .ok (.getfield 66, 3) := by decide +kernel
theorem dX10_tyre_27 : decode cX10_tyre 27 = .ok (.getfield 141, 3) := by decide +kernel
theorem dX10_tyre_30 : decode cX10_tyre 30 = .ok (.getfield 164, 3) := by decide +kernel
theorem dX10_tyre_33 : decode cX10_tyre 33 = .ok (.iload_n 1, 1) := by decide +kernel
theorem dX10_tyre_34 : decode cX10_tyre 34 = .ok (.iaload, 1) := by decide +kernel
theorem dX10_tyre_35 : decode cX10_tyre 35 = .ok (.ireturn, 1) := by decide +kernel
theorem dX10_hour_0 : decode cX10_hour 0 = .ok (.aload_n 0, 1) := by decide +kernel
theorem dX10_hour_1 : decode cX10_hour 1 = .ok (.getfield 66, 3) := by decide +kernel
theorem dX10_hour_4 : decode cX10_hour 4 = .ok (.getfield 141, 3) := by decide +kernel
theorem dX10_hour_7 : decode cX10_hour 7 = .ok (.getfield 202, 3) := by decide +kernel
theorem dX10_hour_10 : decode cX10_hour 10 = .ok (.istore_n 1, 1) := by decide +kernel
theorem dX10_hour_11 : decode cX10_hour 11 = .ok (.aload_n 0, 1) := by decide +kernel
theorem dX10_hour_12 : decode cX10_hour 12 = .ok (.iconst 2, 1) := by decide +kernel
theorem dX10_hour_13 : decode cX10_hour 13 = .ok (.invokevirtual 199, 3) := by decide +kernel
theorem dX10_hour_16 : decode cX10_hour 16 = .ok (.pop, 1) := by decide +kernel
theorem dX10_hour_17 : decode cX10_hour 17 = .ok (.aload_n 0, 1) := by decide +kernel
theorem dX10_hour_18 : decode cX10_hour 18 = .ok (.getfield 66, 3) := by decide +kernel
theorem dX10_hour_21 : decode cX10_hour 21 = .ok (.getfield 141, 3) := by decide +kernel
theorem dX10_hour_24 : decode cX10_hour 24 = .ok (.getfield 202, 3) := by decide +kernel
theorem dX10_hour_27 : decode cX10_hour 27 = .ok (.iload_n 1, 1) := by decide +kernel
theorem dX10_hour_28 : decode cX10_hour 28 = .ok (.isub, 1) := by decide +kernel
theorem dX10_hour_29 : decode cX10_hour 29 = .ok (.ireturn, 1) := by decide +kernel
theorem dX10_undo_0 : decode cX10_undo 0 = .ok (.aload_n 0, 1) := by decide +kernel
theorem dX10_undo_1 : decode cX10_undo 1 = .ok (.getfield 110, 3) := by decide +kernel
theorem dX10_undo_4 : decode cX10_undo 4 = .ok (.ifCond .gt 5, 3) := by decide +kernel
theorem dX10_undo_7 : decode cX10_undo 7 = .ok (.iconst 0, 1) := by decide +kernel
theorem dX10_undo_8 : decode cX10_undo 8 = .ok (.ireturn, 1) := by decide +kernel
theorem dX10_undo_9 : decode cX10_undo 9 = .ok (.aload_n 0, 1) := by decide +kernel
theorem dX10_undo_10 : decode cX10_undo 10 = .ok (.dup, 1) := by decide +kernel
theorem dX10_undo_11 : decode cX10_undo 11 = .ok (.getfield 110, 3) := by decide +kernel
theorem dX10_undo_14 : decode cX10_undo 14 = .ok (.iconst 1, 1) := by decide +kernel
theorem dX10_undo_15 : decode cX10_undo 15 = .ok (.isub, 1) := by decide +kernel
theorem dX10_undo_16 : decode cX10_undo 16 = .ok (.putfield 110, 3) := by decide +kernel
theorem dX10_undo_19 : decode cX10_undo 19 = .ok (.aload_n 0, 1) := by decide +kernel
theorem dX10_undo_20 : decode cX10_undo 20 = .ok (.aload_n 0, 1) := by decide +kernel
theorem dX10_undo_21 : decode cX10_undo 21 = .ok (.getfield 205, 3) := by decide +kernel
theorem dX10_undo_24 : decode cX10_undo 24 = .ok (.bipush 16, 2) := by decide +kernel
theorem dX10_undo_26 : decode cX10_undo 26 = .ok (.iadd, 1) := by decide +kernel
theorem dX10_undo_27 : decode cX10_undo 27 = .ok (.iconst 1, 1) := by decide +kernel
theorem dX10_undo_28 : decode cX10_undo 28 = .ok (.isub, 1) := by decide +kernel
theorem dX10_undo_29 : decode cX10_undo 29 = .ok (.bipush 16, 2) := by decide +kernel
theorem dX10_undo_31 : decode cX10_undo 31 = .ok (.irem, 1) := by decide +kernel
theorem dX10_undo_32 : decode cX10_undo 32 = .ok (.putfield 205, 3) := by decide +kernel
theorem dX10_undo_35 : decode cX10_undo 35 = .ok (.aload_n 0, 1) := by decide +kernel
theorem dX10_undo_36 : decode cX10_undo 36 = .ok (.getfield 66, 3) := by decide +kernel
theorem dX10_undo_39 : decode cX10_undo 39 = .ok (.getfield 141, 3) := by decide +kernel
theorem dX10_undo_42 : decode cX10_undo 42 = .ok (.aload_n 0, 1) := by decide +kernel
theorem dX10_undo_43 : decode cX10_undo 43 = .ok (.getfield 81, 3) := by decide +kernel
theorem dX10_undo_46 : decode cX10_undo 46 = .ok (.aload_n 0, 1) := by decide +kernel
theorem dX10_undo_47 : decode cX10_undo 47 = .ok (.getfield 205, 3) := by decide +kernel
theorem dX10_undo_50 : decode cX10_undo 50 = .ok (.aaload, 1) := by decide +kernel
theorem dX10_undo_51 : decode cX10_undo 51 = .ok (.invokevirtual 208, 3) := by decide +kernel
theorem dX10_undo_54 : decode cX10_undo 54 = .ok (.aload_n 0, 1) := by decide +kernel
theorem dX10_undo_55 : decode cX10_undo 55 = .ok (.getfield 35, 3) := by decide +kernel
theorem dX10_undo_58 : decode cX10_undo 58 = .ok (.iconst 0, 1) := by decide +kernel
theorem dX10_undo_59 : decode cX10_undo 59 = .ok (.putfield 113, 3) := by decide +kernel
theorem dX10_undo_62 : decode cX10_undo 62 = .ok (.iconst 1, 1) := by decide +kernel
theorem dX10_undo_63 : decode cX10_undo 63 = .ok (.ireturn, 1) := by decide +kernel
theorem dX10_judged_0 : decode cX10_judged 0 = .ok (.iload_n 1, 1) := by decide +kernel
theorem dX10_judged_1 : decode cX10_judged 1 = .ok (.ifCond .lt 8, 3) := by decide +kernel
theorem dX10_judged_4 : decode cX10_judged 4 = .ok (.iload_n 1, 1) := by decide +kernel
theorem dX10_judged_5 : decode cX10_judged 5 = .ok (.iconst 2, 1) := by decide +kernel
theorem dX10_judged_6 : decode cX10_judged 6 = .ok (.if_icmp .le 6, 3) := by decide +kernel
theorem dX10_judged_9 : decode cX10_judged 9 = .ok (.bipush (-2), 2) := by decide +kernel
theorem dX10_judged_11 : decode cX10_judged 11 = .ok (.ireturn, 1) := by decide +kernel
theorem dX10_judged_12 : decode cX10_judged 12 = .ok (.iconst (-1), 1) := by decide +kernel
theorem dX10_judged_13 : decode cX10_judged 13 = .ok (.istore_n 2, 1) := by decide +kernel
theorem dX10_judged_14 : decode cX10_judged 14 = .ok (.iconst (-1), 1) := by decide +kernel
theorem dX10_judged_15 : decode cX10_judged 15 = .ok (.istore_n 3, 1) := by decide +kernel
theorem dX10_judged_16 : decode cX10_judged 16 = .ok (.aload_n 0, 1) := by decide +kernel
theorem dX10_judged_17 : decode cX10_judged 17 = .ok (.getfield 77, 3) := by decide +kernel
theorem dX10_judged_20 : decode cX10_judged 20 = .ok (.aload_n 0, 1) := by decide +kernel
theorem dX10_judged_21 : decode cX10_judged 21 = .ok (.getfield 56, 3) := by decide +kernel
theorem dX10_judged_24 : decode cX10_judged 24 = .ok (.getfield 103, 3) := by decide +kernel
theorem dX10_judged_27 : decode cX10_judged 27 = .ok (.invokevirtual 208, 3) := by decide +kernel
theorem dX10_judged_30 : decode cX10_judged 30 = .ok (.iconst 0, 1) := by decide +kernel
theorem dX10_judged_31 : decode cX10_judged 31 = .ok (.istore 4, 2) := by decide +kernel
theorem dX10_judged_33 : decode cX10_judged 33 = .ok (.iload 4, 2) := by decide +kernel
theorem dX10_judged_35 : decode cX10_judged 35 = .ok (.aload_n 0, 1) := by decide +kernel
theorem dX10_judged_36 : decode cX10_judged 36 = .ok (.getfield 66, 3) := by decide +kernel
theorem dX10_judged_39 : decode cX10_judged 39 = .ok (.getfield 211, 3) := by decide +kernel
theorem dX10_judged_42 : decode cX10_judged 42 = .ok (.if_icmp .ge 77, 3) := by decide +kernel
theorem dX10_judged_45 : decode cX10_judged 45 = .ok (.aload_n 0, 1) := by decide +kernel
theorem dX10_judged_46 : decode cX10_judged 46 = .ok (.getfield 28, 3) := by decide +kernel
theorem dX10_judged_49 : decode cX10_judged 49 = .ok (.aload_n 0, 1) := by decide +kernel
theorem dX10_judged_50 : decode cX10_judged 50 = .ok (.getfield 56, 3) := by decide +kernel
theorem dX10_judged_53 : decode cX10_judged 53 = .ok (.aload_n 0, 1) := by decide +kernel
theorem dX10_judged_54 : decode cX10_judged 54 = .ok (.getfield 77, 3) := by decide +kernel
theorem dX10_judged_57 : decode cX10_judged 57 = .ok (.aload_n 0, 1) := by decide +kernel
theorem dX10_judged_58 : decode cX10_judged 58 = .ok (.getfield 66, 3) := by decide +kernel
theorem dX10_judged_61 : decode cX10_judged 61 = .ok (.getfield 212, 3) := by decide +kernel
theorem dX10_judged_64 : decode cX10_judged 64 = .ok (.iload 4, 2) := by decide +kernel
theorem dX10_judged_66 : decode cX10_judged 66 = .ok (.iaload, 1) := by decide +kernel
theorem dX10_judged_67 : decode cX10_judged 67 = .ok (.invokevirtual 213, 3) := by decide +kernel
theorem dX10_judged_70 : decode cX10_judged 70 = .ok (.ifCond .ne 18, 3) := by decide +kernel
theorem dX10_judged_73 : decode cX10_judged 73 = .ok (.iload_n 2, 1) := by decide +kernel
theorem dX10_judged_74 : decode cX10_judged 74 = .ok (.iconst (-1), 1) := by decide +kernel
theorem dX10_judged_75 : decode cX10_judged 75 = .ok (.if_icmp .ne 8, 3) := by decide +kernel
theorem dX10_judged_78 : decode cX10_judged 78 = .ok (.iload 4, 2) := by decide +kernel
theorem dX10_judged_80 : decode cX10_judged 80 = .ok (.goto 4, 3) := by decide +kernel
theorem dX10_judged_83 : decode cX10_judged 83 = .ok (.iload_n 2, 1) := by decide +kernel
theorem dX10_judged_84 : decode cX10_judged 84 = .ok (.istore_n 2, 1) := by decide +kernel
theorem dX10_judged_85 : decode cX10_judged 85 = .ok (.goto 28, 3) := by decide +kernel
theorem dX10_judged_88 : decode cX10_judged 88 = .ok (.iload_n 3, 1) := by decide +kernel
theorem dX10_judged_89 : decode cX10_judged 89 = .ok (.iconst (-1), 1) := by decide +kernel
theorem dX10_judged_90 : decode cX10_judged 90 = .ok (.if_icmp .ne 23, 3) := by decide +kernel
theorem dX10_judged_93 : decode cX10_judged 93 = .ok (.aload_n 0, 1) := by decide +kernel
theorem dX10_judged_94 : decode cX10_judged 94 = .ok (.getfield 77, 3) := by decide +kernel
theorem dX10_judged_97 : decode cX10_judged 97 = .ok (.aload_n 0, 1) := by decide +kernel
theorem dX10_judged_98 : decode cX10_judged 98 = .ok (.getfield 56, 3) := by decide +kernel
theorem dX10_judged_101 : decode cX10_judged 101 = .ok (.getfield 144, 3) := by decide +kernel
theorem dX10_judged_104 : decode cX10_judged 104 = .ok (.invokevirtual 217, 3) := by decide +kernel
theorem dX10_judged_107 : decode cX10_judged 107 = .ok (.ifCond .eq 6, 3) := by decide +kernel
theorem dX10_judged_110 : decode cX10_judged 110 = .ok (.iload 4, 2) := by decide +kernel
theorem dX10_judged_112 : decode cX10_judged 112 = .ok (.istore_n 3, 1) := by decide +kernel
theorem dX10_judged_113 : decode cX10_judged 113 = .ok (.iinc 4 1, 3) := by decide +kernel
theorem dX10_judged_116 : decode cX10_judged 116 = .ok (.goto (-83), 3) := by decide +kernel
theorem dX10_judged_119 : decode cX10_judged 119 = .ok (.iload_n 1, 1) := by decide +kernel
theorem dX10_judged_120 : decode cX10_judged 120 = .ok (.ifCond .ne 7, 3) := by decide +kernel
theorem dX10_judged_123 : decode cX10_judged 123 = .ok (.iload_n 2, 1) := by decide +kernel
theorem dX10_judged_124 : decode cX10_judged 124 = .ok (.goto 19, 3) := by decide +kernel
theorem dX10_judged_127 : decode cX10_judged 127 = .ok (.iload_n 1, 1) := by decide +kernel
theorem dX10_judged_128 : decode cX10_judged 128 = .ok (.iconst 1, 1) := by decide +kernel
theorem dX10_judged_129 : decode cX10_judged 129 = .ok (.if_icmp .ne 7, 3) := by decide +kernel
theorem dX10_judged_132 : decode cX10_judged 132 = .ok (.iload_n 3, 1) := by decide +kernel
theorem dX10_judged_133 : decode cX10_judged 133 = .ok (.goto 10, 3) := by decide +kernel
theorem dX10_judged_136 : decode cX10_judged 136 = .ok (.aload_n 0, 1) := by decide +kernel
theorem dX10_judged_137 : decode cX10_judged 137 = .ok (.getfield 77, 3) := by decide +kernel
theorem dX10_judged_140 : decode cX10_judged 140 = .ok (.getfield 202, 3) := by decide +kernel
theorem dX10_judged_143 : decode cX10_judged 143 = .ok (.ireturn, 1) := by decide +kernel
theorem dX10_show_0 : decode cX10_show 0 = .ok (.aload_n 0, 1) := by decide +kernel
theorem dX10_show_1 : decode cX10_show 1 = .ok (.getfield 35, 3) := by decide +kernel
theorem dX10_show_4 : decode cX10_show 4 = .ok (.getfield 113, 3) := by decide +kernel
theorem dX10_show_7 : decode cX10_show 7 = .ok (.ifCond .ne 21, 3) := by decide +kernel
theorem dX10_show_10 : decode cX10_show 10 = .ok (.aload_n 0, 1) := by decide +kernel
theorem dX10_show_11 : decode cX10_show 11 = .ok (.getfield 35, 3) := by decide +kernel
theorem dX10_show_14 : decode cX10_show 14 = .ok (.aload_n 0, 1) := by decide +kernel
theorem dX10_show_15 : decode cX10_show 15 = .ok (.getfield 56, 3) := by decide +kernel
theorem dX10_show_18 : decode cX10_show 18 = .ok (.aload_n 0, 1) := by decide +kernel
theorem dX10_show_19 : decode cX10_show 19 = .ok (.getfield 66, 3) := by decide +kernel
theorem dX10_show_22 : decode cX10_show 22 = .ok (.getfield 141, 3) := by decide +kernel
theorem dX10_show_25 : decode cX10_show 25 = .ok (.invokevirtual 221, 3) := by decide +kernel
theorem dX10_show_28 : decode cX10_show 28 = .ok (.aload_n 0, 1) := by decide +kernel
theorem dX10_show_29 : decode cX10_show 29 = .ok (.getfield 35, 3) := by decide +kernel
theorem dX10_show_32 : decode cX10_show 32 = .ok (.getfield 224, 3) := by decide +kernel
theorem dX10_show_35 : decode cX10_show 35 = .ok (.ifCond .eq 20, 3) := by decide +kernel
theorem dX10_show_38 : decode cX10_show 38 = .ok (.iload_n 1, 1) := by decide +kernel
theorem dX10_show_39 : decode cX10_show 39 = .ok (.ifCond .lt 16, 3) := by decide +kernel
theorem dX10_show_42 : decode cX10_show 42 = .ok (.iload_n 1, 1) := by decide +kernel
theorem dX10_show_43 : decode cX10_show 43 = .ok (.iconst 2, 1) := by decide +kernel
theorem dX10_show_44 : decode cX10_show 44 = .ok (.aload_n 0, 1) := by decide +kernel
theorem dX10_show_45 : decode cX10_show 45 = .ok (.getfield 56, 3) := by decide +kernel
theorem dX10_show_48 : decode cX10_show 48 = .ok (.getfield 144, 3) := by decide +kernel
theorem dX10_show_51 : decode cX10_show 51 = .ok (.iadd, 1) := by decide +kernel
theorem dX10_show_52 : decode cX10_show 52 = .ok (.if_icmp .lt 5, 3) := by decide +kernel
theorem dX10_show_55 : decode cX10_show 55 = .ok (.iconst (-1), 1) := by decide +kernel
theorem dX10_show_56 : decode cX10_show 56 = .ok (.ireturn, 1) := by decide +kernel
theorem dX10_show_57 : decode cX10_show 57 = .ok (.iload_n 1, 1) := by decide +kernel
theorem dX10_show_58 : decode cX10_show 58 = .ok (.ifCond .ne 13, 3) := by decide +kernel
theorem dX10_show_61 : decode cX10_show 61 = .ok (.aload_n 0, 1) := by decide +kernel
theorem dX10_show_62 : decode cX10_show 62 = .ok (.getfield 35, 3) := by decide +kernel
theorem dX10_show_65 : decode cX10_show 65 = .ok (.getfield 227, 3) := by decide +kernel
theorem dX10_show_68 : decode cX10_show 68 = .ok (.goto 29, 3) := by decide +kernel
theorem dX10_show_71 : decode cX10_show 71 = .ok (.iload_n 1, 1) := by decide +kernel
theorem dX10_show_72 : decode cX10_show 72 = .ok (.iconst 1, 1) := by decide +kernel
theorem dX10_show_73 : decode cX10_show 73 = .ok (.if_icmp .ne 13, 3) := by decide +kernel
theorem dX10_show_76 : decode cX10_show 76 = .ok (.aload_n 0, 1) := by decide +kernel
theorem dX10_show_77 : decode cX10_show 77 = .ok (.getfield 35, 3) := by decide +kernel
theorem dX10_show_80 : decode cX10_show 80 = .ok (.getfield 228, 3) := by decide +kernel
theorem dX10_show_83 : decode cX10_show 83 = .ok (.goto 14, 3) := by decide +kernel
theorem dX10_show_86 : decode cX10_show 86 = .ok (.aload_n 0, 1) := by decide +kernel
theorem dX10_show_87 : decode cX10_show 87 = .ok (.getfield 35, 3) := by decide +kernel
theorem dX10_show_90 : decode cX10_show 90 = .ok (.getfield 230, 3) := by decide +kernel
theorem dX10_show_93 : decode cX10_show 93 = .ok (.iload_n 1, 1) := by decide +kernel
theorem dX10_show_94 : decode cX10_show 94 = .ok (.iconst 2, 1) := by decide +kernel
theorem dX10_show_95 : decode cX10_show 95 = .ok (.isub, 1) := by decide +kernel
theorem dX10_show_96 : decode cX10_show 96 = .ok (.iaload, 1) := by decide +kernel
theorem dX10_show_97 : decode cX10_show 97 = .ok (.ireturn, 1) := by decide +kernel
theorem dX10_tell_0 : decode cX10_tell 0 = .ok (.aload_n 0, 1) := by decide +kernel
theorem dX10_tell_1 : decode cX10_tell 1 = .ok (.getfield 66, 3) := by decide +kernel
theorem dX10_tell_4 : decode cX10_tell 4 = .ok (.getfield 233, 3) := by decide +kernel
theorem dX10_tell_7 : decode cX10_tell 7 = .ok (.bipush 8, 2) := by decide +kernel
theorem dX10_tell_9 : decode cX10_tell 9 = .ok (.if_icmp .lt 5, 3) := by decide +kernel
theorem dX10_tell_12 : decode cX10_tell 12 = .ok (.iconst 0, 1) := by decide +kernel
theorem dX10_tell_13 : decode cX10_tell 13 = .ok (.ireturn, 1) := by decide +kernel
theorem dX10_tell_14 : decode cX10_tell 14 = .ok (.iload_n 1, 1) := by decide +kernel
theorem dX10_tell_15 : decode cX10_tell 15 = .ok (.iconst (-1), 1) := by decide +kernel
theorem dX10_tell_16 : decode cX10_tell 16 = .ok (.if_icmp .eq 25, 3) := by decide +kernel
theorem dX10_tell_19 : decode cX10_tell 19 = .ok (.aload_n 0, 1) := by decide +kernel
theorem dX10_tell_20 : decode cX10_tell 20 = .ok (.iload_n 1, 1) := by decide +kernel
theorem dX10_tell_21 : decode cX10_tell 21 = .ok (.invokevirtual 134, 3) := by decide +kernel
theorem dX10_tell_24 : decode cX10_tell 24 = .ok (.ifCond .eq 15, 3) := by decide +kernel
theorem dX10_tell_27 : decode cX10_tell 27 = .ok (.aload_n 0, 1) := by decide +kernel
theorem dX10_tell_28 : decode cX10_tell 28 = .ok (.getfield 56, 3) := by decide +kernel
theorem dX10_tell_31 : decode cX10_tell 31 = .ok (.getfield 138, 3) := by decide +kernel
theorem dX10_tell_34 : decode cX10_tell 34 = .ok (.iload_n 1, 1) := by decide +kernel
theorem dX10_tell_35 : decode cX10_tell 35 = .ok (.iaload, 1) := by decide +kernel
theorem dX10_tell_36 : decode cX10_tell 36 = .ok (.ifCond .ne 5, 3) := by decide +kernel
theorem dX10_tell_39 : decode cX10_tell 39 = .ok (.iconst 0, 1) := by decide +kernel
theorem dX10_tell_40 : decode cX10_tell 40 = .ok (.ireturn, 1) := by decide +kernel
theorem dX10_tell_41 : decode cX10_tell 41 = .ok (.aload_n 0, 1) := by decide +kernel
theorem dX10_tell_42 : decode cX10_tell 42 = .ok (.getfield 66, 3) := by decide +kernel
theorem dX10_tell_45 : decode cX10_tell 45 = .ok (.dup, 1) := by decide +kernel
theorem dX10_tell_46 : decode cX10_tell 46 = .ok (.getfield 236, 3) := by decide +kernel
theorem dX10_tell_49 : decode cX10_tell 49 = .ok (.aload_n 0, 1) := by decide +kernel
theorem dX10_tell_50 : decode cX10_tell 50 = .ok (.getfield 28, 3) := by decide +kernel
theorem dX10_tell_53 : decode cX10_tell 53 = .ok (.aload_n 0, 1) := by decide +kernel
theorem dX10_tell_54 : decode cX10_tell 54 = .ok (.getfield 56, 3) := by decide +kernel
theorem dX10_tell_57 : decode cX10_tell 57 = .ok (.aload_n 0, 1) := by decide +kernel
theorem dX10_tell_58 : decode cX10_tell 58 = .ok (.getfield 66, 3) := by decide +kernel
theorem dX10_tell_61 : decode cX10_tell 61 = .ok (.getfield 141, 3) := by decide +kernel
theorem dX10_tell_64 : decode cX10_tell 64 = .ok (.iload_n 1, 1) := by decide +kernel
theorem dX10_tell_65 : decode cX10_tell 65 = .ok (.invokevirtual 239, 3) := by decide +kernel
theorem dX10_tell_68 : decode cX10_tell 68 = .ok (.iand, 1) := by decide +kernel
theorem dX10_tell_69 : decode cX10_tell 69 = .ok (.putfield 236, 3) := by decide +kernel
theorem dX10_tell_72 : decode cX10_tell 72 = .ok (.aload_n 0, 1) := by decide +kernel
theorem dX10_tell_73 : decode cX10_tell 73 = .ok (.getfield 66, 3) := by decide +kernel
theorem dX10_tell_76 : decode cX10_tell 76 = .ok (.dup, 1) := by decide +kernel
theorem dX10_tell_77 : decode cX10_tell 77 = .ok (.getfield 233, 3) := by decide +kernel
theorem dX10_tell_80 : decode cX10_tell 80 = .ok (.iconst 1, 1) := by decide +kernel
theorem dX10_tell_81 : decode cX10_tell 81 = .ok (.iadd, 1) := by decide +kernel
theorem dX10_tell_82 : decode cX10_tell 82 = .ok (.putfield 233, 3) := by decide +kernel
theorem dX10_tell_85 : decode cX10_tell 85 = .ok (.iconst 1, 1) := by decide +kernel
theorem dX10_tell_86 : decode cX10_tell 86 = .ok (.ireturn, 1) := by decide +kernel
theorem dX10_sets_0 : decode cX10_sets 0 = .ok (.aload_n 0, 1) := by decide +kernel
theorem dX10_sets_1 : decode cX10_sets 1 = .ok (.getfield 66, 3) := by decide +kernel
theorem dX10_sets_4 : decode cX10_sets 4 = .ok (.getfield 236, 3) := by decide +kernel
theorem dX10_sets_7 : decode cX10_sets 7 = .ok (.invokestatic 243, 3) := by decide +kernel
theorem dX10_sets_10 : decode cX10_sets 10 = .ok (.istore_n 2, 1) := by decide +kernel
theorem dX10_sets_11 : decode cX10_sets 11 = .ok (.iload_n 1, 1) := by decide +kernel
theorem dX10_sets_12 : decode cX10_sets 12 = .ok (.ifCond .ne 5, 3) := by decide +kernel
theorem dX10_sets_15 : decode cX10_sets 15 = .ok (.iload_n 2, 1) := by decide +kernel
theorem dX10_sets_16 : decode cX10_sets 16 = .ok (.ireturn, 1) := by decide +kernel
theorem dX10_sets_17 : decode cX10_sets 17 = .ok (.iload_n 2, 1) := by decide +kernel
theorem dX10_sets_18 : decode cX10_sets 18 = .ok (.ifCond .ne 5, 3) := by decide +kernel
theorem dX10_sets_21 : decode cX10_sets 21 = .ok (.iconst (-1), 1) := by decide +kernel
theorem dX10_sets_22 : decode cX10_sets 22 = .ok (.ireturn, 1) := by decide +kernel
theorem dX10_sets_23 : decode cX10_sets 23 = .ok (.iload_n 1, 1) := by decide +kernel
theorem dX10_sets_24 : decode cX10_sets 24 = .ok (.tableswitch 61 1 3 #[28, 39, 50], 28) := by decide +kernel
theorem dX10_sets_52 : decode cX10_sets 52 = .ok (.aload_n 0, 1) := by decide +kernel
theorem dX10_sets_53 : decode cX10_sets 53 = .ok (.getfield 66, 3) := by decide +kernel
theorem dX10_sets_56 : decode cX10_sets 56 = .ok (.getfield 236, 3) := by decide +kernel
theorem dX10_sets_59 : decode cX10_sets 59 = .ok (.invokestatic 248, 3) := by decide +kernel
theorem dX10_sets_62 : decode cX10_sets 62 = .ok (.ireturn, 1) := by decide +kernel
theorem dX10_sets_63 : decode cX10_sets 63 = .ok (.aload_n 0, 1) := by decide +kernel
theorem dX10_sets_64 : decode cX10_sets 64 = .ok (.getfield 66, 3) := by decide +kernel
theorem dX10_sets_67 : decode cX10_sets 67 = .ok (.getfield 236, 3) := by decide +kernel
theorem dX10_sets_70 : decode cX10_sets 70 = .ok (.invokestatic 251, 3) := by decide +kernel
theorem dX10_sets_73 : decode cX10_sets 73 = .ok (.ireturn, 1) := by decide +kernel
theorem dX10_sets_74 : decode cX10_sets 74 = .ok (.aload_n 0, 1) := by decide +kernel
theorem dX10_sets_75 : decode cX10_sets 75 = .ok (.getfield 66, 3) := by decide +kernel
theorem dX10_sets_78 : decode cX10_sets 78 = .ok (.getfield 236, 3) := by decide +kernel
theorem dX10_sets_81 : decode cX10_sets 81 = .ok (.invokestatic 254, 3) := by decide +kernel
theorem dX10_sets_84 : decode cX10_sets 84 = .ok (.ireturn, 1) := by decide +kernel
theorem dX10_sets_85 : decode cX10_sets 85 = .ok (.iconst (-1), 1) := by decide +kernel
theorem dX10_sets_86 : decode cX10_sets 86 = .ok (.ireturn, 1) := by decide +kernel
theorem dX10_next_0 : decode cX10_next 0 = .ok (.aload_n 0, 1) := by decide +kernel
theorem dX10_next_1 : decode cX10_next 1 = .ok (.getfield 66, 3) := by decide +kernel
theorem dX10_next_4 : decode cX10_next 4 = .ok (.getfield 236, 3) := by decide +kernel
theorem dX10_next_7 : decode cX10_next 7 = .ok (.invokestatic 243, 3) := by decide +kernel
theorem dX10_next_10 : decode cX10_next 10 = .ok (.istore_n 1, 1) := by decide +kernel
theorem dX10_next_11 : decode cX10_next 11 = .ok (.iload_n 1, 1) := by decide +kernel
theorem dX10_next_12 : decode cX10_next 12 = .ok (.istore_n 2, 1) := by decide +kernel
theorem dX10_next_13 : decode cX10_next 13 = .ok (.iconst (-1), 1) := by decide +kernel
theorem dX10_next_14 : decode cX10_next 14 = .ok (.istore_n 3, 1) := by decide +kernel
theorem dX10_next_15 : decode cX10_next 15 = .ok (.iconst 0, 1) := by decide +kernel
theorem dX10_next_16 : decode cX10_next 16 = .ok (.istore 4, 2) := by decide +kernel
theorem dX10_next_18 : decode cX10_next 18 = .ok (.iload 4, 2) := by decide +kernel
theorem dX10_next_20 : decode cX10_next 20 = .ok (.aload_n 0, 1) := by decide +kernel
theorem dX10_next_21 : decode cX10_next 21 = .ok (.getfield 56, 3) := by decide +kernel
theorem dX10_next_24 : decode cX10_next 24 = .ok (.getfield 144, 3) := by decide +kernel
theorem dX10_next_27 : decode cX10_next 27 = .ok (.if_icmp .ge 67, 3) := by decide +kernel
theorem dX10_next_30 : decode cX10_next 30 = .ok (.aload_n 0, 1) := by decide +kernel
theorem dX10_next_31 : decode cX10_next 31 = .ok (.getfield 66, 3) := by decide +kernel
theorem dX10_next_34 : decode cX10_next 34 = .ok (.getfield 236, 3) := by decide +kernel
theorem dX10_next_37 : decode cX10_next 37 = .ok (.aload_n 0, 1) := by decide +kernel
theorem dX10_next_38 : decode cX10_next 38 = .ok (.getfield 56, 3) := by decide +kernel
theorem dX10_next_41 : decode cX10_next 41 = .ok (.iload 4, 2) := by decide +kernel
theorem dX10_next_43 : decode cX10_next 43 = .ok (.aload_n 0, 1) := by decide +kernel
theorem dX10_next_44 : decode cX10_next 44 = .ok (.getfield 66, 3) := by decide +kernel
theorem dX10_next_47 : decode cX10_next 47 = .ok (.getfield 141, 3) := by decide +kernel
theorem dX10_next_50 : decode cX10_next 50 = .ok (.getfield 164, 3) := by decide +kernel
theorem dX10_next_53 : decode cX10_next 53 = .ok (.iload 4, 2) := by decide +kernel
theorem dX10_next_55 : decode cX10_next 55 = .ok (.iaload, 1) := by decide +kernel
theorem dX10_next_56 : decode cX10_next 56 = .ok (.invokevirtual 257, 3) := by decide +kernel
theorem dX10_next_59 : decode cX10_next 59 = .ok (.iand, 1) := by decide +kernel
theorem dX10_next_60 : decode cX10_next 60 = .ok (.invokestatic 243, 3) := by decide +kernel
theorem dX10_next_63 : decode cX10_next 63 = .ok (.istore 5, 2) := by decide +kernel
theorem dX10_next_65 : decode cX10_next 65 = .ok (.iload 5, 2) := by decide +kernel
theorem dX10_next_67 : decode cX10_next 67 = .ok (.iload_n 1, 1) := by decide +kernel
theorem dX10_next_68 : decode cX10_next 68 = .ok (.iload 5, 2) := by decide +kernel
theorem dX10_next_70 : decode cX10_next 70 = .ok (.isub, 1) := by decide +kernel
theorem dX10_next_71 : decode cX10_next 71 = .ok (.invokestatic 260, 3) := by decide +kernel
theorem dX10_next_74 : decode cX10_next 74 = .ok (.istore 6, 2) := by decide +kernel
theorem dX10_next_76 : decode cX10_next 76 = .ok (.iload 6, 2) := by decide +kernel
theorem dX10_next_78 : decode cX10_next 78 = .ok (.iload_n 2, 1) := by decide +kernel
theorem dX10_next_79 : decode cX10_next 79 = .ok (.if_icmp .ge 9, 3) := by decide +kernel
theorem dX10_next_82 : decode cX10_next 82 = .ok (.iload 6, 2) := by decide +kernel
theorem dX10_next_84 : decode cX10_next 84 = .ok (.istore_n 2, 1) := by decide +kernel
theorem dX10_next_85 : decode cX10_next 85 = .ok (.iload 4, 2) := by decide +kernel
theorem dX10_next_87 : decode cX10_next 87 = .ok (.istore_n 3, 1) := by decide +kernel
theorem dX10_next_88 : decode cX10_next 88 = .ok (.iinc 4 1, 3) := by decide +kernel
theorem dX10_next_91 : decode cX10_next 91 = .ok (.goto (-73), 3) := by decide +kernel
theorem dX10_next_94 : decode cX10_next 94 = .ok (.iload_n 3, 1) := by decide +kernel
theorem dX10_next_95 : decode cX10_next 95 = .ok (.ireturn, 1) := by decide +kernel
theorem dX10_apart_0 : decode cX10_apart 0 = .ok (.iload_n 1, 1) := by decide +kernel
theorem dX10_apart_1 : decode cX10_apart 1 = .ok (.iconst (-1), 1) := by decide +kernel
theorem dX10_apart_2 : decode cX10_apart 2 = .ok (.if_icmp .eq 14, 3) := by decide +kernel
theorem dX10_apart_5 : decode cX10_apart 5 = .ok (.aload_n 0, 1) := by decide +kernel
theorem dX10_apart_6 : decode cX10_apart 6 = .ok (.iload_n 1, 1) := by decide +kernel
theorem dX10_apart_7 : decode cX10_apart 7 = .ok (.invokevirtual 158, 3) := by decide +kernel
theorem dX10_apart_10 : decode cX10_apart 10 = .ok (.ifCond .ne 6, 3) := by decide +kernel
theorem dX10_apart_13 : decode cX10_apart 13 = .ok (.bipush (-2), 2) := by decide +kernel
theorem dX10_apart_15 : decode cX10_apart 15 = .ok (.ireturn, 1) := by decide +kernel
theorem dX10_apart_16 : decode cX10_apart 16 = .ok (.aload_n 0, 1) := by decide +kernel
theorem dX10_apart_17 : decode cX10_apart 17 = .ok (.getfield 49, 3) := by decide +kernel
theorem dX10_apart_20 : decode cX10_apart 20 = .ok (.aload_n 0, 1) := by decide +kernel
theorem dX10_apart_21 : decode cX10_apart 21 = .ok (.getfield 56, 3) := by decide +kernel
theorem dX10_apart_24 : decode cX10_apart 24 = .ok (.invokevirtual 265, 3) := by decide +kernel
theorem dX10_apart_27 : decode cX10_apart 27 = .ok (.istore_n 2, 1) := by decide +kernel
theorem dX10_apart_28 : decode cX10_apart 28 = .ok (.iload_n 1, 1) := by decide +kernel
theorem dX10_apart_29 : decode cX10_apart 29 = .ok (.iconst (-1), 1) := by decide +kernel
theorem dX10_apart_30 : decode cX10_apart 30 = .ok (.if_icmp .ne 7, 3) := by decide +kernel
theorem dX10_apart_33 : decode cX10_apart 33 = .ok (.iload_n 2, 1) := by decide +kernel
theorem dX10_apart_34 : decode cX10_apart 34 = .ok (.goto 12, 3) := by decide +kernel
theorem dX10_apart_37 : decode cX10_apart 37 = .ok (.aload_n 0, 1) := by decide +kernel
theorem dX10_apart_38 : decode cX10_apart 38 = .ok (.getfield 49, 3) := by decide +kernel
theorem dX10_apart_41 : decode cX10_apart 41 = .ok (.getfield 268, 3) := by decide +kernel
theorem dX10_apart_44 : decode cX10_apart 44 = .ok (.iload_n 1, 1) := by decide +kernel
theorem dX10_apart_45 : decode cX10_apart 45 = .ok (.iaload, 1) := by decide +kernel
theorem dX10_apart_46 : decode cX10_apart 46 = .ok (.ireturn, 1) := by decide +kernel
theorem dX10_tyres_0 : decode cX10_tyres 0 = .ok (.iconst (-1), 1) := by decide +kernel
theorem dX10_tyres_1 : decode cX10_tyres 1 = .ok (.istore_n 1, 1) := by decide +kernel
theorem dX10_tyres_2 : decode cX10_tyres 2 = .ok (.bipush 7, 2) := by decide +kernel
theorem dX10_tyres_4 : decode cX10_tyres 4 = .ok (.istore_n 2, 1) := by decide +kernel
theorem dX10_tyres_5 : decode cX10_tyres 5 = .ok (.iconst 0, 1) := by decide +kernel
theorem dX10_tyres_6 : decode cX10_tyres 6 = .ok (.istore_n 3, 1) := by decide +kernel
theorem dX10_tyres_7 : decode cX10_tyres 7 = .ok (.iload_n 3, 1) := by decide +kernel
theorem dX10_tyres_8 : decode cX10_tyres 8 = .ok (.iconst 1, 1) := by decide +kernel
theorem dX10_tyres_9 : decode cX10_tyres 9 = .ok (.aload_n 0, 1) := by decide +kernel
theorem dX10_tyres_10 : decode cX10_tyres 10 = .ok (.getfield 56, 3) := by decide +kernel
theorem dX10_tyres_13 : decode cX10_tyres 13 = .ok (.getfield 144, 3) := by decide +kernel
theorem dX10_tyres_16 : decode cX10_tyres 16 = .ok (.ishl, 1) := by decide +kernel
theorem dX10_tyres_17 : decode cX10_tyres 17 = .ok (.if_icmp .ge 32, 3) := by decide +kernel
theorem dX10_tyres_20 : decode cX10_tyres 20 = .ok (.iload_n 3, 1) := by decide +kernel
theorem dX10_tyres_21 : decode cX10_tyres 21 = .ok (.invokestatic 243, 3) := by decide +kernel
theorem dX10_tyres_24 : decode cX10_tyres 24 = .ok (.iload_n 2, 1) := by decide +kernel
theorem dX10_tyres_25 : decode cX10_tyres 25 = .ok (.if_icmp .ge 18, 3) := by decide +kernel
theorem dX10_tyres_28 : decode cX10_tyres 28 = .ok (.aload_n 0, 1) := by decide +kernel
theorem dX10_tyres_29 : decode cX10_tyres 29 = .ok (.iload_n 3, 1) := by decide +kernel
theorem dX10_tyres_30 : decode cX10_tyres 30 = .ok (.invokevirtual 269, 3) := by decide +kernel
theorem dX10_tyres_33 : decode cX10_tyres 33 = .ok (.ifCond .eq 10, 3) := by decide +kernel
theorem dX10_tyres_36 : decode cX10_tyres 36 = .ok (.iload_n 3, 1) := by decide +kernel
theorem dX10_tyres_37 : decode cX10_tyres 37 = .ok (.invokestatic 243, 3) := by decide +kernel
theorem dX10_tyres_40 : decode cX10_tyres 40 = .ok (.istore_n 2, 1) := by decide +kernel
theorem dX10_tyres_41 : decode cX10_tyres 41 = .ok (.iload_n 3, 1) := by decide +kernel
theorem dX10_tyres_42 : decode cX10_tyres 42 = .ok (.istore_n 1, 1) := by decide +kernel
theorem dX10_tyres_43 : decode cX10_tyres 43 = .ok (.iinc 3 1, 3) := by decide +kernel
theorem dX10_tyres_46 : decode cX10_tyres 46 = .ok (.goto (-39), 3) := by decide +kernel
theorem dX10_tyres_49 : decode cX10_tyres 49 = .ok (.iload_n 1, 1) := by decide +kernel
theorem dX10_tyres_50 : decode cX10_tyres 50 = .ok (.ireturn, 1) := by decide +kernel
theorem dX10_walk_0 : decode cX10_walk 0 = .ok (.aload_n 0, 1) := by decide +kernel
theorem dX10_walk_1 : decode cX10_walk 1 = .ok (.iload_n 1, 1) := by decide +kernel
theorem dX10_walk_2 : decode cX10_walk 2 = .ok (.invokevirtual 134, 3) := by decide +kernel
theorem dX10_walk_5 : decode cX10_walk 5 = .ok (.ifCond .eq 7, 3) := by decide +kernel
theorem dX10_walk_8 : decode cX10_walk 8 = .ok (.iload_n 2, 1) := by decide +kernel
theorem dX10_walk_9 : decode cX10_walk 9 = .ok (.ifCond .ge 5, 3) := by decide +kernel
theorem dX10_walk_12 : decode cX10_walk 12 = .ok (.iconst (-1), 1) := by decide +kernel
theorem dX10_walk_13 : decode cX10_walk 13 = .ok (.ireturn, 1) := by decide +kernel
theorem dX10_walk_14 : decode cX10_walk 14 = .ok (.aload_n 0, 1) := by decide +kernel
theorem dX10_walk_15 : decode cX10_walk 15 = .ok (.getfield 49, 3) := by decide +kernel
theorem dX10_walk_18 : decode cX10_walk 18 = .ok (.aload_n 0, 1) := by decide +kernel
theorem dX10_walk_19 : decode cX10_walk 19 = .ok (.getfield 56, 3) := by decide +kernel
theorem dX10_walk_22 : decode cX10_walk 22 = .ok (.aload_n 0, 1) := by decide +kernel
theorem dX10_walk_23 : decode cX10_walk 23 = .ok (.getfield 66, 3) := by decide +kernel
theorem dX10_walk_26 : decode cX10_walk 26 = .ok (.getfield 141, 3) := by decide +kernel
theorem dX10_walk_29 : decode cX10_walk 29 = .ok (.iload_n 1, 1) := by decide +kernel
theorem dX10_walk_30 : decode cX10_walk 30 = .ok (.invokevirtual 272, 3) := by decide +kernel
theorem dX10_walk_33 : decode cX10_walk 33 = .ok (.aload_n 0, 1) := by decide +kernel
theorem dX10_walk_34 : decode cX10_walk 34 = .ok (.getfield 49, 3) := by decide +kernel
theorem dX10_walk_37 : decode cX10_walk 37 = .ok (.getfield 276, 3) := by decide +kernel
theorem dX10_walk_40 : decode cX10_walk 40 = .ok (.sipush 1000, 3) := by decide +kernel
theorem dX10_walk_43 : decode cX10_walk 43 = .ok (.if_icmp .ge 14, 3) := by decide +kernel
theorem dX10_walk_46 : decode cX10_walk 46 = .ok (.iload_n 2, 1) := by decide +kernel
theorem dX10_walk_47 : decode cX10_walk 47 = .ok (.aload_n 0, 1) := by decide +kernel
theorem dX10_walk_48 : decode cX10_walk 48 = .ok (.getfield 49, 3) := by decide +kernel
theorem dX10_walk_51 : decode cX10_walk 51 = .ok (.getfield 279, 3) := by decide +kernel
theorem dX10_walk_54 : decode cX10_walk 54 = .ok (.if_icmp .le 5, 3) := by decide +kernel
theorem dX10_walk_57 : decode cX10_walk 57 = .ok (.iconst (-1), 1) := by decide +kernel
theorem dX10_walk_58 : decode cX10_walk 58 = .ok (.ireturn, 1) := by decide +kernel
theorem dX10_walk_59 : decode cX10_walk 59 = .ok (.iload_n 2, 1) := by decide +kernel
theorem dX10_walk_60 : decode cX10_walk 60 = .ok (.ifCond .ne 13, 3) := by decide +kernel
theorem dX10_walk_63 : decode cX10_walk 63 = .ok (.aload_n 0, 1) := by decide +kernel
theorem dX10_walk_64 : decode cX10_walk 64 = .ok (.getfield 49, 3) := by decide +kernel
theorem dX10_walk_67 : decode cX10_walk 67 = .ok (.getfield 276, 3) := by decide +kernel
theorem dX10_walk_70 : decode cX10_walk 70 = .ok (.goto 14, 3) := by decide +kernel
theorem dX10_walk_73 : decode cX10_walk 73 = .ok (.aload_n 0, 1) := by decide +kernel
theorem dX10_walk_74 : decode cX10_walk 74 = .ok (.getfield 49, 3) := by decide +kernel
theorem dX10_walk_77 : decode cX10_walk 77 = .ok (.getfield 282, 3) := by decide +kernel
theorem dX10_walk_80 : decode cX10_walk 80 = .ok (.iload_n 2, 1) := by decide +kernel
theorem dX10_walk_81 : decode cX10_walk 81 = .ok (.iconst 1, 1) := by decide +kernel
theorem dX10_walk_82 : decode cX10_walk 82 = .ok (.isub, 1) := by decide +kernel
theorem dX10_walk_83 : decode cX10_walk 83 = .ok (.iaload, 1) := by decide +kernel
theorem dX10_walk_84 : decode cX10_walk 84 = .ok (.ireturn, 1) := by decide +kernel
theorem dX10_rests_0 : decode cX10_rests 0 = .ok (.iload_n 1, 1) := by decide +kernel
theorem dX10_rests_1 : decode cX10_rests 1 = .ok (.ifCond .lt 24, 3) := by decide +kernel
theorem dX10_rests_4 : decode cX10_rests 4 = .ok (.iload_n 1, 1) := by decide +kernel
theorem dX10_rests_5 : decode cX10_rests 5 = .ok (.bipush 20, 2) := by decide +kernel
theorem dX10_rests_7 : decode cX10_rests 7 = .ok (.if_icmp .gt 18, 3) := by decide +kernel
theorem dX10_rests_10 : decode cX10_rests 10 = .ok (.iload_n 2, 1) := by decide +kernel
theorem dX10_rests_11 : decode cX10_rests 11 = .ok (.ifCond .lt 14, 3) := by decide +kernel
theorem dX10_rests_14 : decode cX10_rests 14 = .ok (.iload_n 2, 1) := by decide +kernel
theorem dX10_rests_15 : decode cX10_rests 15 = .ok (.bipush 9, 2) := by decide +kernel
theorem dX10_rests_17 : decode cX10_rests 17 = .ok (.if_icmp .gt 8, 3) := by decide +kernel
theorem dX10_rests_20 : decode cX10_rests 20 = .ok (.iload_n 3, 1) := by decide +kernel
theorem dX10_rests_21 : decode cX10_rests 21 = .ok (.iconst (-1), 1) := by decide +kernel
theorem dX10_rests_22 : decode cX10_rests 22 = .ok (.if_icmp .ge 11, 3) := by decide +kernel
theorem dX10_rests_25 : decode cX10_rests 25 = .ok (.new 285, 3) := by decide +kernel
theorem dX10_rests_28 : decode cX10_rests 28 = .ok (.dup, 1) := by decide +kernel
theorem dX10_rests_29 : decode cX10_rests 29 = .ok (.invokespecial 287, 3) := by decide +kernel
theorem dX10_rests_32 : decode cX10_rests 32 = .ok (.athrow, 1) := by decide +kernel
theorem dX10_rests_33 : decode cX10_rests 33 = .ok (.iconst 0, 1) := by decide +kernel
theorem dX10_rests_34 : decode cX10_rests 34 = .ok (.istore 4, 2) := by decide +kernel
theorem dX10_rests_36 : decode cX10_rests 36 = .ok (.iconst 1, 1) := by decide +kernel
theorem dX10_rests_37 : decode cX10_rests 37 = .ok (.istore 5, 2) := by decide +kernel
theorem dX10_rests_39 : decode cX10_rests 39 = .ok (.iload 5, 2) := by decide +kernel
theorem dX10_rests_41 : decode cX10_rests 41 = .ok (.bipush 6, 2) := by decide +kernel
theorem dX10_rests_43 : decode cX10_rests 43 = .ok (.if_icmp .gt 55, 3) := by decide +kernel
theorem dX10_rests_46 : decode cX10_rests 46 = .ok (.iconst 1, 1) := by decide +kernel
theorem dX10_rests_47 : decode cX10_rests 47 = .ok (.istore 6, 2) := by decide +kernel
theorem dX10_rests_49 : decode cX10_rests 49 = .ok (.iload 6, 2) := by decide +kernel
theorem dX10_rests_51 : decode cX10_rests 51 = .ok (.bipush 6, 2) := by decide +kernel
theorem dX10_rests_53 : decode cX10_rests 53 = .ok (.if_icmp .gt 39, 3) := by decide +kernel
theorem dX10_rests_56 : decode cX10_rests 56 = .ok (.iload_n 1, 1) := by decide +kernel
theorem dX10_rests_57 : decode cX10_rests 57 = .ok (.iload_n 2, 1) := by decide +kernel
theorem dX10_rests_58 : decode cX10_rests 58 = .ok (.iload 5, 2) := by decide +kernel
theorem dX10_rests_60 : decode cX10_rests 60 = .ok (.iload 6, 2) := by decide +kernel
theorem dX10_rests_62 : decode cX10_rests 62 = .ok (.invokestatic 288, 3) := by decide +kernel
theorem dX10_rests_65 : decode cX10_rests 65 = .ok (.ifCond .eq 21, 3) := by decide +kernel
theorem dX10_rests_68 : decode cX10_rests 68 = .ok (.iload 4, 2) := by decide +kernel
theorem dX10_rests_70 : decode cX10_rests 70 = .ok (.iload_n 3, 1) := by decide +kernel
theorem dX10_rests_71 : decode cX10_rests 71 = .ok (.if_icmp .ne 12, 3) := by decide +kernel
theorem dX10_rests_74 : decode cX10_rests 74 = .ok (.bipush 10, 2) := by decide +kernel
theorem dX10_rests_76 : decode cX10_rests 76 = .ok (.iload 5, 2) := by decide +kernel
theorem dX10_rests_78 : decode cX10_rests 78 = .ok (.imul, 1) := by decide +kernel
theorem dX10_rests_79 : decode cX10_rests 79 = .ok (.iload 6, 2) := by decide +kernel
theorem dX10_rests_81 : decode cX10_rests 81 = .ok (.iadd, 1) := by decide +kernel
theorem dX10_rests_82 : decode cX10_rests 82 = .ok (.ireturn, 1) := by decide +kernel
theorem dX10_rests_83 : decode cX10_rests 83 = .ok (.iinc 4 1, 3) := by decide +kernel
theorem dX10_rests_86 : decode cX10_rests 86 = .ok (.iinc 6 1, 3) := by decide +kernel
theorem dX10_rests_89 : decode cX10_rests 89 = .ok (.goto (-40), 3) := by decide +kernel
theorem dX10_rests_92 : decode cX10_rests 92 = .ok (.iinc 5 1, 3) := by decide +kernel
theorem dX10_rests_95 : decode cX10_rests 95 = .ok (.goto (-56), 3) := by decide +kernel
theorem dX10_rests_98 : decode cX10_rests 98 = .ok (.iload_n 3, 1) := by decide +kernel
theorem dX10_rests_99 : decode cX10_rests 99 = .ok (.iconst (-1), 1) := by decide +kernel
theorem dX10_rests_100 : decode cX10_rests 100 = .ok (.if_icmp .eq 11, 3) := by decide +kernel
theorem dX10_rests_103 : decode cX10_rests 103 = .ok (.new 285, 3) := by decide +kernel
theorem dX10_rests_106 : decode cX10_rests 106 = .ok (.dup, 1) := by decide +kernel
theorem dX10_rests_107 : decode cX10_rests 107 = .ok (.invokespecial 287, 3) := by decide +kernel
theorem dX10_rests_110 : decode cX10_rests 110 = .ok (.athrow, 1) := by decide +kernel
theorem dX10_rests_111 : decode cX10_rests 111 = .ok (.iload 4, 2) := by decide +kernel
theorem dX10_rests_113 : decode cX10_rests 113 = .ok (.ireturn, 1) := by decide +kernel
theorem dX10_rain_0 : decode cX10_rain 0 = .ok (.iload_n 1, 1) := by decide +kernel
theorem dX10_rain_1 : decode cX10_rain 1 = .ok (.iconst (-1), 1) := by decide +kernel
theorem dX10_rain_2 : decode cX10_rain 2 = .ok (.if_icmp .eq 11, 3) := by decide +kernel
theorem dX10_rain_5 : decode cX10_rain 5 = .ok (.aload_n 0, 1) := by decide +kernel
theorem dX10_rain_6 : decode cX10_rain 6 = .ok (.iload_n 1, 1) := by decide +kernel
theorem dX10_rain_7 : decode cX10_rain 7 = .ok (.invokevirtual 158, 3) := by decide +kernel
theorem dX10_rain_10 : decode cX10_rain 10 = .ok (.ifCond .eq 14, 3) := by decide +kernel
theorem dX10_rain_13 : decode cX10_rain 13 = .ok (.iload_n 2, 1) := by decide +kernel
theorem dX10_rain_14 : decode cX10_rain 14 = .ok (.iconst 1, 1) := by decide +kernel
theorem dX10_rain_15 : decode cX10_rain 15 = .ok (.if_icmp .lt 9, 3) := by decide +kernel
theorem dX10_rain_18 : decode cX10_rain 18 = .ok (.iload_n 2, 1) := by decide +kernel
theorem dX10_rain_19 : decode cX10_rain 19 = .ok (.bipush 6, 2) := by decide +kernel
theorem dX10_rain_21 : decode cX10_rain 21 = .ok (.if_icmp .le 6, 3) := by decide +kernel
theorem dX10_rain_24 : decode cX10_rain 24 = .ok (.bipush (-2), 2) := by decide +kernel
theorem dX10_rain_26 : decode cX10_rain 26 = .ok (.ireturn, 1) := by decide +kernel
theorem dX10_rain_27 : decode cX10_rain 27 = .ok (.aload_n 0, 1) := by decide +kernel
theorem dX10_rain_28 : decode cX10_rain 28 = .ok (.getfield 77, 3) := by decide +kernel
theorem dX10_rain_31 : decode cX10_rain 31 = .ok (.aload_n 0, 1) := by decide +kernel
theorem dX10_rain_32 : decode cX10_rain 32 = .ok (.getfield 66, 3) := by decide +kernel
theorem dX10_rain_35 : decode cX10_rain 35 = .ok (.getfield 141, 3) := by decide +kernel
theorem dX10_rain_38 : decode cX10_rain 38 = .ok (.invokevirtual 208, 3) := by decide +kernel
theorem dX10_rain_41 : decode cX10_rain 41 = .ok (.aload_n 0, 1) := by decide +kernel
theorem dX10_rain_42 : decode cX10_rain 42 = .ok (.getfield 42, 3) := by decide +kernel
theorem dX10_rain_45 : decode cX10_rain 45 = .ok (.aload_n 0, 1) := by decide +kernel
theorem dX10_rain_46 : decode cX10_rain 46 = .ok (.getfield 56, 3) := by decide +kernel
theorem dX10_rain_49 : decode cX10_rain 49 = .ok (.aload_n 0, 1) := by decide +kernel
theorem dX10_rain_50 : decode cX10_rain 50 = .ok (.getfield 77, 3) := by decide +kernel
theorem dX10_rain_53 : decode cX10_rain 53 = .ok (.iload_n 1, 1) := by decide +kernel
theorem dX10_rain_54 : decode cX10_rain 54 = .ok (.iload_n 2, 1) := by decide +kernel
theorem dX10_rain_55 : decode cX10_rain 55 = .ok (.invokevirtual 292, 3) := by decide +kernel
theorem dX10_rain_58 : decode cX10_rain 58 = .ok (.ireturn, 1) := by decide +kernel
theorem dX10_first_0 : decode cX10_first 0 = .ok (.iload_n 1, 1) := by decide +kernel
theorem dX10_first_1 : decode cX10_first 1 = .ok (.iconst 1, 1) := by decide +kernel
theorem dX10_first_2 : decode cX10_first 2 = .ok (.if_icmp .lt 9, 3) := by decide +kernel
theorem dX10_first_5 : decode cX10_first 5 = .ok (.iload_n 1, 1) := by decide +kernel
theorem dX10_first_6 : decode cX10_first 6 = .ok (.bipush 6, 2) := by decide +kernel
theorem dX10_first_8 : decode cX10_first 8 = .ok (.if_icmp .le 5, 3) := by decide +kernel
theorem dX10_first_11 : decode cX10_first 11 = .ok (.iconst (-1), 1) := by decide +kernel
theorem dX10_first_12 : decode cX10_first 12 = .ok (.ireturn, 1) := by decide +kernel
theorem dX10_first_13 : decode cX10_first 13 = .ok (.iconst (-1), 1) := by decide +kernel
theorem dX10_first_14 : decode cX10_first 14 = .ok (.istore_n 2, 1) := by decide +kernel
theorem dX10_first_15 : decode cX10_first 15 = .ok (.ldc_w 296, 3) := by decide +kernel
theorem dX10_first_18 : decode cX10_first 18 = .ok (.istore_n 3, 1) := by decide +kernel
theorem dX10_first_19 : decode cX10_first 19 = .ok (.iconst 0, 1) := by decide +kernel
theorem dX10_first_20 : decode cX10_first 20 = .ok (.istore 4, 2) := by decide +kernel
theorem dX10_first_22 : decode cX10_first 22 = .ok (.iload 4, 2) := by decide +kernel
theorem dX10_first_24 : decode cX10_first 24 = .ok (.aload_n 0, 1) := by decide +kernel
theorem dX10_first_25 : decode cX10_first 25 = .ok (.getfield 56, 3) := by decide +kernel
theorem dX10_first_28 : decode cX10_first 28 = .ok (.getfield 144, 3) := by decide +kernel
theorem dX10_first_31 : decode cX10_first 31 = .ok (.if_icmp .ge 67, 3) := by decide +kernel
theorem dX10_first_34 : decode cX10_first 34 = .ok (.aload_n 0, 1) := by decide +kernel
theorem dX10_first_35 : decode cX10_first 35 = .ok (.getfield 77, 3) := by decide +kernel
theorem dX10_first_38 : decode cX10_first 38 = .ok (.aload_n 0, 1) := by decide +kernel
theorem dX10_first_39 : decode cX10_first 39 = .ok (.getfield 66, 3) := by decide +kernel
theorem dX10_first_42 : decode cX10_first 42 = .ok (.getfield 141, 3) := by decide +kernel
theorem dX10_first_45 : decode cX10_first 45 = .ok (.invokevirtual 208, 3) := by decide +kernel
theorem dX10_first_48 : decode cX10_first 48 = .ok (.aload_n 0, 1) := by decide +kernel
theorem dX10_first_49 : decode cX10_first 49 = .ok (.getfield 56, 3) := by decide +kernel
theorem dX10_first_52 : decode cX10_first 52 = .ok (.aload_n 0, 1) := by decide +kernel
theorem dX10_first_53 : decode cX10_first 53 = .ok (.getfield 77, 3) := by decide +kernel
theorem dX10_first_56 : decode cX10_first 56 = .ok (.iload 4, 2) := by decide +kernel
theorem dX10_first_58 : decode cX10_first 58 = .ok (.invokevirtual 297, 3) := by decide +kernel
theorem dX10_first_61 : decode cX10_first 61 = .ok (.aload_n 0, 1) := by decide +kernel
theorem dX10_first_62 : decode cX10_first 62 = .ok (.getfield 42, 3) := by decide +kernel
theorem dX10_first_65 : decode cX10_first 65 = .ok (.aload_n 0, 1) := by decide +kernel
theorem dX10_first_66 : decode cX10_first 66 = .ok (.getfield 56, 3) := by decide +kernel
theorem dX10_first_69 : decode cX10_first 69 = .ok (.aload_n 0, 1) := by decide +kernel
theorem dX10_first_70 : decode cX10_first 70 = .ok (.getfield 77, 3) := by decide +kernel
theorem dX10_first_73 : decode cX10_first 73 = .ok (.iconst (-1), 1) := by decide +kernel
theorem dX10_first_74 : decode cX10_first 74 = .ok (.iload_n 1, 1) := by decide +kernel
theorem dX10_first_75 : decode cX10_first 75 = .ok (.invokevirtual 292, 3) := by decide +kernel
theorem dX10_first_78 : decode cX10_first 78 = .ok (.istore 5, 2) := by decide +kernel
theorem dX10_first_80 : decode cX10_first 80 = .ok (.iload 5, 2) := by decide +kernel
theorem dX10_first_82 : decode cX10_first 82 = .ok (.iload_n 3, 1) := by decide +kernel
theorem dX10_first_83 : decode cX10_first 83 = .ok (.if_icmp .ge 9, 3) := by decide +kernel
theorem dX10_first_86 : decode cX10_first 86 = .ok (.iload 5, 2) := by decide +kernel
theorem dX10_first_88 : decode cX10_first 88 = .ok (.istore_n 3, 1) := by decide +kernel
theorem dX10_first_89 : decode cX10_first 89 = .ok (.iload 4, 2) := by decide +kernel
theorem dX10_first_91 : decode cX10_first 91 = .ok (.istore_n 2, 1) := by decide +kernel
theorem dX10_first_92 : decode cX10_first 92 = .ok (.iinc 4 1, 3) := by decide +kernel
theorem dX10_first_95 : decode cX10_first 95 = .ok (.goto (-73), 3) := by decide +kernel
theorem dX10_first_98 : decode cX10_first 98 = .ok (.iload_n 2, 1) := by decide +kernel
theorem dX10_first_99 : decode cX10_first 99 = .ok (.ireturn, 1) := by decide +kernel
theorem dX10_years_0 : decode cX10_years 0 = .ok (.iload_n 1, 1) := by decide +kernel
theorem dX10_years_1 : decode cX10_years 1 = .ok (.ifCond .lt 30, 3) := by decide +kernel
theorem dX10_years_4 : decode cX10_years 4 = .ok (.iload_n 1, 1) := by decide +kernel
theorem dX10_years_5 : decode cX10_years 5 = .ok (.sipush 9999, 3) := by decide +kernel
theorem dX10_years_8 : decode cX10_years 8 = .ok (.if_icmp .gt 23, 3) := by decide +kernel
theorem dX10_years_11 : decode cX10_years 11 = .ok (.iload_n 2, 1) := by decide +kernel
theorem dX10_years_12 : decode cX10_years 12 = .ok (.iconst 1, 1) := by decide +kernel
theorem dX10_years_13 : decode cX10_years 13 = .ok (.if_icmp .lt 18, 3) := by decide +kernel
theorem dX10_years_16 : decode cX10_years 16 = .ok (.iload_n 2, 1) := by decide +kernel
theorem dX10_years_17 : decode cX10_years 17 = .ok (.bipush 100, 2) := by decide +kernel
theorem dX10_years_19 : decode cX10_years 19 = .ok (.if_icmp .gt 12, 3) := by decide +kernel
theorem dX10_years_22 : decode cX10_years 22 = .ok (.iload_n 3, 1) := by decide +kernel
theorem dX10_years_23 : decode cX10_years 23 = .ok (.ifCond .lt 8, 3) := by decide +kernel
theorem dX10_years_26 : decode cX10_years 26 = .ok (.iload_n 3, 1) := by decide +kernel
theorem dX10_years_27 : decode cX10_years 27 = .ok (.iconst 2, 1) := by decide +kernel
theorem dX10_years_28 : decode cX10_years 28 = .ok (.if_icmp .le 5, 3) := by decide +kernel
theorem dX10_years_31 : decode cX10_years 31 = .ok (.iconst (-1), 1) := by decide +kernel
theorem dX10_years_32 : decode cX10_years 32 = .ok (.ireturn, 1) := by decide +kernel
theorem dX10_years_33 : decode cX10_years 33 = .ok (.aload_n 0, 1) := by decide +kernel
theorem dX10_years_34 : decode cX10_years 34 = .ok (.getfield 77, 3) := by decide +kernel
theorem dX10_years_37 : decode cX10_years 37 = .ok (.aload_n 0, 1) := by decide +kernel
theorem dX10_years_38 : decode cX10_years 38 = .ok (.getfield 66, 3) := by decide +kernel
theorem dX10_years_41 : decode cX10_years 41 = .ok (.getfield 141, 3) := by decide +kernel
theorem dX10_years_44 : decode cX10_years 44 = .ok (.invokevirtual 208, 3) := by decide +kernel
theorem dX10_years_47 : decode cX10_years 47 = .ok (.aload_n 0, 1) := by decide +kernel
theorem dX10_years_48 : decode cX10_years 48 = .ok (.getfield 42, 3) := by decide +kernel
theorem dX10_years_51 : decode cX10_years 51 = .ok (.aload_n 0, 1) := by decide +kernel
theorem dX10_years_52 : decode cX10_years 52 = .ok (.getfield 56, 3) := by decide +kernel
theorem dX10_years_55 : decode cX10_years 55 = .ok (.aload_n 0, 1) := by decide +kernel
theorem dX10_years_56 : decode cX10_years 56 = .ok (.getfield 77, 3) := by decide +kernel
theorem dX10_years_59 : decode cX10_years 59 = .ok (.iload_n 1, 1) := by decide +kernel
theorem dX10_years_60 : decode cX10_years 60 = .ok (.iload_n 2, 1) := by decide +kernel
theorem dX10_years_61 : decode cX10_years 61 = .ok (.invokevirtual 301, 3) := by decide +kernel
theorem dX10_years_64 : decode cX10_years 64 = .ok (.iload_n 3, 1) := by decide +kernel
theorem dX10_years_65 : decode cX10_years 65 = .ok (.ifCond .ne 13, 3) := by decide +kernel
theorem dX10_years_68 : decode cX10_years 68 = .ok (.aload_n 0, 1) := by decide +kernel
theorem dX10_years_69 : decode cX10_years 69 = .ok (.getfield 42, 3) := by decide +kernel
theorem dX10_years_72 : decode cX10_years 72 = .ok (.getfield 305, 3) := by decide +kernel
theorem dX10_years_75 : decode cX10_years 75 = .ok (.goto 32, 3) := by decide +kernel
theorem dX10_years_78 : decode cX10_years 78 = .ok (.iload_n 3, 1) := by decide +kernel
theorem dX10_years_79 : decode cX10_years 79 = .ok (.iconst 1, 1) := by decide +kernel
theorem dX10_years_80 : decode cX10_years 80 = .ok (.if_icmp .ne 13, 3) := by decide +kernel
theorem dX10_years_83 : decode cX10_years 83 = .ok (.aload_n 0, 1) := by decide +kernel
theorem dX10_years_84 : decode cX10_years 84 = .ok (.getfield 42, 3) := by decide +kernel
theorem dX10_years_87 : decode cX10_years 87 = .ok (.getfield 308, 3) := by decide +kernel
theorem dX10_years_90 : decode cX10_years 90 = .ok (.goto 17, 3) := by decide +kernel
theorem dX10_years_93 : decode cX10_years 93 = .ok (.aload_n 0, 1) := by decide +kernel
theorem dX10_years_94 : decode cX10_years 94 = .ok (.getfield 77, 3) := by decide +kernel
theorem dX10_years_97 : decode cX10_years 97 = .ok (.aload_n 0, 1) := by decide +kernel
theorem dX10_years_98 : decode cX10_years 98 = .ok (.getfield 56, 3) := by decide +kernel
theorem dX10_years_101 : decode cX10_years 101 = .ok (.getfield 144, 3) := by decide +kernel
theorem dX10_years_104 : decode cX10_years 104 = .ok (.invokevirtual 311, 3) := by decide +kernel
theorem dX10_years_107 : decode cX10_years 107 = .ok (.ireturn, 1) := by decide +kernel
theorem dX10_mark_0 : decode cX10_mark 0 = .ok (.iload_n 1, 1) := by decide +kernel
theorem dX10_mark_1 : decode cX10_mark 1 = .ok (.ifCond .lt 24, 3) := by decide +kernel
theorem dX10_mark_4 : decode cX10_mark 4 = .ok (.iload_n 1, 1) := by decide +kernel
theorem dX10_mark_5 : decode cX10_mark 5 = .ok (.iconst 4, 1) := by decide +kernel
theorem dX10_mark_6 : decode cX10_mark 6 = .ok (.if_icmp .ge 19, 3) := by decide +kernel
theorem dX10_mark_9 : decode cX10_mark 9 = .ok (.iload_n 2, 1) := by decide +kernel
theorem dX10_mark_10 : decode cX10_mark 10 = .ok (.ifCond .eq 17, 3) := by decide +kernel
theorem dX10_mark_13 : decode cX10_mark 13 = .ok (.aload_n 0, 1) := by decide +kernel
theorem dX10_mark_14 : decode cX10_mark 14 = .ok (.getfield 70, 3) := by decide +kernel
theorem dX10_mark_17 : decode cX10_mark 17 = .ok (.iload_n 1, 1) := by decide +kernel
theorem dX10_mark_18 : decode cX10_mark 18 = .ok (.aaload, 1) := by decide +kernel
theorem dX10_mark_19 : decode cX10_mark 19 = .ok (.getfield 117, 3) := by decide +kernel
theorem dX10_mark_22 : decode cX10_mark 22 = .ok (.ifCond .ne 5, 3) := by decide +kernel
theorem dX10_mark_25 : decode cX10_mark 25 = .ok (.iconst 0, 1) := by decide +kernel
theorem dX10_mark_26 : decode cX10_mark 26 = .ok (.ireturn, 1) := by decide +kernel
theorem dX10_mark_27 : decode cX10_mark 27 = .ok (.iload_n 2, 1) := by decide +kernel
theorem dX10_mark_28 : decode cX10_mark 28 = .ok (.ifCond .eq 32, 3) := by decide +kernel
theorem dX10_mark_31 : decode cX10_mark 31 = .ok (.aload_n 0, 1) := by decide +kernel
theorem dX10_mark_32 : decode cX10_mark 32 = .ok (.getfield 66, 3) := by decide +kernel
theorem dX10_mark_35 : decode cX10_mark 35 = .ok (.aload_n 0, 1) := by decide +kernel
theorem dX10_mark_36 : decode cX10_mark 36 = .ok (.getfield 70, 3) := by decide +kernel
theorem dX10_mark_39 : decode cX10_mark 39 = .ok (.iload_n 1, 1) := by decide +kernel
theorem dX10_mark_40 : decode cX10_mark 40 = .ok (.aaload, 1) := by decide +kernel
theorem dX10_mark_41 : decode cX10_mark 41 = .ok (.invokevirtual 314, 3) := by decide +kernel
theorem dX10_mark_44 : decode cX10_mark 44 = .ok (.aload_n 0, 1) := by decide +kernel
theorem dX10_mark_45 : decode cX10_mark 45 = .ok (.iconst 0, 1) := by decide +kernel
theorem dX10_mark_46 : decode cX10_mark 46 = .ok (.putfield 110, 3) := by decide +kernel
theorem dX10_mark_49 : decode cX10_mark 49 = .ok (.aload_n 0, 1) := by decide +kernel
theorem dX10_mark_50 : decode cX10_mark 50 = .ok (.getfield 35, 3) := by decide +kernel
theorem dX10_mark_53 : decode cX10_mark 53 = .ok (.iconst 0, 1) := by decide +kernel
theorem dX10_mark_54 : decode cX10_mark 54 = .ok (.putfield 113, 3) := by decide +kernel
theorem dX10_mark_57 : decode cX10_mark 57 = .ok (.goto 26, 3) := by decide +kernel
theorem dX10_mark_60 : decode cX10_mark 60 = .ok (.aload_n 0, 1) := by decide +kernel
theorem dX10_mark_61 : decode cX10_mark 61 = .ok (.getfield 70, 3) := by decide +kernel
theorem dX10_mark_64 : decode cX10_mark 64 = .ok (.iload_n 1, 1) := by decide +kernel
theorem dX10_mark_65 : decode cX10_mark 65 = .ok (.aaload, 1) := by decide +kernel
theorem dX10_mark_66 : decode cX10_mark 66 = .ok (.aload_n 0, 1) := by decide +kernel
theorem dX10_mark_67 : decode cX10_mark 67 = .ok (.getfield 66, 3) := by decide +kernel
theorem dX10_mark_70 : decode cX10_mark 70 = .ok (.invokevirtual 314, 3) := by decide +kernel
theorem dX10_mark_73 : decode cX10_mark 73 = .ok (.aload_n 0, 1) := by decide +kernel
theorem dX10_mark_74 : decode cX10_mark 74 = .ok (.getfield 70, 3) := by decide +kernel
theorem dX10_mark_77 : decode cX10_mark 77 = .ok (.iload_n 1, 1) := by decide +kernel
theorem dX10_mark_78 : decode cX10_mark 78 = .ok (.aaload, 1) := by decide +kernel
theorem dX10_mark_79 : decode cX10_mark 79 = .ok (.iconst 1, 1) := by decide +kernel
theorem dX10_mark_80 : decode cX10_mark 80 = .ok (.putfield 117, 3) := by decide +kernel
theorem dX10_mark_83 : decode cX10_mark 83 = .ok (.iconst 1, 1) := by decide +kernel
theorem dX10_mark_84 : decode cX10_mark 84 = .ok (.ireturn, 1) := by decide +kernel
theorem dX10_count_0 : decode cX10_count 0 = .ok (.iload_n 1, 1) := by decide +kernel
theorem dX10_count_1 : decode cX10_count 1 = .ok (.tableswitch 194 0 12 #[67, 75, 83, 91, 99, 107, 118, 129, 147, 165, 173, 181, 186], 67) := by decide +kernel
theorem dX10_count_68 : decode cX10_count 68 = .ok (.aload_n 0, 1) := by decide +kernel
theorem dX10_count_69 : decode cX10_count 69 = .ok (.getfield 56, 3) := by decide +kernel
theorem dX10_count_72 : decode cX10_count 72 = .ok (.getfield 317, 3) := by decide +kernel
theorem dX10_count_75 : decode cX10_count 75 = .ok (.ireturn, 1) := by decide +kernel
theorem dX10_count_76 : decode cX10_count 76 = .ok (.aload_n 0, 1) := by decide +kernel
theorem dX10_count_77 : decode cX10_count 77 = .ok (.getfield 56, 3) := by decide +kernel
theorem dX10_count_80 : decode cX10_count 80 = .ok (.getfield 144, 3) := by decide +kernel
theorem dX10_count_83 : decode cX10_count 83 = .ok (.ireturn, 1) := by decide +kernel
theorem dX10_count_84 : decode cX10_count 84 = .ok (.aload_n 0, 1) := by decide +kernel
theorem dX10_count_85 : decode cX10_count 85 = .ok (.getfield 56, 3) := by decide +kernel
theorem dX10_count_88 : decode cX10_count 88 = .ok (.getfield 320, 3) := by decide +kernel
theorem dX10_count_91 : decode cX10_count 91 = .ok (.ireturn, 1) := by decide +kernel
theorem dX10_count_92 : decode cX10_count 92 = .ok (.aload_n 0, 1) := by decide +kernel
theorem dX10_count_93 : decode cX10_count 93 = .ok (.getfield 56, 3) := by decide +kernel
theorem dX10_count_96 : decode cX10_count 96 = .ok (.getfield 323, 3) := by decide +kernel
theorem dX10_count_99 : decode cX10_count 99 = .ok (.ireturn, 1) := by decide +kernel
theorem dX10_count_100 : decode cX10_count 100 = .ok (.aload_n 0, 1) := by decide +kernel
theorem dX10_count_101 : decode cX10_count 101 = .ok (.getfield 56, 3) := by decide +kernel
theorem dX10_count_104 : decode cX10_count 104 = .ok (.invokevirtual 326, 3) := by decide +kernel
theorem dX10_count_107 : decode cX10_count 107 = .ok (.ireturn, 1) := by decide +kernel
theorem dX10_count_108 : decode cX10_count 108 = .ok (.aload_n 0, 1) := by decide +kernel
theorem dX10_count_109 : decode cX10_count 109 = .ok (.getfield 66, 3) := by decide +kernel
theorem dX10_count_112 : decode cX10_count 112 = .ok (.getfield 141, 3) := by decide +kernel
theorem dX10_count_115 : decode cX10_count 115 = .ok (.getfield 330, 3) := by decide +kernel
theorem dX10_count_118 : decode cX10_count 118 = .ok (.ireturn, 1) := by decide +kernel
theorem dX10_count_119 : decode cX10_count 119 = .ok (.aload_n 0, 1) := by decide +kernel
theorem dX10_count_120 : decode cX10_count 120 = .ok (.getfield 66, 3) := by decide +kernel
theorem dX10_count_123 : decode cX10_count 123 = .ok (.getfield 141, 3) := by decide +kernel
theorem dX10_count_126 : decode cX10_count 126 = .ok (.getfield 202, 3) := by decide +kernel
theorem dX10_count_129 : decode cX10_count 129 = .ok (.ireturn, 1) := by decide +kernel
theorem dX10_count_130 : decode cX10_count 130 = .ok (.aload_n 0, 1) := by decide +kernel
theorem dX10_count_131 : decode cX10_count 131 = .ok (.getfield 66, 3) := by decide +kernel
theorem dX10_count_134 : decode cX10_count 134 = .ok (.getfield 141, 3) := by decide +kernel
theorem dX10_count_137 : decode cX10_count 137 = .ok (.aload_n 0, 1) := by decide +kernel
theorem dX10_count_138 : decode cX10_count 138 = .ok (.getfield 56, 3) := by decide +kernel
theorem dX10_count_141 : decode cX10_count 141 = .ok (.getfield 144, 3) := by decide +kernel
theorem dX10_count_144 : decode cX10_count 144 = .ok (.invokevirtual 217, 3) := by decide +kernel
theorem dX10_count_147 : decode cX10_count 147 = .ok (.ireturn, 1) := by decide +kernel
theorem dX10_count_148 : decode cX10_count 148 = .ok (.aload_n 0, 1) := by decide +kernel
theorem dX10_count_149 : decode cX10_count 149 = .ok (.getfield 66, 3) := by decide +kernel
theorem dX10_count_152 : decode cX10_count 152 = .ok (.getfield 141, 3) := by decide +kernel
theorem dX10_count_155 : decode cX10_count 155 = .ok (.aload_n 0, 1) := by decide +kernel
theorem dX10_count_156 : decode cX10_count 156 = .ok (.getfield 56, 3) := by decide +kernel
theorem dX10_count_159 : decode cX10_count 159 = .ok (.getfield 320, 3) := by decide +kernel
theorem dX10_count_162 : decode cX10_count 162 = .ok (.invokevirtual 333, 3) := by decide +kernel
theorem dX10_count_165 : decode cX10_count 165 = .ok (.ireturn, 1) := by decide +kernel
theorem dX10_count_166 : decode cX10_count 166 = .ok (.aload_n 0, 1) := by decide +kernel
theorem dX10_count_167 : decode cX10_count 167 = .ok (.getfield 66, 3) := by decide +kernel
theorem dX10_count_170 : decode cX10_count 170 = .ok (.getfield 211, 3) := by decide +kernel
theorem dX10_count_173 : decode cX10_count 173 = .ok (.ireturn, 1) := by decide +kernel
theorem dX10_count_174 : decode cX10_count 174 = .ok (.aload_n 0, 1) := by decide +kernel
theorem dX10_count_175 : decode cX10_count 175 = .ok (.getfield 66, 3) := by decide +kernel
theorem dX10_count_178 : decode cX10_count 178 = .ok (.getfield 233, 3) := by decide +kernel
theorem dX10_count_181 : decode cX10_count 181 = .ok (.ireturn, 1) := by decide +kernel
theorem dX10_count_182 : decode cX10_count 182 = .ok (.aload_n 0, 1) := by decide +kernel
theorem dX10_count_183 : decode cX10_count 183 = .ok (.getfield 110, 3) := by decide +kernel
theorem dX10_count_186 : decode cX10_count 186 = .ok (.ireturn, 1) := by decide +kernel
theorem dX10_count_187 : decode cX10_count 187 = .ok (.aload_n 0, 1) := by decide +kernel
theorem dX10_count_188 : decode cX10_count 188 = .ok (.getfield 10, 3) := by decide +kernel
theorem dX10_count_191 : decode cX10_count 191 = .ok (.getfield 95, 3) := by decide +kernel
theorem dX10_count_194 : decode cX10_count 194 = .ok (.ireturn, 1) := by decide +kernel
theorem dX10_count_195 : decode cX10_count 195 = .ok (.iconst (-1), 1) := by decide +kernel
theorem dX10_count_196 : decode cX10_count 196 = .ok (.ireturn, 1) := by decide +kernel
theorem dX10_isPen_0 : decode cX10_isPen 0 = .ok (.iload_n 1, 1) := by decide +kernel
theorem dX10_isPen_1 : decode cX10_isPen 1 = .ok (.ifCond .lt 18, 3) := by decide +kernel
theorem dX10_isPen_4 : decode cX10_isPen 4 = .ok (.iload_n 1, 1) := by decide +kernel
theorem dX10_isPen_5 : decode cX10_isPen 5 = .ok (.aload_n 0, 1) := by decide +kernel
theorem dX10_isPen_6 : decode cX10_isPen 6 = .ok (.getfield 56, 3) := by decide +kernel
theorem dX10_isPen_9 : decode cX10_isPen 9 = .ok (.getfield 317, 3) := by decide +kernel
theorem dX10_isPen_12 : decode cX10_isPen 12 = .ok (.if_icmp .ge 7, 3) := by decide +kernel
theorem dX10_isPen_15 : decode cX10_isPen 15 = .ok (.iconst 1, 1) := by decide +kernel
theorem dX10_isPen_16 : decode cX10_isPen 16 = .ok (.goto 4, 3) := by decide +kernel
theorem dX10_isPen_19 : decode cX10_isPen 19 = .ok (.iconst 0, 1) := by decide +kernel
theorem dX10_isPen_20 : decode cX10_isPen 20 = .ok (.ireturn, 1) := by decide +kernel
theorem dX10_isGuest_0 : decode cX10_isGuest 0 = .ok (.iload_n 1, 1) := by decide +kernel
theorem dX10_isGuest_1 : decode cX10_isGuest 1 = .ok (.ifCond .lt 18, 3) := by decide +kernel
theorem dX10_isGuest_4 : decode cX10_isGuest 4 = .ok (.iload_n 1, 1) := by decide +kernel
theorem dX10_isGuest_5 : decode cX10_isGuest 5 = .ok (.aload_n 0, 1) := by decide +kernel
theorem dX10_isGuest_6 : decode cX10_isGuest 6 = .ok (.getfield 56, 3) := by decide +kernel
theorem dX10_isGuest_9 : decode cX10_isGuest 9 = .ok (.getfield 144, 3) := by decide +kernel
theorem dX10_isGuest_12 : decode cX10_isGuest 12 = .ok (.if_icmp .ge 7, 3) := by decide +kernel
theorem dX10_isGuest_15 : decode cX10_isGuest 15 = .ok (.iconst 1, 1) := by decide +kernel
theorem dX10_isGuest_16 : decode cX10_isGuest 16 = .ok (.goto 4, 3) := by decide +kernel
theorem dX10_isGuest_19 : decode cX10_isGuest 19 = .ok (.iconst 0, 1) := by decide +kernel
theorem dX10_isGuest_20 : decode cX10_isGuest 20 = .ok (.ireturn, 1) := by decide +kernel
theorem dX10_isAnimal_0 : decode cX10_isAnimal 0 = .ok (.iload_n 1, 1) := by decide +kernel
theorem dX10_isAnimal_1 : decode cX10_isAnimal 1 = .ok (.ifCond .lt 18, 3) := by decide +kernel
theorem dX10_isAnimal_4 : decode cX10_isAnimal 4 = .ok (.iload_n 1, 1) := by decide +kernel
theorem dX10_isAnimal_5 : decode cX10_isAnimal 5 = .ok (.aload_n 0, 1) := by decide +kernel
theorem dX10_isAnimal_6 : decode cX10_isAnimal 6 = .ok (.getfield 56, 3) := by decide +kernel
theorem dX10_isAnimal_9 : decode cX10_isAnimal 9 = .ok (.getfield 320, 3) := by decide +kernel
theorem dX10_isAnimal_12 : decode cX10_isAnimal 12 = .ok (.if_icmp .ge 7, 3) := by decide +kernel
theorem dX10_isAnimal_15 : decode cX10_isAnimal 15 = .ok (.iconst 1, 1) := by decide +kernel
theorem dX10_isAnimal_16 : decode cX10_isAnimal 16 = .ok (.goto 4, 3) := by decide +kernel
theorem dX10_isAnimal_19 : decode cX10_isAnimal 19 = .ok (.iconst 0, 1) := by decide +kernel
theorem dX10_isAnimal_20 : decode cX10_isAnimal 20 = .ok (.ireturn, 1) := by decide +kernel
theorem dX10_lineOf_0 : decode cX10_lineOf 0 = .ok (.iload_n 0, 1) := by decide +kernel
theorem dX10_lineOf_1 : decode cX10_lineOf 1 = .ok (.iconst 4, 1) := by decide +kernel
theorem dX10_lineOf_2 : decode cX10_lineOf 2 = .ok (.iload_n 1, 1) := by decide +kernel
theorem dX10_lineOf_3 : decode cX10_lineOf 3 = .ok (.imul, 1) := by decide +kernel
theorem dX10_lineOf_4 : decode cX10_lineOf 4 = .ok (.iadd, 1) := by decide +kernel
theorem dX10_lineOf_5 : decode cX10_lineOf 5 = .ok (.bipush 32, 2) := by decide +kernel
theorem dX10_lineOf_7 : decode cX10_lineOf 7 = .ok (.iload_n 2, 1) := by decide +kernel
theorem dX10_lineOf_8 : decode cX10_lineOf 8 = .ok (.imul, 1) := by decide +kernel
theorem dX10_lineOf_9 : decode cX10_lineOf 9 = .ok (.iadd, 1) := by decide +kernel
theorem dX10_lineOf_10 : decode cX10_lineOf 10 = .ok (.ireturn, 1) := by decide +kernel
theorem dX10_act_0 : decode cX10_act 0 = .ok (.aload_n 0, 1) := by decide +kernel
theorem dX10_act_1 : decode cX10_act 1 = .ok (.getfield 77, 3) := by decide +kernel
theorem dX10_act_4 : decode cX10_act 4 = .ok (.aload_n 0, 1) := by decide +kernel
theorem dX10_act_5 : decode cX10_act 5 = .ok (.getfield 66, 3) := by decide +kernel
theorem dX10_act_8 : decode cX10_act 8 = .ok (.getfield 141, 3) := by decide +kernel
theorem dX10_act_11 : decode cX10_act 11 = .ok (.invokevirtual 208, 3) := by decide +kernel
theorem dX10_act_14 : decode cX10_act 14 = .ok (.aload_n 0, 1) := by decide +kernel
theorem dX10_act_15 : decode cX10_act 15 = .ok (.getfield 28, 3) := by decide +kernel
theorem dX10_act_18 : decode cX10_act 18 = .ok (.aload_n 0, 1) := by decide +kernel
theorem dX10_act_19 : decode cX10_act 19 = .ok (.getfield 56, 3) := by decide +kernel
theorem dX10_act_22 : decode cX10_act 22 = .ok (.aload_n 0, 1) := by decide +kernel
theorem dX10_act_23 : decode cX10_act 23 = .ok (.getfield 77, 3) := by decide +kernel
theorem dX10_act_26 : decode cX10_act 26 = .ok (.iload_n 1, 1) := by decide +kernel
theorem dX10_act_27 : decode cX10_act 27 = .ok (.invokevirtual 213, 3) := by decide +kernel
theorem dX10_act_30 : decode cX10_act 30 = .ok (.ifCond .ne 5, 3) := by decide +kernel
theorem dX10_act_33 : decode cX10_act 33 = .ok (.iconst 0, 1) := by decide +kernel
theorem dX10_act_34 : decode cX10_act 34 = .ok (.ireturn, 1) := by decide +kernel
theorem dX10_act_35 : decode cX10_act 35 = .ok (.aload_n 0, 1) := by decide +kernel
theorem dX10_act_36 : decode cX10_act 36 = .ok (.getfield 81, 3) := by decide +kernel
theorem dX10_act_39 : decode cX10_act 39 = .ok (.aload_n 0, 1) := by decide +kernel
theorem dX10_act_40 : decode cX10_act 40 = .ok (.getfield 205, 3) := by decide +kernel
theorem dX10_act_43 : decode cX10_act 43 = .ok (.aaload, 1) := by decide +kernel
theorem dX10_act_44 : decode cX10_act 44 = .ok (.aload_n 0, 1) := by decide +kernel
theorem dX10_act_45 : decode cX10_act 45 = .ok (.getfield 66, 3) := by decide +kernel
theorem dX10_act_48 : decode cX10_act 48 = .ok (.getfield 141, 3) := by decide +kernel
theorem dX10_act_51 : decode cX10_act 51 = .ok (.invokevirtual 208, 3) := by decide +kernel
theorem dX10_act_54 : decode cX10_act 54 = .ok (.aload_n 0, 1) := by decide +kernel
theorem dX10_act_55 : decode cX10_act 55 = .ok (.aload_n 0, 1) := by decide +kernel
theorem dX10_act_56 : decode cX10_act 56 = .ok (.getfield 205, 3) := by decide +kernel
theorem dX10_act_59 : decode cX10_act 59 = .ok (.iconst 1, 1) := by decide +kernel
theorem dX10_act_60 : decode cX10_act 60 = .ok (.iadd, 1) := by decide +kernel
theorem dX10_act_61 : decode cX10_act 61 = .ok (.bipush 16, 2) := by decide +kernel
theorem dX10_act_63 : decode cX10_act 63 = .ok (.irem, 1) := by decide +kernel
theorem dX10_act_64 : decode cX10_act 64 = .ok (.putfield 205, 3) := by decide +kernel
theorem dX10_act_67 : decode cX10_act 67 = .ok (.aload_n 0, 1) := by decide +kernel
theorem dX10_act_68 : decode cX10_act 68 = .ok (.aload_n 0, 1) := by decide +kernel
theorem dX10_act_69 : decode cX10_act 69 = .ok (.getfield 110, 3) := by decide +kernel
theorem dX10_act_72 : decode cX10_act 72 = .ok (.iconst 1, 1) := by decide +kernel
theorem dX10_act_73 : decode cX10_act 73 = .ok (.iadd, 1) := by decide +kernel
theorem dX10_act_74 : decode cX10_act 74 = .ok (.bipush 16, 2) := by decide +kernel
theorem dX10_act_76 : decode cX10_act 76 = .ok (.invokestatic 336, 3) := by decide +kernel
theorem dX10_act_79 : decode cX10_act 79 = .ok (.putfield 110, 3) := by decide +kernel
theorem dX10_act_82 : decode cX10_act 82 = .ok (.aload_n 0, 1) := by decide +kernel
theorem dX10_act_83 : decode cX10_act 83 = .ok (.getfield 66, 3) := by decide +kernel
theorem dX10_act_86 : decode cX10_act 86 = .ok (.getfield 141, 3) := by decide +kernel
theorem dX10_act_89 : decode cX10_act 89 = .ok (.aload_n 0, 1) := by decide +kernel
theorem dX10_act_90 : decode cX10_act 90 = .ok (.getfield 77, 3) := by decide +kernel
theorem dX10_act_93 : decode cX10_act 93 = .ok (.invokevirtual 208, 3) := by decide +kernel
theorem dX10_act_96 : decode cX10_act 96 = .ok (.aload_n 0, 1) := by decide +kernel
theorem dX10_act_97 : decode cX10_act 97 = .ok (.getfield 35, 3) := by decide +kernel
theorem dX10_act_100 : decode cX10_act 100 = .ok (.iconst 0, 1) := by decide +kernel
theorem dX10_act_101 : decode cX10_act 101 = .ok (.putfield 113, 3) := by decide +kernel
theorem dX10_act_104 : decode cX10_act 104 = .ok (.iconst 1, 1) := by decide +kernel
theorem dX10_act_105 : decode cX10_act 105 = .ok (.ireturn, 1) := by decide +kernel
theorem dX10_tyresHelp_0 : decode cX10_tyresHelp 0 = .ok (.aload_n 0, 1) := by decide +kernel
theorem dX10_tyresHelp_1 : decode cX10_tyresHelp 1 = .ok (.getfield 77, 3) := by decide +kernel
theorem dX10_tyresHelp_4 : decode cX10_tyresHelp 4 = .ok (.aload_n 0, 1) := by decide +kernel
theorem dX10_tyresHelp_5 : decode cX10_tyresHelp 5 = .ok (.getfield 66, 3) := by decide +kernel
theorem dX10_tyresHelp_8 : decode cX10_tyresHelp 8 = .ok (.getfield 141, 3) := by decide +kernel
theorem dX10_tyresHelp_11 : decode cX10_tyresHelp 11 = .ok (.invokevirtual 208, 3) := by decide +kernel
theorem dX10_tyresHelp_14 : decode cX10_tyresHelp 14 = .ok (.iconst 0, 1) := by decide +kernel
theorem dX10_tyresHelp_15 : decode cX10_tyresHelp 15 = .ok (.istore_n 2, 1) := by decide +kernel
theorem dX10_tyresHelp_16 : decode cX10_tyresHelp 16 = .ok (.iload_n 2, 1) := by decide +kernel
theorem dX10_tyresHelp_17 : decode cX10_tyresHelp 17 = .ok (.aload_n 0, 1) := by decide +kernel
theorem dX10_tyresHelp_18 : decode cX10_tyresHelp 18 = .ok (.getfield 56, 3) := by decide +kernel
theorem dX10_tyresHelp_21 : decode cX10_tyresHelp 21 = .ok (.getfield 144, 3) := by decide +kernel
theorem dX10_tyresHelp_24 : decode cX10_tyresHelp 24 = .ok (.if_icmp .ge 29, 3) := by decide +kernel
theorem dX10_tyresHelp_27 : decode cX10_tyresHelp 27 = .ok (.iload_n 1, 1) := by decide +kernel
theorem dX10_tyresHelp_28 : decode cX10_tyresHelp 28 = .ok (.iload_n 2, 1) := by decide +kernel
theorem dX10_tyresHelp_29 : decode cX10_tyresHelp 29 = .ok (.ishr, 1) := by decide +kernel
theorem dX10_tyresHelp_30 : decode cX10_tyresHelp 30 = .ok (.iconst 1, 1) := by decide +kernel
theorem dX10_tyresHelp_31 : decode cX10_tyresHelp 31 = .ok (.iand, 1) := by decide +kernel
theorem dX10_tyresHelp_32 : decode cX10_tyresHelp 32 = .ok (.ifCond .eq 15, 3) := by decide +kernel
theorem dX10_tyresHelp_35 : decode cX10_tyresHelp 35 = .ok (.aload_n 0, 1) := by decide +kernel
theorem dX10_tyresHelp_36 : decode cX10_tyresHelp 36 = .ok (.getfield 56, 3) := by decide +kernel
theorem dX10_tyresHelp_39 : decode cX10_tyresHelp 39 = .ok (.aload_n 0, 1) := by decide +kernel
theorem dX10_tyresHelp_40 : decode cX10_tyresHelp 40 = .ok (.getfield 77, 3) := by decide +kernel
theorem dX10_tyresHelp_43 : decode cX10_tyresHelp 43 = .ok (.iload_n 2, 1) := by decide +kernel
theorem dX10_tyresHelp_44 : decode cX10_tyresHelp 44 = .ok (.invokevirtual 297, 3) := by decide +kernel
theorem dX10_tyresHelp_47 : decode cX10_tyresHelp 47 = .ok (.iinc 2 1, 3) := by decide +kernel
theorem dX10_tyresHelp_50 : decode cX10_tyresHelp 50 = .ok (.goto (-34), 3) := by decide +kernel
theorem dX10_tyresHelp_53 : decode cX10_tyresHelp 53 = .ok (.aload_n 0, 1) := by decide +kernel
theorem dX10_tyresHelp_54 : decode cX10_tyresHelp 54 = .ok (.getfield 28, 3) := by decide +kernel
theorem dX10_tyresHelp_57 : decode cX10_tyresHelp 57 = .ok (.aload_n 0, 1) := by decide +kernel
theorem dX10_tyresHelp_58 : decode cX10_tyresHelp 58 = .ok (.getfield 56, 3) := by decide +kernel
theorem dX10_tyresHelp_61 : decode cX10_tyresHelp 61 = .ok (.aload_n 0, 1) := by decide +kernel
theorem dX10_tyresHelp_62 : decode cX10_tyresHelp 62 = .ok (.getfield 77, 3) := by decide +kernel
theorem dX10_tyresHelp_65 : decode cX10_tyresHelp 65 = .ok (.iconst 1, 1) := by decide +kernel
theorem dX10_tyresHelp_66 : decode cX10_tyresHelp 66 = .ok (.invokevirtual 339, 3) := by decide +kernel
theorem dX10_tyresHelp_69 : decode cX10_tyresHelp 69 = .ok (.aload_n 0, 1) := by decide +kernel
theorem dX10_tyresHelp_70 : decode cX10_tyresHelp 70 = .ok (.getfield 77, 3) := by decide +kernel
theorem dX10_tyresHelp_73 : decode cX10_tyresHelp 73 = .ok (.aload_n 0, 1) := by decide +kernel
theorem dX10_tyresHelp_74 : decode cX10_tyresHelp 74 = .ok (.getfield 56, 3) := by decide +kernel
theorem dX10_tyresHelp_77 : decode cX10_tyresHelp 77 = .ok (.getfield 144, 3) := by decide +kernel
theorem dX10_tyresHelp_80 : decode cX10_tyresHelp 80 = .ok (.invokevirtual 217, 3) := by decide +kernel
theorem dX10_tyresHelp_83 : decode cX10_tyresHelp 83 = .ok (.ifCond .ne 7, 3) := by decide +kernel
theorem dX10_tyresHelp_86 : decode cX10_tyresHelp 86 = .ok (.iconst 1, 1) := by decide +kernel
theorem dX10_tyresHelp_87 : decode cX10_tyresHelp 87 = .ok (.goto 4, 3) := by decide +kernel
theorem dX10_tyresHelp_90 : decode cX10_tyresHelp 90 = .ok (.iconst 0, 1) := by decide +kernel
theorem dX10_tyresHelp_91 : decode cX10_tyresHelp 91 = .ok (.ireturn, 1) := by decide +kernel
theorem dX10_kindsInAll_0 : decode cX10_kindsInAll 0 = .ok (.bipush 15, 2) := by decide +kernel
theorem dX10_kindsInAll_2 : decode cX10_kindsInAll 2 = .ok (.istore_n 1, 1) := by decide +kernel
theorem dX10_kindsInAll_3 : decode cX10_kindsInAll 3 = .ok (.iconst 0, 1) := by decide +kernel
theorem dX10_kindsInAll_4 : decode cX10_kindsInAll 4 = .ok (.istore_n 2, 1) := by decide +kernel
theorem dX10_kindsInAll_5 : decode cX10_kindsInAll 5 = .ok (.iload_n 2, 1) := by decide +kernel
theorem dX10_kindsInAll_6 : decode cX10_kindsInAll 6 = .ok (.bipush 16, 2) := by decide +kernel
theorem dX10_kindsInAll_8 : decode cX10_kindsInAll 8 = .ok (.if_icmp .ge 21, 3) := by decide +kernel
theorem dX10_kindsInAll_11 : decode cX10_kindsInAll 11 = .ok (.iload_n 0, 1) := by decide +kernel
theorem dX10_kindsInAll_12 : decode cX10_kindsInAll 12 = .ok (.iload_n 2, 1) := by decide +kernel
theorem dX10_kindsInAll_13 : decode cX10_kindsInAll 13 = .ok (.ishr, 1) := by decide +kernel
theorem dX10_kindsInAll_14 : decode cX10_kindsInAll 14 = .ok (.iconst 1, 1) := by decide +kernel
theorem dX10_kindsInAll_15 : decode cX10_kindsInAll 15 = .ok (.iand, 1) := by decide +kernel
theorem dX10_kindsInAll_16 : decode cX10_kindsInAll 16 = .ok (.ifCond .eq 7, 3) := by decide +kernel
theorem dX10_kindsInAll_19 : decode cX10_kindsInAll 19 = .ok (.iload_n 1, 1) := by decide +kernel
theorem dX10_kindsInAll_20 : decode cX10_kindsInAll 20 = .ok (.iload_n 2, 1) := by decide +kernel
theorem dX10_kindsInAll_21 : decode cX10_kindsInAll 21 = .ok (.iand, 1) := by decide +kernel
theorem dX10_kindsInAll_22 : decode cX10_kindsInAll 22 = .ok (.istore_n 1, 1) := by decide +kernel
theorem dX10_kindsInAll_23 : decode cX10_kindsInAll 23 = .ok (.iinc 2 1, 3) := by decide +kernel
theorem dX10_kindsInAll_26 : decode cX10_kindsInAll 26 = .ok (.goto (-21), 3) := by decide +kernel
theorem dX10_kindsInAll_29 : decode cX10_kindsInAll 29 = .ok (.iload_n 1, 1) := by decide +kernel
theorem dX10_kindsInAll_30 : decode cX10_kindsInAll 30 = .ok (.ireturn, 1) := by decide +kernel
theorem dX10_kindsInSome_0 : decode cX10_kindsInSome 0 = .ok (.iconst 0, 1) := by decide +kernel
theorem dX10_kindsInSome_1 : decode cX10_kindsInSome 1 = .ok (.istore_n 1, 1) := by decide +kernel
theorem dX10_kindsInSome_2 : decode cX10_kindsInSome 2 = .ok (.iconst 0, 1) := by decide +kernel
theorem dX10_kindsInSome_3 : decode cX10_kindsInSome 3 = .ok (.istore_n 2, 1) := by decide +kernel
theorem dX10_kindsInSome_4 : decode cX10_kindsInSome 4 = .ok (.iload_n 2, 1) := by decide +kernel
theorem dX10_kindsInSome_5 : decode cX10_kindsInSome 5 = .ok (.bipush 16, 2) := by decide +kernel
theorem dX10_kindsInSome_7 : decode cX10_kindsInSome 7 = .ok (.if_icmp .ge 21, 3) := by decide +kernel
theorem dX10_kindsInSome_10 : decode cX10_kindsInSome 10 = .ok (.iload_n 0, 1) := by decide +kernel
theorem dX10_kindsInSome_11 : decode cX10_kindsInSome 11 = .ok (.iload_n 2, 1) := by decide +kernel
theorem dX10_kindsInSome_12 : decode cX10_kindsInSome 12 = .ok (.ishr, 1) := by decide +kernel
theorem dX10_kindsInSome_13 : decode cX10_kindsInSome 13 = .ok (.iconst 1, 1) := by decide +kernel
theorem dX10_kindsInSome_14 : decode cX10_kindsInSome 14 = .ok (.iand, 1) := by decide +kernel
theorem dX10_kindsInSome_15 : decode cX10_kindsInSome 15 = .ok (.ifCond .eq 7, 3) := by decide +kernel
theorem dX10_kindsInSome_18 : decode cX10_kindsInSome 18 = .ok (.iload_n 1, 1) := by decide +kernel
theorem dX10_kindsInSome_19 : decode cX10_kindsInSome 19 = .ok (.iload_n 2, 1) := by decide +kernel
theorem dX10_kindsInSome_20 : decode cX10_kindsInSome 20 = .ok (.ior, 1) := by decide +kernel
theorem dX10_kindsInSome_21 : decode cX10_kindsInSome 21 = .ok (.istore_n 1, 1) := by decide +kernel
theorem dX10_kindsInSome_22 : decode cX10_kindsInSome 22 = .ok (.iinc 2 1, 3) := by decide +kernel
theorem dX10_kindsInSome_25 : decode cX10_kindsInSome 25 = .ok (.goto (-21), 3) := by decide +kernel
theorem dX10_kindsInSome_28 : decode cX10_kindsInSome 28 = .ok (.iload_n 1, 1) := by decide +kernel
theorem dX10_kindsInSome_29 : decode cX10_kindsInSome 29 = .ok (.ireturn, 1) := by decide +kernel
theorem dX10_smallestSet_0 : decode cX10_smallestSet 0 = .ok (.iconst (-1), 1) := by decide +kernel
theorem dX10_smallestSet_1 : decode cX10_smallestSet 1 = .ok (.istore_n 1, 1) := by decide +kernel
theorem dX10_smallestSet_2 : decode cX10_smallestSet 2 = .ok (.iconst 5, 1) := by decide +kernel
theorem dX10_smallestSet_3 : decode cX10_smallestSet 3 = .ok (.istore_n 2, 1) := by decide +kernel
theorem dX10_smallestSet_4 : decode cX10_smallestSet 4 = .ok (.iconst 0, 1) := by decide +kernel
theorem dX10_smallestSet_5 : decode cX10_smallestSet 5 = .ok (.istore_n 3, 1) := by decide +kernel
theorem dX10_smallestSet_6 : decode cX10_smallestSet 6 = .ok (.iload_n 3, 1) := by decide +kernel
theorem dX10_smallestSet_7 : decode cX10_smallestSet 7 = .ok (.bipush 16, 2) := by decide +kernel
theorem dX10_smallestSet_9 : decode cX10_smallestSet 9 = .ok (.if_icmp .ge 32, 3) := by decide +kernel
theorem dX10_smallestSet_12 : decode cX10_smallestSet 12 = .ok (.iload_n 0, 1) := by decide +kernel
theorem dX10_smallestSet_13 : decode cX10_smallestSet 13 = .ok (.iload_n 3, 1) := by decide +kernel
theorem dX10_smallestSet_14 : decode cX10_smallestSet 14 = .ok (.ishr, 1) := by decide +kernel
theorem dX10_smallestSet_15 : decode cX10_smallestSet 15 = .ok (.iconst 1, 1) := by decide +kernel
theorem dX10_smallestSet_16 : decode cX10_smallestSet 16 = .ok (.iand, 1) := by decide +kernel
theorem dX10_smallestSet_17 : decode cX10_smallestSet 17 = .ok (.ifCond .eq 18, 3) := by decide +kernel
theorem dX10_smallestSet_20 : decode cX10_smallestSet 20 = .ok (.iload_n 3, 1) := by decide +kernel
theorem dX10_smallestSet_21 : decode cX10_smallestSet 21 = .ok (.invokestatic 243, 3) := by decide +kernel
theorem dX10_smallestSet_24 : decode cX10_smallestSet 24 = .ok (.iload_n 2, 1) := by decide +kernel
theorem dX10_smallestSet_25 : decode cX10_smallestSet 25 = .ok (.if_icmp .ge 10, 3) := by decide +kernel
theorem dX10_smallestSet_28 : decode cX10_smallestSet 28 = .ok (.iload_n 3, 1) := by decide +kernel
theorem dX10_smallestSet_29 : decode cX10_smallestSet 29 = .ok (.invokestatic 243, 3) := by decide +kernel
theorem dX10_smallestSet_32 : decode cX10_smallestSet 32 = .ok (.istore_n 2, 1) := by decide +kernel
theorem dX10_smallestSet_33 : decode cX10_smallestSet 33 = .ok (.iload_n 3, 1) := by decide +kernel
theorem dX10_smallestSet_34 : decode cX10_smallestSet 34 = .ok (.istore_n 1, 1) := by decide +kernel
theorem dX10_smallestSet_35 : decode cX10_smallestSet 35 = .ok (.iinc 3 1, 3) := by decide +kernel
theorem dX10_smallestSet_38 : decode cX10_smallestSet 38 = .ok (.goto (-32), 3) := by decide +kernel
theorem dX10_smallestSet_41 : decode cX10_smallestSet 41 = .ok (.iload_n 1, 1) := by decide +kernel
theorem dX10_smallestSet_42 : decode cX10_smallestSet 42 = .ok (.ireturn, 1) := by decide +kernel
theorem dX10_gain_0 : decode cX10_gain 0 = .ok (.iload_n 2, 1) := by decide +kernel
theorem dX10_gain_1 : decode cX10_gain 1 = .ok (.iload_n 3, 1) := by decide +kernel
theorem dX10_gain_2 : decode cX10_gain 2 = .ok (.if_icmp .ge 7, 3) := by decide +kernel
theorem dX10_gain_5 : decode cX10_gain 5 = .ok (.iload_n 0, 1) := by decide +kernel
theorem dX10_gain_6 : decode cX10_gain 6 = .ok (.goto 15, 3) := by decide +kernel
theorem dX10_gain_9 : decode cX10_gain 9 = .ok (.iload_n 2, 1) := by decide +kernel
theorem dX10_gain_10 : decode cX10_gain 10 = .ok (.iload_n 3, 1) := by decide +kernel
theorem dX10_gain_11 : decode cX10_gain 11 = .ok (.if_icmp .ne 9, 3) := by decide +kernel
theorem dX10_gain_14 : decode cX10_gain 14 = .ok (.iload_n 0, 1) := by decide +kernel
theorem dX10_gain_15 : decode cX10_gain 15 = .ok (.iconst 2, 1) := by decide +kernel
theorem dX10_gain_16 : decode cX10_gain 16 = .ok (.idiv, 1) := by decide +kernel
theorem dX10_gain_17 : decode cX10_gain 17 = .ok (.goto 4, 3) := by decide +kernel
theorem dX10_gain_20 : decode cX10_gain 20 = .ok (.iconst 0, 1) := by decide +kernel
theorem dX10_gain_21 : decode cX10_gain 21 = .ok (.istore 4, 2) := by decide +kernel
theorem dX10_gain_23 : decode cX10_gain 23 = .ok (.iload_n 2, 1) := by decide +kernel
theorem dX10_gain_24 : decode cX10_gain 24 = .ok (.iload_n 1, 1) := by decide +kernel
theorem dX10_gain_25 : decode cX10_gain 25 = .ok (.isub, 1) := by decide +kernel
theorem dX10_gain_26 : decode cX10_gain 26 = .ok (.iload 4, 2) := by decide +kernel
theorem dX10_gain_28 : decode cX10_gain 28 = .ok (.imul, 1) := by decide +kernel
theorem dX10_gain_29 : decode cX10_gain 29 = .ok (.ireturn, 1) := by decide +kernel
theorem dX10_isRest_0 : decode cX10_isRest 0 = .ok (.iconst 1, 1) := by decide +kernel
theorem dX10_isRest_1 : decode cX10_isRest 1 = .ok (.istore 4, 2) := by decide +kernel
theorem dX10_isRest_3 : decode cX10_isRest 3 = .ok (.iload 4, 2) := by decide +kernel
theorem dX10_isRest_5 : decode cX10_isRest 5 = .ok (.bipush 6, 2) := by decide +kernel
theorem dX10_isRest_7 : decode cX10_isRest 7 = .ok (.if_icmp .gt 47, 3) := by decide +kernel
theorem dX10_isRest_10 : decode cX10_isRest 10 = .ok (.iload_n 0, 1) := by decide +kernel
theorem dX10_isRest_11 : decode cX10_isRest 11 = .ok (.iload_n 1, 1) := by decide +kernel
theorem dX10_isRest_12 : decode cX10_isRest 12 = .ok (.iload 4, 2) := by decide +kernel
theorem dX10_isRest_14 : decode cX10_isRest 14 = .ok (.iload_n 3, 1) := by decide +kernel
theorem dX10_isRest_15 : decode cX10_isRest 15 = .ok (.invokestatic 342, 3) := by decide +kernel
theorem dX10_isRest_18 : decode cX10_isRest 18 = .ok (.iload_n 0, 1) := by decide +kernel
theorem dX10_isRest_19 : decode cX10_isRest 19 = .ok (.iload_n 1, 1) := by decide +kernel
theorem dX10_isRest_20 : decode cX10_isRest 20 = .ok (.iload_n 2, 1) := by decide +kernel
theorem dX10_isRest_21 : decode cX10_isRest 21 = .ok (.iload_n 3, 1) := by decide +kernel
theorem dX10_isRest_22 : decode cX10_isRest 22 = .ok (.invokestatic 342, 3) := by decide +kernel
theorem dX10_isRest_25 : decode cX10_isRest 25 = .ok (.if_icmp .gt 21, 3) := by decide +kernel
theorem dX10_isRest_28 : decode cX10_isRest 28 = .ok (.iload_n 0, 1) := by decide +kernel
theorem dX10_isRest_29 : decode cX10_isRest 29 = .ok (.iload_n 1, 1) := by decide +kernel
theorem dX10_isRest_30 : decode cX10_isRest 30 = .ok (.iload 4, 2) := by decide +kernel
theorem dX10_isRest_32 : decode cX10_isRest 32 = .ok (.iload_n 2, 1) := by decide +kernel
theorem dX10_isRest_33 : decode cX10_isRest 33 = .ok (.invokestatic 342, 3) := by decide +kernel
theorem dX10_isRest_36 : decode cX10_isRest 36 = .ok (.iload_n 0, 1) := by decide +kernel
theorem dX10_isRest_37 : decode cX10_isRest 37 = .ok (.iload_n 1, 1) := by decide +kernel
theorem dX10_isRest_38 : decode cX10_isRest 38 = .ok (.iload_n 3, 1) := by decide +kernel
theorem dX10_isRest_39 : decode cX10_isRest 39 = .ok (.iload_n 2, 1) := by decide +kernel
theorem dX10_isRest_40 : decode cX10_isRest 40 = .ok (.invokestatic 342, 3) := by decide +kernel
theorem dX10_isRest_43 : decode cX10_isRest 43 = .ok (.if_icmp .le 5, 3) := by decide +kernel
theorem dX10_isRest_46 : decode cX10_isRest 46 = .ok (.iconst 0, 1) := by decide +kernel
theorem dX10_isRest_47 : decode cX10_isRest 47 = .ok (.ireturn, 1) := by decide +kernel
theorem dX10_isRest_48 : decode cX10_isRest 48 = .ok (.iinc 4 1, 3) := by decide +kernel
theorem dX10_isRest_51 : decode cX10_isRest 51 = .ok (.goto (-48), 3) := by decide +kernel
theorem dX10_isRest_54 : decode cX10_isRest 54 = .ok (.iconst 1, 1) := by decide +kernel
theorem dX10_isRest_55 : decode cX10_isRest 55 = .ok (.ireturn, 1) := by decide +kernel
theorem dX11_init_0 : decode cX11_init 0 = .ok (.aload_n 0, 1) := by decide +kernel
theorem dX11_init_1 : decode cX11_init 1 = .ok (.invokespecial 1, 3) := by decide +kernel
theorem dX11_init_4 : decode cX11_init 4 = .ok (.aload_n 0, 1) := by decide +kernel
theorem dX11_init_5 : decode cX11_init 5 = .ok (.sipush 1000, 3) := by decide +kernel
theorem dX11_init_8 : decode cX11_init 8 = .ok (.newarray .int, 2) := by decide +kernel
theorem dX11_init_10 : decode cX11_init 10 = .ok (.putfield 7, 3) := by decide +kernel
theorem dX11_init_13 : decode cX11_init 13 = .ok (.aload_n 0, 1) := by decide +kernel
theorem dX11_init_14 : decode cX11_init 14 = .ok (.bipush 18, 2) := by decide +kernel
theorem dX11_init_16 : decode cX11_init 16 = .ok (.newarray .int, 2) := by decide +kernel
theorem dX11_init_18 : decode cX11_init 18 = .ok (.putfield 13, 3) := by decide +kernel
theorem dX11_init_21 : decode cX11_init 21 = .ok (.aload_n 0, 1) := by decide +kernel
theorem dX11_init_22 : decode cX11_init 22 = .ok (.bipush 12, 2) := by decide +kernel
theorem dX11_init_24 : decode cX11_init 24 = .ok (.newarray .long, 2) := by decide +kernel
theorem dX11_init_26 : decode cX11_init 26 = .ok (.putfield 16, 3) := by decide +kernel
theorem dX11_init_29 : decode cX11_init 29 = .ok (.aload_n 0, 1) := by decide +kernel
theorem dX11_init_30 : decode cX11_init 30 = .ok (.bipush 12, 2) := by decide +kernel
theorem dX11_init_32 : decode cX11_init 32 = .ok (.newarray .long, 2) := by decide +kernel
theorem dX11_init_34 : decode cX11_init 34 = .ok (.putfield 20, 3) := by decide +kernel
theorem dX11_init_37 : decode cX11_init 37 = .ok (.aload_n 0, 1) := by decide +kernel
theorem dX11_init_38 : decode cX11_init 38 = .ok (.bipush 10, 2) := by decide +kernel
theorem dX11_init_40 : decode cX11_init 40 = .ok (.newarray .long, 2) := by decide +kernel
theorem dX11_init_42 : decode cX11_init 42 = .ok (.putfield 23, 3) := by decide +kernel
theorem dX11_init_45 : decode cX11_init 45 = .ok (.aload_n 0, 1) := by decide +kernel
theorem dX11_init_46 : decode cX11_init 46 = .ok (.bipush 12, 2) := by decide +kernel
theorem dX11_init_48 : decode cX11_init 48 = .ok (.newarray .int, 2) := by decide +kernel
theorem dX11_init_50 : decode cX11_init 50 = .ok (.putfield 26, 3) := by decide +kernel
theorem dX11_init_53 : decode cX11_init 53 = .ok (.aload_n 0, 1) := by decide +kernel
theorem dX11_init_54 : decode cX11_init 54 = .ok (.bipush 12, 2) := by decide +kernel
theorem dX11_init_56 : decode cX11_init 56 = .ok (.newarray .int, 2) := by decide +kernel
theorem dX11_init_58 : decode cX11_init 58 = .ok (.putfield 29, 3) := by decide +kernel
theorem dX11_init_61 : decode cX11_init 61 = .ok (.aload_n 0, 1) := by decide +kernel
theorem dX11_init_62 : decode cX11_init 62 = .ok (.bipush 12, 2) := by decide +kernel
theorem dX11_init_64 : decode cX11_init 64 = .ok (.newarray .int, 2) := by decide +kernel
theorem dX11_init_66 : decode cX11_init 66 = .ok (.putfield 32, 3) := by decide +kernel
theorem dX11_init_69 : decode cX11_init 69 = .ok (.aload_n 0, 1) := by decide +kernel
theorem dX11_init_70 : decode cX11_init 70 = .ok (.bipush 12, 2) := by decide +kernel
theorem dX11_init_72 : decode cX11_init 72 = .ok (.newarray .int, 2) := by decide +kernel
theorem dX11_init_74 : decode cX11_init 74 = .ok (.putfield 35, 3) := by decide +kernel
theorem dX11_init_77 : decode cX11_init 77 = .ok (.aload_n 0, 1) := by decide +kernel
theorem dX11_init_78 : decode cX11_init 78 = .ok (.bipush 10, 2) := by decide +kernel
theorem dX11_init_80 : decode cX11_init 80 = .ok (.newarray .int, 2) := by decide +kernel
theorem dX11_init_82 : decode cX11_init 82 = .ok (.putfield 38, 3) := by decide +kernel
theorem dX11_init_85 : decode cX11_init 85 = .ok (.aload_n 0, 1) := by decide +kernel
theorem dX11_init_86 : decode cX11_init 86 = .ok (.bipush 10, 2) := by decide +kernel
theorem dX11_init_88 : decode cX11_init 88 = .ok (.newarray .int, 2) := by decide +kernel
theorem dX11_init_90 : decode cX11_init 90 = .ok (.putfield 41, 3) := by decide +kernel
theorem dX11_init_93 : decode cX11_init 93 = .ok (.aload_n 0, 1) := by decide +kernel
theorem dX11_init_94 : decode cX11_init 94 = .ok (.bipush 72, 2) := by decide +kernel
theorem dX11_init_96 : decode cX11_init 96 = .ok (.newarray .int, 2) := by decide +kernel
theorem dX11_init_98 : decode cX11_init 98 = .ok (.putfield 44, 3) := by decide +kernel
theorem dX11_init_101 : decode cX11_init 101 = .ok (.aload_n 0, 1) := by decide +kernel
theorem dX11_init_102 : decode cX11_init 102 = .ok (.bipush 12, 2) := by decide +kernel
theorem dX11_init_104 : decode cX11_init 104 = .ok (.newarray .int, 2) := by decide +kernel
theorem dX11_init_106 : decode cX11_init 106 = .ok (.putfield 47, 3) := by decide +kernel
theorem dX11_init_109 : decode cX11_init 109 = .ok (.aload_n 0, 1) := by decide +kernel
theorem dX11_init_110 : decode cX11_init 110 = .ok (.iconst 4, 1) := by decide +kernel
theorem dX11_init_111 : decode cX11_init 111 = .ok (.newarray .int, 2) := by decide +kernel
theorem dX11_init_113 : decode cX11_init 113 = .ok (.putfield 50, 3) := by decide +kernel
theorem dX11_init_116 : decode cX11_init 116 = .ok (.aload_n 0, 1) := by decide +kernel
theorem dX11_init_117 : decode cX11_init 117 = .ok (.iconst 4, 1) := by decide +kernel
theorem dX11_init_118 : decode cX11_init 118 = .ok (.newarray .int, 2) := by decide +kernel
theorem dX11_init_120 : decode cX11_init 120 = .ok (.putfield 53, 3) := by decide +kernel
theorem dX11_init_123 : decode cX11_init 123 = .ok (.aload_n 0, 1) := by decide +kernel
theorem dX11_init_124 : decode cX11_init 124 = .ok (.sipush 2000, 3) := by decide +kernel
theorem dX11_init_127 : decode cX11_init 127 = .ok (.newarray .int, 2) := by decide +kernel
theorem dX11_init_129 : decode cX11_init 129 = .ok (.putfield 56, 3) := by decide +kernel
theorem dX11_init_132 : decode cX11_init 132 = .ok (.aload_n 0, 1) := by decide +kernel
theorem dX11_init_133 : decode cX11_init 133 = .ok (.bipush 7, 2) := by decide +kernel
theorem dX11_init_135 : decode cX11_init 135 = .ok (.newarray .int, 2) := by decide +kernel
theorem dX11_init_137 : decode cX11_init 137 = .ok (.putfield 59, 3) := by decide +kernel
theorem dX11_init_140 : decode cX11_init 140 = .ok (.aload_n 0, 1) := by decide +kernel
theorem dX11_init_141 : decode cX11_init 141 = .ok (.bipush 7, 2) := by decide +kernel
theorem dX11_init_143 : decode cX11_init 143 = .ok (.newarray .boolean, 2) := by decide +kernel
theorem dX11_init_145 : decode cX11_init 145 = .ok (.putfield 62, 3) := by decide +kernel
theorem dX11_init_148 : decode cX11_init 148 = .ok (.aload_n 0, 1) := by decide +kernel
theorem dX11_init_149 : decode cX11_init 149 = .ok (.bipush 7, 2) := by decide +kernel
theorem dX11_init_151 : decode cX11_init 151 = .ok (.newarray .int, 2) := by decide +kernel
theorem dX11_init_153 : decode cX11_init 153 = .ok (.putfield 66, 3) := by decide +kernel
theorem dX11_init_156 : decode cX11_init 156 = .ok (.aload_n 0, 1) := by decide +kernel
theorem dX11_init_157 : decode cX11_init 157 = .ok (.bipush 7, 2) := by decide +kernel
theorem dX11_init_159 : decode cX11_init 159 = .ok (.newarray .int, 2) := by decide +kernel
theorem dX11_init_161 : decode cX11_init 161 = .ok (.putfield 69, 3) := by decide +kernel
theorem dX11_init_164 : decode cX11_init 164 = .ok (.aload_n 0, 1) := by decide +kernel
theorem dX11_init_165 : decode cX11_init 165 = .ok (.bipush 7, 2) := by decide +kernel
theorem dX11_init_167 : decode cX11_init 167 = .ok (.newarray .int, 2) := by decide +kernel
theorem dX11_init_169 : decode cX11_init 169 = .ok (.putfield 72, 3) := by decide +kernel
theorem dX11_init_172 : decode cX11_init 172 = .ok (.aload_n 0, 1) := by decide +kernel
theorem dX11_init_173 : decode cX11_init 173 = .ok (.bipush 7, 2) := by decide +kernel
theorem dX11_init_175 : decode cX11_init 175 = .ok (.newarray .int, 2) := by decide +kernel
theorem dX11_init_177 : decode cX11_init 177 = .ok (.putfield 75, 3) := by decide +kernel
theorem dX11_init_180 : decode cX11_init 180 = .ok (.aload_n 0, 1) := by decide +kernel
theorem dX11_init_181 : decode cX11_init 181 = .ok (.bipush 7, 2) := by decide +kernel
theorem dX11_init_183 : decode cX11_init 183 = .ok (.newarray .int, 2) := by decide +kernel
theorem dX11_init_185 : decode cX11_init 185 = .ok (.putfield 78, 3) := by decide +kernel
theorem dX11_init_188 : decode cX11_init 188 = .ok (.aload_n 0, 1) := by decide +kernel
theorem dX11_init_189 : decode cX11_init 189 = .ok (.bipush 7, 2) := by decide +kernel
theorem dX11_init_191 : decode cX11_init 191 = .ok (.newarray .int, 2) := by decide +kernel
theorem dX11_init_193 : decode cX11_init 193 = .ok (.putfield 81, 3) := by decide +kernel
theorem dX11_init_196 : decode cX11_init 196 = .ok (.aload_n 0, 1) := by decide +kernel
theorem dX11_init_197 : decode cX11_init 197 = .ok (.bipush 7, 2) := by decide +kernel
theorem dX11_init_199 : decode cX11_init 199 = .ok (.newarray .int, 2) := by decide +kernel
theorem dX11_init_201 : decode cX11_init 201 = .ok (.putfield 84, 3) := by decide +kernel
theorem dX11_init_204 : decode cX11_init 204 = .ok (.aload_n 0, 1) := by decide +kernel
theorem dX11_init_205 : decode cX11_init 205 = .ok (.bipush 7, 2) := by decide +kernel
theorem dX11_init_207 : decode cX11_init 207 = .ok (.newarray .int, 2) := by decide +kernel
theorem dX11_init_209 : decode cX11_init 209 = .ok (.putfield 87, 3) := by decide +kernel
theorem dX11_init_212 : decode cX11_init 212 = .ok (.aload_n 0, 1) := by decide +kernel
theorem dX11_init_213 : decode cX11_init 213 = .ok (.bipush 7, 2) := by decide +kernel
theorem dX11_init_215 : decode cX11_init 215 = .ok (.newarray .int, 2) := by decide +kernel
theorem dX11_init_217 : decode cX11_init 217 = .ok (.putfield 90, 3) := by decide +kernel
theorem dX11_init_220 : decode cX11_init 220 = .ok (.aload_n 0, 1) := by decide +kernel
theorem dX11_init_221 : decode cX11_init 221 = .ok (.bipush 20, 2) := by decide +kernel
theorem dX11_init_223 : decode cX11_init 223 = .ok (.newarray .int, 2) := by decide +kernel
theorem dX11_init_225 : decode cX11_init 225 = .ok (.putfield 93, 3) := by decide +kernel
theorem dX11_init_228 : decode cX11_init 228 = .ok (.aload_n 0, 1) := by decide +kernel
theorem dX11_init_229 : decode cX11_init 229 = .ok (.bipush 6, 2) := by decide +kernel
theorem dX11_init_231 : decode cX11_init 231 = .ok (.newarray .int, 2) := by decide +kernel
theorem dX11_init_233 : decode cX11_init 233 = .ok (.putfield 96, 3) := by decide +kernel
theorem dX11_init_236 : decode cX11_init 236 = .ok (.aload_n 0, 1) := by decide +kernel
theorem dX11_init_237 : decode cX11_init 237 = .ok (.sipush 240, 3) := by decide +kernel
theorem dX11_init_240 : decode cX11_init 240 = .ok (.newarray .int, 2) := by decide +kernel
theorem dX11_init_242 : decode cX11_init 242 = .ok (.putfield 99, 3) := by decide +kernel
theorem dX11_init_245 : decode cX11_init 245 = .ok (.aload_n 0, 1) := by decide +kernel
theorem dX11_init_246 : decode cX11_init 246 = .ok (.sipush 240, 3) := by decide +kernel
theorem dX11_init_249 : decode cX11_init 249 = .ok (.newarray .int, 2) := by decide +kernel
theorem dX11_init_251 : decode cX11_init 251 = .ok (.putfield 102, 3) := by decide +kernel
theorem dX11_init_254 : decode cX11_init 254 = .ok (.aload_n 0, 1) := by decide +kernel
theorem dX11_init_255 : decode cX11_init 255 = .ok (.sipush 240, 3) := by decide +kernel
theorem dX11_init_258 : decode cX11_init 258 = .ok (.newarray .int, 2) := by decide +kernel
theorem dX11_init_260 : decode cX11_init 260 = .ok (.putfield 105, 3) := by decide +kernel
theorem dX11_init_263 : decode cX11_init 263 = .ok (.aload_n 0, 1) := by decide +kernel
theorem dX11_init_264 : decode cX11_init 264 = .ok (.iconst 5, 1) := by decide +kernel
theorem dX11_init_265 : decode cX11_init 265 = .ok (.newarray .int, 2) := by decide +kernel
theorem dX11_init_267 : decode cX11_init 267 = .ok (.putfield 108, 3) := by decide +kernel
theorem dX11_init_270 : decode cX11_init 270 = .ok (.aload_n 0, 1) := by decide +kernel
theorem dX11_init_271 : decode cX11_init 271 = .ok (.iconst 5, 1) := by decide +kernel
theorem dX11_init_272 : decode cX11_init 272 = .ok (.newarray .int, 2) := by decide +kernel
theorem dX11_init_274 : decode cX11_init 274 = .ok (.putfield 111, 3) := by decide +kernel
theorem dX11_init_277 : decode cX11_init 277 = .ok (.aload_n 0, 1) := by decide +kernel
theorem dX11_init_278 : decode cX11_init 278 = .ok (.bipush 19, 2) := by decide +kernel
theorem dX11_init_280 : decode cX11_init 280 = .ok (.newarray .int, 2) := by decide +kernel
theorem dX11_init_282 : decode cX11_init 282 = .ok (.putfield 114, 3) := by decide +kernel
theorem dX11_init_285 : decode cX11_init 285 = .ok (.aload_n 0, 1) := by decide +kernel
theorem dX11_init_286 : decode cX11_init 286 = .ok (.bipush 19, 2) := by decide +kernel
theorem dX11_init_288 : decode cX11_init 288 = .ok (.newarray .int, 2) := by decide +kernel
theorem dX11_init_290 : decode cX11_init 290 = .ok (.putfield 117, 3) := by decide +kernel
theorem dX11_init_293 : decode cX11_init 293 = .ok (.aload_n 0, 1) := by decide +kernel
theorem dX11_init_294 : decode cX11_init 294 = .ok (.sipush 133, 3) := by decide +kernel
theorem dX11_init_297 : decode cX11_init 297 = .ok (.newarray .int, 2) := by decide +kernel
theorem dX11_init_299 : decode cX11_init 299 = .ok (.putfield 120, 3) := by decide +kernel
theorem dX11_init_302 : decode cX11_init 302 = .ok (.aload_n 0, 1) := by decide +kernel
theorem dX11_init_303 : decode cX11_init 303 = .ok (.bipush 76, 2) := by decide +kernel
theorem dX11_init_305 : decode cX11_init 305 = .ok (.newarray .int, 2) := by decide +kernel
theorem dX11_init_307 : decode cX11_init 307 = .ok (.putfield 123, 3) := by decide +kernel
theorem dX11_init_310 : decode cX11_init 310 = .ok (.aload_n 0, 1) := by decide +kernel
theorem dX11_init_311 : decode cX11_init 311 = .ok (.sipush 304, 3) := by decide +kernel
theorem dX11_init_314 : decode cX11_init 314 = .ok (.newarray .int, 2) := by decide +kernel
theorem dX11_init_316 : decode cX11_init 316 = .ok (.putfield 126, 3) := by decide +kernel
theorem dX11_init_319 : decode cX11_init 319 = .ok (.aload_n 0, 1) := by decide +kernel
theorem dX11_init_320 : decode cX11_init 320 = .ok (.iconst 4, 1) := by decide +kernel
theorem dX11_init_321 : decode cX11_init 321 = .ok (.newarray .boolean, 2) := by decide +kernel
theorem dX11_init_323 : decode cX11_init 323 = .ok (.putfield 129, 3) := by decide +kernel
theorem dX11_init_326 : decode cX11_init 326 = .ok (.aload_n 0, 1) := by decide +kernel
theorem dX11_init_327 : decode cX11_init 327 = .ok (.sipush 320, 3) := by decide +kernel
theorem dX11_init_330 : decode cX11_init 330 = .ok (.newarray .int, 2) := by decide +kernel
theorem dX11_init_332 : decode cX11_init 332 = .ok (.putfield 132, 3) := by decide +kernel
theorem dX11_init_335 : decode cX11_init 335 = .ok (.aload_n 0, 1) := by decide +kernel
theorem dX11_init_336 : decode cX11_init 336 = .ok (.bipush 6, 2) := by decide +kernel
theorem dX11_init_338 : decode cX11_init 338 = .ok (.newarray .int, 2) := by decide +kernel
theorem dX11_init_340 : decode cX11_init 340 = .ok (.putfield 135, 3) := by decide +kernel
theorem dX11_init_343 : decode cX11_init 343 = .ok (.aload_n 0, 1) := by decide +kernel
theorem dX11_init_344 : decode cX11_init 344 = .ok (.bipush 6, 2) := by decide +kernel
theorem dX11_init_346 : decode cX11_init 346 = .ok (.newarray .int, 2) := by decide +kernel
theorem dX11_init_348 : decode cX11_init 348 = .ok (.putfield 138, 3) := by decide +kernel
theorem dX11_init_351 : decode cX11_init 351 = .ok (.aload_n 0, 1) := by decide +kernel
theorem dX11_init_352 : decode cX11_init 352 = .ok (.iconst 5, 1) := by decide +kernel
theorem dX11_init_353 : decode cX11_init 353 = .ok (.newarray .int, 2) := by decide +kernel
theorem dX11_init_355 : decode cX11_init 355 = .ok (.putfield 141, 3) := by decide +kernel
theorem dX11_init_358 : decode cX11_init 358 = .ok (.aload_n 0, 1) := by decide +kernel
theorem dX11_init_359 : decode cX11_init 359 = .ok (.iconst 5, 1) := by decide +kernel
theorem dX11_init_360 : decode cX11_init 360 = .ok (.newarray .int, 2) := by decide +kernel
theorem dX11_init_362 : decode cX11_init 362 = .ok (.putfield 144, 3) := by decide +kernel
theorem dX11_init_365 : decode cX11_init 365 = .ok (.aload_n 0, 1) := by decide +kernel
theorem dX11_init_366 : decode cX11_init 366 = .ok (.bipush 6, 2) := by decide +kernel
theorem dX11_init_368 : decode cX11_init 368 = .ok (.newarray .int, 2) := by decide +kernel
theorem dX11_init_370 : decode cX11_init 370 = .ok (.putfield 147, 3) := by decide +kernel
theorem dX11_init_373 : decode cX11_init 373 = .ok (.aload_n 0, 1) := by decide +kernel
theorem dX11_init_374 : decode cX11_init 374 = .ok (.bipush 6, 2) := by decide +kernel
theorem dX11_init_376 : decode cX11_init 376 = .ok (.newarray .int, 2) := by decide +kernel
theorem dX11_init_378 : decode cX11_init 378 = .ok (.putfield 150, 3) := by decide +kernel
theorem dX11_init_381 : decode cX11_init 381 = .ok (.aload_n 0, 1) := by decide +kernel
theorem dX11_init_382 : decode cX11_init 382 = .ok (.bipush 6, 2) := by decide +kernel
theorem dX11_init_384 : decode cX11_init 384 = .ok (.newarray .int, 2) := by decide +kernel
theorem dX11_init_386 : decode cX11_init 386 = .ok (.putfield 153, 3) := by decide +kernel
theorem dX11_init_389 : decode cX11_init 389 = .ok (.aload_n 0, 1) := by decide +kernel
theorem dX11_init_390 : decode cX11_init 390 = .ok (.bipush 6, 2) := by decide +kernel
theorem dX11_init_392 : decode cX11_init 392 = .ok (.newarray .int, 2) := by decide +kernel
theorem dX11_init_394 : decode cX11_init 394 = .ok (.putfield 156, 3) := by decide +kernel
theorem dX11_init_397 : decode cX11_init 397 = .ok (.aload_n 0, 1) := by decide +kernel
theorem dX11_init_398 : decode cX11_init 398 = .ok (.bipush 6, 2) := by decide +kernel
theorem dX11_init_400 : decode cX11_init 400 = .ok (.newarray .int, 2) := by decide +kernel
theorem dX11_init_402 : decode cX11_init 402 = .ok (.putfield 159, 3) := by decide +kernel
theorem dX11_init_405 : decode cX11_init 405 = .ok (.aload_n 0, 1) := by decide +kernel
theorem dX11_init_406 : decode cX11_init 406 = .ok (.bipush 6, 2) := by decide +kernel
theorem dX11_init_408 : decode cX11_init 408 = .ok (.newarray .int, 2) := by decide +kernel
theorem dX11_init_410 : decode cX11_init 410 = .ok (.putfield 162, 3) := by decide +kernel
theorem dX11_init_413 : decode cX11_init 413 = .ok (.aload_n 0, 1) := by decide +kernel
theorem dX11_init_414 : decode cX11_init 414 = .ok (.bipush 6, 2) := by decide +kernel
theorem dX11_init_416 : decode cX11_init 416 = .ok (.newarray .int, 2) := by decide +kernel
theorem dX11_init_418 : decode cX11_init 418 = .ok (.putfield 165, 3) := by decide +kernel
theorem dX11_init_421 : decode cX11_init 421 = .ok (.aload_n 0, 1) := by decide +kernel
theorem dX11_init_422 : decode cX11_init 422 = .ok (.bipush 36, 2) := by decide +kernel
theorem dX11_init_424 : decode cX11_init 424 = .ok (.newarray .int, 2) := by decide +kernel
theorem dX11_init_426 : decode cX11_init 426 = .ok (.putfield 168, 3) := by decide +kernel
theorem dX11_init_429 : decode cX11_init 429 = .ok (.aload_n 0, 1) := by decide +kernel
theorem dX11_init_430 : decode cX11_init 430 = .ok (.bipush 6, 2) := by decide +kernel
theorem dX11_init_432 : decode cX11_init 432 = .ok (.newarray .int, 2) := by decide +kernel
theorem dX11_init_434 : decode cX11_init 434 = .ok (.putfield 171, 3) := by decide +kernel
theorem dX11_init_437 : decode cX11_init 437 = .ok (.aload_n 0, 1) := by decide +kernel
theorem dX11_init_438 : decode cX11_init 438 = .ok (.bipush 6, 2) := by decide +kernel
theorem dX11_init_440 : decode cX11_init 440 = .ok (.newarray .int, 2) := by decide +kernel
theorem dX11_init_442 : decode cX11_init 442 = .ok (.putfield 174, 3) := by decide +kernel
theorem dX11_init_445 : decode cX11_init 445 = .ok (.aload_n 0, 1) := by decide +kernel
theorem dX11_init_446 : decode cX11_init 446 = .ok (.iconst 0, 1) := by decide +kernel
theorem dX11_init_447 : decode cX11_init 447 = .ok (.invokevirtual 177, 3) := by decide +kernel
theorem dX11_init_450 : decode cX11_init 450 = .ok (.aload_n 0, 1) := by decide +kernel
theorem dX11_init_451 : decode cX11_init 451 = .ok (.invokevirtual 181, 3) := by decide +kernel
theorem dX11_init_454 : decode cX11_init 454 = .ok (.aload_n 0, 1) := by decide +kernel
theorem dX11_init_455 : decode cX11_init 455 = .ok (.invokevirtual 184, 3) := by decide +kernel
theorem dX11_init_458 : decode cX11_init 458 = .ok (.return_, 1) := by decide +kernel
theorem dX11_thrown_0 : decode cX11_thrown 0 = .ok (.aload_n 0, 1) := by decide +kernel
theorem dX11_thrown_1 : decode cX11_thrown 1 = .ok (.getfield 187, 3) := by decide +kernel
theorem dX11_thrown_4 : decode cX11_thrown 4 = .ok (.ireturn, 1) := by decide +kernel
theorem dX11_within_0 : decode cX11_within 0 = .ok (.iload_n 0, 1) := by decide +kernel
theorem dX11_within_1 : decode cX11_within 1 = .ok (.iload_n 1, 1) := by decide +kernel
theorem dX11_within_2 : decode cX11_within 2 = .ok (.if_icmp .lt 12, 3) := by decide +kernel
theorem dX11_within_5 : decode cX11_within 5 = .ok (.iload_n 0, 1) := by decide +kernel
theorem dX11_within_6 : decode cX11_within 6 = .ok (.iload_n 2, 1) := by decide +kernel
theorem dX11_within_7 : decode cX11_within 7 = .ok (.if_icmp .gt 7, 3) := by decide +kernel
theorem dX11_within_10 : decode cX11_within 10 = .ok (.iconst 1, 1) := by decide +kernel
theorem dX11_within_11 : decode cX11_within 11 = .ok (.goto 4, 3) := by decide +kernel
theorem dX11_within_14 : decode cX11_within 14 = .ok (.iconst 0, 1) := by decide +kernel
theorem dX11_within_15 : decode cX11_within 15 = .ok (.ireturn, 1) := by decide +kernel
theorem dX11_between_0 : decode cX11_between 0 = .ok (.iload_n 0, 1) := by decide +kernel
theorem dX11_between_1 : decode cX11_between 1 = .ok (.iload_n 1, 1) := by decide +kernel
theorem dX11_between_2 : decode cX11_between 2 = .ok (.if_icmp .ge 7, 3) := by decide +kernel
theorem dX11_between_5 : decode cX11_between 5 = .ok (.iload_n 1, 1) := by decide +kernel
theorem dX11_between_6 : decode cX11_between 6 = .ok (.goto 13, 3) := by decide +kernel
theorem dX11_between_9 : decode cX11_between 9 = .ok (.iload_n 0, 1) := by decide +kernel
theorem dX11_between_10 : decode cX11_between 10 = .ok (.iload_n 2, 1) := by decide +kernel
theorem dX11_between_11 : decode cX11_between 11 = .ok (.if_icmp .le 7, 3) := by decide +kernel
theorem dX11_between_14 : decode cX11_between 14 = .ok (.iload_n 2, 1) := by decide +kernel
theorem dX11_between_15 : decode cX11_between 15 = .ok (.goto 4, 3) := by decide +kernel
theorem dX11_between_18 : decode cX11_between 18 = .ok (.iload_n 0, 1) := by decide +kernel
theorem dX11_between_19 : decode cX11_between 19 = .ok (.ireturn, 1) := by decide +kernel
theorem dX11_bits_0 : decode cX11_bits 0 = .ok (.iconst 0, 1) := by decide +kernel
theorem dX11_bits_1 : decode cX11_bits 1 = .ok (.istore_n 1, 1) := by decide +kernel
theorem dX11_bits_2 : decode cX11_bits 2 = .ok (.iconst 0, 1) := by decide +kernel
theorem dX11_bits_3 : decode cX11_bits 3 = .ok (.istore_n 2, 1) := by decide +kernel
theorem dX11_bits_4 : decode cX11_bits 4 = .ok (.iload_n 2, 1) := by decide +kernel
theorem dX11_bits_5 : decode cX11_bits 5 = .ok (.bipush 16, 2) := by decide +kernel
theorem dX11_bits_7 : decode cX11_bits 7 = .ok (.if_icmp .ge 17, 3) := by decide +kernel
theorem dX11_bits_10 : decode cX11_bits 10 = .ok (.iload_n 1, 1) := by decide +kernel
theorem dX11_bits_11 : decode cX11_bits 11 = .ok (.iload_n 0, 1) := by decide +kernel
theorem dX11_bits_12 : decode cX11_bits 12 = .ok (.iload_n 2, 1) := by decide +kernel
theorem dX11_bits_13 : decode cX11_bits 13 = .ok (.ishr, 1) := by decide +kernel
theorem dX11_bits_14 : decode cX11_bits 14 = .ok (.iconst 1, 1) := by decide +kernel
theorem dX11_bits_15 : decode cX11_bits 15 = .ok (.iand, 1) := by decide +kernel
theorem dX11_bits_16 : decode cX11_bits 16 = .ok (.iadd, 1) := by decide +kernel
theorem dX11_bits_17 : decode cX11_bits 17 = .ok (.istore_n 1, 1) := by decide +kernel
theorem dX11_bits_18 : decode cX11_bits 18 = .ok (.iinc 2 1, 3) := by decide +kernel
theorem dX11_bits_21 : decode cX11_bits 21 = .ok (.goto (-17), 3) := by decide +kernel
theorem dX11_bits_24 : decode cX11_bits 24 = .ok (.iload_n 1, 1) := by decide +kernel
theorem dX11_bits_25 : decode cX11_bits 25 = .ok (.ireturn, 1) := by decide +kernel
theorem dX11_feed_0 : decode cX11_feed 0 = .ok (.aload_n 0, 1) := by decide +kernel
theorem dX11_feed_1 : decode cX11_feed 1 = .ok (.iconst 0, 1) := by decide +kernel
theorem dX11_feed_2 : decode cX11_feed 2 = .ok (.putfield 187, 3) := by decide +kernel
theorem dX11_feed_5 : decode cX11_feed 5 = .ok (.iconst 0, 1) := by decide +kernel
theorem dX11_feed_6 : decode cX11_feed 6 = .ok (.istore 7, 2) := by decide +kernel
theorem dX11_feed_8 : decode cX11_feed 8 = .ok (.iload 7, 2) := by decide +kernel
theorem dX11_feed_10 : decode cX11_feed 10 = .ok (.bipush 24, 2) := by decide +kernel
theorem dX11_feed_12 : decode cX11_feed 12 = .ok (.if_icmp .ge 108, 3) := by decide +kernel
theorem dX11_feed_15 : decode cX11_feed 15 = .ok (.iload 7, 2) := by decide +kernel
theorem dX11_feed_17 : decode cX11_feed 17 = .ok (.bipush 8, 2) := by decide +kernel
theorem dX11_feed_19 : decode cX11_feed 19 = .ok (.if_icmp .ge 7, 3) := by decide +kernel
theorem dX11_feed_22 : decode cX11_feed 22 = .ok (.lload_n 1, 1) := by decide +kernel
theorem dX11_feed_23 : decode cX11_feed 23 = .ok (.goto 16, 3) := by decide +kernel
theorem dX11_feed_26 : decode cX11_feed 26 = .ok (.iload 7, 2) := by decide +kernel
theorem dX11_feed_28 : decode cX11_feed 28 = .ok (.bipush 16, 2) := by decide +kernel
theorem dX11_feed_30 : decode cX11_feed 30 = .ok (.if_icmp .ge 7, 3) := by decide +kernel
theorem dX11_feed_33 : decode cX11_feed 33 = .ok (.lload_n 3, 1) := by decide +kernel
theorem dX11_feed_34 : decode cX11_feed 34 = .ok (.goto 5, 3) := by decide +kernel
theorem dX11_feed_37 : decode cX11_feed 37 = .ok (.lload 5, 2) := by decide +kernel
theorem dX11_feed_39 : decode cX11_feed 39 = .ok (.lstore 8, 2) := by decide +kernel
theorem dX11_feed_41 : decode cX11_feed 41 = .ok (.lload 8, 2) := by decide +kernel
theorem dX11_feed_43 : decode cX11_feed 43 = .ok (.bipush 56, 2) := by decide +kernel
theorem dX11_feed_45 : decode cX11_feed 45 = .ok (.bipush 8, 2) := by decide +kernel
theorem dX11_feed_47 : decode cX11_feed 47 = .ok (.iload 7, 2) := by decide +kernel
theorem dX11_feed_49 : decode cX11_feed 49 = .ok (.bipush 7, 2) := by decide +kernel
theorem dX11_feed_51 : decode cX11_feed 51 = .ok (.iand, 1) := by decide +kernel
theorem dX11_feed_52 : decode cX11_feed 52 = .ok (.imul, 1) := by decide +kernel
theorem dX11_feed_53 : decode cX11_feed 53 = .ok (.isub, 1) := by decide +kernel
theorem dX11_feed_54 : decode cX11_feed 54 = .ok (.lushr, 1) := by decide +kernel
theorem dX11_feed_55 : decode cX11_feed 55 = .ok (.ldc2_w 191, 3) := by decide +kernel
theorem dX11_feed_58 : decode cX11_feed 58 = .ok (.land, 1) := by decide +kernel
theorem dX11_feed_59 : decode cX11_feed 59 = .ok (.l2i, 1) := by decide +kernel
theorem dX11_feed_60 : decode cX11_feed 60 = .ok (.istore 10, 2) := by decide +kernel
theorem dX11_feed_62 : decode cX11_feed 62 = .ok (.aload_n 0, 1) := by decide +kernel
theorem dX11_feed_63 : decode cX11_feed 63 = .ok (.getfield 193, 3) := by decide +kernel
theorem dX11_feed_66 : decode cX11_feed 66 = .ok (.sipush 1000, 3) := by decide +kernel
theorem dX11_feed_69 : decode cX11_feed 69 = .ok (.if_icmp .ge 45, 3) := by decide +kernel
theorem dX11_feed_72 : decode cX11_feed 72 = .ok (.iload 10, 2) := by decide +kernel
theorem dX11_feed_74 : decode cX11_feed 74 = .ok (.bipush 10, 2) := by decide +kernel
theorem dX11_feed_76 : decode cX11_feed 76 = .ok (.if_icmp .eq 17, 3) := by decide +kernel
theorem dX11_feed_79 : decode cX11_feed 79 = .ok (.iload 10, 2) := by decide +kernel
theorem dX11_feed_81 : decode cX11_feed 81 = .ok (.bipush 32, 2) := by decide +kernel
theorem dX11_feed_83 : decode cX11_feed 83 = .ok (.if_icmp .lt 31, 3) := by decide +kernel
theorem dX11_feed_86 : decode cX11_feed 86 = .ok (.iload 10, 2) := by decide +kernel
theorem dX11_feed_88 : decode cX11_feed 88 = .ok (.bipush 126, 2) := by decide +kernel
theorem dX11_feed_90 : decode cX11_feed 90 = .ok (.if_icmp .gt 24, 3) := by decide +kernel
theorem dX11_feed_93 : decode cX11_feed 93 = .ok (.aload_n 0, 1) := by decide +kernel
theorem dX11_feed_94 : decode cX11_feed 94 = .ok (.getfield 7, 3) := by decide +kernel
theorem dX11_feed_97 : decode cX11_feed 97 = .ok (.aload_n 0, 1) := by decide +kernel
theorem dX11_feed_98 : decode cX11_feed 98 = .ok (.getfield 193, 3) := by decide +kernel
theorem dX11_feed_101 : decode cX11_feed 101 = .ok (.iload 10, 2) := by decide +kernel
theorem dX11_feed_103 : decode cX11_feed 103 = .ok (.iastore, 1) := by decide +kernel
theorem dX11_feed_104 : decode cX11_feed 104 = .ok (.aload_n 0, 1) := by decide +kernel
theorem dX11_feed_105 : decode cX11_feed 105 = .ok (.dup, 1) := by decide +kernel
theorem dX11_feed_106 : decode cX11_feed 106 = .ok (.getfield 193, 3) := by decide +kernel
theorem dX11_feed_109 : decode cX11_feed 109 = .ok (.iconst 1, 1) := by decide +kernel
theorem dX11_feed_110 : decode cX11_feed 110 = .ok (.iadd, 1) := by decide +kernel
theorem dX11_feed_111 : decode cX11_feed 111 = .ok (.putfield 193, 3) := by decide +kernel
theorem dX11_feed_114 : decode cX11_feed 114 = .ok (.iinc 7 1, 3) := by decide +kernel
theorem dX11_feed_117 : decode cX11_feed 117 = .ok (.goto (-109), 3) := by decide +kernel
theorem dX11_feed_120 : decode cX11_feed 120 = .ok (.aload_n 0, 1) := by decide +kernel
theorem dX11_feed_121 : decode cX11_feed 121 = .ok (.getfield 193, 3) := by decide +kernel
theorem dX11_feed_124 : decode cX11_feed 124 = .ok (.ireturn, 1) := by decide +kernel
theorem dX11_signAt_0 : decode cX11_signAt 0 = .ok (.iload_n 1, 1) := by decide +kernel
theorem dX11_signAt_1 : decode cX11_signAt 1 = .ok (.aload_n 0, 1) := by decide +kernel
theorem dX11_signAt_2 : decode cX11_signAt 2 = .ok (.getfield 196, 3) := by decide +kernel
theorem dX11_signAt_5 : decode cX11_signAt 5 = .ok (.if_icmp .ge 12, 3) := by decide +kernel
theorem dX11_signAt_8 : decode cX11_signAt 8 = .ok (.aload_n 0, 1) := by decide +kernel
theorem dX11_signAt_9 : decode cX11_signAt 9 = .ok (.getfield 7, 3) := by decide +kernel
theorem dX11_signAt_12 : decode cX11_signAt 12 = .ok (.iload_n 1, 1) := by decide +kernel
theorem dX11_signAt_13 : decode cX11_signAt 13 = .ok (.iaload, 1) := by decide +kernel
theorem dX11_signAt_14 : decode cX11_signAt 14 = .ok (.goto 4, 3) := by decide +kernel
theorem dX11_signAt_17 : decode cX11_signAt 17 = .ok (.iconst 0, 1) := by decide +kernel
theorem dX11_signAt_18 : decode cX11_signAt 18 = .ok (.ireturn, 1) := by decide +kernel
theorem dX11_nextToken_0 : decode cX11_nextToken 0 = .ok (.aload_n 0, 1) := by decide +kernel
theorem dX11_nextToken_1 : decode cX11_nextToken 1 = .ok (.getfield 199, 3) := by decide +kernel
theorem dX11_nextToken_4 : decode cX11_nextToken 4 = .ok (.aload_n 0, 1) := by decide +kernel
theorem dX11_nextToken_5 : decode cX11_nextToken 5 = .ok (.getfield 196, 3) := by decide +kernel
theorem dX11_nextToken_8 : decode cX11_nextToken 8 = .ok (.if_icmp .ge 44, 3) := by decide +kernel
theorem dX11_nextToken_11 : decode cX11_nextToken 11 = .ok (.aload_n 0, 1) := by decide +kernel
theorem dX11_nextToken_12 : decode cX11_nextToken 12 = .ok (.getfield 7, 3) := by decide +kernel
theorem dX11_nextToken_15 : decode cX11_nextToken 15 = .ok (.aload_n 0, 1) := by decide +kernel
theorem dX11_nextToken_16 : decode cX11_nextToken 16 = .ok (.getfield 199, 3) := by decide +kernel
theorem dX11_nextToken_19 : decode cX11_nextToken 19 = .ok (.iaload, 1) := by decide +kernel
theorem dX11_nextToken_20 : decode cX11_nextToken 20 = .ok (.bipush 32, 2) := by decide +kernel
theorem dX11_nextToken_22 : decode cX11_nextToken 22 = .ok (.if_icmp .eq 17, 3) := by decide +kernel
theorem dX11_nextToken_25 : decode cX11_nextToken 25 = .ok (.aload_n 0, 1) := by decide +kernel
theorem dX11_nextToken_26 : decode cX11_nextToken 26 = .ok (.getfield 7, 3) := by decide +kernel
theorem dX11_nextToken_29 : decode cX11_nextToken 29 = .ok (.aload_n 0, 1) := by decide +kernel
theorem dX11_nextToken_30 : decode cX11_nextToken 30 = .ok (.getfield 199, 3) := by decide +kernel
theorem dX11_nextToken_33 : decode cX11_nextToken 33 = .ok (.iaload, 1) := by decide +kernel
theorem dX11_nextToken_34 : decode cX11_nextToken 34 = .ok (.bipush 10, 2) := by decide +kernel
theorem dX11_nextToken_36 : decode cX11_nextToken 36 = .ok (.if_icmp .ne 16, 3) := by decide +kernel
theorem dX11_nextToken_39 : decode cX11_nextToken 39 = .ok (.aload_n 0, 1) := by decide +kernel
theorem dX11_nextToken_40 : decode cX11_nextToken 40 = .ok (.dup, 1) := by decide +kernel
theorem dX11_nextToken_41 : decode cX11_nextToken 41 = .ok (.getfield 199, 3) := by decide +kernel
theorem dX11_nextToken_44 : decode cX11_nextToken 44 = .ok (.iconst 1, 1) := by decide +kernel
theorem dX11_nextToken_45 : decode cX11_nextToken 45 = .ok (.iadd, 1) := by decide +kernel
theorem dX11_nextToken_46 : decode cX11_nextToken 46 = .ok (.putfield 199, 3) := by decide +kernel
theorem dX11_nextToken_49 : decode cX11_nextToken 49 = .ok (.goto (-49), 3) := by decide +kernel
theorem dX11_nextToken_52 : decode cX11_nextToken 52 = .ok (.aload_n 0, 1) := by decide +kernel
theorem dX11_nextToken_53 : decode cX11_nextToken 53 = .ok (.aload_n 0, 1) := by decide +kernel
theorem dX11_nextToken_54 : decode cX11_nextToken 54 = .ok (.getfield 199, 3) := by decide +kernel
theorem dX11_nextToken_57 : decode cX11_nextToken 57 = .ok (.putfield 202, 3) := by decide +kernel
theorem dX11_nextToken_60 : decode cX11_nextToken 60 = .ok (.aload_n 0, 1) := by decide +kernel
theorem dX11_nextToken_61 : decode cX11_nextToken 61 = .ok (.lconst 0, 1) := by decide +kernel
theorem dX11_nextToken_62 : decode cX11_nextToken 62 = .ok (.putfield 205, 3) := by decide +kernel
theorem dX11_nextToken_65 : decode cX11_nextToken 65 = .ok (.aload_n 0, 1) := by decide +kernel
theorem dX11_nextToken_66 : decode cX11_nextToken 66 = .ok (.iconst 0, 1) := by decide +kernel
theorem dX11_nextToken_67 : decode cX11_nextToken 67 = .ok (.putfield 209, 3) := by decide +kernel
theorem dX11_nextToken_70 : decode cX11_nextToken 70 = .ok (.aload_n 0, 1) := by decide +kernel
theorem dX11_nextToken_71 : decode cX11_nextToken 71 = .ok (.getfield 199, 3) := by decide +kernel
theorem dX11_nextToken_74 : decode cX11_nextToken 74 = .ok (.aload_n 0, 1) := by decide +kernel
theorem dX11_nextToken_75 : decode cX11_nextToken 75 = .ok (.getfield 196, 3) := by decide +kernel
theorem dX11_nextToken_78 : decode cX11_nextToken 78 = .ok (.if_icmp .ne 9, 3) := by decide +kernel
theorem dX11_nextToken_81 : decode cX11_nextToken 81 = .ok (.aload_n 0, 1) := by decide +kernel
theorem dX11_nextToken_82 : decode cX11_nextToken 82 = .ok (.iconst 0, 1) := by decide +kernel
theorem dX11_nextToken_83 : decode cX11_nextToken 83 = .ok (.putfield 212, 3) := by decide +kernel
theorem dX11_nextToken_86 : decode cX11_nextToken 86 = .ok (.return_, 1) := by decide +kernel
theorem dX11_nextToken_87 : decode cX11_nextToken 87 = .ok (.aload_n 0, 1) := by decide +kernel
theorem dX11_nextToken_88 : decode cX11_nextToken 88 = .ok (.getfield 7, 3) := by decide +kernel
theorem dX11_nextToken_91 : decode cX11_nextToken 91 = .ok (.aload_n 0, 1) := by decide +kernel
theorem dX11_nextToken_92 : decode cX11_nextToken 92 = .ok (.getfield 199, 3) := by decide +kernel
theorem dX11_nextToken_95 : decode cX11_nextToken 95 = .ok (.iaload, 1) := by decide +kernel
theorem dX11_nextToken_96 : decode cX11_nextToken 96 = .ok (.istore_n 1, 1) := by decide +kernel
theorem dX11_nextToken_97 : decode cX11_nextToken 97 = .ok (.iload_n 1, 1) := by decide +kernel
theorem dX11_nextToken_98 : decode cX11_nextToken 98 = .ok (.bipush 97, 2) := by decide +kernel
theorem dX11_nextToken_100 : decode cX11_nextToken 100 = .ok (.if_icmp .lt 112, 3) := by decide +kernel
theorem dX11_nextToken_103 : decode cX11_nextToken 103 = .ok (.iload_n 1, 1) := by decide +kernel
theorem dX11_nextToken_104 : decode cX11_nextToken 104 = .ok (.bipush 122, 2) := by decide +kernel
theorem dX11_nextToken_106 : decode cX11_nextToken 106 = .ok (.if_icmp .gt 106, 3) := by decide +kernel
theorem dX11_nextToken_109 : decode cX11_nextToken 109 = .ok (.aload_n 0, 1) := by decide +kernel
theorem dX11_nextToken_110 : decode cX11_nextToken 110 = .ok (.aload_n 0, 1) := by decide +kernel
theorem dX11_nextToken_111 : decode cX11_nextToken 111 = .ok (.getfield 199, 3) := by decide +kernel
theorem dX11_nextToken_114 : decode cX11_nextToken 114 = .ok (.invokevirtual 215, 3) := by decide +kernel
theorem dX11_nextToken_117 : decode cX11_nextToken 117 = .ok (.bipush 97, 2) := by decide +kernel
theorem dX11_nextToken_119 : decode cX11_nextToken 119 = .ok (.if_icmp .lt 69, 3) := by decide +kernel
theorem dX11_nextToken_122 : decode cX11_nextToken 122 = .ok (.aload_n 0, 1) := by decide +kernel
theorem dX11_nextToken_123 : decode cX11_nextToken 123 = .ok (.aload_n 0, 1) := by decide +kernel
theorem dX11_nextToken_124 : decode cX11_nextToken 124 = .ok (.getfield 199, 3) := by decide +kernel
theorem dX11_nextToken_127 : decode cX11_nextToken 127 = .ok (.invokevirtual 215, 3) := by decide +kernel
theorem dX11_nextToken_130 : decode cX11_nextToken 130 = .ok (.bipush 122, 2) := by decide +kernel
theorem dX11_nextToken_132 : decode cX11_nextToken 132 = .ok (.if_icmp .gt 56, 3) := by decide +kernel
theorem dX11_nextToken_135 : decode cX11_nextToken 135 = .ok (.aload_n 0, 1) := by decide +kernel
theorem dX11_nextToken_136 : decode cX11_nextToken 136 = .ok (.getfield 199, 3) := by decide +kernel
theorem dX11_nextToken_139 : decode cX11_nextToken 139 = .ok (.aload_n 0, 1) := by decide +kernel
theorem dX11_nextToken_140 : decode cX11_nextToken 140 = .ok (.getfield 202, 3) := by decide +kernel
theorem dX11_nextToken_143 : decode cX11_nextToken 143 = .ok (.isub, 1) := by decide +kernel
theorem dX11_nextToken_144 : decode cX11_nextToken 144 = .ok (.bipush 8, 2) := by decide +kernel
theorem dX11_nextToken_146 : decode cX11_nextToken 146 = .ok (.if_icmp .ge 29, 3) := by decide +kernel
theorem dX11_nextToken_149 : decode cX11_nextToken 149 = .ok (.aload_n 0, 1) := by decide +kernel
theorem dX11_nextToken_150 : decode cX11_nextToken 150 = .ok (.aload_n 0, 1) := by decide +kernel
theorem dX11_nextToken_151 : decode cX11_nextToken 151 = .ok (.getfield 205, 3) := by decide +kernel
theorem dX11_nextToken_154 : decode cX11_nextToken 154 = .ok (.ldc2_w 219, 3) := by decide +kernel
theorem dX11_nextToken_157 : decode cX11_nextToken 157 = .ok (.lmul, 1) := by decide +kernel
theorem dX11_nextToken_158 : decode cX11_nextToken 158 = .ok (.aload_n 0, 1) := by decide +kernel
theorem dX11_nextToken_159 : decode cX11_nextToken 159 = .ok (.aload_n 0, 1) := by decide +kernel
theorem dX11_nextToken_160 : decode cX11_nextToken 160 = .ok (.getfield 199, 3) := by decide +kernel
theorem dX11_nextToken_163 : decode cX11_nextToken 163 = .ok (.invokevirtual 215, 3) := by decide +kernel
theorem dX11_nextToken_166 : decode cX11_nextToken 166 = .ok (.i2l, 1) := by decide +kernel
theorem dX11_nextToken_167 : decode cX11_nextToken 167 = .ok (.ladd, 1) := by decide +kernel
theorem dX11_nextToken_168 : decode cX11_nextToken 168 = .ok (.ldc2_w 221, 3) := by decide +kernel
theorem dX11_nextToken_171 : decode cX11_nextToken 171 = .ok (.lsub, 1) := by decide +kernel
theorem dX11_nextToken_172 : decode cX11_nextToken 172 = .ok (.putfield 205, 3) := by decide +kernel
theorem dX11_nextToken_175 : decode cX11_nextToken 175 = .ok (.aload_n 0, 1) := by decide +kernel
theorem dX11_nextToken_176 : decode cX11_nextToken 176 = .ok (.dup, 1) := by decide +kernel
theorem dX11_nextToken_177 : decode cX11_nextToken 177 = .ok (.getfield 199, 3) := by decide +kernel
theorem dX11_nextToken_180 : decode cX11_nextToken 180 = .ok (.iconst 1, 1) := by decide +kernel
theorem dX11_nextToken_181 : decode cX11_nextToken 181 = .ok (.iadd, 1) := by decide +kernel
theorem dX11_nextToken_182 : decode cX11_nextToken 182 = .ok (.putfield 199, 3) := by decide +kernel
theorem dX11_nextToken_185 : decode cX11_nextToken 185 = .ok (.goto (-76), 3) := by decide +kernel
theorem dX11_nextToken_188 : decode cX11_nextToken 188 = .ok (.aload_n 0, 1) := by decide +kernel
theorem dX11_nextToken_189 : decode cX11_nextToken 189 = .ok (.aload_n 0, 1) := by decide +kernel
theorem dX11_nextToken_190 : decode cX11_nextToken 190 = .ok (.getfield 199, 3) := by decide +kernel
theorem dX11_nextToken_193 : decode cX11_nextToken 193 = .ok (.aload_n 0, 1) := by decide +kernel
theorem dX11_nextToken_194 : decode cX11_nextToken 194 = .ok (.getfield 202, 3) := by decide +kernel
theorem dX11_nextToken_197 : decode cX11_nextToken 197 = .ok (.isub, 1) := by decide +kernel
theorem dX11_nextToken_198 : decode cX11_nextToken 198 = .ok (.bipush 8, 2) := by decide +kernel
theorem dX11_nextToken_200 : decode cX11_nextToken 200 = .ok (.if_icmp .le 7, 3) := by decide +kernel
theorem dX11_nextToken_203 : decode cX11_nextToken 203 = .ok (.iconst 4, 1) := by decide +kernel
theorem dX11_nextToken_204 : decode cX11_nextToken 204 = .ok (.goto 4, 3) := by decide +kernel
theorem dX11_nextToken_207 : decode cX11_nextToken 207 = .ok (.iconst 1, 1) := by decide +kernel
theorem dX11_nextToken_208 : decode cX11_nextToken 208 = .ok (.putfield 212, 3) := by decide +kernel
theorem dX11_nextToken_211 : decode cX11_nextToken 211 = .ok (.return_, 1) := by decide +kernel
theorem dX11_nextToken_212 : decode cX11_nextToken 212 = .ok (.iload_n 1, 1) := by decide +kernel
theorem dX11_nextToken_213 : decode cX11_nextToken 213 = .ok (.bipush 48, 2) := by decide +kernel
theorem dX11_nextToken_215 : decode cX11_nextToken 215 = .ok (.if_icmp .lt 107, 3) := by decide +kernel
theorem dX11_nextToken_218 : decode cX11_nextToken 218 = .ok (.iload_n 1, 1) := by decide +kernel
theorem dX11_nextToken_219 : decode cX11_nextToken 219 = .ok (.bipush 57, 2) := by decide +kernel
theorem dX11_nextToken_221 : decode cX11_nextToken 221 = .ok (.if_icmp .gt 101, 3) := by decide +kernel
theorem dX11_nextToken_224 : decode cX11_nextToken 224 = .ok (.aload_n 0, 1) := by decide +kernel
theorem dX11_nextToken_225 : decode cX11_nextToken 225 = .ok (.aload_n 0, 1) := by decide +kernel
theorem dX11_nextToken_226 : decode cX11_nextToken 226 = .ok (.getfield 199, 3) := by decide +kernel
theorem dX11_nextToken_229 : decode cX11_nextToken 229 = .ok (.invokevirtual 215, 3) := by decide +kernel
theorem dX11_nextToken_232 : decode cX11_nextToken 232 = .ok (.bipush 48, 2) := by decide +kernel
theorem dX11_nextToken_234 : decode cX11_nextToken 234 = .ok (.if_icmp .lt 65, 3) := by decide +kernel
theorem dX11_nextToken_237 : decode cX11_nextToken 237 = .ok (.aload_n 0, 1) := by decide +kernel
theorem dX11_nextToken_238 : decode cX11_nextToken 238 = .ok (.aload_n 0, 1) := by decide +kernel
theorem dX11_nextToken_239 : decode cX11_nextToken 239 = .ok (.getfield 199, 3) := by decide +kernel
theorem dX11_nextToken_242 : decode cX11_nextToken 242 = .ok (.invokevirtual 215, 3) := by decide +kernel
theorem dX11_nextToken_245 : decode cX11_nextToken 245 = .ok (.bipush 57, 2) := by decide +kernel
theorem dX11_nextToken_247 : decode cX11_nextToken 247 = .ok (.if_icmp .gt 52, 3) := by decide +kernel
theorem dX11_nextToken_250 : decode cX11_nextToken 250 = .ok (.aload_n 0, 1) := by decide +kernel
theorem dX11_nextToken_251 : decode cX11_nextToken 251 = .ok (.getfield 199, 3) := by decide +kernel
theorem dX11_nextToken_254 : decode cX11_nextToken 254 = .ok (.aload_n 0, 1) := by decide +kernel
theorem dX11_nextToken_255 : decode cX11_nextToken 255 = .ok (.getfield 202, 3) := by decide +kernel
theorem dX11_nextToken_258 : decode cX11_nextToken 258 = .ok (.isub, 1) := by decide +kernel
theorem dX11_nextToken_259 : decode cX11_nextToken 259 = .ok (.iconst 4, 1) := by decide +kernel
theorem dX11_nextToken_260 : decode cX11_nextToken 260 = .ok (.if_icmp .ge 26, 3) := by decide +kernel
theorem dX11_nextToken_263 : decode cX11_nextToken 263 = .ok (.aload_n 0, 1) := by decide +kernel
theorem dX11_nextToken_264 : decode cX11_nextToken 264 = .ok (.aload_n 0, 1) := by decide +kernel
theorem dX11_nextToken_265 : decode cX11_nextToken 265 = .ok (.getfield 209, 3) := by decide +kernel
theorem dX11_nextToken_268 : decode cX11_nextToken 268 = .ok (.bipush 10, 2) := by decide +kernel
theorem dX11_nextToken_270 : decode cX11_nextToken 270 = .ok (.imul, 1) := by decide +kernel
theorem dX11_nextToken_271 : decode cX11_nextToken 271 = .ok (.aload_n 0, 1) := by decide +kernel
theorem dX11_nextToken_272 : decode cX11_nextToken 272 = .ok (.aload_n 0, 1) := by decide +kernel
theorem dX11_nextToken_273 : decode cX11_nextToken 273 = .ok (.getfield 199, 3) := by decide +kernel
theorem dX11_nextToken_276 : decode cX11_nextToken 276 = .ok (.invokevirtual 215, 3) := by decide +kernel
theorem dX11_nextToken_279 : decode cX11_nextToken 279 = .ok (.iadd, 1) := by decide +kernel
theorem dX11_nextToken_280 : decode cX11_nextToken 280 = .ok (.bipush 48, 2) := by decide +kernel
theorem dX11_nextToken_282 : decode cX11_nextToken 282 = .ok (.isub, 1) := by decide +kernel
theorem dX11_nextToken_283 : decode cX11_nextToken 283 = .ok (.putfield 209, 3) := by decide +kernel
theorem dX11_nextToken_286 : decode cX11_nextToken 286 = .ok (.aload_n 0, 1) := by decide +kernel
theorem dX11_nextToken_287 : decode cX11_nextToken 287 = .ok (.dup, 1) := by decide +kernel
theorem dX11_nextToken_288 : decode cX11_nextToken 288 = .ok (.getfield 199, 3) := by decide +kernel
theorem dX11_nextToken_291 : decode cX11_nextToken 291 = .ok (.iconst 1, 1) := by decide +kernel
theorem dX11_nextToken_292 : decode cX11_nextToken 292 = .ok (.iadd, 1) := by decide +kernel
theorem dX11_nextToken_293 : decode cX11_nextToken 293 = .ok (.putfield 199, 3) := by decide +kernel
theorem dX11_nextToken_296 : decode cX11_nextToken 296 = .ok (.goto (-72), 3) := by decide +kernel
theorem dX11_nextToken_299 : decode cX11_nextToken 299 = .ok (.aload_n 0, 1) := by decide +kernel
theorem dX11_nextToken_300 : decode cX11_nextToken 300 = .ok (.aload_n 0, 1) := by decide +kernel
theorem dX11_nextToken_301 : decode cX11_nextToken 301 = .ok (.getfield 199, 3) := by decide +kernel
theorem dX11_nextToken_304 : decode cX11_nextToken 304 = .ok (.aload_n 0, 1) := by decide +kernel
theorem dX11_nextToken_305 : decode cX11_nextToken 305 = .ok (.getfield 202, 3) := by decide +kernel
theorem dX11_nextToken_308 : decode cX11_nextToken 308 = .ok (.isub, 1) := by decide +kernel
theorem dX11_nextToken_309 : decode cX11_nextToken 309 = .ok (.iconst 4, 1) := by decide +kernel
theorem dX11_nextToken_310 : decode cX11_nextToken 310 = .ok (.if_icmp .le 7, 3) := by decide +kernel
theorem dX11_nextToken_313 : decode cX11_nextToken 313 = .ok (.iconst 4, 1) := by decide +kernel
theorem dX11_nextToken_314 : decode cX11_nextToken 314 = .ok (.goto 4, 3) := by decide +kernel
theorem dX11_nextToken_317 : decode cX11_nextToken 317 = .ok (.iconst 2, 1) := by decide +kernel
theorem dX11_nextToken_318 : decode cX11_nextToken 318 = .ok (.putfield 212, 3) := by decide +kernel
theorem dX11_nextToken_321 : decode cX11_nextToken 321 = .ok (.return_, 1) := by decide +kernel
theorem dX11_nextToken_322 : decode cX11_nextToken 322 = .ok (.aload_n 0, 1) := by decide +kernel
theorem dX11_nextToken_323 : decode cX11_nextToken 323 = .ok (.dup, 1) := by decide +kernel
theorem dX11_nextToken_324 : decode cX11_nextToken 324 = .ok (.getfield 199, 3) := by decide +kernel
theorem dX11_nextToken_327 : decode cX11_nextToken 327 = .ok (.iconst 1, 1) := by decide +kernel
theorem dX11_nextToken_328 : decode cX11_nextToken 328 = .ok (.iadd, 1) := by decide +kernel
theorem dX11_nextToken_329 : decode cX11_nextToken 329 = .ok (.putfield 199, 3) := by decide +kernel
theorem dX11_nextToken_332 : decode cX11_nextToken 332 = .ok (.aload_n 0, 1) := by decide +kernel
theorem dX11_nextToken_333 : decode cX11_nextToken 333 = .ok (.iload_n 1, 1) := by decide +kernel
theorem dX11_nextToken_334 : decode cX11_nextToken 334 = .ok (.bipush 40, 2) := by decide +kernel
theorem dX11_nextToken_336 : decode cX11_nextToken 336 = .ok (.if_icmp .lt 9, 3) := by decide +kernel
theorem dX11_nextToken_339 : decode cX11_nextToken 339 = .ok (.iload_n 1, 1) := by decide +kernel
theorem dX11_nextToken_340 : decode cX11_nextToken 340 = .ok (.bipush 43, 2) := by decide +kernel
theorem dX11_nextToken_342 : decode cX11_nextToken 342 = .ok (.if_icmp .le 21, 3) := by decide +kernel
theorem dX11_nextToken_345 : decode cX11_nextToken 345 = .ok (.iload_n 1, 1) := by decide +kernel
theorem dX11_nextToken_346 : decode cX11_nextToken 346 = .ok (.bipush 45, 2) := by decide +kernel
theorem dX11_nextToken_348 : decode cX11_nextToken 348 = .ok (.if_icmp .eq 15, 3) := by decide +kernel
theorem dX11_nextToken_351 : decode cX11_nextToken 351 = .ok (.iload_n 1, 1) := by decide +kernel
theorem dX11_nextToken_352 : decode cX11_nextToken 352 = .ok (.bipush 59, 2) := by decide +kernel
theorem dX11_nextToken_354 : decode cX11_nextToken 354 = .ok (.if_icmp .lt 13, 3) := by decide +kernel
theorem dX11_nextToken_357 : decode cX11_nextToken 357 = .ok (.iload_n 1, 1) := by decide +kernel
theorem dX11_nextToken_358 : decode cX11_nextToken 358 = .ok (.bipush 61, 2) := by decide +kernel
theorem dX11_nextToken_360 : decode cX11_nextToken 360 = .ok (.if_icmp .gt 7, 3) := by decide +kernel
theorem dX11_nextToken_363 : decode cX11_nextToken 363 = .ok (.iconst 3, 1) := by decide +kernel
theorem dX11_nextToken_364 : decode cX11_nextToken 364 = .ok (.goto 4, 3) := by decide +kernel
theorem dX11_nextToken_367 : decode cX11_nextToken 367 = .ok (.iconst 4, 1) := by decide +kernel
theorem dX11_nextToken_368 : decode cX11_nextToken 368 = .ok (.putfield 212, 3) := by decide +kernel
theorem dX11_nextToken_371 : decode cX11_nextToken 371 = .ok (.return_, 1) := by decide +kernel
theorem dX11_isWord_0 : decode cX11_isWord 0 = .ok (.aload_n 0, 1) := by decide +kernel
theorem dX11_isWord_1 : decode cX11_isWord 1 = .ok (.getfield 212, 3) := by decide +kernel
theorem dX11_isWord_4 : decode cX11_isWord 4 = .ok (.iconst 1, 1) := by decide +kernel
theorem dX11_isWord_5 : decode cX11_isWord 5 = .ok (.if_icmp .ne 16, 3) := by decide +kernel
theorem dX11_isWord_8 : decode cX11_isWord 8 = .ok (.aload_n 0, 1) := by decide +kernel
theorem dX11_isWord_9 : decode cX11_isWord 9 = .ok (.getfield 205, 3) := by decide +kernel
theorem dX11_isWord_12 : decode cX11_isWord 12 = .ok (.lload_n 1, 1) := by decide +kernel
theorem dX11_isWord_13 : decode cX11_isWord 13 = .ok (.lcmp, 1) := by decide +kernel
theorem dX11_isWord_14 : decode cX11_isWord 14 = .ok (.ifCond .ne 7, 3) := by decide +kernel
theorem dX11_isWord_17 : decode cX11_isWord 17 = .ok (.iconst 1, 1) := by decide +kernel
theorem dX11_isWord_18 : decode cX11_isWord 18 = .ok (.goto 4, 3) := by decide +kernel
theorem dX11_isWord_21 : decode cX11_isWord 21 = .ok (.iconst 0, 1) := by decide +kernel
theorem dX11_isWord_22 : decode cX11_isWord 22 = .ok (.ireturn, 1) := by decide +kernel
theorem dX11_isSign_0 : decode cX11_isSign 0 = .ok (.aload_n 0, 1) := by decide +kernel
theorem dX11_isSign_1 : decode cX11_isSign 1 = .ok (.getfield 212, 3) := by decide +kernel
theorem dX11_isSign_4 : decode cX11_isSign 4 = .ok (.iconst 3, 1) := by decide +kernel
theorem dX11_isSign_5 : decode cX11_isSign 5 = .ok (.if_icmp .ne 20, 3) := by decide +kernel
theorem dX11_isSign_8 : decode cX11_isSign 8 = .ok (.aload_n 0, 1) := by decide +kernel
theorem dX11_isSign_9 : decode cX11_isSign 9 = .ok (.getfield 7, 3) := by decide +kernel
theorem dX11_isSign_12 : decode cX11_isSign 12 = .ok (.aload_n 0, 1) := by decide +kernel
theorem dX11_isSign_13 : decode cX11_isSign 13 = .ok (.getfield 202, 3) := by decide +kernel
theorem dX11_isSign_16 : decode cX11_isSign 16 = .ok (.iaload, 1) := by decide +kernel
theorem dX11_isSign_17 : decode cX11_isSign 17 = .ok (.iload_n 1, 1) := by decide +kernel
theorem dX11_isSign_18 : decode cX11_isSign 18 = .ok (.if_icmp .ne 7, 3) := by decide +kernel
theorem dX11_isSign_21 : decode cX11_isSign 21 = .ok (.iconst 1, 1) := by decide +kernel
theorem dX11_isSign_22 : decode cX11_isSign 22 = .ok (.goto 4, 3) := by decide +kernel
theorem dX11_isSign_25 : decode cX11_isSign 25 = .ok (.iconst 0, 1) := by decide +kernel
theorem dX11_isSign_26 : decode cX11_isSign 26 = .ok (.ireturn, 1) := by decide +kernel
theorem dX11_fails_0 : decode cX11_fails 0 = .ok (.aload_n 0, 1) := by decide +kernel
theorem dX11_fails_1 : decode cX11_fails 1 = .ok (.iload_n 1, 1) := by decide +kernel
theorem dX11_fails_2 : decode cX11_fails 2 = .ok (.bipush 16, 2) := by decide +kernel
theorem dX11_fails_4 : decode cX11_fails 4 = .ok (.aload_n 0, 1) := by decide +kernel
theorem dX11_fails_5 : decode cX11_fails 5 = .ok (.getfield 202, 3) := by decide +kernel
theorem dX11_fails_8 : decode cX11_fails 8 = .ok (.imul, 1) := by decide +kernel
theorem dX11_fails_9 : decode cX11_fails 9 = .ok (.iadd, 1) := by decide +kernel
theorem dX11_fails_10 : decode cX11_fails 10 = .ok (.putfield 223, 3) := by decide +kernel
theorem dX11_fails_13 : decode cX11_fails 13 = .ok (.iconst 0, 1) := by decide +kernel
theorem dX11_fails_14 : decode cX11_fails 14 = .ok (.ireturn, 1) := by decide +kernel
theorem dX11_plain_0 : decode cX11_plain 0 = .ok (.iconst 0, 1) := by decide +kernel
theorem dX11_plain_1 : decode cX11_plain 1 = .ok (.istore_n 2, 1) := by decide +kernel
theorem dX11_plain_2 : decode cX11_plain 2 = .ok (.iload_n 2, 1) := by decide +kernel
theorem dX11_plain_3 : decode cX11_plain 3 = .ok (.bipush 9, 2) := by decide +kernel
theorem dX11_plain_5 : decode cX11_plain 5 = .ok (.if_icmp .ge 21, 3) := by decide +kernel
theorem dX11_plain_8 : decode cX11_plain 8 = .ok (.aload_n 0, 1) := by decide +kernel
theorem dX11_plain_9 : decode cX11_plain 9 = .ok (.getfield 13, 3) := by decide +kernel
theorem dX11_plain_12 : decode cX11_plain 12 = .ok (.bipush 9, 2) := by decide +kernel
theorem dX11_plain_14 : decode cX11_plain 14 = .ok (.iload_n 1, 1) := by decide +kernel
theorem dX11_plain_15 : decode cX11_plain 15 = .ok (.imul, 1) := by decide +kernel
theorem dX11_plain_16 : decode cX11_plain 16 = .ok (.iload_n 2, 1) := by decide +kernel
theorem dX11_plain_17 : decode cX11_plain 17 = .ok (.iadd, 1) := by decide +kernel
theorem dX11_plain_18 : decode cX11_plain 18 = .ok (.iconst 0, 1) := by decide +kernel
theorem dX11_plain_19 : decode cX11_plain 19 = .ok (.iastore, 1) := by decide +kernel
theorem dX11_plain_20 : decode cX11_plain 20 = .ok (.iinc 2 1, 3) := by decide +kernel
theorem dX11_plain_23 : decode cX11_plain 23 = .ok (.goto (-21), 3) := by decide +kernel
theorem dX11_plain_26 : decode cX11_plain 26 = .ok (.aload_n 0, 1) := by decide +kernel
theorem dX11_plain_27 : decode cX11_plain 27 = .ok (.getfield 13, 3) := by decide +kernel
theorem dX11_plain_30 : decode cX11_plain 30 = .ok (.bipush 9, 2) := by decide +kernel
theorem dX11_plain_32 : decode cX11_plain 32 = .ok (.iload_n 1, 1) := by decide +kernel
theorem dX11_plain_33 : decode cX11_plain 33 = .ok (.imul, 1) := by decide +kernel
theorem dX11_plain_34 : decode cX11_plain 34 = .ok (.iconst 5, 1) := by decide +kernel
theorem dX11_plain_35 : decode cX11_plain 35 = .ok (.iadd, 1) := by decide +kernel
theorem dX11_plain_36 : decode cX11_plain 36 = .ok (.iconst 3, 1) := by decide +kernel
theorem dX11_plain_37 : decode cX11_plain 37 = .ok (.iastore, 1) := by decide +kernel
theorem dX11_plain_38 : decode cX11_plain 38 = .ok (.aload_n 0, 1) := by decide +kernel
theorem dX11_plain_39 : decode cX11_plain 39 = .ok (.getfield 13, 3) := by decide +kernel
theorem dX11_plain_42 : decode cX11_plain 42 = .ok (.bipush 9, 2) := by decide +kernel
theorem dX11_plain_44 : decode cX11_plain 44 = .ok (.iload_n 1, 1) := by decide +kernel
theorem dX11_plain_45 : decode cX11_plain 45 = .ok (.imul, 1) := by decide +kernel
theorem dX11_plain_46 : decode cX11_plain 46 = .ok (.bipush 6, 2) := by decide +kernel
theorem dX11_plain_48 : decode cX11_plain 48 = .ok (.iadd, 1) := by decide +kernel
theorem dX11_plain_49 : decode cX11_plain 49 = .ok (.iconst 3, 1) := by decide +kernel
theorem dX11_plain_50 : decode cX11_plain 50 = .ok (.iastore, 1) := by decide +kernel
theorem dX11_plain_51 : decode cX11_plain 51 = .ok (.aload_n 0, 1) := by decide +kernel
theorem dX11_plain_52 : decode cX11_plain 52 = .ok (.getfield 13, 3) := by decide +kernel
theorem dX11_plain_55 : decode cX11_plain 55 = .ok (.bipush 9, 2) := by decide +kernel
theorem dX11_plain_57 : decode cX11_plain 57 = .ok (.iload_n 1, 1) := by decide +kernel
theorem dX11_plain_58 : decode cX11_plain 58 = .ok (.imul, 1) := by decide +kernel
theorem dX11_plain_59 : decode cX11_plain 59 = .ok (.bipush 7, 2) := by decide +kernel
theorem dX11_plain_61 : decode cX11_plain 61 = .ok (.iadd, 1) := by decide +kernel
theorem dX11_plain_62 : decode cX11_plain 62 = .ok (.iconst 5, 1) := by decide +kernel
theorem dX11_plain_63 : decode cX11_plain 63 = .ok (.iastore, 1) := by decide +kernel
theorem dX11_plain_64 : decode cX11_plain 64 = .ok (.iconst 0, 1) := by decide +kernel
theorem dX11_plain_65 : decode cX11_plain 65 = .ok (.istore_n 2, 1) := by decide +kernel
theorem dX11_plain_66 : decode cX11_plain 66 = .ok (.iload_n 2, 1) := by decide +kernel
theorem dX11_plain_67 : decode cX11_plain 67 = .ok (.bipush 36, 2) := by decide +kernel
theorem dX11_plain_69 : decode cX11_plain 69 = .ok (.if_icmp .ge 21, 3) := by decide +kernel
theorem dX11_plain_72 : decode cX11_plain 72 = .ok (.aload_n 0, 1) := by decide +kernel
theorem dX11_plain_73 : decode cX11_plain 73 = .ok (.getfield 44, 3) := by decide +kernel
theorem dX11_plain_76 : decode cX11_plain 76 = .ok (.bipush 36, 2) := by decide +kernel
theorem dX11_plain_78 : decode cX11_plain 78 = .ok (.iload_n 1, 1) := by decide +kernel
theorem dX11_plain_79 : decode cX11_plain 79 = .ok (.imul, 1) := by decide +kernel
theorem dX11_plain_80 : decode cX11_plain 80 = .ok (.iload_n 2, 1) := by decide +kernel
theorem dX11_plain_81 : decode cX11_plain 81 = .ok (.iadd, 1) := by decide +kernel
theorem dX11_plain_82 : decode cX11_plain 82 = .ok (.iconst 0, 1) := by decide +kernel
theorem dX11_plain_83 : decode cX11_plain 83 = .ok (.iastore, 1) := by decide +kernel
theorem dX11_plain_84 : decode cX11_plain 84 = .ok (.iinc 2 1, 3) := by decide +kernel
theorem dX11_plain_87 : decode cX11_plain 87 = .ok (.goto (-21), 3) := by decide +kernel
theorem dX11_plain_90 : decode cX11_plain 90 = .ok (.iconst 0, 1) := by decide +kernel
theorem dX11_plain_91 : decode cX11_plain 91 = .ok (.istore_n 2, 1) := by decide +kernel
theorem dX11_plain_92 : decode cX11_plain 92 = .ok (.iload_n 2, 1) := by decide +kernel
theorem dX11_plain_93 : decode cX11_plain 93 = .ok (.iconst 2, 1) := by decide +kernel
theorem dX11_plain_94 : decode cX11_plain 94 = .ok (.if_icmp .ge 39, 3) := by decide +kernel
theorem dX11_plain_97 : decode cX11_plain 97 = .ok (.aload_n 0, 1) := by decide +kernel
theorem dX11_plain_98 : decode cX11_plain 98 = .ok (.getfield 50, 3) := by decide +kernel
theorem dX11_plain_101 : decode cX11_plain 101 = .ok (.iconst 2, 1) := by decide +kernel
theorem dX11_plain_102 : decode cX11_plain 102 = .ok (.iload_n 1, 1) := by decide +kernel
theorem dX11_plain_103 : decode cX11_plain 103 = .ok (.imul, 1) := by decide +kernel
theorem dX11_plain_104 : decode cX11_plain 104 = .ok (.iload_n 2, 1) := by decide +kernel
theorem dX11_plain_105 : decode cX11_plain 105 = .ok (.iadd, 1) := by decide +kernel
theorem dX11_plain_106 : decode cX11_plain 106 = .ok (.sipush 1000, 3) := by decide +kernel
theorem dX11_plain_109 : decode cX11_plain 109 = .ok (.iload_n 1, 1) := by decide +kernel
theorem dX11_plain_110 : decode cX11_plain 110 = .ok (.imul, 1) := by decide +kernel
theorem dX11_plain_111 : decode cX11_plain 111 = .ok (.iastore, 1) := by decide +kernel
theorem dX11_plain_112 : decode cX11_plain 112 = .ok (.aload_n 0, 1) := by decide +kernel
theorem dX11_plain_113 : decode cX11_plain 113 = .ok (.getfield 53, 3) := by decide +kernel
theorem dX11_plain_116 : decode cX11_plain 116 = .ok (.iconst 2, 1) := by decide +kernel
theorem dX11_plain_117 : decode cX11_plain 117 = .ok (.iload_n 1, 1) := by decide +kernel
theorem dX11_plain_118 : decode cX11_plain 118 = .ok (.imul, 1) := by decide +kernel
theorem dX11_plain_119 : decode cX11_plain 119 = .ok (.iload_n 2, 1) := by decide +kernel
theorem dX11_plain_120 : decode cX11_plain 120 = .ok (.iadd, 1) := by decide +kernel
theorem dX11_plain_121 : decode cX11_plain 121 = .ok (.sipush 1000, 3) := by decide +kernel
theorem dX11_plain_124 : decode cX11_plain 124 = .ok (.iload_n 1, 1) := by decide +kernel
theorem dX11_plain_125 : decode cX11_plain 125 = .ok (.imul, 1) := by decide +kernel
theorem dX11_plain_126 : decode cX11_plain 126 = .ok (.iastore, 1) := by decide +kernel
theorem dX11_plain_127 : decode cX11_plain 127 = .ok (.iinc 2 1, 3) := by decide +kernel
theorem dX11_plain_130 : decode cX11_plain 130 = .ok (.goto (-38), 3) := by decide +kernel
theorem dX11_plain_133 : decode cX11_plain 133 = .ok (.return_, 1) := by decide +kernel
theorem dX11_puts_0 : decode cX11_puts 0 = .ok (.aload_n 0, 1) := by decide +kernel
theorem dX11_puts_1 : decode cX11_puts 1 = .ok (.getfield 56, 3) := by decide +kernel
theorem dX11_puts_4 : decode cX11_puts 4 = .ok (.aload_n 0, 1) := by decide +kernel
theorem dX11_puts_5 : decode cX11_puts 5 = .ok (.getfield 226, 3) := by decide +kernel
theorem dX11_puts_8 : decode cX11_puts 8 = .ok (.iload_n 1, 1) := by decide +kernel
theorem dX11_puts_9 : decode cX11_puts 9 = .ok (.iastore, 1) := by decide +kernel
theorem dX11_puts_10 : decode cX11_puts 10 = .ok (.aload_n 0, 1) := by decide +kernel
theorem dX11_puts_11 : decode cX11_puts 11 = .ok (.dup, 1) := by decide +kernel
theorem dX11_puts_12 : decode cX11_puts 12 = .ok (.getfield 226, 3) := by decide +kernel
theorem dX11_puts_15 : decode cX11_puts 15 = .ok (.iconst 1, 1) := by decide +kernel
theorem dX11_puts_16 : decode cX11_puts 16 = .ok (.iadd, 1) := by decide +kernel
theorem dX11_puts_17 : decode cX11_puts 17 = .ok (.putfield 226, 3) := by decide +kernel
theorem dX11_puts_20 : decode cX11_puts 20 = .ok (.return_, 1) := by decide +kernel
theorem dX11_fact_0 : decode cX11_fact 0 = .ok (.aload_n 0, 1) := by decide +kernel
theorem dX11_fact_1 : decode cX11_fact 1 = .ok (.getfield 212, 3) := by decide +kernel
theorem dX11_fact_4 : decode cX11_fact 4 = .ok (.iconst 1, 1) := by decide +kernel
theorem dX11_fact_5 : decode cX11_fact 5 = .ok (.if_icmp .eq 5, 3) := by decide +kernel
theorem dX11_fact_8 : decode cX11_fact 8 = .ok (.iconst 0, 1) := by decide +kernel
theorem dX11_fact_9 : decode cX11_fact 9 = .ok (.ireturn, 1) := by decide +kernel
theorem dX11_fact_10 : decode cX11_fact 10 = .ok (.aload_n 0, 1) := by decide +kernel
theorem dX11_fact_11 : decode cX11_fact 11 = .ok (.getfield 205, 3) := by decide +kernel
theorem dX11_fact_14 : decode cX11_fact 14 = .ok (.ldc2_w 229, 3) := by decide +kernel
theorem dX11_fact_17 : decode cX11_fact 17 = .ok (.lcmp, 1) := by decide +kernel
theorem dX11_fact_18 : decode cX11_fact 18 = .ok (.ifCond .ne 5, 3) := by decide +kernel
theorem dX11_fact_21 : decode cX11_fact 21 = .ok (.iconst 2, 1) := by decide +kernel
theorem dX11_fact_22 : decode cX11_fact 22 = .ok (.ireturn, 1) := by decide +kernel
theorem dX11_fact_23 : decode cX11_fact 23 = .ok (.aload_n 0, 1) := by decide +kernel
theorem dX11_fact_24 : decode cX11_fact 24 = .ok (.getfield 205, 3) := by decide +kernel
theorem dX11_fact_27 : decode cX11_fact 27 = .ok (.ldc2_w 231, 3) := by decide +kernel
theorem dX11_fact_30 : decode cX11_fact 30 = .ok (.lcmp, 1) := by decide +kernel
theorem dX11_fact_31 : decode cX11_fact 31 = .ok (.ifCond .ne 5, 3) := by decide +kernel
theorem dX11_fact_34 : decode cX11_fact 34 = .ok (.iconst 3, 1) := by decide +kernel
theorem dX11_fact_35 : decode cX11_fact 35 = .ok (.ireturn, 1) := by decide +kernel
theorem dX11_fact_36 : decode cX11_fact 36 = .ok (.aload_n 0, 1) := by decide +kernel
theorem dX11_fact_37 : decode cX11_fact 37 = .ok (.getfield 233, 3) := by decide +kernel
theorem dX11_fact_40 : decode cX11_fact 40 = .ok (.ifCond .ne 20, 3) := by decide +kernel
theorem dX11_fact_43 : decode cX11_fact 43 = .ok (.aload_n 0, 1) := by decide +kernel
theorem dX11_fact_44 : decode cX11_fact 44 = .ok (.getfield 205, 3) := by decide +kernel
theorem dX11_fact_47 : decode cX11_fact 47 = .ok (.ldc2_w 236, 3) := by decide +kernel
theorem dX11_fact_50 : decode cX11_fact 50 = .ok (.lcmp, 1) := by decide +kernel
theorem dX11_fact_51 : decode cX11_fact 51 = .ok (.ifCond .ne 7, 3) := by decide +kernel
theorem dX11_fact_54 : decode cX11_fact 54 = .ok (.iconst 1, 1) := by decide +kernel
theorem dX11_fact_55 : decode cX11_fact 55 = .ok (.goto 4, 3) := by decide +kernel
theorem dX11_fact_58 : decode cX11_fact 58 = .ok (.iconst 0, 1) := by decide +kernel
theorem dX11_fact_59 : decode cX11_fact 59 = .ok (.ireturn, 1) := by decide +kernel
theorem dX11_fact_60 : decode cX11_fact 60 = .ok (.aload_n 0, 1) := by decide +kernel
theorem dX11_fact_61 : decode cX11_fact 61 = .ok (.getfield 205, 3) := by decide +kernel
theorem dX11_fact_64 : decode cX11_fact 64 = .ok (.ldc2_w 238, 3) := by decide +kernel
theorem dX11_fact_67 : decode cX11_fact 67 = .ok (.lcmp, 1) := by decide +kernel
theorem dX11_fact_68 : decode cX11_fact 68 = .ok (.ifCond .ne 7, 3) := by decide +kernel
theorem dX11_fact_71 : decode cX11_fact 71 = .ok (.iconst 4, 1) := by decide +kernel
theorem dX11_fact_72 : decode cX11_fact 72 = .ok (.goto 19, 3) := by decide +kernel
theorem dX11_fact_75 : decode cX11_fact 75 = .ok (.aload_n 0, 1) := by decide +kernel
theorem dX11_fact_76 : decode cX11_fact 76 = .ok (.getfield 205, 3) := by decide +kernel
theorem dX11_fact_79 : decode cX11_fact 79 = .ok (.ldc2_w 240, 3) := by decide +kernel
theorem dX11_fact_82 : decode cX11_fact 82 = .ok (.lcmp, 1) := by decide +kernel
theorem dX11_fact_83 : decode cX11_fact 83 = .ok (.ifCond .ne 7, 3) := by decide +kernel
theorem dX11_fact_86 : decode cX11_fact 86 = .ok (.iconst 5, 1) := by decide +kernel
theorem dX11_fact_87 : decode cX11_fact 87 = .ok (.goto 4, 3) := by decide +kernel
theorem dX11_fact_90 : decode cX11_fact 90 = .ok (.iconst 0, 1) := by decide +kernel
theorem dX11_fact_91 : decode cX11_fact 91 = .ok (.ireturn, 1) := by decide +kernel
theorem dX11_reads_0 : decode cX11_reads 0 = .ok (.iconst 0, 1) := by decide +kernel
theorem dX11_reads_1 : decode cX11_reads 1 = .ok (.istore_n 1, 1) := by decide +kernel
theorem dX11_reads_2 : decode cX11_reads 2 = .ok (.iconst 1, 1) := by decide +kernel
theorem dX11_reads_3 : decode cX11_reads 3 = .ok (.istore_n 2, 1) := by decide +kernel
theorem dX11_reads_4 : decode cX11_reads 4 = .ok (.aload_n 0, 1) := by decide +kernel
theorem dX11_reads_5 : decode cX11_reads 5 = .ok (.getfield 62, 3) := by decide +kernel
theorem dX11_reads_8 : decode cX11_reads 8 = .ok (.iconst 0, 1) := by decide +kernel
theorem dX11_reads_9 : decode cX11_reads 9 = .ok (.iconst 0, 1) := by decide +kernel
theorem dX11_reads_10 : decode cX11_reads 10 = .ok (.bastore, 1) := by decide +kernel
theorem dX11_reads_11 : decode cX11_reads 11 = .ok (.iload_n 2, 1) := by decide +kernel
theorem dX11_reads_12 : decode cX11_reads 12 = .ok (.ifCond .eq 167, 3) := by decide +kernel
theorem dX11_reads_15 : decode cX11_reads 15 = .ok (.aload_n 0, 1) := by decide +kernel
theorem dX11_reads_16 : decode cX11_reads 16 = .ok (.invokevirtual 242, 3) := by decide +kernel
theorem dX11_reads_19 : decode cX11_reads 19 = .ok (.istore_n 3, 1) := by decide +kernel
theorem dX11_reads_20 : decode cX11_reads 20 = .ok (.aload_n 0, 1) := by decide +kernel
theorem dX11_reads_21 : decode cX11_reads 21 = .ok (.ldc2_w 246, 3) := by decide +kernel
theorem dX11_reads_24 : decode cX11_reads 24 = .ok (.invokevirtual 248, 3) := by decide +kernel
theorem dX11_reads_27 : decode cX11_reads 27 = .ok (.istore 4, 2) := by decide +kernel
theorem dX11_reads_29 : decode cX11_reads 29 = .ok (.aload_n 0, 1) := by decide +kernel
theorem dX11_reads_30 : decode cX11_reads 30 = .ok (.bipush 40, 2) := by decide +kernel
theorem dX11_reads_32 : decode cX11_reads 32 = .ok (.invokevirtual 252, 3) := by decide +kernel
theorem dX11_reads_35 : decode cX11_reads 35 = .ok (.istore 5, 2) := by decide +kernel
theorem dX11_reads_37 : decode cX11_reads 37 = .ok (.iload_n 3, 1) := by decide +kernel
theorem dX11_reads_38 : decode cX11_reads 38 = .ok (.ifCond .ne 27, 3) := by decide +kernel
theorem dX11_reads_41 : decode cX11_reads 41 = .ok (.iload 4, 2) := by decide +kernel
theorem dX11_reads_43 : decode cX11_reads 43 = .ok (.ifCond .ne 22, 3) := by decide +kernel
theorem dX11_reads_46 : decode cX11_reads 46 = .ok (.iload 5, 2) := by decide +kernel
theorem dX11_reads_48 : decode cX11_reads 48 = .ok (.ifCond .ne 17, 3) := by decide +kernel
theorem dX11_reads_51 : decode cX11_reads 51 = .ok (.aload_n 0, 1) := by decide +kernel
theorem dX11_reads_52 : decode cX11_reads 52 = .ok (.getfield 212, 3) := by decide +kernel
theorem dX11_reads_55 : decode cX11_reads 55 = .ok (.iconst 2, 1) := by decide +kernel
theorem dX11_reads_56 : decode cX11_reads 56 = .ok (.if_icmp .eq 9, 3) := by decide +kernel
theorem dX11_reads_59 : decode cX11_reads 59 = .ok (.aload_n 0, 1) := by decide +kernel
theorem dX11_reads_60 : decode cX11_reads 60 = .ok (.iconst 1, 1) := by decide +kernel
theorem dX11_reads_61 : decode cX11_reads 61 = .ok (.invokevirtual 256, 3) := by decide +kernel
theorem dX11_reads_64 : decode cX11_reads 64 = .ok (.ireturn, 1) := by decide +kernel
theorem dX11_reads_65 : decode cX11_reads 65 = .ok (.iload_n 1, 1) := by decide +kernel
theorem dX11_reads_66 : decode cX11_reads 66 = .ok (.iconst 5, 1) := by decide +kernel
