theorem dX10_lay_34 : decode cX10_lay 34 = .ok (.return_, 1) := by decide +kernel
theorem dX10_add_0 : decode cX10_add 0 = .ok (.aload_n 0, 1) := by decide +kernel
theorem dX10_add_1 : decode cX10_add 1 = .ok (.getfield 83, 3) := by decide +kernel
theorem dX10_add_4 : decode cX10_add 4 = .ok (.ifCond .eq 13, 3) := by decide +kernel
theorem dX10_add_7 : decode cX10_add 7 = .ok (.aload_n 0, 1) := by decide +kernel
theorem dX10_add_8 : decode cX10_add 8 = .ok (.getfield 86, 3) := by decide +kernel
theorem dX10_add_11 : decode cX10_add 11 = .ok (.sipush 256, 3) := by decide +kernel
theorem dX10_add_14 : decode cX10_add 14 = .ok (.if_icmp .ne 5, 3) := by decide +kernel
theorem dX10_add_17 : decode cX10_add 17 = .ok (.iconst (-1), 1) := by decide +kernel
theorem dX10_add_18 : decode cX10_add 18 = .ok (.ireturn, 1) := by decide +kernel
theorem dX10_add_19 : decode cX10_add 19 = .ok (.aload_n 0, 1) := by decide +kernel
theorem dX10_add_20 : decode cX10_add 20 = .ok (.aload_n 0, 1) := by decide +kernel
theorem dX10_add_21 : decode cX10_add 21 = .ok (.getfield 86, 3) := by decide +kernel
theorem dX10_add_24 : decode cX10_add 24 = .ok (.iload_n 1, 1) := by decide +kernel
theorem dX10_add_25 : decode cX10_add 25 = .ok (.iload_n 2, 1) := by decide +kernel
theorem dX10_add_26 : decode cX10_add 26 = .ok (.iload_n 3, 1) := by decide +kernel
theorem dX10_add_27 : decode cX10_add 27 = .ok (.iload 4, 2) := by decide +kernel
theorem dX10_add_29 : decode cX10_add 29 = .ok (.invokevirtual 89, 3) := by decide +kernel
theorem dX10_add_32 : decode cX10_add 32 = .ok (.aload_n 0, 1) := by decide +kernel
theorem dX10_add_33 : decode cX10_add 33 = .ok (.dup, 1) := by decide +kernel
theorem dX10_add_34 : decode cX10_add 34 = .ok (.getfield 86, 3) := by decide +kernel
theorem dX10_add_37 : decode cX10_add 37 = .ok (.iconst 1, 1) := by decide +kernel
theorem dX10_add_38 : decode cX10_add 38 = .ok (.iadd, 1) := by decide +kernel
theorem dX10_add_39 : decode cX10_add 39 = .ok (.putfield 86, 3) := by decide +kernel
theorem dX10_add_42 : decode cX10_add 42 = .ok (.aload_n 0, 1) := by decide +kernel
theorem dX10_add_43 : decode cX10_add 43 = .ok (.getfield 16, 3) := by decide +kernel
theorem dX10_add_46 : decode cX10_add 46 = .ok (.aload_n 0, 1) := by decide +kernel
theorem dX10_add_47 : decode cX10_add 47 = .ok (.getfield 83, 3) := by decide +kernel
theorem dX10_add_50 : decode cX10_add 50 = .ok (.aload_n 0, 1) := by decide +kernel
theorem dX10_add_51 : decode cX10_add 51 = .ok (.getfield 86, 3) := by decide +kernel
theorem dX10_add_54 : decode cX10_add 54 = .ok (.iastore, 1) := by decide +kernel
theorem dX10_add_55 : decode cX10_add 55 = .ok (.aload_n 0, 1) := by decide +kernel
theorem dX10_add_56 : decode cX10_add 56 = .ok (.getfield 86, 3) := by decide +kernel
theorem dX10_add_59 : decode cX10_add 59 = .ok (.iconst 1, 1) := by decide +kernel
theorem dX10_add_60 : decode cX10_add 60 = .ok (.isub, 1) := by decide +kernel
theorem dX10_add_61 : decode cX10_add 61 = .ok (.aload_n 0, 1) := by decide +kernel
theorem dX10_add_62 : decode cX10_add 62 = .ok (.getfield 16, 3) := by decide +kernel
theorem dX10_add_65 : decode cX10_add 65 = .ok (.aload_n 0, 1) := by decide +kernel
theorem dX10_add_66 : decode cX10_add 66 = .ok (.getfield 83, 3) := by decide +kernel
theorem dX10_add_69 : decode cX10_add 69 = .ok (.iconst 1, 1) := by decide +kernel
theorem dX10_add_70 : decode cX10_add 70 = .ok (.isub, 1) := by decide +kernel
theorem dX10_add_71 : decode cX10_add 71 = .ok (.iaload, 1) := by decide +kernel
theorem dX10_add_72 : decode cX10_add 72 = .ok (.isub, 1) := by decide +kernel
theorem dX10_add_73 : decode cX10_add 73 = .ok (.ireturn, 1) := by decide +kernel
theorem dX10_isUnit_0 : decode cX10_isUnit 0 = .ok (.iload_n 1, 1) := by decide +kernel
theorem dX10_isUnit_1 : decode cX10_isUnit 1 = .ok (.ifCond .lt 15, 3) := by decide +kernel
theorem dX10_isUnit_4 : decode cX10_isUnit 4 = .ok (.iload_n 1, 1) := by decide +kernel
theorem dX10_isUnit_5 : decode cX10_isUnit 5 = .ok (.aload_n 0, 1) := by decide +kernel
theorem dX10_isUnit_6 : decode cX10_isUnit 6 = .ok (.getfield 83, 3) := by decide +kernel
theorem dX10_isUnit_9 : decode cX10_isUnit 9 = .ok (.if_icmp .ge 7, 3) := by decide +kernel
theorem dX10_isUnit_12 : decode cX10_isUnit 12 = .ok (.iconst 1, 1) := by decide +kernel
theorem dX10_isUnit_13 : decode cX10_isUnit 13 = .ok (.goto 4, 3) := by decide +kernel
theorem dX10_isUnit_16 : decode cX10_isUnit 16 = .ok (.iconst 0, 1) := by decide +kernel
theorem dX10_isUnit_17 : decode cX10_isUnit 17 = .ok (.ireturn, 1) := by decide +kernel
theorem dX10_change_0 : decode cX10_change 0 = .ok (.aload_n 0, 1) := by decide +kernel
theorem dX10_change_1 : decode cX10_change 1 = .ok (.iload_n 1, 1) := by decide +kernel
theorem dX10_change_2 : decode cX10_change 2 = .ok (.invokevirtual 93, 3) := by decide +kernel
theorem dX10_change_5 : decode cX10_change 5 = .ok (.ifCond .eq 26, 3) := by decide +kernel
theorem dX10_change_8 : decode cX10_change 8 = .ok (.iload_n 2, 1) := by decide +kernel
theorem dX10_change_9 : decode cX10_change 9 = .ok (.ifCond .lt 22, 3) := by decide +kernel
theorem dX10_change_12 : decode cX10_change 12 = .ok (.iload_n 2, 1) := by decide +kernel
theorem dX10_change_13 : decode cX10_change 13 = .ok (.aload_n 0, 1) := by decide +kernel
theorem dX10_change_14 : decode cX10_change 14 = .ok (.getfield 16, 3) := by decide +kernel
theorem dX10_change_17 : decode cX10_change 17 = .ok (.iload_n 1, 1) := by decide +kernel
theorem dX10_change_18 : decode cX10_change 18 = .ok (.iconst 1, 1) := by decide +kernel
theorem dX10_change_19 : decode cX10_change 19 = .ok (.iadd, 1) := by decide +kernel
theorem dX10_change_20 : decode cX10_change 20 = .ok (.iaload, 1) := by decide +kernel
theorem dX10_change_21 : decode cX10_change 21 = .ok (.aload_n 0, 1) := by decide +kernel
theorem dX10_change_22 : decode cX10_change 22 = .ok (.getfield 16, 3) := by decide +kernel
theorem dX10_change_25 : decode cX10_change 25 = .ok (.iload_n 1, 1) := by decide +kernel
theorem dX10_change_26 : decode cX10_change 26 = .ok (.iaload, 1) := by decide +kernel
theorem dX10_change_27 : decode cX10_change 27 = .ok (.isub, 1) := by decide +kernel
theorem dX10_change_28 : decode cX10_change 28 = .ok (.if_icmp .lt 5, 3) := by decide +kernel
theorem dX10_change_31 : decode cX10_change 31 = .ok (.iconst (-1), 1) := by decide +kernel
theorem dX10_change_32 : decode cX10_change 32 = .ok (.ireturn, 1) := by decide +kernel
theorem dX10_change_33 : decode cX10_change 33 = .ok (.aload_n 0, 1) := by decide +kernel
theorem dX10_change_34 : decode cX10_change 34 = .ok (.aload_n 0, 1) := by decide +kernel
theorem dX10_change_35 : decode cX10_change 35 = .ok (.getfield 16, 3) := by decide +kernel
theorem dX10_change_38 : decode cX10_change 38 = .ok (.iload_n 1, 1) := by decide +kernel
theorem dX10_change_39 : decode cX10_change 39 = .ok (.iaload, 1) := by decide +kernel
theorem dX10_change_40 : decode cX10_change 40 = .ok (.iload_n 2, 1) := by decide +kernel
theorem dX10_change_41 : decode cX10_change 41 = .ok (.iadd, 1) := by decide +kernel
theorem dX10_change_42 : decode cX10_change 42 = .ok (.iload_n 3, 1) := by decide +kernel
theorem dX10_change_43 : decode cX10_change 43 = .ok (.iload 4, 2) := by decide +kernel
theorem dX10_change_45 : decode cX10_change 45 = .ok (.iload 5, 2) := by decide +kernel
theorem dX10_change_47 : decode cX10_change 47 = .ok (.iload 6, 2) := by decide +kernel
theorem dX10_change_49 : decode cX10_change 49 = .ok (.invokevirtual 89, 3) := by decide +kernel
theorem dX10_change_52 : decode cX10_change 52 = .ok (.iconst 0, 1) := by decide +kernel
theorem dX10_change_53 : decode cX10_change 53 = .ok (.ireturn, 1) := by decide +kernel
theorem dX10_isIn_0 : decode cX10_isIn 0 = .ok (.lload_n 0, 1) := by decide +kernel
theorem dX10_isIn_1 : decode cX10_isIn 1 = .ok (.lload_n 2, 1) := by decide +kernel
theorem dX10_isIn_2 : decode cX10_isIn 2 = .ok (.lcmp, 1) := by decide +kernel
theorem dX10_isIn_3 : decode cX10_isIn 3 = .ok (.ifCond .lt 14, 3) := by decide +kernel
theorem dX10_isIn_6 : decode cX10_isIn 6 = .ok (.lload_n 0, 1) := by decide +kernel
theorem dX10_isIn_7 : decode cX10_isIn 7 = .ok (.lload 4, 2) := by decide +kernel
theorem dX10_isIn_9 : decode cX10_isIn 9 = .ok (.lcmp, 1) := by decide +kernel
theorem dX10_isIn_10 : decode cX10_isIn 10 = .ok (.ifCond .gt 7, 3) := by decide +kernel
theorem dX10_isIn_13 : decode cX10_isIn 13 = .ok (.iconst 1, 1) := by decide +kernel
theorem dX10_isIn_14 : decode cX10_isIn 14 = .ok (.goto 4, 3) := by decide +kernel
theorem dX10_isIn_17 : decode cX10_isIn 17 = .ok (.iconst 0, 1) := by decide +kernel
theorem dX10_isIn_18 : decode cX10_isIn 18 = .ok (.ireturn, 1) := by decide +kernel
theorem dX10_placeIsWrong_0 : decode cX10_placeIsWrong 0 = .ok (.iload_n 1, 1) := by decide +kernel
theorem dX10_placeIsWrong_1 : decode cX10_placeIsWrong 1 = .ok (.aload_n 0, 1) := by decide +kernel
theorem dX10_placeIsWrong_2 : decode cX10_placeIsWrong 2 = .ok (.getfield 83, 3) := by decide +kernel
theorem dX10_placeIsWrong_5 : decode cX10_placeIsWrong 5 = .ok (.iconst 1, 1) := by decide +kernel
theorem dX10_placeIsWrong_6 : decode cX10_placeIsWrong 6 = .ok (.isub, 1) := by decide +kernel
theorem dX10_placeIsWrong_7 : decode cX10_placeIsWrong 7 = .ok (.if_icmp .ne 14, 3) := by decide +kernel
theorem dX10_placeIsWrong_10 : decode cX10_placeIsWrong 10 = .ok (.aload_n 0, 1) := by decide +kernel
theorem dX10_placeIsWrong_11 : decode cX10_placeIsWrong 11 = .ok (.getfield 13, 3) := by decide +kernel
theorem dX10_placeIsWrong_14 : decode cX10_placeIsWrong 14 = .ok (.iload_n 1, 1) := by decide +kernel
theorem dX10_placeIsWrong_15 : decode cX10_placeIsWrong 15 = .ok (.iaload, 1) := by decide +kernel
theorem dX10_placeIsWrong_16 : decode cX10_placeIsWrong 16 = .ok (.ifCond .eq 5, 3) := by decide +kernel
theorem dX10_placeIsWrong_19 : decode cX10_placeIsWrong 19 = .ok (.iconst 1, 1) := by decide +kernel
theorem dX10_placeIsWrong_20 : decode cX10_placeIsWrong 20 = .ok (.ireturn, 1) := by decide +kernel
theorem dX10_placeIsWrong_21 : decode cX10_placeIsWrong 21 = .ok (.aload_n 0, 1) := by decide +kernel
theorem dX10_placeIsWrong_22 : decode cX10_placeIsWrong 22 = .ok (.getfield 13, 3) := by decide +kernel
theorem dX10_placeIsWrong_25 : decode cX10_placeIsWrong 25 = .ok (.iload_n 1, 1) := by decide +kernel
theorem dX10_placeIsWrong_26 : decode cX10_placeIsWrong 26 = .ok (.iaload, 1) := by decide +kernel
theorem dX10_placeIsWrong_27 : decode cX10_placeIsWrong 27 = .ok (.ifCond .lt 12, 3) := by decide +kernel
theorem dX10_placeIsWrong_30 : decode cX10_placeIsWrong 30 = .ok (.aload_n 0, 1) := by decide +kernel
theorem dX10_placeIsWrong_31 : decode cX10_placeIsWrong 31 = .ok (.getfield 7, 3) := by decide +kernel
theorem dX10_placeIsWrong_34 : decode cX10_placeIsWrong 34 = .ok (.iload_n 1, 1) := by decide +kernel
theorem dX10_placeIsWrong_35 : decode cX10_placeIsWrong 35 = .ok (.iaload, 1) := by decide +kernel
theorem dX10_placeIsWrong_36 : decode cX10_placeIsWrong 36 = .ok (.ifCond .ne 5, 3) := by decide +kernel
theorem dX10_placeIsWrong_39 : decode cX10_placeIsWrong 39 = .ok (.iconst 0, 1) := by decide +kernel
theorem dX10_placeIsWrong_40 : decode cX10_placeIsWrong 40 = .ok (.ireturn, 1) := by decide +kernel
theorem dX10_placeIsWrong_41 : decode cX10_placeIsWrong 41 = .ok (.aload_n 0, 1) := by decide +kernel
theorem dX10_placeIsWrong_42 : decode cX10_placeIsWrong 42 = .ok (.getfield 13, 3) := by decide +kernel
theorem dX10_placeIsWrong_45 : decode cX10_placeIsWrong 45 = .ok (.iload_n 1, 1) := by decide +kernel
theorem dX10_placeIsWrong_46 : decode cX10_placeIsWrong 46 = .ok (.iaload, 1) := by decide +kernel
theorem dX10_placeIsWrong_47 : decode cX10_placeIsWrong 47 = .ok (.aload_n 0, 1) := by decide +kernel
theorem dX10_placeIsWrong_48 : decode cX10_placeIsWrong 48 = .ok (.getfield 7, 3) := by decide +kernel
theorem dX10_placeIsWrong_51 : decode cX10_placeIsWrong 51 = .ok (.iload_n 1, 1) := by decide +kernel
theorem dX10_placeIsWrong_52 : decode cX10_placeIsWrong 52 = .ok (.iaload, 1) := by decide +kernel
theorem dX10_placeIsWrong_53 : decode cX10_placeIsWrong 53 = .ok (.iadd, 1) := by decide +kernel
theorem dX10_placeIsWrong_54 : decode cX10_placeIsWrong 54 = .ok (.aload_n 0, 1) := by decide +kernel
theorem dX10_placeIsWrong_55 : decode cX10_placeIsWrong 55 = .ok (.getfield 80, 3) := by decide +kernel
theorem dX10_placeIsWrong_58 : decode cX10_placeIsWrong 58 = .ok (.if_icmp .le 7, 3) := by decide +kernel
theorem dX10_placeIsWrong_61 : decode cX10_placeIsWrong 61 = .ok (.iconst 1, 1) := by decide +kernel
theorem dX10_placeIsWrong_62 : decode cX10_placeIsWrong 62 = .ok (.goto 4, 3) := by decide +kernel
theorem dX10_placeIsWrong_65 : decode cX10_placeIsWrong 65 = .ok (.iconst 0, 1) := by decide +kernel
theorem dX10_placeIsWrong_66 : decode cX10_placeIsWrong 66 = .ok (.istore_n 2, 1) := by decide +kernel
theorem dX10_placeIsWrong_67 : decode cX10_placeIsWrong 67 = .ok (.iconst 0, 1) := by decide +kernel
theorem dX10_placeIsWrong_68 : decode cX10_placeIsWrong 68 = .ok (.istore_n 3, 1) := by decide +kernel
theorem dX10_placeIsWrong_69 : decode cX10_placeIsWrong 69 = .ok (.iload_n 3, 1) := by decide +kernel
theorem dX10_placeIsWrong_70 : decode cX10_placeIsWrong 70 = .ok (.iload_n 1, 1) := by decide +kernel
theorem dX10_placeIsWrong_71 : decode cX10_placeIsWrong 71 = .ok (.if_icmp .ge 93, 3) := by decide +kernel
theorem dX10_placeIsWrong_74 : decode cX10_placeIsWrong 74 = .ok (.aload_n 0, 1) := by decide +kernel
theorem dX10_placeIsWrong_75 : decode cX10_placeIsWrong 75 = .ok (.getfield 13, 3) := by decide +kernel
theorem dX10_placeIsWrong_78 : decode cX10_placeIsWrong 78 = .ok (.iload_n 3, 1) := by decide +kernel
theorem dX10_placeIsWrong_79 : decode cX10_placeIsWrong 79 = .ok (.iaload, 1) := by decide +kernel
theorem dX10_placeIsWrong_80 : decode cX10_placeIsWrong 80 = .ok (.ifCond .lt 16, 3) := by decide +kernel
theorem dX10_placeIsWrong_83 : decode cX10_placeIsWrong 83 = .ok (.aload_n 0, 1) := by decide +kernel
theorem dX10_placeIsWrong_84 : decode cX10_placeIsWrong 84 = .ok (.getfield 7, 3) := by decide +kernel
theorem dX10_placeIsWrong_87 : decode cX10_placeIsWrong 87 = .ok (.iload_n 3, 1) := by decide +kernel
theorem dX10_placeIsWrong_88 : decode cX10_placeIsWrong 88 = .ok (.iaload, 1) := by decide +kernel
theorem dX10_placeIsWrong_89 : decode cX10_placeIsWrong 89 = .ok (.ifCond .le 7, 3) := by decide +kernel
theorem dX10_placeIsWrong_92 : decode cX10_placeIsWrong 92 = .ok (.iconst 1, 1) := by decide +kernel
theorem dX10_placeIsWrong_93 : decode cX10_placeIsWrong 93 = .ok (.goto 4, 3) := by decide +kernel
theorem dX10_placeIsWrong_96 : decode cX10_placeIsWrong 96 = .ok (.iconst 0, 1) := by decide +kernel
theorem dX10_placeIsWrong_97 : decode cX10_placeIsWrong 97 = .ok (.istore 4, 2) := by decide +kernel
theorem dX10_placeIsWrong_99 : decode cX10_placeIsWrong 99 = .ok (.iload_n 2, 1) := by decide +kernel
theorem dX10_placeIsWrong_100 : decode cX10_placeIsWrong 100 = .ok (.ifCond .ne 52, 3) := by decide +kernel
theorem dX10_placeIsWrong_103 : decode cX10_placeIsWrong 103 = .ok (.iload 4, 2) := by decide +kernel
theorem dX10_placeIsWrong_105 : decode cX10_placeIsWrong 105 = .ok (.ifCond .eq 51, 3) := by decide +kernel
theorem dX10_placeIsWrong_108 : decode cX10_placeIsWrong 108 = .ok (.aload_n 0, 1) := by decide +kernel
theorem dX10_placeIsWrong_109 : decode cX10_placeIsWrong 109 = .ok (.getfield 13, 3) := by decide +kernel
theorem dX10_placeIsWrong_112 : decode cX10_placeIsWrong 112 = .ok (.iload_n 3, 1) := by decide +kernel
theorem dX10_placeIsWrong_113 : decode cX10_placeIsWrong 113 = .ok (.iaload, 1) := by decide +kernel
theorem dX10_placeIsWrong_114 : decode cX10_placeIsWrong 114 = .ok (.aload_n 0, 1) := by decide +kernel
theorem dX10_placeIsWrong_115 : decode cX10_placeIsWrong 115 = .ok (.getfield 13, 3) := by decide +kernel
theorem dX10_placeIsWrong_118 : decode cX10_placeIsWrong 118 = .ok (.iload_n 1, 1) := by decide +kernel
theorem dX10_placeIsWrong_119 : decode cX10_placeIsWrong 119 = .ok (.iaload, 1) := by decide +kernel
theorem dX10_placeIsWrong_120 : decode cX10_placeIsWrong 120 = .ok (.aload_n 0, 1) := by decide +kernel
theorem dX10_placeIsWrong_121 : decode cX10_placeIsWrong 121 = .ok (.getfield 7, 3) := by decide +kernel
theorem dX10_placeIsWrong_124 : decode cX10_placeIsWrong 124 = .ok (.iload_n 1, 1) := by decide +kernel
theorem dX10_placeIsWrong_125 : decode cX10_placeIsWrong 125 = .ok (.iaload, 1) := by decide +kernel
theorem dX10_placeIsWrong_126 : decode cX10_placeIsWrong 126 = .ok (.iadd, 1) := by decide +kernel
theorem dX10_placeIsWrong_127 : decode cX10_placeIsWrong 127 = .ok (.if_icmp .ge 29, 3) := by decide +kernel
theorem dX10_placeIsWrong_130 : decode cX10_placeIsWrong 130 = .ok (.aload_n 0, 1) := by decide +kernel
theorem dX10_placeIsWrong_131 : decode cX10_placeIsWrong 131 = .ok (.getfield 13, 3) := by decide +kernel
theorem dX10_placeIsWrong_134 : decode cX10_placeIsWrong 134 = .ok (.iload_n 1, 1) := by decide +kernel
theorem dX10_placeIsWrong_135 : decode cX10_placeIsWrong 135 = .ok (.iaload, 1) := by decide +kernel
theorem dX10_placeIsWrong_136 : decode cX10_placeIsWrong 136 = .ok (.aload_n 0, 1) := by decide +kernel
theorem dX10_placeIsWrong_137 : decode cX10_placeIsWrong 137 = .ok (.getfield 13, 3) := by decide +kernel
theorem dX10_placeIsWrong_140 : decode cX10_placeIsWrong 140 = .ok (.iload_n 3, 1) := by decide +kernel
theorem dX10_placeIsWrong_141 : decode cX10_placeIsWrong 141 = .ok (.iaload, 1) := by decide +kernel
theorem dX10_placeIsWrong_142 : decode cX10_placeIsWrong 142 = .ok (.aload_n 0, 1) := by decide +kernel
theorem dX10_placeIsWrong_143 : decode cX10_placeIsWrong 143 = .ok (.getfield 7, 3) := by decide +kernel
theorem dX10_placeIsWrong_146 : decode cX10_placeIsWrong 146 = .ok (.iload_n 3, 1) := by decide +kernel
theorem dX10_placeIsWrong_147 : decode cX10_placeIsWrong 147 = .ok (.iaload, 1) := by decide +kernel
theorem dX10_placeIsWrong_148 : decode cX10_placeIsWrong 148 = .ok (.iadd, 1) := by decide +kernel
theorem dX10_placeIsWrong_149 : decode cX10_placeIsWrong 149 = .ok (.if_icmp .ge 7, 3) := by decide +kernel
theorem dX10_placeIsWrong_152 : decode cX10_placeIsWrong 152 = .ok (.iconst 1, 1) := by decide +kernel
theorem dX10_placeIsWrong_153 : decode cX10_placeIsWrong 153 = .ok (.goto 4, 3) := by decide +kernel
theorem dX10_placeIsWrong_156 : decode cX10_placeIsWrong 156 = .ok (.iconst 0, 1) := by decide +kernel
theorem dX10_placeIsWrong_157 : decode cX10_placeIsWrong 157 = .ok (.istore_n 2, 1) := by decide +kernel
theorem dX10_placeIsWrong_158 : decode cX10_placeIsWrong 158 = .ok (.iinc 3 1, 3) := by decide +kernel
theorem dX10_placeIsWrong_161 : decode cX10_placeIsWrong 161 = .ok (.goto (-92), 3) := by decide +kernel
theorem dX10_placeIsWrong_164 : decode cX10_placeIsWrong 164 = .ok (.iload_n 2, 1) := by decide +kernel
theorem dX10_placeIsWrong_165 : decode cX10_placeIsWrong 165 = .ok (.ireturn, 1) := by decide +kernel
theorem dX10_isWrongNumber_0 : decode cX10_isWrongNumber 0 = .ok (.aload_n 0, 1) := by decide +kernel
theorem dX10_isWrongNumber_1 : decode cX10_isWrongNumber 1 = .ok (.getfield 19, 3) := by decide +kernel
theorem dX10_isWrongNumber_4 : decode cX10_isWrongNumber 4 = .ok (.iload_n 1, 1) := by decide +kernel
theorem dX10_isWrongNumber_5 : decode cX10_isWrongNumber 5 = .ok (.iaload, 1) := by decide +kernel
theorem dX10_isWrongNumber_6 : decode cX10_isWrongNumber 6 = .ok (.tableswitch 182 3 17 #[166, 166, 182, 182, 74, 97, 182, 182, 182, 120, 182, 182, 182, 182, 143], 74) := by decide +kernel
theorem dX10_isWrongNumber_80 : decode cX10_isWrongNumber 80 = .ok (.aload_n 0, 1) := by decide +kernel
theorem dX10_isWrongNumber_81 : decode cX10_isWrongNumber 81 = .ok (.getfield 22, 3) := by decide +kernel
theorem dX10_isWrongNumber_84 : decode cX10_isWrongNumber 84 = .ok (.iload_n 1, 1) := by decide +kernel
theorem dX10_isWrongNumber_85 : decode cX10_isWrongNumber 85 = .ok (.iaload, 1) := by decide +kernel
theorem dX10_isWrongNumber_86 : decode cX10_isWrongNumber 86 = .ok (.i2l, 1) := by decide +kernel
theorem dX10_isWrongNumber_87 : decode cX10_isWrongNumber 87 = .ok (.lconst 0, 1) := by decide +kernel
theorem dX10_isWrongNumber_88 : decode cX10_isWrongNumber 88 = .ok (.ldc2_w 97, 3) := by decide +kernel
theorem dX10_isWrongNumber_91 : decode cX10_isWrongNumber 91 = .ok (.invokestatic 99, 3) := by decide +kernel
theorem dX10_isWrongNumber_94 : decode cX10_isWrongNumber 94 = .ok (.ifCond .ne 7, 3) := by decide +kernel
theorem dX10_isWrongNumber_97 : decode cX10_isWrongNumber 97 = .ok (.iconst 1, 1) := by decide +kernel
theorem dX10_isWrongNumber_98 : decode cX10_isWrongNumber 98 = .ok (.goto 4, 3) := by decide +kernel
theorem dX10_isWrongNumber_101 : decode cX10_isWrongNumber 101 = .ok (.iconst 0, 1) := by decide +kernel
theorem dX10_isWrongNumber_102 : decode cX10_isWrongNumber 102 = .ok (.ireturn, 1) := by decide +kernel
theorem dX10_isWrongNumber_103 : decode cX10_isWrongNumber 103 = .ok (.aload_n 0, 1) := by decide +kernel
theorem dX10_isWrongNumber_104 : decode cX10_isWrongNumber 104 = .ok (.getfield 22, 3) := by decide +kernel
theorem dX10_isWrongNumber_107 : decode cX10_isWrongNumber 107 = .ok (.iload_n 1, 1) := by decide +kernel
theorem dX10_isWrongNumber_108 : decode cX10_isWrongNumber 108 = .ok (.iaload, 1) := by decide +kernel
theorem dX10_isWrongNumber_109 : decode cX10_isWrongNumber 109 = .ok (.i2l, 1) := by decide +kernel
theorem dX10_isWrongNumber_110 : decode cX10_isWrongNumber 110 = .ok (.lconst 0, 1) := by decide +kernel
theorem dX10_isWrongNumber_111 : decode cX10_isWrongNumber 111 = .ok (.ldc2_w 103, 3) := by decide +kernel
theorem dX10_isWrongNumber_114 : decode cX10_isWrongNumber 114 = .ok (.invokestatic 99, 3) := by decide +kernel
theorem dX10_isWrongNumber_117 : decode cX10_isWrongNumber 117 = .ok (.ifCond .ne 7, 3) := by decide +kernel
theorem dX10_isWrongNumber_120 : decode cX10_isWrongNumber 120 = .ok (.iconst 1, 1) := by decide +kernel
theorem dX10_isWrongNumber_121 : decode cX10_isWrongNumber 121 = .ok (.goto 4, 3) := by decide +kernel
theorem dX10_isWrongNumber_124 : decode cX10_isWrongNumber 124 = .ok (.iconst 0, 1) := by decide +kernel
theorem dX10_isWrongNumber_125 : decode cX10_isWrongNumber 125 = .ok (.ireturn, 1) := by decide +kernel
theorem dX10_isWrongNumber_126 : decode cX10_isWrongNumber 126 = .ok (.aload_n 0, 1) := by decide +kernel
theorem dX10_isWrongNumber_127 : decode cX10_isWrongNumber 127 = .ok (.getfield 25, 3) := by decide +kernel
theorem dX10_isWrongNumber_130 : decode cX10_isWrongNumber 130 = .ok (.iload_n 1, 1) := by decide +kernel
theorem dX10_isWrongNumber_131 : decode cX10_isWrongNumber 131 = .ok (.iaload, 1) := by decide +kernel
theorem dX10_isWrongNumber_132 : decode cX10_isWrongNumber 132 = .ok (.i2l, 1) := by decide +kernel
theorem dX10_isWrongNumber_133 : decode cX10_isWrongNumber 133 = .ok (.lconst 0, 1) := by decide +kernel
theorem dX10_isWrongNumber_134 : decode cX10_isWrongNumber 134 = .ok (.ldc2_w 105, 3) := by decide +kernel
theorem dX10_isWrongNumber_137 : decode cX10_isWrongNumber 137 = .ok (.invokestatic 99, 3) := by decide +kernel
theorem dX10_isWrongNumber_140 : decode cX10_isWrongNumber 140 = .ok (.ifCond .ne 7, 3) := by decide +kernel
theorem dX10_isWrongNumber_143 : decode cX10_isWrongNumber 143 = .ok (.iconst 1, 1) := by decide +kernel
theorem dX10_isWrongNumber_144 : decode cX10_isWrongNumber 144 = .ok (.goto 4, 3) := by decide +kernel
theorem dX10_isWrongNumber_147 : decode cX10_isWrongNumber 147 = .ok (.iconst 0, 1) := by decide +kernel
theorem dX10_isWrongNumber_148 : decode cX10_isWrongNumber 148 = .ok (.ireturn, 1) := by decide +kernel
theorem dX10_isWrongNumber_149 : decode cX10_isWrongNumber 149 = .ok (.aload_n 0, 1) := by decide +kernel
theorem dX10_isWrongNumber_150 : decode cX10_isWrongNumber 150 = .ok (.getfield 22, 3) := by decide +kernel
theorem dX10_isWrongNumber_153 : decode cX10_isWrongNumber 153 = .ok (.iload_n 1, 1) := by decide +kernel
theorem dX10_isWrongNumber_154 : decode cX10_isWrongNumber 154 = .ok (.iaload, 1) := by decide +kernel
theorem dX10_isWrongNumber_155 : decode cX10_isWrongNumber 155 = .ok (.i2l, 1) := by decide +kernel
theorem dX10_isWrongNumber_156 : decode cX10_isWrongNumber 156 = .ok (.lconst 0, 1) := by decide +kernel
theorem dX10_isWrongNumber_157 : decode cX10_isWrongNumber 157 = .ok (.ldc2_w 107, 3) := by decide +kernel
theorem dX10_isWrongNumber_160 : decode cX10_isWrongNumber 160 = .ok (.invokestatic 99, 3) := by decide +kernel
theorem dX10_isWrongNumber_163 : decode cX10_isWrongNumber 163 = .ok (.ifCond .ne 7, 3) := by decide +kernel
theorem dX10_isWrongNumber_166 : decode cX10_isWrongNumber 166 = .ok (.iconst 1, 1) := by decide +kernel
theorem dX10_isWrongNumber_167 : decode cX10_isWrongNumber 167 = .ok (.goto 4, 3) := by decide +kernel
theorem dX10_isWrongNumber_170 : decode cX10_isWrongNumber 170 = .ok (.iconst 0, 1) := by decide +kernel
theorem dX10_isWrongNumber_171 : decode cX10_isWrongNumber 171 = .ok (.ireturn, 1) := by decide +kernel
theorem dX10_isWrongNumber_172 : decode cX10_isWrongNumber 172 = .ok (.aload_n 0, 1) := by decide +kernel
theorem dX10_isWrongNumber_173 : decode cX10_isWrongNumber 173 = .ok (.getfield 28, 3) := by decide +kernel
theorem dX10_isWrongNumber_176 : decode cX10_isWrongNumber 176 = .ok (.iload_n 1, 1) := by decide +kernel
theorem dX10_isWrongNumber_177 : decode cX10_isWrongNumber 177 = .ok (.iaload, 1) := by decide +kernel
theorem dX10_isWrongNumber_178 : decode cX10_isWrongNumber 178 = .ok (.iconst 1, 1) := by decide +kernel
theorem dX10_isWrongNumber_179 : decode cX10_isWrongNumber 179 = .ok (.if_icmp .ge 7, 3) := by decide +kernel
theorem dX10_isWrongNumber_182 : decode cX10_isWrongNumber 182 = .ok (.iconst 1, 1) := by decide +kernel
theorem dX10_isWrongNumber_183 : decode cX10_isWrongNumber 183 = .ok (.goto 4, 3) := by decide +kernel
theorem dX10_isWrongNumber_186 : decode cX10_isWrongNumber 186 = .ok (.iconst 0, 1) := by decide +kernel
theorem dX10_isWrongNumber_187 : decode cX10_isWrongNumber 187 = .ok (.ireturn, 1) := by decide +kernel
theorem dX10_isWrongNumber_188 : decode cX10_isWrongNumber 188 = .ok (.aload_n 0, 1) := by decide +kernel
theorem dX10_isWrongNumber_189 : decode cX10_isWrongNumber 189 = .ok (.getfield 19, 3) := by decide +kernel
theorem dX10_isWrongNumber_192 : decode cX10_isWrongNumber 192 = .ok (.iload_n 1, 1) := by decide +kernel
theorem dX10_isWrongNumber_193 : decode cX10_isWrongNumber 193 = .ok (.iaload, 1) := by decide +kernel
theorem dX10_isWrongNumber_194 : decode cX10_isWrongNumber 194 = .ok (.i2l, 1) := by decide +kernel
theorem dX10_isWrongNumber_195 : decode cX10_isWrongNumber 195 = .ok (.lconst 0, 1) := by decide +kernel
theorem dX10_isWrongNumber_196 : decode cX10_isWrongNumber 196 = .ok (.ldc2_w 109, 3) := by decide +kernel
theorem dX10_isWrongNumber_199 : decode cX10_isWrongNumber 199 = .ok (.invokestatic 99, 3) := by decide +kernel
theorem dX10_isWrongNumber_202 : decode cX10_isWrongNumber 202 = .ok (.ifCond .ne 7, 3) := by decide +kernel
theorem dX10_isWrongNumber_205 : decode cX10_isWrongNumber 205 = .ok (.iconst 1, 1) := by decide +kernel
theorem dX10_isWrongNumber_206 : decode cX10_isWrongNumber 206 = .ok (.goto 4, 3) := by decide +kernel
theorem dX10_isWrongNumber_209 : decode cX10_isWrongNumber 209 = .ok (.iconst 0, 1) := by decide +kernel
theorem dX10_isWrongNumber_210 : decode cX10_isWrongNumber 210 = .ok (.ireturn, 1) := by decide +kernel
theorem dX10_namesUnit_0 : decode cX10_namesUnit 0 = .ok (.aload_n 0, 1) := by decide +kernel
theorem dX10_namesUnit_1 : decode cX10_namesUnit 1 = .ok (.getfield 19, 3) := by decide +kernel
theorem dX10_namesUnit_4 : decode cX10_namesUnit 4 = .ok (.iload_n 1, 1) := by decide +kernel
theorem dX10_namesUnit_5 : decode cX10_namesUnit 5 = .ok (.iaload, 1) := by decide +kernel
theorem dX10_namesUnit_6 : decode cX10_namesUnit 6 = .ok (.istore_n 2, 1) := by decide +kernel
theorem dX10_namesUnit_7 : decode cX10_namesUnit 7 = .ok (.iload_n 2, 1) := by decide +kernel
theorem dX10_namesUnit_8 : decode cX10_namesUnit 8 = .ok (.iconst 5, 1) := by decide +kernel
theorem dX10_namesUnit_9 : decode cX10_namesUnit 9 = .ok (.if_icmp .eq 21, 3) := by decide +kernel
theorem dX10_namesUnit_12 : decode cX10_namesUnit 12 = .ok (.iload_n 2, 1) := by decide +kernel
theorem dX10_namesUnit_13 : decode cX10_namesUnit 13 = .ok (.bipush 6, 2) := by decide +kernel
theorem dX10_namesUnit_15 : decode cX10_namesUnit 15 = .ok (.if_icmp .eq 15, 3) := by decide +kernel
theorem dX10_namesUnit_18 : decode cX10_namesUnit 18 = .ok (.iload_n 2, 1) := by decide +kernel
theorem dX10_namesUnit_19 : decode cX10_namesUnit 19 = .ok (.bipush 15, 2) := by decide +kernel
theorem dX10_namesUnit_21 : decode cX10_namesUnit 21 = .ok (.if_icmp .eq 9, 3) := by decide +kernel
theorem dX10_namesUnit_24 : decode cX10_namesUnit 24 = .ok (.iload_n 2, 1) := by decide +kernel
theorem dX10_namesUnit_25 : decode cX10_namesUnit 25 = .ok (.bipush 16, 2) := by decide +kernel
theorem dX10_namesUnit_27 : decode cX10_namesUnit 27 = .ok (.if_icmp .ne 7, 3) := by decide +kernel
theorem dX10_namesUnit_30 : decode cX10_namesUnit 30 = .ok (.iconst 1, 1) := by decide +kernel
theorem dX10_namesUnit_31 : decode cX10_namesUnit 31 = .ok (.goto 4, 3) := by decide +kernel
theorem dX10_namesUnit_34 : decode cX10_namesUnit 34 = .ok (.iconst 0, 1) := by decide +kernel
theorem dX10_namesUnit_35 : decode cX10_namesUnit 35 = .ok (.ireturn, 1) := by decide +kernel
theorem dX10_isWrongUnit_0 : decode cX10_isWrongUnit 0 = .ok (.aload_n 0, 1) := by decide +kernel
theorem dX10_isWrongUnit_1 : decode cX10_isWrongUnit 1 = .ok (.iload_n 1, 1) := by decide +kernel
theorem dX10_isWrongUnit_2 : decode cX10_isWrongUnit 2 = .ok (.invokevirtual 111, 3) := by decide +kernel
theorem dX10_isWrongUnit_5 : decode cX10_isWrongUnit 5 = .ok (.ifCond .ne 5, 3) := by decide +kernel
theorem dX10_isWrongUnit_8 : decode cX10_isWrongUnit 8 = .ok (.iconst 0, 1) := by decide +kernel
theorem dX10_isWrongUnit_9 : decode cX10_isWrongUnit 9 = .ok (.ireturn, 1) := by decide +kernel
theorem dX10_isWrongUnit_10 : decode cX10_isWrongUnit 10 = .ok (.aload_n 0, 1) := by decide +kernel
theorem dX10_isWrongUnit_11 : decode cX10_isWrongUnit 11 = .ok (.getfield 22, 3) := by decide +kernel
theorem dX10_isWrongUnit_14 : decode cX10_isWrongUnit 14 = .ok (.iload_n 1, 1) := by decide +kernel
theorem dX10_isWrongUnit_15 : decode cX10_isWrongUnit 15 = .ok (.iaload, 1) := by decide +kernel
theorem dX10_isWrongUnit_16 : decode cX10_isWrongUnit 16 = .ok (.i2l, 1) := by decide +kernel
theorem dX10_isWrongUnit_17 : decode cX10_isWrongUnit 17 = .ok (.lconst 0, 1) := by decide +kernel
theorem dX10_isWrongUnit_18 : decode cX10_isWrongUnit 18 = .ok (.iload_n 2, 1) := by decide +kernel
theorem dX10_isWrongUnit_19 : decode cX10_isWrongUnit 19 = .ok (.i2l, 1) := by decide +kernel
theorem dX10_isWrongUnit_20 : decode cX10_isWrongUnit 20 = .ok (.lconst 1, 1) := by decide +kernel
theorem dX10_isWrongUnit_21 : decode cX10_isWrongUnit 21 = .ok (.lsub, 1) := by decide +kernel
theorem dX10_isWrongUnit_22 : decode cX10_isWrongUnit 22 = .ok (.invokestatic 99, 3) := by decide +kernel
theorem dX10_isWrongUnit_25 : decode cX10_isWrongUnit 25 = .ok (.ifCond .ne 5, 3) := by decide +kernel
theorem dX10_isWrongUnit_28 : decode cX10_isWrongUnit 28 = .ok (.iconst 1, 1) := by decide +kernel
theorem dX10_isWrongUnit_29 : decode cX10_isWrongUnit 29 = .ok (.ireturn, 1) := by decide +kernel
theorem dX10_isWrongUnit_30 : decode cX10_isWrongUnit 30 = .ok (.aload_n 0, 1) := by decide +kernel
theorem dX10_isWrongUnit_31 : decode cX10_isWrongUnit 31 = .ok (.getfield 19, 3) := by decide +kernel
theorem dX10_isWrongUnit_34 : decode cX10_isWrongUnit 34 = .ok (.iload_n 1, 1) := by decide +kernel
theorem dX10_isWrongUnit_35 : decode cX10_isWrongUnit 35 = .ok (.iaload, 1) := by decide +kernel
theorem dX10_isWrongUnit_36 : decode cX10_isWrongUnit 36 = .ok (.bipush 15, 2) := by decide +kernel
theorem dX10_isWrongUnit_38 : decode cX10_isWrongUnit 38 = .ok (.if_icmp .ne 25, 3) := by decide +kernel
theorem dX10_isWrongUnit_41 : decode cX10_isWrongUnit 41 = .ok (.aload_n 0, 1) := by decide +kernel
theorem dX10_isWrongUnit_42 : decode cX10_isWrongUnit 42 = .ok (.getfield 13, 3) := by decide +kernel
theorem dX10_isWrongUnit_45 : decode cX10_isWrongUnit 45 = .ok (.aload_n 0, 1) := by decide +kernel
theorem dX10_isWrongUnit_46 : decode cX10_isWrongUnit 46 = .ok (.getfield 22, 3) := by decide +kernel
theorem dX10_isWrongUnit_49 : decode cX10_isWrongUnit 49 = .ok (.iload_n 1, 1) := by decide +kernel
theorem dX10_isWrongUnit_50 : decode cX10_isWrongUnit 50 = .ok (.iaload, 1) := by decide +kernel
theorem dX10_isWrongUnit_51 : decode cX10_isWrongUnit 51 = .ok (.iaload, 1) := by decide +kernel
theorem dX10_isWrongUnit_52 : decode cX10_isWrongUnit 52 = .ok (.ifCond .lt 7, 3) := by decide +kernel
theorem dX10_isWrongUnit_55 : decode cX10_isWrongUnit 55 = .ok (.iconst 1, 1) := by decide +kernel
theorem dX10_isWrongUnit_56 : decode cX10_isWrongUnit 56 = .ok (.goto 26, 3) := by decide +kernel
theorem dX10_isWrongUnit_59 : decode cX10_isWrongUnit 59 = .ok (.iconst 0, 1) := by decide +kernel
theorem dX10_isWrongUnit_60 : decode cX10_isWrongUnit 60 = .ok (.goto 22, 3) := by decide +kernel
theorem dX10_isWrongUnit_63 : decode cX10_isWrongUnit 63 = .ok (.aload_n 0, 1) := by decide +kernel
theorem dX10_isWrongUnit_64 : decode cX10_isWrongUnit 64 = .ok (.getfield 13, 3) := by decide +kernel
theorem dX10_isWrongUnit_67 : decode cX10_isWrongUnit 67 = .ok (.aload_n 0, 1) := by decide +kernel
theorem dX10_isWrongUnit_68 : decode cX10_isWrongUnit 68 = .ok (.getfield 22, 3) := by decide +kernel
theorem dX10_isWrongUnit_71 : decode cX10_isWrongUnit 71 = .ok (.iload_n 1, 1) := by decide +kernel
theorem dX10_isWrongUnit_72 : decode cX10_isWrongUnit 72 = .ok (.iaload, 1) := by decide +kernel
theorem dX10_isWrongUnit_73 : decode cX10_isWrongUnit 73 = .ok (.iaload, 1) := by decide +kernel
theorem dX10_isWrongUnit_74 : decode cX10_isWrongUnit 74 = .ok (.ifCond .ge 7, 3) := by decide +kernel
theorem dX10_isWrongUnit_77 : decode cX10_isWrongUnit 77 = .ok (.iconst 1, 1) := by decide +kernel
theorem dX10_isWrongUnit_78 : decode cX10_isWrongUnit 78 = .ok (.goto 4, 3) := by decide +kernel
theorem dX10_isWrongUnit_81 : decode cX10_isWrongUnit 81 = .ok (.iconst 0, 1) := by decide +kernel
theorem dX10_isWrongUnit_82 : decode cX10_isWrongUnit 82 = .ok (.ireturn, 1) := by decide +kernel
theorem dX10_firstCell_0 : decode cX10_firstCell 0 = .ok (.aload_n 0, 1) := by decide +kernel
theorem dX10_firstCell_1 : decode cX10_firstCell 1 = .ok (.getfield 19, 3) := by decide +kernel
theorem dX10_firstCell_4 : decode cX10_firstCell 4 = .ok (.iload_n 1, 1) := by decide +kernel
theorem dX10_firstCell_5 : decode cX10_firstCell 5 = .ok (.iaload, 1) := by decide +kernel
theorem dX10_firstCell_6 : decode cX10_firstCell 6 = .ok (.istore_n 2, 1) := by decide +kernel
theorem dX10_firstCell_7 : decode cX10_firstCell 7 = .ok (.iload_n 2, 1) := by decide +kernel
theorem dX10_firstCell_8 : decode cX10_firstCell 8 = .ok (.iconst 5, 1) := by decide +kernel
theorem dX10_firstCell_9 : decode cX10_firstCell 9 = .ok (.if_icmp .eq 21, 3) := by decide +kernel
theorem dX10_firstCell_12 : decode cX10_firstCell 12 = .ok (.iload_n 2, 1) := by decide +kernel
theorem dX10_firstCell_13 : decode cX10_firstCell 13 = .ok (.bipush 6, 2) := by decide +kernel
theorem dX10_firstCell_15 : decode cX10_firstCell 15 = .ok (.if_icmp .eq 15, 3) := by decide +kernel
theorem dX10_firstCell_18 : decode cX10_firstCell 18 = .ok (.iload_n 2, 1) := by decide +kernel
theorem dX10_firstCell_19 : decode cX10_firstCell 19 = .ok (.bipush 15, 2) := by decide +kernel
theorem dX10_firstCell_21 : decode cX10_firstCell 21 = .ok (.if_icmp .eq 9, 3) := by decide +kernel
theorem dX10_firstCell_24 : decode cX10_firstCell 24 = .ok (.iload_n 2, 1) := by decide +kernel
theorem dX10_firstCell_25 : decode cX10_firstCell 25 = .ok (.bipush 17, 2) := by decide +kernel
theorem dX10_firstCell_27 : decode cX10_firstCell 27 = .ok (.if_icmp .ne 13, 3) := by decide +kernel
theorem dX10_firstCell_30 : decode cX10_firstCell 30 = .ok (.aload_n 0, 1) := by decide +kernel
theorem dX10_firstCell_31 : decode cX10_firstCell 31 = .ok (.getfield 25, 3) := by decide +kernel
theorem dX10_firstCell_34 : decode cX10_firstCell 34 = .ok (.iload_n 1, 1) := by decide +kernel
theorem dX10_firstCell_35 : decode cX10_firstCell 35 = .ok (.iaload, 1) := by decide +kernel
theorem dX10_firstCell_36 : decode cX10_firstCell 36 = .ok (.i2l, 1) := by decide +kernel
theorem dX10_firstCell_37 : decode cX10_firstCell 37 = .ok (.goto 10, 3) := by decide +kernel
theorem dX10_firstCell_40 : decode cX10_firstCell 40 = .ok (.aload_n 0, 1) := by decide +kernel
theorem dX10_firstCell_41 : decode cX10_firstCell 41 = .ok (.getfield 22, 3) := by decide +kernel
theorem dX10_firstCell_44 : decode cX10_firstCell 44 = .ok (.iload_n 1, 1) := by decide +kernel
theorem dX10_firstCell_45 : decode cX10_firstCell 45 = .ok (.iaload, 1) := by decide +kernel
theorem dX10_firstCell_46 : decode cX10_firstCell 46 = .ok (.i2l, 1) := by decide +kernel
theorem dX10_firstCell_47 : decode cX10_firstCell 47 = .ok (.lreturn, 1) := by decide +kernel
theorem dX10_cellsOf_0 : decode cX10_cellsOf 0 = .ok (.aload_n 0, 1) := by decide +kernel
theorem dX10_cellsOf_1 : decode cX10_cellsOf 1 = .ok (.getfield 19, 3) := by decide +kernel
theorem dX10_cellsOf_4 : decode cX10_cellsOf 4 = .ok (.iload_n 1, 1) := by decide +kernel
theorem dX10_cellsOf_5 : decode cX10_cellsOf 5 = .ok (.iaload, 1) := by decide +kernel
theorem dX10_cellsOf_6 : decode cX10_cellsOf 6 = .ok (.tableswitch 120 1 17 #[82, 82, 84, 84, 82, 82, 120, 120, 120, 120, 120, 82, 82, 120, 91, 120, 103], 82) := by decide +kernel
theorem dX10_cellsOf_88 : decode cX10_cellsOf 88 = .ok (.iconst 1, 1) := by decide +kernel
theorem dX10_cellsOf_89 : decode cX10_cellsOf 89 = .ok (.ireturn, 1) := by decide +kernel
theorem dX10_cellsOf_90 : decode cX10_cellsOf 90 = .ok (.aload_n 0, 1) := by decide +kernel
theorem dX10_cellsOf_91 : decode cX10_cellsOf 91 = .ok (.getfield 28, 3) := by decide +kernel
theorem dX10_cellsOf_94 : decode cX10_cellsOf 94 = .ok (.iload_n 1, 1) := by decide +kernel
theorem dX10_cellsOf_95 : decode cX10_cellsOf 95 = .ok (.iaload, 1) := by decide +kernel
theorem dX10_cellsOf_96 : decode cX10_cellsOf 96 = .ok (.ireturn, 1) := by decide +kernel
theorem dX10_cellsOf_97 : decode cX10_cellsOf 97 = .ok (.aload_n 0, 1) := by decide +kernel
theorem dX10_cellsOf_98 : decode cX10_cellsOf 98 = .ok (.getfield 7, 3) := by decide +kernel
theorem dX10_cellsOf_101 : decode cX10_cellsOf 101 = .ok (.aload_n 0, 1) := by decide +kernel
theorem dX10_cellsOf_102 : decode cX10_cellsOf 102 = .ok (.getfield 22, 3) := by decide +kernel
theorem dX10_cellsOf_105 : decode cX10_cellsOf 105 = .ok (.iload_n 1, 1) := by decide +kernel
theorem dX10_cellsOf_106 : decode cX10_cellsOf 106 = .ok (.iaload, 1) := by decide +kernel
theorem dX10_cellsOf_107 : decode cX10_cellsOf 107 = .ok (.iaload, 1) := by decide +kernel
theorem dX10_cellsOf_108 : decode cX10_cellsOf 108 = .ok (.ireturn, 1) := by decide +kernel
theorem dX10_cellsOf_109 : decode cX10_cellsOf 109 = .ok (.aload_n 0, 1) := by decide +kernel
theorem dX10_cellsOf_110 : decode cX10_cellsOf 110 = .ok (.getfield 22, 3) := by decide +kernel
theorem dX10_cellsOf_113 : decode cX10_cellsOf 113 = .ok (.iload_n 1, 1) := by decide +kernel
theorem dX10_cellsOf_114 : decode cX10_cellsOf 114 = .ok (.iaload, 1) := by decide +kernel
theorem dX10_cellsOf_115 : decode cX10_cellsOf 115 = .ok (.iconst 5, 1) := by decide +kernel
theorem dX10_cellsOf_116 : decode cX10_cellsOf 116 = .ok (.if_icmp .ge 8, 3) := by decide +kernel
theorem dX10_cellsOf_119 : decode cX10_cellsOf 119 = .ok (.bipush 6, 2) := by decide +kernel
theorem dX10_cellsOf_121 : decode cX10_cellsOf 121 = .ok (.goto 4, 3) := by decide +kernel
theorem dX10_cellsOf_124 : decode cX10_cellsOf 124 = .ok (.iconst 3, 1) := by decide +kernel
theorem dX10_cellsOf_125 : decode cX10_cellsOf 125 = .ok (.ireturn, 1) := by decide +kernel
theorem dX10_cellsOf_126 : decode cX10_cellsOf 126 = .ok (.iconst 0, 1) := by decide +kernel
theorem dX10_cellsOf_127 : decode cX10_cellsOf 127 = .ok (.ireturn, 1) := by decide +kernel
theorem dX10_isWrongCell_0 : decode cX10_isWrongCell 0 = .ok (.aload_n 0, 1) := by decide +kernel
theorem dX10_isWrongCell_1 : decode cX10_isWrongCell 1 = .ok (.getfield 19, 3) := by decide +kernel
theorem dX10_isWrongCell_4 : decode cX10_isWrongCell 4 = .ok (.iload_n 1, 1) := by decide +kernel
theorem dX10_isWrongCell_5 : decode cX10_isWrongCell 5 = .ok (.iaload, 1) := by decide +kernel
theorem dX10_isWrongCell_6 : decode cX10_isWrongCell 6 = .ok (.istore_n 3, 1) := by decide +kernel
theorem dX10_isWrongCell_7 : decode cX10_isWrongCell 7 = .ok (.iload_n 3, 1) := by decide +kernel
theorem dX10_isWrongCell_8 : decode cX10_isWrongCell 8 = .ok (.bipush 15, 2) := by decide +kernel
theorem dX10_isWrongCell_10 : decode cX10_isWrongCell 10 = .ok (.if_icmp .ne 14, 3) := by decide +kernel
theorem dX10_isWrongCell_13 : decode cX10_isWrongCell 13 = .ok (.aload_n 0, 1) := by decide +kernel
theorem dX10_isWrongCell_14 : decode cX10_isWrongCell 14 = .ok (.getfield 25, 3) := by decide +kernel
theorem dX10_isWrongCell_17 : decode cX10_isWrongCell 17 = .ok (.iload_n 1, 1) := by decide +kernel
theorem dX10_isWrongCell_18 : decode cX10_isWrongCell 18 = .ok (.iaload, 1) := by decide +kernel
theorem dX10_isWrongCell_19 : decode cX10_isWrongCell 19 = .ok (.ifCond .ge 5, 3) := by decide +kernel
theorem dX10_isWrongCell_22 : decode cX10_isWrongCell 22 = .ok (.iconst 1, 1) := by decide +kernel
theorem dX10_isWrongCell_23 : decode cX10_isWrongCell 23 = .ok (.ireturn, 1) := by decide +kernel
theorem dX10_isWrongCell_24 : decode cX10_isWrongCell 24 = .ok (.aload_n 0, 1) := by decide +kernel
theorem dX10_isWrongCell_25 : decode cX10_isWrongCell 25 = .ok (.iload_n 1, 1) := by decide +kernel
theorem dX10_isWrongCell_26 : decode cX10_isWrongCell 26 = .ok (.invokevirtual 114, 3) := by decide +kernel
theorem dX10_isWrongCell_29 : decode cX10_isWrongCell 29 = .ok (.ifCond .ne 5, 3) := by decide +kernel
theorem dX10_isWrongCell_32 : decode cX10_isWrongCell 32 = .ok (.iconst 0, 1) := by decide +kernel
theorem dX10_isWrongCell_33 : decode cX10_isWrongCell 33 = .ok (.ireturn, 1) := by decide +kernel
theorem dX10_isWrongCell_34 : decode cX10_isWrongCell 34 = .ok (.iload_n 3, 1) := by decide +kernel
theorem dX10_isWrongCell_35 : decode cX10_isWrongCell 35 = .ok (.iconst 5, 1) := by decide +kernel
theorem dX10_isWrongCell_36 : decode cX10_isWrongCell 36 = .ok (.if_icmp .eq 9, 3) := by decide +kernel
theorem dX10_isWrongCell_39 : decode cX10_isWrongCell 39 = .ok (.iload_n 3, 1) := by decide +kernel
theorem dX10_isWrongCell_40 : decode cX10_isWrongCell 40 = .ok (.bipush 6, 2) := by decide +kernel
theorem dX10_isWrongCell_42 : decode cX10_isWrongCell 42 = .ok (.if_icmp .ne 17, 3) := by decide +kernel
theorem dX10_isWrongCell_45 : decode cX10_isWrongCell 45 = .ok (.aload_n 0, 1) := by decide +kernel
theorem dX10_isWrongCell_46 : decode cX10_isWrongCell 46 = .ok (.getfield 7, 3) := by decide +kernel
theorem dX10_isWrongCell_49 : decode cX10_isWrongCell 49 = .ok (.aload_n 0, 1) := by decide +kernel
theorem dX10_isWrongCell_50 : decode cX10_isWrongCell 50 = .ok (.getfield 22, 3) := by decide +kernel
theorem dX10_isWrongCell_53 : decode cX10_isWrongCell 53 = .ok (.iload_n 1, 1) := by decide +kernel
theorem dX10_isWrongCell_54 : decode cX10_isWrongCell 54 = .ok (.iaload, 1) := by decide +kernel
theorem dX10_isWrongCell_55 : decode cX10_isWrongCell 55 = .ok (.iaload, 1) := by decide +kernel
theorem dX10_isWrongCell_56 : decode cX10_isWrongCell 56 = .ok (.goto 9, 3) := by decide +kernel
theorem dX10_isWrongCell_59 : decode cX10_isWrongCell 59 = .ok (.aload_n 0, 1) := by decide +kernel
theorem dX10_isWrongCell_60 : decode cX10_isWrongCell 60 = .ok (.getfield 7, 3) := by decide +kernel
theorem dX10_isWrongCell_63 : decode cX10_isWrongCell 63 = .ok (.iload_n 2, 1) := by decide +kernel
theorem dX10_isWrongCell_64 : decode cX10_isWrongCell 64 = .ok (.iaload, 1) := by decide +kernel
theorem dX10_isWrongCell_65 : decode cX10_isWrongCell 65 = .ok (.istore 4, 2) := by decide +kernel
theorem dX10_isWrongCell_67 : decode cX10_isWrongCell 67 = .ok (.aload_n 0, 1) := by decide +kernel
theorem dX10_isWrongCell_68 : decode cX10_isWrongCell 68 = .ok (.iload_n 1, 1) := by decide +kernel
theorem dX10_isWrongCell_69 : decode cX10_isWrongCell 69 = .ok (.invokevirtual 117, 3) := by decide +kernel
theorem dX10_isWrongCell_72 : decode cX10_isWrongCell 72 = .ok (.lconst 0, 1) := by decide +kernel
theorem dX10_isWrongCell_73 : decode cX10_isWrongCell 73 = .ok (.lcmp, 1) := by decide +kernel
theorem dX10_isWrongCell_74 : decode cX10_isWrongCell 74 = .ok (.ifCond .lt 22, 3) := by decide +kernel
theorem dX10_isWrongCell_77 : decode cX10_isWrongCell 77 = .ok (.aload_n 0, 1) := by decide +kernel
theorem dX10_isWrongCell_78 : decode cX10_isWrongCell 78 = .ok (.iload_n 1, 1) := by decide +kernel
theorem dX10_isWrongCell_79 : decode cX10_isWrongCell 79 = .ok (.invokevirtual 117, 3) := by decide +kernel
theorem dX10_isWrongCell_82 : decode cX10_isWrongCell 82 = .ok (.aload_n 0, 1) := by decide +kernel
theorem dX10_isWrongCell_83 : decode cX10_isWrongCell 83 = .ok (.iload_n 1, 1) := by decide +kernel
theorem dX10_isWrongCell_84 : decode cX10_isWrongCell 84 = .ok (.invokevirtual 114, 3) := by decide +kernel
theorem dX10_isWrongCell_87 : decode cX10_isWrongCell 87 = .ok (.i2l, 1) := by decide +kernel
theorem dX10_isWrongCell_88 : decode cX10_isWrongCell 88 = .ok (.ladd, 1) := by decide +kernel
theorem dX10_isWrongCell_89 : decode cX10_isWrongCell 89 = .ok (.iload 4, 2) := by decide +kernel
theorem dX10_isWrongCell_91 : decode cX10_isWrongCell 91 = .ok (.i2l, 1) := by decide +kernel
theorem dX10_isWrongCell_92 : decode cX10_isWrongCell 92 = .ok (.lcmp, 1) := by decide +kernel
theorem dX10_isWrongCell_93 : decode cX10_isWrongCell 93 = .ok (.ifCond .le 7, 3) := by decide +kernel
theorem dX10_isWrongCell_96 : decode cX10_isWrongCell 96 = .ok (.iconst 1, 1) := by decide +kernel
theorem dX10_isWrongCell_97 : decode cX10_isWrongCell 97 = .ok (.goto 4, 3) := by decide +kernel
theorem dX10_isWrongCell_100 : decode cX10_isWrongCell 100 = .ok (.iconst 0, 1) := by decide +kernel
theorem dX10_isWrongCell_101 : decode cX10_isWrongCell 101 = .ok (.ireturn, 1) := by decide +kernel
theorem dX10_isCounter_0 : decode cX10_isCounter 0 = .ok (.iconst 0, 1) := by decide +kernel
theorem dX10_isCounter_1 : decode cX10_isCounter 1 = .ok (.istore 4, 2) := by decide +kernel
theorem dX10_isCounter_3 : decode cX10_isCounter 3 = .ok (.aload_n 0, 1) := by decide +kernel
theorem dX10_isCounter_4 : decode cX10_isCounter 4 = .ok (.getfield 16, 3) := by decide +kernel
theorem dX10_isCounter_7 : decode cX10_isCounter 7 = .ok (.iload_n 1, 1) := by decide +kernel
theorem dX10_isCounter_8 : decode cX10_isCounter 8 = .ok (.iaload, 1) := by decide +kernel
theorem dX10_isCounter_9 : decode cX10_isCounter 9 = .ok (.istore 5, 2) := by decide +kernel
theorem dX10_isCounter_11 : decode cX10_isCounter 11 = .ok (.iload 5, 2) := by decide +kernel
theorem dX10_isCounter_13 : decode cX10_isCounter 13 = .ok (.aload_n 0, 1) := by decide +kernel
theorem dX10_isCounter_14 : decode cX10_isCounter 14 = .ok (.getfield 16, 3) := by decide +kernel
theorem dX10_isCounter_17 : decode cX10_isCounter 17 = .ok (.iload_n 1, 1) := by decide +kernel
theorem dX10_isCounter_18 : decode cX10_isCounter 18 = .ok (.iconst 1, 1) := by decide +kernel
theorem dX10_isCounter_19 : decode cX10_isCounter 19 = .ok (.iadd, 1) := by decide +kernel
theorem dX10_isCounter_20 : decode cX10_isCounter 20 = .ok (.iaload, 1) := by decide +kernel
theorem dX10_isCounter_21 : decode cX10_isCounter 21 = .ok (.if_icmp .ge 58, 3) := by decide +kernel
theorem dX10_isCounter_24 : decode cX10_isCounter 24 = .ok (.iload 4, 2) := by decide +kernel
theorem dX10_isCounter_26 : decode cX10_isCounter 26 = .ok (.ifCond .ne 40, 3) := by decide +kernel
theorem dX10_isCounter_29 : decode cX10_isCounter 29 = .ok (.aload_n 0, 1) := by decide +kernel
theorem dX10_isCounter_30 : decode cX10_isCounter 30 = .ok (.getfield 19, 3) := by decide +kernel
theorem dX10_isCounter_33 : decode cX10_isCounter 33 = .ok (.iload 5, 2) := by decide +kernel
theorem dX10_isCounter_35 : decode cX10_isCounter 35 = .ok (.iaload, 1) := by decide +kernel
theorem dX10_isCounter_36 : decode cX10_isCounter 36 = .ok (.bipush 12, 2) := by decide +kernel
theorem dX10_isCounter_38 : decode cX10_isCounter 38 = .ok (.if_icmp .eq 15, 3) := by decide +kernel
theorem dX10_isCounter_41 : decode cX10_isCounter 41 = .ok (.aload_n 0, 1) := by decide +kernel
theorem dX10_isCounter_42 : decode cX10_isCounter 42 = .ok (.getfield 19, 3) := by decide +kernel
theorem dX10_isCounter_45 : decode cX10_isCounter 45 = .ok (.iload 5, 2) := by decide +kernel
theorem dX10_isCounter_47 : decode cX10_isCounter 47 = .ok (.iaload, 1) := by decide +kernel
theorem dX10_isCounter_48 : decode cX10_isCounter 48 = .ok (.bipush 13, 2) := by decide +kernel
theorem dX10_isCounter_50 : decode cX10_isCounter 50 = .ok (.if_icmp .ne 20, 3) := by decide +kernel
theorem dX10_isCounter_53 : decode cX10_isCounter 53 = .ok (.aload_n 0, 1) := by decide +kernel
theorem dX10_isCounter_54 : decode cX10_isCounter 54 = .ok (.getfield 22, 3) := by decide +kernel
theorem dX10_isCounter_57 : decode cX10_isCounter 57 = .ok (.iload 5, 2) := by decide +kernel
theorem dX10_isCounter_59 : decode cX10_isCounter 59 = .ok (.iaload, 1) := by decide +kernel
theorem dX10_isCounter_60 : decode cX10_isCounter 60 = .ok (.i2l, 1) := by decide +kernel
theorem dX10_isCounter_61 : decode cX10_isCounter 61 = .ok (.lload_n 2, 1) := by decide +kernel
theorem dX10_isCounter_62 : decode cX10_isCounter 62 = .ok (.lcmp, 1) := by decide +kernel
theorem dX10_isCounter_63 : decode cX10_isCounter 63 = .ok (.ifCond .ne 7, 3) := by decide +kernel
theorem dX10_isCounter_66 : decode cX10_isCounter 66 = .ok (.iconst 1, 1) := by decide +kernel
theorem dX10_isCounter_67 : decode cX10_isCounter 67 = .ok (.goto 4, 3) := by decide +kernel
theorem dX10_isCounter_70 : decode cX10_isCounter 70 = .ok (.iconst 0, 1) := by decide +kernel
theorem dX10_isCounter_71 : decode cX10_isCounter 71 = .ok (.istore 4, 2) := by decide +kernel
theorem dX10_isCounter_73 : decode cX10_isCounter 73 = .ok (.iinc 5 1, 3) := by decide +kernel
theorem dX10_isCounter_76 : decode cX10_isCounter 76 = .ok (.goto (-65), 3) := by decide +kernel
theorem dX10_isCounter_79 : decode cX10_isCounter 79 = .ok (.iload 4, 2) := by decide +kernel
theorem dX10_isCounter_81 : decode cX10_isCounter 81 = .ok (.ireturn, 1) := by decide +kernel
theorem dX10_touchesCounter_0 : decode cX10_touchesCounter 0 = .ok (.aload_n 0, 1) := by decide +kernel
theorem dX10_touchesCounter_1 : decode cX10_touchesCounter 1 = .ok (.getfield 19, 3) := by decide +kernel
theorem dX10_touchesCounter_4 : decode cX10_touchesCounter 4 = .ok (.iload_n 1, 1) := by decide +kernel
theorem dX10_touchesCounter_5 : decode cX10_touchesCounter 5 = .ok (.iaload, 1) := by decide +kernel
theorem dX10_touchesCounter_6 : decode cX10_touchesCounter 6 = .ok (.istore_n 3, 1) := by decide +kernel
theorem dX10_touchesCounter_7 : decode cX10_touchesCounter 7 = .ok (.iload_n 3, 1) := by decide +kernel
theorem dX10_touchesCounter_8 : decode cX10_touchesCounter 8 = .ok (.bipush 12, 2) := by decide +kernel
theorem dX10_touchesCounter_10 : decode cX10_touchesCounter 10 = .ok (.if_icmp .eq 9, 3) := by decide +kernel
theorem dX10_touchesCounter_13 : decode cX10_touchesCounter 13 = .ok (.iload_n 3, 1) := by decide +kernel
theorem dX10_touchesCounter_14 : decode cX10_touchesCounter 14 = .ok (.bipush 13, 2) := by decide +kernel
theorem dX10_touchesCounter_16 : decode cX10_touchesCounter 16 = .ok (.if_icmp .ne 5, 3) := by decide +kernel
theorem dX10_touchesCounter_19 : decode cX10_touchesCounter 19 = .ok (.iconst 0, 1) := by decide +kernel
theorem dX10_touchesCounter_20 : decode cX10_touchesCounter 20 = .ok (.ireturn, 1) := by decide +kernel
theorem dX10_touchesCounter_21 : decode cX10_touchesCounter 21 = .ok (.iload_n 3, 1) := by decide +kernel
theorem dX10_touchesCounter_22 : decode cX10_touchesCounter 22 = .ok (.iconst 5, 1) := by decide +kernel
theorem dX10_touchesCounter_23 : decode cX10_touchesCounter 23 = .ok (.if_icmp .eq 9, 3) := by decide +kernel
theorem dX10_touchesCounter_26 : decode cX10_touchesCounter 26 = .ok (.iload_n 3, 1) := by decide +kernel
theorem dX10_touchesCounter_27 : decode cX10_touchesCounter 27 = .ok (.bipush 6, 2) := by decide +kernel
theorem dX10_touchesCounter_29 : decode cX10_touchesCounter 29 = .ok (.if_icmp .ne 12, 3) := by decide +kernel
theorem dX10_touchesCounter_32 : decode cX10_touchesCounter 32 = .ok (.aload_n 0, 1) := by decide +kernel
theorem dX10_touchesCounter_33 : decode cX10_touchesCounter 33 = .ok (.getfield 22, 3) := by decide +kernel
theorem dX10_touchesCounter_36 : decode cX10_touchesCounter 36 = .ok (.iload_n 1, 1) := by decide +kernel
theorem dX10_touchesCounter_37 : decode cX10_touchesCounter 37 = .ok (.iaload, 1) := by decide +kernel
theorem dX10_touchesCounter_38 : decode cX10_touchesCounter 38 = .ok (.goto 4, 3) := by decide +kernel
theorem dX10_touchesCounter_41 : decode cX10_touchesCounter 41 = .ok (.iload_n 2, 1) := by decide +kernel
theorem dX10_touchesCounter_42 : decode cX10_touchesCounter 42 = .ok (.istore 4, 2) := by decide +kernel
theorem dX10_touchesCounter_44 : decode cX10_touchesCounter 44 = .ok (.iconst 0, 1) := by decide +kernel
theorem dX10_touchesCounter_45 : decode cX10_touchesCounter 45 = .ok (.istore 5, 2) := by decide +kernel
theorem dX10_touchesCounter_47 : decode cX10_touchesCounter 47 = .ok (.iconst 0, 1) := by decide +kernel
theorem dX10_touchesCounter_48 : decode cX10_touchesCounter 48 = .ok (.istore 6, 2) := by decide +kernel
theorem dX10_touchesCounter_50 : decode cX10_touchesCounter 50 = .ok (.iload 6, 2) := by decide +kernel
theorem dX10_touchesCounter_52 : decode cX10_touchesCounter 52 = .ok (.aload_n 0, 1) := by decide +kernel
theorem dX10_touchesCounter_53 : decode cX10_touchesCounter 53 = .ok (.iload_n 1, 1) := by decide +kernel
theorem dX10_touchesCounter_54 : decode cX10_touchesCounter 54 = .ok (.invokevirtual 114, 3) := by decide +kernel
theorem dX10_touchesCounter_57 : decode cX10_touchesCounter 57 = .ok (.if_icmp .ge 31, 3) := by decide +kernel
theorem dX10_touchesCounter_60 : decode cX10_touchesCounter 60 = .ok (.iload 5, 2) := by decide +kernel
theorem dX10_touchesCounter_62 : decode cX10_touchesCounter 62 = .ok (.ifCond .ne 26, 3) := by decide +kernel
theorem dX10_touchesCounter_65 : decode cX10_touchesCounter 65 = .ok (.aload_n 0, 1) := by decide +kernel
theorem dX10_touchesCounter_66 : decode cX10_touchesCounter 66 = .ok (.iload 4, 2) := by decide +kernel
theorem dX10_touchesCounter_68 : decode cX10_touchesCounter 68 = .ok (.aload_n 0, 1) := by decide +kernel
theorem dX10_touchesCounter_69 : decode cX10_touchesCounter 69 = .ok (.iload_n 1, 1) := by decide +kernel
theorem dX10_touchesCounter_70 : decode cX10_touchesCounter 70 = .ok (.invokevirtual 117, 3) := by decide +kernel
theorem dX10_touchesCounter_73 : decode cX10_touchesCounter 73 = .ok (.iload 6, 2) := by decide +kernel
theorem dX10_touchesCounter_75 : decode cX10_touchesCounter 75 = .ok (.i2l, 1) := by decide +kernel
theorem dX10_touchesCounter_76 : decode cX10_touchesCounter 76 = .ok (.ladd, 1) := by decide +kernel
theorem dX10_touchesCounter_77 : decode cX10_touchesCounter 77 = .ok (.invokevirtual 121, 3) := by decide +kernel
theorem dX10_touchesCounter_80 : decode cX10_touchesCounter 80 = .ok (.istore 5, 2) := by decide +kernel
theorem dX10_touchesCounter_82 : decode cX10_touchesCounter 82 = .ok (.iinc 6 1, 3) := by decide +kernel
theorem dX10_touchesCounter_85 : decode cX10_touchesCounter 85 = .ok (.goto (-35), 3) := by decide +kernel
theorem dX10_touchesCounter_88 : decode cX10_touchesCounter 88 = .ok (.iload 5, 2) := by decide +kernel
theorem dX10_touchesCounter_90 : decode cX10_touchesCounter 90 = .ok (.ireturn, 1) := by decide +kernel
theorem dX10_numberAt_0 : decode cX10_numberAt 0 = .ok (.aload_n 0, 1) := by decide +kernel
theorem dX10_numberAt_1 : decode cX10_numberAt 1 = .ok (.getfield 19, 3) := by decide +kernel
theorem dX10_numberAt_4 : decode cX10_numberAt 4 = .ok (.aload_n 0, 1) := by decide +kernel
theorem dX10_numberAt_5 : decode cX10_numberAt 5 = .ok (.getfield 125, 3) := by decide +kernel
theorem dX10_numberAt_8 : decode cX10_numberAt 8 = .ok (.iload_n 1, 1) := by decide +kernel
theorem dX10_numberAt_9 : decode cX10_numberAt 9 = .ok (.iadd, 1) := by decide +kernel
theorem dX10_numberAt_10 : decode cX10_numberAt 10 = .ok (.iaload, 1) := by decide +kernel
theorem dX10_numberAt_11 : decode cX10_numberAt 11 = .ok (.ireturn, 1) := by decide +kernel
theorem dX10_goesWrong_0 : decode cX10_goesWrong 0 = .ok (.aload_n 0, 1) := by decide +kernel
theorem dX10_goesWrong_1 : decode cX10_goesWrong 1 = .ok (.iload_n 1, 1) := by decide +kernel
theorem dX10_goesWrong_2 : decode cX10_goesWrong 2 = .ok (.invokevirtual 128, 3) := by decide +kernel
theorem dX10_goesWrong_5 : decode cX10_goesWrong 5 = .ok (.tableswitch 130 10 14 #[35, 35, 130, 68, 101], 35) := by decide +kernel
theorem dX10_goesWrong_40 : decode cX10_goesWrong 40 = .ok (.aload_n 0, 1) := by decide +kernel
theorem dX10_goesWrong_41 : decode cX10_goesWrong 41 = .ok (.getfield 22, 3) := by decide +kernel
theorem dX10_goesWrong_44 : decode cX10_goesWrong 44 = .ok (.aload_n 0, 1) := by decide +kernel
theorem dX10_goesWrong_45 : decode cX10_goesWrong 45 = .ok (.getfield 125, 3) := by decide +kernel
theorem dX10_goesWrong_48 : decode cX10_goesWrong 48 = .ok (.iload_n 1, 1) := by decide +kernel
theorem dX10_goesWrong_49 : decode cX10_goesWrong 49 = .ok (.iadd, 1) := by decide +kernel
theorem dX10_goesWrong_50 : decode cX10_goesWrong 50 = .ok (.iaload, 1) := by decide +kernel
theorem dX10_goesWrong_51 : decode cX10_goesWrong 51 = .ok (.i2l, 1) := by decide +kernel
theorem dX10_goesWrong_52 : decode cX10_goesWrong 52 = .ok (.iload_n 1, 1) := by decide +kernel
theorem dX10_goesWrong_53 : decode cX10_goesWrong 53 = .ok (.i2l, 1) := by decide +kernel
theorem dX10_goesWrong_54 : decode cX10_goesWrong 54 = .ok (.lconst 1, 1) := by decide +kernel
theorem dX10_goesWrong_55 : decode cX10_goesWrong 55 = .ok (.ladd, 1) := by decide +kernel
theorem dX10_goesWrong_56 : decode cX10_goesWrong 56 = .ok (.aload_n 0, 1) := by decide +kernel
theorem dX10_goesWrong_57 : decode cX10_goesWrong 57 = .ok (.getfield 131, 3) := by decide +kernel
theorem dX10_goesWrong_60 : decode cX10_goesWrong 60 = .ok (.i2l, 1) := by decide +kernel
theorem dX10_goesWrong_61 : decode cX10_goesWrong 61 = .ok (.invokestatic 99, 3) := by decide +kernel
theorem dX10_goesWrong_64 : decode cX10_goesWrong 64 = .ok (.ifCond .ne 7, 3) := by decide +kernel
theorem dX10_goesWrong_67 : decode cX10_goesWrong 67 = .ok (.iconst 1, 1) := by decide +kernel
theorem dX10_goesWrong_68 : decode cX10_goesWrong 68 = .ok (.goto 4, 3) := by decide +kernel
theorem dX10_goesWrong_71 : decode cX10_goesWrong 71 = .ok (.iconst 0, 1) := by decide +kernel
theorem dX10_goesWrong_72 : decode cX10_goesWrong 72 = .ok (.ireturn, 1) := by decide +kernel
theorem dX10_goesWrong_73 : decode cX10_goesWrong 73 = .ok (.aload_n 0, 1) := by decide +kernel
theorem dX10_goesWrong_74 : decode cX10_goesWrong 74 = .ok (.getfield 25, 3) := by decide +kernel
theorem dX10_goesWrong_77 : decode cX10_goesWrong 77 = .ok (.aload_n 0, 1) := by decide +kernel
theorem dX10_goesWrong_78 : decode cX10_goesWrong 78 = .ok (.getfield 125, 3) := by decide +kernel
theorem dX10_goesWrong_81 : decode cX10_goesWrong 81 = .ok (.iload_n 1, 1) := by decide +kernel
theorem dX10_goesWrong_82 : decode cX10_goesWrong 82 = .ok (.iadd, 1) := by decide +kernel
theorem dX10_goesWrong_83 : decode cX10_goesWrong 83 = .ok (.iaload, 1) := by decide +kernel
theorem dX10_goesWrong_84 : decode cX10_goesWrong 84 = .ok (.i2l, 1) := by decide +kernel
theorem dX10_goesWrong_85 : decode cX10_goesWrong 85 = .ok (.iload_n 1, 1) := by decide +kernel
theorem dX10_goesWrong_86 : decode cX10_goesWrong 86 = .ok (.i2l, 1) := by decide +kernel
theorem dX10_goesWrong_87 : decode cX10_goesWrong 87 = .ok (.lconst 1, 1) := by decide +kernel
theorem dX10_goesWrong_88 : decode cX10_goesWrong 88 = .ok (.ladd, 1) := by decide +kernel
theorem dX10_goesWrong_89 : decode cX10_goesWrong 89 = .ok (.aload_n 0, 1) := by decide +kernel
theorem dX10_goesWrong_90 : decode cX10_goesWrong 90 = .ok (.getfield 131, 3) := by decide +kernel
theorem dX10_goesWrong_93 : decode cX10_goesWrong 93 = .ok (.i2l, 1) := by decide +kernel
theorem dX10_goesWrong_94 : decode cX10_goesWrong 94 = .ok (.invokestatic 99, 3) := by decide +kernel
theorem dX10_goesWrong_97 : decode cX10_goesWrong 97 = .ok (.ifCond .ne 7, 3) := by decide +kernel
theorem dX10_goesWrong_100 : decode cX10_goesWrong 100 = .ok (.iconst 1, 1) := by decide +kernel
theorem dX10_goesWrong_101 : decode cX10_goesWrong 101 = .ok (.goto 4, 3) := by decide +kernel
theorem dX10_goesWrong_104 : decode cX10_goesWrong 104 = .ok (.iconst 0, 1) := by decide +kernel
theorem dX10_goesWrong_105 : decode cX10_goesWrong 105 = .ok (.ireturn, 1) := by decide +kernel
theorem dX10_goesWrong_106 : decode cX10_goesWrong 106 = .ok (.aload_n 0, 1) := by decide +kernel
theorem dX10_goesWrong_107 : decode cX10_goesWrong 107 = .ok (.getfield 22, 3) := by decide +kernel
theorem dX10_goesWrong_110 : decode cX10_goesWrong 110 = .ok (.aload_n 0, 1) := by decide +kernel
theorem dX10_goesWrong_111 : decode cX10_goesWrong 111 = .ok (.getfield 125, 3) := by decide +kernel
theorem dX10_goesWrong_114 : decode cX10_goesWrong 114 = .ok (.iload_n 1, 1) := by decide +kernel
theorem dX10_goesWrong_115 : decode cX10_goesWrong 115 = .ok (.iadd, 1) := by decide +kernel
theorem dX10_goesWrong_116 : decode cX10_goesWrong 116 = .ok (.iaload, 1) := by decide +kernel
theorem dX10_goesWrong_117 : decode cX10_goesWrong 117 = .ok (.i2l, 1) := by decide +kernel
theorem dX10_goesWrong_118 : decode cX10_goesWrong 118 = .ok (.lconst 0, 1) := by decide +kernel
theorem dX10_goesWrong_119 : decode cX10_goesWrong 119 = .ok (.iload_n 1, 1) := by decide +kernel
theorem dX10_goesWrong_120 : decode cX10_goesWrong 120 = .ok (.i2l, 1) := by decide +kernel
theorem dX10_goesWrong_121 : decode cX10_goesWrong 121 = .ok (.lconst 1, 1) := by decide +kernel
theorem dX10_goesWrong_122 : decode cX10_goesWrong 122 = .ok (.lsub, 1) := by decide +kernel
theorem dX10_goesWrong_123 : decode cX10_goesWrong 123 = .ok (.invokestatic 99, 3) := by decide +kernel
theorem dX10_goesWrong_126 : decode cX10_goesWrong 126 = .ok (.ifCond .ne 7, 3) := by decide +kernel
theorem dX10_goesWrong_129 : decode cX10_goesWrong 129 = .ok (.iconst 1, 1) := by decide +kernel
theorem dX10_goesWrong_130 : decode cX10_goesWrong 130 = .ok (.goto 4, 3) := by decide +kernel
theorem dX10_goesWrong_133 : decode cX10_goesWrong 133 = .ok (.iconst 0, 1) := by decide +kernel
theorem dX10_goesWrong_134 : decode cX10_goesWrong 134 = .ok (.ireturn, 1) := by decide +kernel
theorem dX10_goesWrong_135 : decode cX10_goesWrong 135 = .ok (.iconst 0, 1) := by decide +kernel
theorem dX10_goesWrong_136 : decode cX10_goesWrong 136 = .ok (.ireturn, 1) := by decide +kernel
theorem dX10_lineFault_0 : decode cX10_lineFault 0 = .ok (.aload_n 0, 1) := by decide +kernel
theorem dX10_lineFault_1 : decode cX10_lineFault 1 = .ok (.getfield 125, 3) := by decide +kernel
theorem dX10_lineFault_4 : decode cX10_lineFault 4 = .ok (.iload_n 1, 1) := by decide +kernel
theorem dX10_lineFault_5 : decode cX10_lineFault 5 = .ok (.iadd, 1) := by decide +kernel
theorem dX10_lineFault_6 : decode cX10_lineFault 6 = .ok (.istore_n 3, 1) := by decide +kernel
theorem dX10_lineFault_7 : decode cX10_lineFault 7 = .ok (.aload_n 0, 1) := by decide +kernel
theorem dX10_lineFault_8 : decode cX10_lineFault 8 = .ok (.iload_n 3, 1) := by decide +kernel
theorem dX10_lineFault_9 : decode cX10_lineFault 9 = .ok (.invokevirtual 134, 3) := by decide +kernel
theorem dX10_lineFault_12 : decode cX10_lineFault 12 = .ok (.ifCond .eq 5, 3) := by decide +kernel
theorem dX10_lineFault_15 : decode cX10_lineFault 15 = .ok (.iconst 2, 1) := by decide +kernel
theorem dX10_lineFault_16 : decode cX10_lineFault 16 = .ok (.ireturn, 1) := by decide +kernel
theorem dX10_lineFault_17 : decode cX10_lineFault 17 = .ok (.aload_n 0, 1) := by decide +kernel
theorem dX10_lineFault_18 : decode cX10_lineFault 18 = .ok (.iload_n 3, 1) := by decide +kernel
theorem dX10_lineFault_19 : decode cX10_lineFault 19 = .ok (.iload_n 2, 1) := by decide +kernel
theorem dX10_lineFault_20 : decode cX10_lineFault 20 = .ok (.invokevirtual 137, 3) := by decide +kernel
theorem dX10_lineFault_23 : decode cX10_lineFault 23 = .ok (.ifCond .eq 5, 3) := by decide +kernel
theorem dX10_lineFault_26 : decode cX10_lineFault 26 = .ok (.iconst 3, 1) := by decide +kernel
theorem dX10_lineFault_27 : decode cX10_lineFault 27 = .ok (.ireturn, 1) := by decide +kernel
theorem dX10_lineFault_28 : decode cX10_lineFault 28 = .ok (.aload_n 0, 1) := by decide +kernel
theorem dX10_lineFault_29 : decode cX10_lineFault 29 = .ok (.iload_n 3, 1) := by decide +kernel
theorem dX10_lineFault_30 : decode cX10_lineFault 30 = .ok (.iload_n 2, 1) := by decide +kernel
theorem dX10_lineFault_31 : decode cX10_lineFault 31 = .ok (.invokevirtual 141, 3) := by decide +kernel
theorem dX10_lineFault_34 : decode cX10_lineFault 34 = .ok (.ifCond .eq 5, 3) := by decide +kernel
theorem dX10_lineFault_37 : decode cX10_lineFault 37 = .ok (.iconst 4, 1) := by decide +kernel
theorem dX10_lineFault_38 : decode cX10_lineFault 38 = .ok (.ireturn, 1) := by decide +kernel
theorem dX10_lineFault_39 : decode cX10_lineFault 39 = .ok (.aload_n 0, 1) := by decide +kernel
theorem dX10_lineFault_40 : decode cX10_lineFault 40 = .ok (.iload_n 3, 1) := by decide +kernel
theorem dX10_lineFault_41 : decode cX10_lineFault 41 = .ok (.iload_n 2, 1) := by decide +kernel
theorem dX10_lineFault_42 : decode cX10_lineFault 42 = .ok (.invokevirtual 144, 3) := by decide +kernel
theorem dX10_lineFault_45 : decode cX10_lineFault 45 = .ok (.ifCond .eq 5, 3) := by decide +kernel
theorem dX10_lineFault_48 : decode cX10_lineFault 48 = .ok (.iconst 5, 1) := by decide +kernel
theorem dX10_lineFault_49 : decode cX10_lineFault 49 = .ok (.ireturn, 1) := by decide +kernel
theorem dX10_lineFault_50 : decode cX10_lineFault 50 = .ok (.aload_n 0, 1) := by decide +kernel
theorem dX10_lineFault_51 : decode cX10_lineFault 51 = .ok (.iload_n 1, 1) := by decide +kernel
theorem dX10_lineFault_52 : decode cX10_lineFault 52 = .ok (.invokevirtual 147, 3) := by decide +kernel
theorem dX10_lineFault_55 : decode cX10_lineFault 55 = .ok (.ifCond .eq 8, 3) := by decide +kernel
theorem dX10_lineFault_58 : decode cX10_lineFault 58 = .ok (.bipush 6, 2) := by decide +kernel
theorem dX10_lineFault_60 : decode cX10_lineFault 60 = .ok (.goto 4, 3) := by decide +kernel
theorem dX10_lineFault_63 : decode cX10_lineFault 63 = .ok (.iconst 0, 1) := by decide +kernel
theorem dX10_lineFault_64 : decode cX10_lineFault 64 = .ok (.ireturn, 1) := by decide +kernel
theorem dX10_lastOf_0 : decode cX10_lastOf 0 = .ok (.aload_n 0, 1) := by decide +kernel
theorem dX10_lastOf_1 : decode cX10_lastOf 1 = .ok (.getfield 25, 3) := by decide +kernel
theorem dX10_lastOf_4 : decode cX10_lastOf 4 = .ok (.aload_n 0, 1) := by decide +kernel
theorem dX10_lastOf_5 : decode cX10_lastOf 5 = .ok (.getfield 125, 3) := by decide +kernel
theorem dX10_lastOf_8 : decode cX10_lastOf 8 = .ok (.iload_n 1, 1) := by decide +kernel
theorem dX10_lastOf_9 : decode cX10_lastOf 9 = .ok (.iadd, 1) := by decide +kernel
theorem dX10_lastOf_10 : decode cX10_lastOf 10 = .ok (.iaload, 1) := by decide +kernel
theorem dX10_lastOf_11 : decode cX10_lastOf 11 = .ok (.iconst 1, 1) := by decide +kernel
theorem dX10_lastOf_12 : decode cX10_lastOf 12 = .ok (.isub, 1) := by decide +kernel
theorem dX10_lastOf_13 : decode cX10_lastOf 13 = .ok (.ireturn, 1) := by decide +kernel
theorem dX10_isInLoop_0 : decode cX10_isInLoop 0 = .ok (.iload_n 1, 1) := by decide +kernel
theorem dX10_isInLoop_1 : decode cX10_isInLoop 1 = .ok (.iload_n 2, 1) := by decide +kernel
theorem dX10_isInLoop_2 : decode cX10_isInLoop 2 = .ok (.if_icmp .le 16, 3) := by decide +kernel
theorem dX10_isInLoop_5 : decode cX10_isInLoop 5 = .ok (.iload_n 1, 1) := by decide +kernel
theorem dX10_isInLoop_6 : decode cX10_isInLoop 6 = .ok (.aload_n 0, 1) := by decide +kernel
theorem dX10_isInLoop_7 : decode cX10_isInLoop 7 = .ok (.iload_n 2, 1) := by decide +kernel
theorem dX10_isInLoop_8 : decode cX10_isInLoop 8 = .ok (.invokevirtual 150, 3) := by decide +kernel
theorem dX10_isInLoop_11 : decode cX10_isInLoop 11 = .ok (.if_icmp .gt 7, 3) := by decide +kernel
theorem dX10_isInLoop_14 : decode cX10_isInLoop 14 = .ok (.iconst 1, 1) := by decide +kernel
theorem dX10_isInLoop_15 : decode cX10_isInLoop 15 = .ok (.goto 4, 3) := by decide +kernel
theorem dX10_isInLoop_18 : decode cX10_isInLoop 18 = .ok (.iconst 0, 1) := by decide +kernel
theorem dX10_isInLoop_19 : decode cX10_isInLoop 19 = .ok (.ireturn, 1) := by decide +kernel
theorem dX10_hasSame_0 : decode cX10_hasSame 0 = .ok (.iload_n 2, 1) := by decide +kernel
theorem dX10_hasSame_1 : decode cX10_hasSame 1 = .ok (.ifCond .lt 49, 3) := by decide +kernel
theorem dX10_hasSame_4 : decode cX10_hasSame 4 = .ok (.iload_n 2, 1) := by decide +kernel
theorem dX10_hasSame_5 : decode cX10_hasSame 5 = .ok (.aload_n 0, 1) := by decide +kernel
theorem dX10_hasSame_6 : decode cX10_hasSame 6 = .ok (.getfield 131, 3) := by decide +kernel
theorem dX10_hasSame_9 : decode cX10_hasSame 9 = .ok (.if_icmp .ge 41, 3) := by decide +kernel
theorem dX10_hasSame_12 : decode cX10_hasSame 12 = .ok (.aload_n 0, 1) := by decide +kernel
theorem dX10_hasSame_13 : decode cX10_hasSame 13 = .ok (.iload_n 2, 1) := by decide +kernel
theorem dX10_hasSame_14 : decode cX10_hasSame 14 = .ok (.invokevirtual 128, 3) := by decide +kernel
theorem dX10_hasSame_17 : decode cX10_hasSame 17 = .ok (.iload_n 3, 1) := by decide +kernel
theorem dX10_hasSame_18 : decode cX10_hasSame 18 = .ok (.if_icmp .ne 32, 3) := by decide +kernel
theorem dX10_hasSame_21 : decode cX10_hasSame 21 = .ok (.aload_n 0, 1) := by decide +kernel
theorem dX10_hasSame_22 : decode cX10_hasSame 22 = .ok (.getfield 22, 3) := by decide +kernel
theorem dX10_hasSame_25 : decode cX10_hasSame 25 = .ok (.aload_n 0, 1) := by decide +kernel
theorem dX10_hasSame_26 : decode cX10_hasSame 26 = .ok (.getfield 125, 3) := by decide +kernel
theorem dX10_hasSame_29 : decode cX10_hasSame 29 = .ok (.iload_n 2, 1) := by decide +kernel
theorem dX10_hasSame_30 : decode cX10_hasSame 30 = .ok (.iadd, 1) := by decide +kernel
theorem dX10_hasSame_31 : decode cX10_hasSame 31 = .ok (.iaload, 1) := by decide +kernel
theorem dX10_hasSame_32 : decode cX10_hasSame 32 = .ok (.aload_n 0, 1) := by decide +kernel
theorem dX10_hasSame_33 : decode cX10_hasSame 33 = .ok (.getfield 22, 3) := by decide +kernel
theorem dX10_hasSame_36 : decode cX10_hasSame 36 = .ok (.aload_n 0, 1) := by decide +kernel
theorem dX10_hasSame_37 : decode cX10_hasSame 37 = .ok (.getfield 125, 3) := by decide +kernel
theorem dX10_hasSame_40 : decode cX10_hasSame 40 = .ok (.iload_n 1, 1) := by decide +kernel
theorem dX10_hasSame_41 : decode cX10_hasSame 41 = .ok (.iadd, 1) := by decide +kernel
theorem dX10_hasSame_42 : decode cX10_hasSame 42 = .ok (.iaload, 1) := by decide +kernel
theorem dX10_hasSame_43 : decode cX10_hasSame 43 = .ok (.if_icmp .ne 7, 3) := by decide +kernel
theorem dX10_hasSame_46 : decode cX10_hasSame 46 = .ok (.iconst 1, 1) := by decide +kernel
theorem dX10_hasSame_47 : decode cX10_hasSame 47 = .ok (.goto 4, 3) := by decide +kernel
theorem dX10_hasSame_50 : decode cX10_hasSame 50 = .ok (.iconst 0, 1) := by decide +kernel
theorem dX10_hasSame_51 : decode cX10_hasSame 51 = .ok (.ireturn, 1) := by decide +kernel
theorem dX10_isWrongLoop_0 : decode cX10_isWrongLoop 0 = .ok (.iconst 0, 1) := by decide +kernel
theorem dX10_isWrongLoop_1 : decode cX10_isWrongLoop 1 = .ok (.istore_n 2, 1) := by decide +kernel
theorem dX10_isWrongLoop_2 : decode cX10_isWrongLoop 2 = .ok (.aload_n 0, 1) := by decide +kernel
theorem dX10_isWrongLoop_3 : decode cX10_isWrongLoop 3 = .ok (.iload_n 1, 1) := by decide +kernel
theorem dX10_isWrongLoop_4 : decode cX10_isWrongLoop 4 = .ok (.invokevirtual 128, 3) := by decide +kernel
theorem dX10_isWrongLoop_7 : decode cX10_isWrongLoop 7 = .ok (.tableswitch 383 10 14 #[289, 289, 33, 124, 241], 33) := by decide +kernel
theorem dX10_isWrongLoop_40 : decode cX10_isWrongLoop 40 = .ok (.aload_n 0, 1) := by decide +kernel
theorem dX10_isWrongLoop_41 : decode cX10_isWrongLoop 41 = .ok (.iload_n 1, 1) := by decide +kernel
theorem dX10_isWrongLoop_42 : decode cX10_isWrongLoop 42 = .ok (.iload_n 1, 1) := by decide +kernel
theorem dX10_isWrongLoop_43 : decode cX10_isWrongLoop 43 = .ok (.iconst 1, 1) := by decide +kernel
theorem dX10_isWrongLoop_44 : decode cX10_isWrongLoop 44 = .ok (.iadd, 1) := by decide +kernel
theorem dX10_isWrongLoop_45 : decode cX10_isWrongLoop 45 = .ok (.bipush 13, 2) := by decide +kernel
theorem dX10_isWrongLoop_47 : decode cX10_isWrongLoop 47 = .ok (.invokevirtual 153, 3) := by decide +kernel
theorem dX10_isWrongLoop_50 : decode cX10_isWrongLoop 50 = .ok (.ifCond .ne 7, 3) := by decide +kernel
theorem dX10_isWrongLoop_53 : decode cX10_isWrongLoop 53 = .ok (.iconst 1, 1) := by decide +kernel
theorem dX10_isWrongLoop_54 : decode cX10_isWrongLoop 54 = .ok (.goto 4, 3) := by decide +kernel
theorem dX10_isWrongLoop_57 : decode cX10_isWrongLoop 57 = .ok (.iconst 0, 1) := by decide +kernel
theorem dX10_isWrongLoop_58 : decode cX10_isWrongLoop 58 = .ok (.istore_n 2, 1) := by decide +kernel
theorem dX10_isWrongLoop_59 : decode cX10_isWrongLoop 59 = .ok (.iconst 0, 1) := by decide +kernel
theorem dX10_isWrongLoop_60 : decode cX10_isWrongLoop 60 = .ok (.istore_n 3, 1) := by decide +kernel
theorem dX10_isWrongLoop_61 : decode cX10_isWrongLoop 61 = .ok (.iload_n 3, 1) := by decide +kernel
theorem dX10_isWrongLoop_62 : decode cX10_isWrongLoop 62 = .ok (.aload_n 0, 1) := by decide +kernel
theorem dX10_isWrongLoop_63 : decode cX10_isWrongLoop 63 = .ok (.getfield 131, 3) := by decide +kernel
theorem dX10_isWrongLoop_66 : decode cX10_isWrongLoop 66 = .ok (.if_icmp .ge 63, 3) := by decide +kernel
theorem dX10_isWrongLoop_69 : decode cX10_isWrongLoop 69 = .ok (.iload_n 2, 1) := by decide +kernel
theorem dX10_isWrongLoop_70 : decode cX10_isWrongLoop 70 = .ok (.ifCond .ne 47, 3) := by decide +kernel
theorem dX10_isWrongLoop_73 : decode cX10_isWrongLoop 73 = .ok (.aload_n 0, 1) := by decide +kernel
theorem dX10_isWrongLoop_74 : decode cX10_isWrongLoop 74 = .ok (.iload_n 3, 1) := by decide +kernel
theorem dX10_isWrongLoop_75 : decode cX10_isWrongLoop 75 = .ok (.invokevirtual 128, 3) := by decide +kernel
theorem dX10_isWrongLoop_78 : decode cX10_isWrongLoop 78 = .ok (.bipush 13, 2) := by decide +kernel
theorem dX10_isWrongLoop_80 : decode cX10_isWrongLoop 80 = .ok (.if_icmp .ne 41, 3) := by decide +kernel
theorem dX10_isWrongLoop_83 : decode cX10_isWrongLoop 83 = .ok (.aload_n 0, 1) := by decide +kernel
theorem dX10_isWrongLoop_84 : decode cX10_isWrongLoop 84 = .ok (.iload_n 1, 1) := by decide +kernel
theorem dX10_isWrongLoop_85 : decode cX10_isWrongLoop 85 = .ok (.iload_n 3, 1) := by decide +kernel
theorem dX10_isWrongLoop_86 : decode cX10_isWrongLoop 86 = .ok (.invokevirtual 157, 3) := by decide +kernel
theorem dX10_isWrongLoop_89 : decode cX10_isWrongLoop 89 = .ok (.ifCond .eq 32, 3) := by decide +kernel
theorem dX10_isWrongLoop_92 : decode cX10_isWrongLoop 92 = .ok (.aload_n 0, 1) := by decide +kernel
theorem dX10_isWrongLoop_93 : decode cX10_isWrongLoop 93 = .ok (.getfield 22, 3) := by decide +kernel
theorem dX10_isWrongLoop_96 : decode cX10_isWrongLoop 96 = .ok (.aload_n 0, 1) := by decide +kernel
theorem dX10_isWrongLoop_97 : decode cX10_isWrongLoop 97 = .ok (.getfield 125, 3) := by decide +kernel
theorem dX10_isWrongLoop_100 : decode cX10_isWrongLoop 100 = .ok (.iload_n 3, 1) := by decide +kernel
theorem dX10_isWrongLoop_101 : decode cX10_isWrongLoop 101 = .ok (.iadd, 1) := by decide +kernel
theorem dX10_isWrongLoop_102 : decode cX10_isWrongLoop 102 = .ok (.iaload, 1) := by decide +kernel
theorem dX10_isWrongLoop_103 : decode cX10_isWrongLoop 103 = .ok (.aload_n 0, 1) := by decide +kernel
theorem dX10_isWrongLoop_104 : decode cX10_isWrongLoop 104 = .ok (.getfield 22, 3) := by decide +kernel
theorem dX10_isWrongLoop_107 : decode cX10_isWrongLoop 107 = .ok (.aload_n 0, 1) := by decide +kernel
theorem dX10_isWrongLoop_108 : decode cX10_isWrongLoop 108 = .ok (.getfield 125, 3) := by decide +kernel
theorem dX10_isWrongLoop_111 : decode cX10_isWrongLoop 111 = .ok (.iload_n 1, 1) := by decide +kernel
theorem dX10_isWrongLoop_112 : decode cX10_isWrongLoop 112 = .ok (.iadd, 1) := by decide +kernel
theorem dX10_isWrongLoop_113 : decode cX10_isWrongLoop 113 = .ok (.iaload, 1) := by decide +kernel
theorem dX10_isWrongLoop_114 : decode cX10_isWrongLoop 114 = .ok (.if_icmp .ne 7, 3) := by decide +kernel
theorem dX10_isWrongLoop_117 : decode cX10_isWrongLoop 117 = .ok (.iconst 1, 1) := by decide +kernel
theorem dX10_isWrongLoop_118 : decode cX10_isWrongLoop 118 = .ok (.goto 4, 3) := by decide +kernel
theorem dX10_isWrongLoop_121 : decode cX10_isWrongLoop 121 = .ok (.iconst 0, 1) := by decide +kernel
theorem dX10_isWrongLoop_122 : decode cX10_isWrongLoop 122 = .ok (.istore_n 2, 1) := by decide +kernel
theorem dX10_isWrongLoop_123 : decode cX10_isWrongLoop 123 = .ok (.iinc 3 1, 3) := by decide +kernel
theorem dX10_isWrongLoop_126 : decode cX10_isWrongLoop 126 = .ok (.goto (-65), 3) := by decide +kernel
theorem dX10_isWrongLoop_129 : decode cX10_isWrongLoop 129 = .ok (.iload_n 2, 1) := by decide +kernel
theorem dX10_isWrongLoop_130 : decode cX10_isWrongLoop 130 = .ok (.ireturn, 1) := by decide +kernel
theorem dX10_isWrongLoop_131 : decode cX10_isWrongLoop 131 = .ok (.aload_n 0, 1) := by decide +kernel
theorem dX10_isWrongLoop_132 : decode cX10_isWrongLoop 132 = .ok (.iload_n 1, 1) := by decide +kernel
theorem dX10_isWrongLoop_133 : decode cX10_isWrongLoop 133 = .ok (.invokevirtual 150, 3) := by decide +kernel
theorem dX10_isWrongLoop_136 : decode cX10_isWrongLoop 136 = .ok (.istore_n 3, 1) := by decide +kernel
theorem dX10_isWrongLoop_137 : decode cX10_isWrongLoop 137 = .ok (.aload_n 0, 1) := by decide +kernel
theorem dX10_isWrongLoop_138 : decode cX10_isWrongLoop 138 = .ok (.iload_n 1, 1) := by decide +kernel
theorem dX10_isWrongLoop_139 : decode cX10_isWrongLoop 139 = .ok (.iload_n 1, 1) := by decide +kernel
theorem dX10_isWrongLoop_140 : decode cX10_isWrongLoop 140 = .ok (.iconst 1, 1) := by decide +kernel
theorem dX10_isWrongLoop_141 : decode cX10_isWrongLoop 141 = .ok (.isub, 1) := by decide +kernel
theorem dX10_isWrongLoop_142 : decode cX10_isWrongLoop 142 = .ok (.bipush 12, 2) := by decide +kernel
theorem dX10_isWrongLoop_144 : decode cX10_isWrongLoop 144 = .ok (.invokevirtual 153, 3) := by decide +kernel
theorem dX10_isWrongLoop_147 : decode cX10_isWrongLoop 147 = .ok (.ifCond .eq 28, 3) := by decide +kernel
theorem dX10_isWrongLoop_150 : decode cX10_isWrongLoop 150 = .ok (.aload_n 0, 1) := by decide +kernel
theorem dX10_isWrongLoop_151 : decode cX10_isWrongLoop 151 = .ok (.iload_n 3, 1) := by decide +kernel
theorem dX10_isWrongLoop_152 : decode cX10_isWrongLoop 152 = .ok (.invokevirtual 128, 3) := by decide +kernel
theorem dX10_isWrongLoop_155 : decode cX10_isWrongLoop 155 = .ok (.bipush 14, 2) := by decide +kernel
theorem dX10_isWrongLoop_157 : decode cX10_isWrongLoop 157 = .ok (.if_icmp .ne 18, 3) := by decide +kernel
theorem dX10_isWrongLoop_160 : decode cX10_isWrongLoop 160 = .ok (.aload_n 0, 1) := by decide +kernel
theorem dX10_isWrongLoop_161 : decode cX10_isWrongLoop 161 = .ok (.getfield 22, 3) := by decide +kernel
theorem dX10_isWrongLoop_164 : decode cX10_isWrongLoop 164 = .ok (.aload_n 0, 1) := by decide +kernel
theorem dX10_isWrongLoop_165 : decode cX10_isWrongLoop 165 = .ok (.getfield 125, 3) := by decide +kernel
theorem dX10_isWrongLoop_168 : decode cX10_isWrongLoop 168 = .ok (.iload_n 3, 1) := by decide +kernel
theorem dX10_isWrongLoop_169 : decode cX10_isWrongLoop 169 = .ok (.iadd, 1) := by decide +kernel
theorem dX10_isWrongLoop_170 : decode cX10_isWrongLoop 170 = .ok (.iaload, 1) := by decide +kernel
theorem dX10_isWrongLoop_171 : decode cX10_isWrongLoop 171 = .ok (.iload_n 1, 1) := by decide +kernel
theorem dX10_isWrongLoop_172 : decode cX10_isWrongLoop 172 = .ok (.if_icmp .eq 7, 3) := by decide +kernel
theorem dX10_isWrongLoop_175 : decode cX10_isWrongLoop 175 = .ok (.iconst 1, 1) := by decide +kernel
theorem dX10_isWrongLoop_176 : decode cX10_isWrongLoop 176 = .ok (.goto 4, 3) := by decide +kernel
theorem dX10_isWrongLoop_179 : decode cX10_isWrongLoop 179 = .ok (.iconst 0, 1) := by decide +kernel
theorem dX10_isWrongLoop_180 : decode cX10_isWrongLoop 180 = .ok (.istore_n 2, 1) := by decide +kernel
theorem dX10_isWrongLoop_181 : decode cX10_isWrongLoop 181 = .ok (.iconst 0, 1) := by decide +kernel
theorem dX10_isWrongLoop_182 : decode cX10_isWrongLoop 182 = .ok (.istore 4, 2) := by decide +kernel
theorem dX10_isWrongLoop_184 : decode cX10_isWrongLoop 184 = .ok (.iload 4, 2) := by decide +kernel
theorem dX10_isWrongLoop_186 : decode cX10_isWrongLoop 186 = .ok (.aload_n 0, 1) := by decide +kernel
theorem dX10_isWrongLoop_187 : decode cX10_isWrongLoop 187 = .ok (.getfield 131, 3) := by decide +kernel
theorem dX10_isWrongLoop_190 : decode cX10_isWrongLoop 190 = .ok (.if_icmp .ge 56, 3) := by decide +kernel
theorem dX10_isWrongLoop_193 : decode cX10_isWrongLoop 193 = .ok (.iload_n 2, 1) := by decide +kernel
theorem dX10_isWrongLoop_194 : decode cX10_isWrongLoop 194 = .ok (.ifCond .ne 40, 3) := by decide +kernel
theorem dX10_isWrongLoop_197 : decode cX10_isWrongLoop 197 = .ok (.aload_n 0, 1) := by decide +kernel
theorem dX10_isWrongLoop_198 : decode cX10_isWrongLoop 198 = .ok (.iload 4, 2) := by decide +kernel
theorem dX10_isWrongLoop_200 : decode cX10_isWrongLoop 200 = .ok (.invokevirtual 128, 3) := by decide +kernel
theorem dX10_isWrongLoop_203 : decode cX10_isWrongLoop 203 = .ok (.bipush 13, 2) := by decide +kernel
theorem dX10_isWrongLoop_205 : decode cX10_isWrongLoop 205 = .ok (.if_icmp .ne 33, 3) := by decide +kernel
theorem dX10_isWrongLoop_208 : decode cX10_isWrongLoop 208 = .ok (.iload 4, 2) := by decide +kernel
theorem dX10_isWrongLoop_210 : decode cX10_isWrongLoop 210 = .ok (.iload_n 1, 1) := by decide +kernel
theorem dX10_isWrongLoop_211 : decode cX10_isWrongLoop 211 = .ok (.if_icmp .eq 27, 3) := by decide +kernel
theorem dX10_isWrongLoop_214 : decode cX10_isWrongLoop 214 = .ok (.aload_n 0, 1) := by decide +kernel
theorem dX10_isWrongLoop_215 : decode cX10_isWrongLoop 215 = .ok (.iload_n 1, 1) := by decide +kernel
theorem dX10_isWrongLoop_216 : decode cX10_isWrongLoop 216 = .ok (.iload 4, 2) := by decide +kernel
theorem dX10_isWrongLoop_218 : decode cX10_isWrongLoop 218 = .ok (.invokevirtual 157, 3) := by decide +kernel
theorem dX10_isWrongLoop_221 : decode cX10_isWrongLoop 221 = .ok (.ifCond .eq 17, 3) := by decide +kernel
theorem dX10_isWrongLoop_224 : decode cX10_isWrongLoop 224 = .ok (.aload_n 0, 1) := by decide +kernel
theorem dX10_isWrongLoop_225 : decode cX10_isWrongLoop 225 = .ok (.iload_n 3, 1) := by decide +kernel
theorem dX10_isWrongLoop_226 : decode cX10_isWrongLoop 226 = .ok (.iload 4, 2) := by decide +kernel
theorem dX10_isWrongLoop_228 : decode cX10_isWrongLoop 228 = .ok (.invokevirtual 157, 3) := by decide +kernel
theorem dX10_isWrongLoop_231 : decode cX10_isWrongLoop 231 = .ok (.ifCond .ne 7, 3) := by decide +kernel
theorem dX10_isWrongLoop_234 : decode cX10_isWrongLoop 234 = .ok (.iconst 1, 1) := by decide +kernel
theorem dX10_isWrongLoop_235 : decode cX10_isWrongLoop 235 = .ok (.goto 4, 3) := by decide +kernel
theorem dX10_isWrongLoop_238 : decode cX10_isWrongLoop 238 = .ok (.iconst 0, 1) := by decide +kernel
theorem dX10_isWrongLoop_239 : decode cX10_isWrongLoop 239 = .ok (.istore_n 2, 1) := by decide +kernel
theorem dX10_isWrongLoop_240 : decode cX10_isWrongLoop 240 = .ok (.iinc 4 1, 3) := by decide +kernel
theorem dX10_isWrongLoop_243 : decode cX10_isWrongLoop 243 = .ok (.goto (-59), 3) := by decide +kernel
theorem dX10_isWrongLoop_246 : decode cX10_isWrongLoop 246 = .ok (.iload_n 2, 1) := by decide +kernel
theorem dX10_isWrongLoop_247 : decode cX10_isWrongLoop 247 = .ok (.ireturn, 1) := by decide +kernel
theorem dX10_isWrongLoop_248 : decode cX10_isWrongLoop 248 = .ok (.aload_n 0, 1) := by decide +kernel
theorem dX10_isWrongLoop_249 : decode cX10_isWrongLoop 249 = .ok (.getfield 22, 3) := by decide +kernel
theorem dX10_isWrongLoop_252 : decode cX10_isWrongLoop 252 = .ok (.aload_n 0, 1) := by decide +kernel
theorem dX10_isWrongLoop_253 : decode cX10_isWrongLoop 253 = .ok (.getfield 125, 3) := by decide +kernel
theorem dX10_isWrongLoop_256 : decode cX10_isWrongLoop 256 = .ok (.iload_n 1, 1) := by decide +kernel
theorem dX10_isWrongLoop_257 : decode cX10_isWrongLoop 257 = .ok (.iadd, 1) := by decide +kernel
theorem dX10_isWrongLoop_258 : decode cX10_isWrongLoop 258 = .ok (.iaload, 1) := by decide +kernel
theorem dX10_isWrongLoop_259 : decode cX10_isWrongLoop 259 = .ok (.istore 4, 2) := by decide +kernel
theorem dX10_isWrongLoop_261 : decode cX10_isWrongLoop 261 = .ok (.aload_n 0, 1) := by decide +kernel
theorem dX10_isWrongLoop_262 : decode cX10_isWrongLoop 262 = .ok (.iload 4, 2) := by decide +kernel
theorem dX10_isWrongLoop_264 : decode cX10_isWrongLoop 264 = .ok (.invokevirtual 128, 3) := by decide +kernel
theorem dX10_isWrongLoop_267 : decode cX10_isWrongLoop 267 = .ok (.bipush 13, 2) := by decide +kernel
theorem dX10_isWrongLoop_269 : decode cX10_isWrongLoop 269 = .ok (.if_icmp .ne 21, 3) := by decide +kernel
theorem dX10_isWrongLoop_272 : decode cX10_isWrongLoop 272 = .ok (.aload_n 0, 1) := by decide +kernel
theorem dX10_isWrongLoop_273 : decode cX10_isWrongLoop 273 = .ok (.getfield 25, 3) := by decide +kernel
theorem dX10_isWrongLoop_276 : decode cX10_isWrongLoop 276 = .ok (.aload_n 0, 1) := by decide +kernel
theorem dX10_isWrongLoop_277 : decode cX10_isWrongLoop 277 = .ok (.getfield 125, 3) := by decide +kernel
theorem dX10_isWrongLoop_280 : decode cX10_isWrongLoop 280 = .ok (.iload 4, 2) := by decide +kernel
theorem dX10_isWrongLoop_282 : decode cX10_isWrongLoop 282 = .ok (.iadd, 1) := by decide +kernel
theorem dX10_isWrongLoop_283 : decode cX10_isWrongLoop 283 = .ok (.iaload, 1) := by decide +kernel
theorem dX10_isWrongLoop_284 : decode cX10_isWrongLoop 284 = .ok (.iload_n 1, 1) := by decide +kernel
theorem dX10_isWrongLoop_285 : decode cX10_isWrongLoop 285 = .ok (.iconst 1, 1) := by decide +kernel
theorem dX10_isWrongLoop_286 : decode cX10_isWrongLoop 286 = .ok (.iadd, 1) := by decide +kernel
theorem dX10_isWrongLoop_287 : decode cX10_isWrongLoop 287 = .ok (.if_icmp .eq 7, 3) := by decide +kernel
theorem dX10_isWrongLoop_290 : decode cX10_isWrongLoop 290 = .ok (.iconst 1, 1) := by decide +kernel
theorem dX10_isWrongLoop_291 : decode cX10_isWrongLoop 291 = .ok (.goto 4, 3) := by decide +kernel
theorem dX10_isWrongLoop_294 : decode cX10_isWrongLoop 294 = .ok (.iconst 0, 1) := by decide +kernel
theorem dX10_isWrongLoop_295 : decode cX10_isWrongLoop 295 = .ok (.ireturn, 1) := by decide +kernel
theorem dX10_isWrongLoop_296 : decode cX10_isWrongLoop 296 = .ok (.aload_n 0, 1) := by decide +kernel
theorem dX10_isWrongLoop_297 : decode cX10_isWrongLoop 297 = .ok (.getfield 22, 3) := by decide +kernel
theorem dX10_isWrongLoop_300 : decode cX10_isWrongLoop 300 = .ok (.aload_n 0, 1) := by decide +kernel
theorem dX10_isWrongLoop_301 : decode cX10_isWrongLoop 301 = .ok (.getfield 125, 3) := by decide +kernel
theorem dX10_isWrongLoop_304 : decode cX10_isWrongLoop 304 = .ok (.iload_n 1, 1) := by decide +kernel
theorem dX10_isWrongLoop_305 : decode cX10_isWrongLoop 305 = .ok (.iadd, 1) := by decide +kernel
theorem dX10_isWrongLoop_306 : decode cX10_isWrongLoop 306 = .ok (.iaload, 1) := by decide +kernel
theorem dX10_isWrongLoop_307 : decode cX10_isWrongLoop 307 = .ok (.istore 5, 2) := by decide +kernel
theorem dX10_isWrongLoop_309 : decode cX10_isWrongLoop 309 = .ok (.iconst 0, 1) := by decide +kernel
theorem dX10_isWrongLoop_310 : decode cX10_isWrongLoop 310 = .ok (.istore 6, 2) := by decide +kernel
theorem dX10_isWrongLoop_312 : decode cX10_isWrongLoop 312 = .ok (.iload 6, 2) := by decide +kernel
theorem dX10_isWrongLoop_314 : decode cX10_isWrongLoop 314 = .ok (.aload_n 0, 1) := by decide +kernel
theorem dX10_isWrongLoop_315 : decode cX10_isWrongLoop 315 = .ok (.getfield 131, 3) := by decide +kernel
theorem dX10_isWrongLoop_318 : decode cX10_isWrongLoop 318 = .ok (.if_icmp .ge 70, 3) := by decide +kernel
theorem dX10_isWrongLoop_321 : decode cX10_isWrongLoop 321 = .ok (.aload_n 0, 1) := by decide +kernel
theorem dX10_isWrongLoop_322 : decode cX10_isWrongLoop 322 = .ok (.iload 6, 2) := by decide +kernel
theorem dX10_isWrongLoop_324 : decode cX10_isWrongLoop 324 = .ok (.invokevirtual 128, 3) := by decide +kernel
theorem dX10_isWrongLoop_327 : decode cX10_isWrongLoop 327 = .ok (.bipush 13, 2) := by decide +kernel
theorem dX10_isWrongLoop_329 : decode cX10_isWrongLoop 329 = .ok (.if_icmp .ne 25, 3) := by decide +kernel
theorem dX10_isWrongLoop_332 : decode cX10_isWrongLoop 332 = .ok (.iload 5, 2) := by decide +kernel
theorem dX10_isWrongLoop_334 : decode cX10_isWrongLoop 334 = .ok (.iload 6, 2) := by decide +kernel
theorem dX10_isWrongLoop_336 : decode cX10_isWrongLoop 336 = .ok (.if_icmp .eq 14, 3) := by decide +kernel
theorem dX10_isWrongLoop_339 : decode cX10_isWrongLoop 339 = .ok (.aload_n 0, 1) := by decide +kernel
theorem dX10_isWrongLoop_340 : decode cX10_isWrongLoop 340 = .ok (.iload 5, 2) := by decide +kernel
theorem dX10_isWrongLoop_342 : decode cX10_isWrongLoop 342 = .ok (.iload 6, 2) := by decide +kernel
theorem dX10_isWrongLoop_344 : decode cX10_isWrongLoop 344 = .ok (.invokevirtual 157, 3) := by decide +kernel
theorem dX10_isWrongLoop_347 : decode cX10_isWrongLoop 347 = .ok (.ifCond .eq 7, 3) := by decide +kernel
theorem dX10_isWrongLoop_350 : decode cX10_isWrongLoop 350 = .ok (.iconst 1, 1) := by decide +kernel
theorem dX10_isWrongLoop_351 : decode cX10_isWrongLoop 351 = .ok (.goto 4, 3) := by decide +kernel
theorem dX10_isWrongLoop_354 : decode cX10_isWrongLoop 354 = .ok (.iconst 0, 1) := by decide +kernel
theorem dX10_isWrongLoop_355 : decode cX10_isWrongLoop 355 = .ok (.istore 7, 2) := by decide +kernel
theorem dX10_isWrongLoop_357 : decode cX10_isWrongLoop 357 = .ok (.iload_n 2, 1) := by decide +kernel
theorem dX10_isWrongLoop_358 : decode cX10_isWrongLoop 358 = .ok (.ifCond .ne 18, 3) := by decide +kernel
theorem dX10_isWrongLoop_361 : decode cX10_isWrongLoop 361 = .ok (.iload 7, 2) := by decide +kernel
theorem dX10_isWrongLoop_363 : decode cX10_isWrongLoop 363 = .ok (.ifCond .eq 17, 3) := by decide +kernel
theorem dX10_isWrongLoop_366 : decode cX10_isWrongLoop 366 = .ok (.aload_n 0, 1) := by decide +kernel
theorem dX10_isWrongLoop_367 : decode cX10_isWrongLoop 367 = .ok (.iload_n 1, 1) := by decide +kernel
theorem dX10_isWrongLoop_368 : decode cX10_isWrongLoop 368 = .ok (.iload 6, 2) := by decide +kernel
theorem dX10_isWrongLoop_370 : decode cX10_isWrongLoop 370 = .ok (.invokevirtual 157, 3) := by decide +kernel
theorem dX10_isWrongLoop_373 : decode cX10_isWrongLoop 373 = .ok (.ifCond .ne 7, 3) := by decide +kernel
theorem dX10_isWrongLoop_376 : decode cX10_isWrongLoop 376 = .ok (.iconst 1, 1) := by decide +kernel
theorem dX10_isWrongLoop_377 : decode cX10_isWrongLoop 377 = .ok (.goto 4, 3) := by decide +kernel
theorem dX10_isWrongLoop_380 : decode cX10_isWrongLoop 380 = .ok (.iconst 0, 1) := by decide +kernel
theorem dX10_isWrongLoop_381 : decode cX10_isWrongLoop 381 = .ok (.istore_n 2, 1) := by decide +kernel
theorem dX10_isWrongLoop_382 : decode cX10_isWrongLoop 382 = .ok (.iinc 6 1, 3) := by decide +kernel
theorem dX10_isWrongLoop_385 : decode cX10_isWrongLoop 385 = .ok (.goto (-73), 3) := by decide +kernel
theorem dX10_isWrongLoop_388 : decode cX10_isWrongLoop 388 = .ok (.iload_n 2, 1) := by decide +kernel
theorem dX10_isWrongLoop_389 : decode cX10_isWrongLoop 389 = .ok (.ireturn, 1) := by decide +kernel
theorem dX10_isWrongLoop_390 : decode cX10_isWrongLoop 390 = .ok (.iconst 0, 1) := by decide +kernel
theorem dX10_isWrongLoop_391 : decode cX10_isWrongLoop 391 = .ok (.ireturn, 1) := by decide +kernel
theorem dX10_taken_0 : decode cX10_taken 0 = .ok (.iload_n 0, 1) := by decide +kernel
theorem dX10_taken_1 : decode cX10_taken 1 = .ok (.tableswitch 61 2 11 #[55, 55, 57, 61, 55, 57, 55, 59, 61, 55], 55) := by decide +kernel
theorem dX10_taken_56 : decode cX10_taken 56 = .ok (.iconst 1, 1) := by decide +kernel
theorem dX10_taken_57 : decode cX10_taken 57 = .ok (.ireturn, 1) := by decide +kernel
theorem dX10_taken_58 : decode cX10_taken 58 = .ok (.iconst 2, 1) := by decide +kernel
theorem dX10_taken_59 : decode cX10_taken 59 = .ok (.ireturn, 1) := by decide +kernel
theorem dX10_taken_60 : decode cX10_taken 60 = .ok (.iconst 3, 1) := by decide +kernel
theorem dX10_taken_61 : decode cX10_taken 61 = .ok (.ireturn, 1) := by decide +kernel
theorem dX10_taken_62 : decode cX10_taken 62 = .ok (.iconst 0, 1) := by decide +kernel
theorem dX10_taken_63 : decode cX10_taken 63 = .ok (.ireturn, 1) := by decide +kernel
theorem dX10_left_0 : decode cX10_left 0 = .ok (.iload_n 0, 1) := by decide +kernel
theorem dX10_left_1 : decode cX10_left 1 = .ok (.ifCond .eq 30, 3) := by decide +kernel
theorem dX10_left_4 : decode cX10_left 4 = .ok (.iload_n 0, 1) := by decide +kernel
theorem dX10_left_5 : decode cX10_left 5 = .ok (.iconst 1, 1) := by decide +kernel
theorem dX10_left_6 : decode cX10_left 6 = .ok (.if_icmp .eq 25, 3) := by decide +kernel
theorem dX10_left_9 : decode cX10_left 9 = .ok (.iload_n 0, 1) := by decide +kernel
theorem dX10_left_10 : decode cX10_left 10 = .ok (.iconst 3, 1) := by decide +kernel
theorem dX10_left_11 : decode cX10_left 11 = .ok (.if_icmp .eq 20, 3) := by decide +kernel
theorem dX10_left_14 : decode cX10_left 14 = .ok (.iload_n 0, 1) := by decide +kernel
theorem dX10_left_15 : decode cX10_left 15 = .ok (.iconst 5, 1) := by decide +kernel
theorem dX10_left_16 : decode cX10_left 16 = .ok (.if_icmp .eq 15, 3) := by decide +kernel
theorem dX10_left_19 : decode cX10_left 19 = .ok (.iload_n 0, 1) := by decide +kernel
theorem dX10_left_20 : decode cX10_left 20 = .ok (.bipush 7, 2) := by decide +kernel
theorem dX10_left_22 : decode cX10_left 22 = .ok (.if_icmp .lt 13, 3) := by decide +kernel
theorem dX10_left_25 : decode cX10_left 25 = .ok (.iload_n 0, 1) := by decide +kernel
theorem dX10_left_26 : decode cX10_left 26 = .ok (.bipush 9, 2) := by decide +kernel
theorem dX10_left_28 : decode cX10_left 28 = .ok (.if_icmp .gt 7, 3) := by decide +kernel
theorem dX10_left_31 : decode cX10_left 31 = .ok (.iconst 1, 1) := by decide +kernel
theorem dX10_left_32 : decode cX10_left 32 = .ok (.goto 4, 3) := by decide +kernel
theorem dX10_left_35 : decode cX10_left 35 = .ok (.iconst 0, 1) := by decide +kernel
theorem dX10_left_36 : decode cX10_left 36 = .ok (.istore_n 1, 1) := by decide +kernel
theorem dX10_left_37 : decode cX10_left 37 = .ok (.iload_n 1, 1) := by decide +kernel
theorem dX10_left_38 : decode cX10_left 38 = .ok (.ifCond .eq 7, 3) := by decide +kernel
theorem dX10_left_41 : decode cX10_left 41 = .ok (.iconst 1, 1) := by decide +kernel
theorem dX10_left_42 : decode cX10_left 42 = .ok (.goto 4, 3) := by decide +kernel
theorem dX10_left_45 : decode cX10_left 45 = .ok (.iconst 0, 1) := by decide +kernel
theorem dX10_left_46 : decode cX10_left 46 = .ok (.ireturn, 1) := by decide +kernel
theorem dX10_comes_0 : decode cX10_comes 0 = .ok (.iload_n 1, 1) := by decide +kernel
theorem dX10_comes_1 : decode cX10_comes 1 = .ok (.aload_n 0, 1) := by decide +kernel
theorem dX10_comes_2 : decode cX10_comes 2 = .ok (.getfield 131, 3) := by decide +kernel
theorem dX10_comes_5 : decode cX10_comes 5 = .ok (.if_icmp .ne 13, 3) := by decide +kernel
theorem dX10_comes_8 : decode cX10_comes 8 = .ok (.iload_n 2, 1) := by decide +kernel
theorem dX10_comes_9 : decode cX10_comes 9 = .ok (.ifCond .ne 7, 3) := by decide +kernel
theorem dX10_comes_12 : decode cX10_comes 12 = .ok (.iconst 1, 1) := by decide +kernel
theorem dX10_comes_13 : decode cX10_comes 13 = .ok (.goto 4, 3) := by decide +kernel
theorem dX10_comes_16 : decode cX10_comes 16 = .ok (.iconst 0, 1) := by decide +kernel
theorem dX10_comes_17 : decode cX10_comes 17 = .ok (.ireturn, 1) := by decide +kernel
theorem dX10_comes_18 : decode cX10_comes 18 = .ok (.aload_n 0, 1) := by decide +kernel
theorem dX10_comes_19 : decode cX10_comes 19 = .ok (.getfield 31, 3) := by decide +kernel
theorem dX10_comes_22 : decode cX10_comes 22 = .ok (.iload_n 1, 1) := by decide +kernel
theorem dX10_comes_23 : decode cX10_comes 23 = .ok (.iaload, 1) := by decide +kernel
theorem dX10_comes_24 : decode cX10_comes 24 = .ok (.ifCond .ge 10, 3) := by decide +kernel
theorem dX10_comes_27 : decode cX10_comes 27 = .ok (.aload_n 0, 1) := by decide +kernel
theorem dX10_comes_28 : decode cX10_comes 28 = .ok (.getfield 31, 3) := by decide +kernel
theorem dX10_comes_31 : decode cX10_comes 31 = .ok (.iload_n 1, 1) := by decide +kernel
theorem dX10_comes_32 : decode cX10_comes 32 = .ok (.iload_n 2, 1) := by decide +kernel
theorem dX10_comes_33 : decode cX10_comes 33 = .ok (.iastore, 1) := by decide +kernel
theorem dX10_comes_34 : decode cX10_comes 34 = .ok (.aload_n 0, 1) := by decide +kernel
theorem dX10_comes_35 : decode cX10_comes 35 = .ok (.getfield 31, 3) := by decide +kernel
theorem dX10_comes_38 : decode cX10_comes 38 = .ok (.iload_n 1, 1) := by decide +kernel
theorem dX10_comes_39 : decode cX10_comes 39 = .ok (.iaload, 1) := by decide +kernel
theorem dX10_comes_40 : decode cX10_comes 40 = .ok (.iload_n 2, 1) := by decide +kernel
theorem dX10_comes_41 : decode cX10_comes 41 = .ok (.if_icmp .ne 7, 3) := by decide +kernel
theorem dX10_comes_44 : decode cX10_comes 44 = .ok (.iconst 1, 1) := by decide +kernel
theorem dX10_comes_45 : decode cX10_comes 45 = .ok (.goto 4, 3) := by decide +kernel
theorem dX10_comes_48 : decode cX10_comes 48 = .ok (.iconst 0, 1) := by decide +kernel
theorem dX10_comes_49 : decode cX10_comes 49 = .ok (.ireturn, 1) := by decide +kernel
theorem dX10_stackFault_0 : decode cX10_stackFault 0 = .ok (.aload_n 0, 1) := by decide +kernel
theorem dX10_stackFault_1 : decode cX10_stackFault 1 = .ok (.iload_n 1, 1) := by decide +kernel
theorem dX10_stackFault_2 : decode cX10_stackFault 2 = .ok (.invokevirtual 128, 3) := by decide +kernel
theorem dX10_stackFault_5 : decode cX10_stackFault 5 = .ok (.istore_n 3, 1) := by decide +kernel
theorem dX10_stackFault_6 : decode cX10_stackFault 6 = .ok (.aload_n 0, 1) := by decide +kernel
theorem dX10_stackFault_7 : decode cX10_stackFault 7 = .ok (.getfield 31, 3) := by decide +kernel
theorem dX10_stackFault_10 : decode cX10_stackFault 10 = .ok (.iload_n 1, 1) := by decide +kernel
theorem dX10_stackFault_11 : decode cX10_stackFault 11 = .ok (.iaload, 1) := by decide +kernel
theorem dX10_stackFault_12 : decode cX10_stackFault 12 = .ok (.istore 4, 2) := by decide +kernel
theorem dX10_stackFault_14 : decode cX10_stackFault 14 = .ok (.iload_n 3, 1) := by decide +kernel
theorem dX10_stackFault_15 : decode cX10_stackFault 15 = .ok (.invokestatic 160, 3) := by decide +kernel
theorem dX10_stackFault_18 : decode cX10_stackFault 18 = .ok (.iload 4, 2) := by decide +kernel
theorem dX10_stackFault_20 : decode cX10_stackFault 20 = .ok (.if_icmp .le 6, 3) := by decide +kernel
theorem dX10_stackFault_23 : decode cX10_stackFault 23 = .ok (.bipush 8, 2) := by decide +kernel
theorem dX10_stackFault_25 : decode cX10_stackFault 25 = .ok (.ireturn, 1) := by decide +kernel
theorem dX10_stackFault_26 : decode cX10_stackFault 26 = .ok (.iload 4, 2) := by decide +kernel
theorem dX10_stackFault_28 : decode cX10_stackFault 28 = .ok (.iload_n 3, 1) := by decide +kernel
theorem dX10_stackFault_29 : decode cX10_stackFault 29 = .ok (.invokestatic 160, 3) := by decide +kernel
theorem dX10_stackFault_32 : decode cX10_stackFault 32 = .ok (.isub, 1) := by decide +kernel
theorem dX10_stackFault_33 : decode cX10_stackFault 33 = .ok (.iload_n 3, 1) := by decide +kernel
theorem dX10_stackFault_34 : decode cX10_stackFault 34 = .ok (.invokestatic 163, 3) := by decide +kernel
theorem dX10_stackFault_37 : decode cX10_stackFault 37 = .ok (.iadd, 1) := by decide +kernel
theorem dX10_stackFault_38 : decode cX10_stackFault 38 = .ok (.istore 4, 2) := by decide +kernel
theorem dX10_stackFault_40 : decode cX10_stackFault 40 = .ok (.iload 4, 2) := by decide +kernel
theorem dX10_stackFault_42 : decode cX10_stackFault 42 = .ok (.bipush 64, 2) := by decide +kernel
theorem dX10_stackFault_44 : decode cX10_stackFault 44 = .ok (.if_icmp .le 6, 3) := by decide +kernel
theorem dX10_stackFault_47 : decode cX10_stackFault 47 = .ok (.bipush 9, 2) := by decide +kernel
theorem dX10_stackFault_49 : decode cX10_stackFault 49 = .ok (.ireturn, 1) := by decide +kernel
theorem dX10_stackFault_50 : decode cX10_stackFault 50 = .ok (.iload_n 3, 1) := by decide +kernel
theorem dX10_stackFault_51 : decode cX10_stackFault 51 = .ok (.bipush 15, 2) := by decide +kernel
theorem dX10_stackFault_53 : decode cX10_stackFault 53 = .ok (.if_icmp .eq 9, 3) := by decide +kernel
theorem dX10_stackFault_56 : decode cX10_stackFault 56 = .ok (.iload_n 3, 1) := by decide +kernel
theorem dX10_stackFault_57 : decode cX10_stackFault 57 = .ok (.bipush 16, 2) := by decide +kernel
theorem dX10_stackFault_59 : decode cX10_stackFault 59 = .ok (.if_icmp .ne 22, 3) := by decide +kernel
theorem dX10_stackFault_62 : decode cX10_stackFault 62 = .ok (.aload_n 0, 1) := by decide +kernel
theorem dX10_stackFault_63 : decode cX10_stackFault 63 = .ok (.getfield 44, 3) := by decide +kernel
theorem dX10_stackFault_66 : decode cX10_stackFault 66 = .ok (.aload_n 0, 1) := by decide +kernel
theorem dX10_stackFault_67 : decode cX10_stackFault 67 = .ok (.getfield 22, 3) := by decide +kernel
theorem dX10_stackFault_70 : decode cX10_stackFault 70 = .ok (.aload_n 0, 1) := by decide +kernel
theorem dX10_stackFault_71 : decode cX10_stackFault 71 = .ok (.getfield 125, 3) := by decide +kernel
theorem dX10_stackFault_74 : decode cX10_stackFault 74 = .ok (.iload_n 1, 1) := by decide +kernel
theorem dX10_stackFault_75 : decode cX10_stackFault 75 = .ok (.iadd, 1) := by decide +kernel
theorem dX10_stackFault_76 : decode cX10_stackFault 76 = .ok (.iaload, 1) := by decide +kernel
theorem dX10_stackFault_77 : decode cX10_stackFault 77 = .ok (.iaload, 1) := by decide +kernel
theorem dX10_stackFault_78 : decode cX10_stackFault 78 = .ok (.goto 4, 3) := by decide +kernel
theorem dX10_stackFault_81 : decode cX10_stackFault 81 = .ok (.iconst 0, 1) := by decide +kernel
theorem dX10_stackFault_82 : decode cX10_stackFault 82 = .ok (.istore 5, 2) := by decide +kernel
theorem dX10_stackFault_84 : decode cX10_stackFault 84 = .ok (.aload_n 0, 1) := by decide +kernel
theorem dX10_stackFault_85 : decode cX10_stackFault 85 = .ok (.getfield 44, 3) := by decide +kernel
theorem dX10_stackFault_88 : decode cX10_stackFault 88 = .ok (.iload_n 2, 1) := by decide +kernel
theorem dX10_stackFault_89 : decode cX10_stackFault 89 = .ok (.iload 4, 2) := by decide +kernel
theorem dX10_stackFault_91 : decode cX10_stackFault 91 = .ok (.iload 5, 2) := by decide +kernel
theorem dX10_stackFault_93 : decode cX10_stackFault 93 = .ok (.iadd, 1) := by decide +kernel
theorem dX10_stackFault_94 : decode cX10_stackFault 94 = .ok (.aload_n 0, 1) := by decide +kernel
theorem dX10_stackFault_95 : decode cX10_stackFault 95 = .ok (.getfield 44, 3) := by decide +kernel
theorem dX10_stackFault_98 : decode cX10_stackFault 98 = .ok (.iload_n 2, 1) := by decide +kernel
theorem dX10_stackFault_99 : decode cX10_stackFault 99 = .ok (.iaload, 1) := by decide +kernel
theorem dX10_stackFault_100 : decode cX10_stackFault 100 = .ok (.if_icmp .le 11, 3) := by decide +kernel
theorem dX10_stackFault_103 : decode cX10_stackFault 103 = .ok (.iload 4, 2) := by decide +kernel
theorem dX10_stackFault_105 : decode cX10_stackFault 105 = .ok (.iload 5, 2) := by decide +kernel
theorem dX10_stackFault_107 : decode cX10_stackFault 107 = .ok (.iadd, 1) := by decide +kernel
theorem dX10_stackFault_108 : decode cX10_stackFault 108 = .ok (.goto 9, 3) := by decide +kernel
theorem dX10_stackFault_111 : decode cX10_stackFault 111 = .ok (.aload_n 0, 1) := by decide +kernel
theorem dX10_stackFault_112 : decode cX10_stackFault 112 = .ok (.getfield 44, 3) := by decide +kernel
theorem dX10_stackFault_115 : decode cX10_stackFault 115 = .ok (.iload_n 2, 1) := by decide +kernel
theorem dX10_stackFault_116 : decode cX10_stackFault 116 = .ok (.iaload, 1) := by decide +kernel
theorem dX10_stackFault_117 : decode cX10_stackFault 117 = .ok (.iastore, 1) := by decide +kernel
theorem dX10_stackFault_118 : decode cX10_stackFault 118 = .ok (.iconst 1, 1) := by decide +kernel
theorem dX10_stackFault_119 : decode cX10_stackFault 119 = .ok (.istore 6, 2) := by decide +kernel
theorem dX10_stackFault_121 : decode cX10_stackFault 121 = .ok (.iload_n 3, 1) := by decide +kernel
theorem dX10_stackFault_122 : decode cX10_stackFault 122 = .ok (.bipush 10, 2) := by decide +kernel
theorem dX10_stackFault_124 : decode cX10_stackFault 124 = .ok (.if_icmp .eq 26, 3) := by decide +kernel
theorem dX10_stackFault_127 : decode cX10_stackFault 127 = .ok (.iload_n 3, 1) := by decide +kernel
theorem dX10_stackFault_128 : decode cX10_stackFault 128 = .ok (.bipush 14, 2) := by decide +kernel
theorem dX10_stackFault_130 : decode cX10_stackFault 130 = .ok (.if_icmp .eq 20, 3) := by decide +kernel
theorem dX10_stackFault_133 : decode cX10_stackFault 133 = .ok (.iload_n 3, 1) := by decide +kernel
theorem dX10_stackFault_134 : decode cX10_stackFault 134 = .ok (.bipush 18, 2) := by decide +kernel
theorem dX10_stackFault_136 : decode cX10_stackFault 136 = .ok (.if_icmp .eq 14, 3) := by decide +kernel
theorem dX10_stackFault_139 : decode cX10_stackFault 139 = .ok (.aload_n 0, 1) := by decide +kernel
theorem dX10_stackFault_140 : decode cX10_stackFault 140 = .ok (.iload_n 1, 1) := by decide +kernel
theorem dX10_stackFault_141 : decode cX10_stackFault 141 = .ok (.iconst 1, 1) := by decide +kernel
theorem dX10_stackFault_142 : decode cX10_stackFault 142 = .ok (.iadd, 1) := by decide +kernel
theorem dX10_stackFault_143 : decode cX10_stackFault 143 = .ok (.iload 4, 2) := by decide +kernel
theorem dX10_stackFault_145 : decode cX10_stackFault 145 = .ok (.invokevirtual 166, 3) := by decide +kernel
theorem dX10_stackFault_148 : decode cX10_stackFault 148 = .ok (.istore 6, 2) := by decide +kernel
theorem dX10_stackFault_150 : decode cX10_stackFault 150 = .ok (.iload_n 3, 1) := by decide +kernel
theorem dX10_stackFault_151 : decode cX10_stackFault 151 = .ok (.bipush 10, 2) := by decide +kernel
theorem dX10_stackFault_153 : decode cX10_stackFault 153 = .ok (.if_icmp .eq 15, 3) := by decide +kernel
theorem dX10_stackFault_156 : decode cX10_stackFault 156 = .ok (.iload_n 3, 1) := by decide +kernel
theorem dX10_stackFault_157 : decode cX10_stackFault 157 = .ok (.bipush 11, 2) := by decide +kernel
theorem dX10_stackFault_159 : decode cX10_stackFault 159 = .ok (.if_icmp .eq 9, 3) := by decide +kernel
theorem dX10_stackFault_162 : decode cX10_stackFault 162 = .ok (.iload_n 3, 1) := by decide +kernel
theorem dX10_stackFault_163 : decode cX10_stackFault 163 = .ok (.bipush 14, 2) := by decide +kernel
theorem dX10_stackFault_165 : decode cX10_stackFault 165 = .ok (.if_icmp .ne 35, 3) := by decide +kernel
theorem dX10_stackFault_168 : decode cX10_stackFault 168 = .ok (.aload_n 0, 1) := by decide +kernel
theorem dX10_stackFault_169 : decode cX10_stackFault 169 = .ok (.aload_n 0, 1) := by decide +kernel
theorem dX10_stackFault_170 : decode cX10_stackFault 170 = .ok (.getfield 22, 3) := by decide +kernel
theorem dX10_stackFault_173 : decode cX10_stackFault 173 = .ok (.aload_n 0, 1) := by decide +kernel
theorem dX10_stackFault_174 : decode cX10_stackFault 174 = .ok (.getfield 125, 3) := by decide +kernel
theorem dX10_stackFault_177 : decode cX10_stackFault 177 = .ok (.iload_n 1, 1) := by decide +kernel
theorem dX10_stackFault_178 : decode cX10_stackFault 178 = .ok (.iadd, 1) := by decide +kernel
theorem dX10_stackFault_179 : decode cX10_stackFault 179 = .ok (.iaload, 1) := by decide +kernel
theorem dX10_stackFault_180 : decode cX10_stackFault 180 = .ok (.iload 4, 2) := by decide +kernel
theorem dX10_stackFault_182 : decode cX10_stackFault 182 = .ok (.invokevirtual 166, 3) := by decide +kernel
theorem dX10_stackFault_185 : decode cX10_stackFault 185 = .ok (.ifCond .eq 12, 3) := by decide +kernel
theorem dX10_stackFault_188 : decode cX10_stackFault 188 = .ok (.iload 6, 2) := by decide +kernel
theorem dX10_stackFault_190 : decode cX10_stackFault 190 = .ok (.ifCond .eq 7, 3) := by decide +kernel
theorem dX10_stackFault_193 : decode cX10_stackFault 193 = .ok (.iconst 1, 1) := by decide +kernel
theorem dX10_stackFault_194 : decode cX10_stackFault 194 = .ok (.goto 4, 3) := by decide +kernel
theorem dX10_stackFault_197 : decode cX10_stackFault 197 = .ok (.iconst 0, 1) := by decide +kernel
theorem dX10_stackFault_198 : decode cX10_stackFault 198 = .ok (.istore 6, 2) := by decide +kernel
theorem dX10_stackFault_200 : decode cX10_stackFault 200 = .ok (.iload_n 3, 1) := by decide +kernel
theorem dX10_stackFault_201 : decode cX10_stackFault 201 = .ok (.bipush 13, 2) := by decide +kernel
theorem dX10_stackFault_203 : decode cX10_stackFault 203 = .ok (.if_icmp .ne 35, 3) := by decide +kernel
theorem dX10_stackFault_206 : decode cX10_stackFault 206 = .ok (.aload_n 0, 1) := by decide +kernel
theorem dX10_stackFault_207 : decode cX10_stackFault 207 = .ok (.aload_n 0, 1) := by decide +kernel
theorem dX10_stackFault_208 : decode cX10_stackFault 208 = .ok (.getfield 25, 3) := by decide +kernel
theorem dX10_stackFault_211 : decode cX10_stackFault 211 = .ok (.aload_n 0, 1) := by decide +kernel
theorem dX10_stackFault_212 : decode cX10_stackFault 212 = .ok (.getfield 125, 3) := by decide +kernel
theorem dX10_stackFault_215 : decode cX10_stackFault 215 = .ok (.iload_n 1, 1) := by decide +kernel
theorem dX10_stackFault_216 : decode cX10_stackFault 216 = .ok (.iadd, 1) := by decide +kernel
theorem dX10_stackFault_217 : decode cX10_stackFault 217 = .ok (.iaload, 1) := by decide +kernel
theorem dX10_stackFault_218 : decode cX10_stackFault 218 = .ok (.iload 4, 2) := by decide +kernel
theorem dX10_stackFault_220 : decode cX10_stackFault 220 = .ok (.invokevirtual 166, 3) := by decide +kernel
theorem dX10_stackFault_223 : decode cX10_stackFault 223 = .ok (.ifCond .eq 12, 3) := by decide +kernel
theorem dX10_stackFault_226 : decode cX10_stackFault 226 = .ok (.iload 6, 2) := by decide +kernel
theorem dX10_stackFault_228 : decode cX10_stackFault 228 = .ok (.ifCond .eq 7, 3) := by decide +kernel
theorem dX10_stackFault_231 : decode cX10_stackFault 231 = .ok (.iconst 1, 1) := by decide +kernel
theorem dX10_stackFault_232 : decode cX10_stackFault 232 = .ok (.goto 4, 3) := by decide +kernel
theorem dX10_stackFault_235 : decode cX10_stackFault 235 = .ok (.iconst 0, 1) := by decide +kernel
theorem dX10_stackFault_236 : decode cX10_stackFault 236 = .ok (.istore 6, 2) := by decide +kernel
theorem dX10_stackFault_238 : decode cX10_stackFault 238 = .ok (.iload_n 3, 1) := by decide +kernel
theorem dX10_stackFault_239 : decode cX10_stackFault 239 = .ok (.bipush 18, 2) := by decide +kernel
theorem dX10_stackFault_241 : decode cX10_stackFault 241 = .ok (.if_icmp .ne 15, 3) := by decide +kernel
theorem dX10_stackFault_244 : decode cX10_stackFault 244 = .ok (.iload 4, 2) := by decide +kernel
theorem dX10_stackFault_246 : decode cX10_stackFault 246 = .ok (.ifCond .ne 7, 3) := by decide +kernel
theorem dX10_stackFault_249 : decode cX10_stackFault 249 = .ok (.iconst 1, 1) := by decide +kernel
theorem dX10_stackFault_250 : decode cX10_stackFault 250 = .ok (.goto 4, 3) := by decide +kernel
theorem dX10_stackFault_253 : decode cX10_stackFault 253 = .ok (.iconst 0, 1) := by decide +kernel
theorem dX10_stackFault_254 : decode cX10_stackFault 254 = .ok (.istore 6, 2) := by decide +kernel
theorem dX10_stackFault_256 : decode cX10_stackFault 256 = .ok (.iload 6, 2) := by decide +kernel
theorem dX10_stackFault_258 : decode cX10_stackFault 258 = .ok (.ifCond .eq 7, 3) := by decide +kernel
theorem dX10_stackFault_261 : decode cX10_stackFault 261 = .ok (.iconst 0, 1) := by decide +kernel
theorem dX10_stackFault_262 : decode cX10_stackFault 262 = .ok (.goto 5, 3) := by decide +kernel
theorem dX10_stackFault_265 : decode cX10_stackFault 265 = .ok (.bipush 10, 2) := by decide +kernel
theorem dX10_stackFault_267 : decode cX10_stackFault 267 = .ok (.ireturn, 1) := by decide +kernel
theorem dX10_cut_0 : decode cX10_cut 0 = .ok (.lload_n 0, 1) := by decide +kernel
theorem dX10_cut_1 : decode cX10_cut 1 = .ok (.ldc2_w 169, 3) := by decide +kernel
theorem dX10_cut_4 : decode cX10_cut 4 = .ok (.lcmp, 1) := by decide +kernel
theorem dX10_cut_5 : decode cX10_cut 5 = .ok (.ifCond .le 9, 3) := by decide +kernel
theorem dX10_cut_8 : decode cX10_cut 8 = .ok (.ldc2_w 169, 3) := by decide +kernel
theorem dX10_cut_11 : decode cX10_cut 11 = .ok (.goto 4, 3) := by decide +kernel
theorem dX10_cut_14 : decode cX10_cut 14 = .ok (.lload_n 0, 1) := by decide +kernel
theorem dX10_cut_15 : decode cX10_cut 15 = .ok (.lreturn, 1) := by decide +kernel
theorem dX10_greater_0 : decode cX10_greater 0 = .ok (.lload_n 0, 1) := by decide +kernel
theorem dX10_greater_1 : decode cX10_greater 1 = .ok (.lload_n 2, 1) := by decide +kernel
theorem dX10_greater_2 : decode cX10_greater 2 = .ok (.lcmp, 1) := by decide +kernel
theorem dX10_greater_3 : decode cX10_greater 3 = .ok (.ifCond .le 7, 3) := by decide +kernel
theorem dX10_greater_6 : decode cX10_greater 6 = .ok (.lload_n 0, 1) := by decide +kernel
theorem dX10_greater_7 : decode cX10_greater 7 = .ok (.goto 4, 3) := by decide +kernel
theorem dX10_greater_10 : decode cX10_greater 10 = .ok (.lload_n 2, 1) := by decide +kernel
theorem dX10_greater_11 : decode cX10_greater 11 = .ok (.lreturn, 1) := by decide +kernel
theorem dX10_behind_0 : decode cX10_behind 0 = .ok (.lload_n 0, 1) := by decide +kernel
theorem dX10_behind_1 : decode cX10_behind 1 = .ok (.lconst 0, 1) := by decide +kernel
theorem dX10_behind_2 : decode cX10_behind 2 = .ok (.lcmp, 1) := by decide +kernel
theorem dX10_behind_3 : decode cX10_behind 3 = .ok (.ifCond .lt 9, 3) := by decide +kernel
theorem dX10_behind_6 : decode cX10_behind 6 = .ok (.lload_n 2, 1) := by decide +kernel
theorem dX10_behind_7 : decode cX10_behind 7 = .ok (.lconst 0, 1) := by decide +kernel
theorem dX10_behind_8 : decode cX10_behind 8 = .ok (.lcmp, 1) := by decide +kernel
theorem dX10_behind_9 : decode cX10_behind 9 = .ok (.ifCond .ge 9, 3) := by decide +kernel
theorem dX10_behind_12 : decode cX10_behind 12 = .ok (.ldc2_w 171, 3) := by decide +kernel
theorem dX10_behind_15 : decode cX10_behind 15 = .ok (.goto 9, 3) := by decide +kernel
theorem dX10_behind_18 : decode cX10_behind 18 = .ok (.lload_n 0, 1) := by decide +kernel
theorem dX10_behind_19 : decode cX10_behind 19 = .ok (.lload_n 2, 1) := by decide +kernel
theorem dX10_behind_20 : decode cX10_behind 20 = .ok (.ladd, 1) := by decide +kernel
theorem dX10_behind_21 : decode cX10_behind 21 = .ok (.invokestatic 173, 3) := by decide +kernel
theorem dX10_behind_24 : decode cX10_behind 24 = .ok (.lreturn, 1) := by decide +kernel
theorem dX10_times_0 : decode cX10_times 0 = .ok (.lload_n 2, 1) := by decide +kernel
theorem dX10_times_1 : decode cX10_times 1 = .ok (.lconst 0, 1) := by decide +kernel
theorem dX10_times_2 : decode cX10_times 2 = .ok (.lcmp, 1) := by decide +kernel
theorem dX10_times_3 : decode cX10_times 3 = .ok (.ifCond .ne 7, 3) := by decide +kernel
theorem dX10_times_6 : decode cX10_times 6 = .ok (.lconst 0, 1) := by decide +kernel
theorem dX10_times_7 : decode cX10_times 7 = .ok (.goto 31, 3) := by decide +kernel
theorem dX10_times_10 : decode cX10_times 10 = .ok (.aload_n 0, 1) := by decide +kernel
theorem dX10_times_11 : decode cX10_times 11 = .ok (.getfield 38, 3) := by decide +kernel
theorem dX10_times_14 : decode cX10_times 14 = .ok (.iload_n 1, 1) := by decide +kernel
theorem dX10_times_15 : decode cX10_times 15 = .ok (.laload, 1) := by decide +kernel
theorem dX10_times_16 : decode cX10_times 16 = .ok (.lconst 0, 1) := by decide +kernel
theorem dX10_times_17 : decode cX10_times 17 = .ok (.lcmp, 1) := by decide +kernel
theorem dX10_times_18 : decode cX10_times 18 = .ok (.ifCond .ge 9, 3) := by decide +kernel
theorem dX10_times_21 : decode cX10_times 21 = .ok (.ldc2_w 171, 3) := by decide +kernel
theorem dX10_times_24 : decode cX10_times 24 = .ok (.goto 14, 3) := by decide +kernel
theorem dX10_times_27 : decode cX10_times 27 = .ok (.lload_n 2, 1) := by decide +kernel
theorem dX10_times_28 : decode cX10_times 28 = .ok (.aload_n 0, 1) := by decide +kernel
