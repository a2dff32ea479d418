theorem dX6_open_9 : decode cX6_open 9 = .ok (.sipush 256, 3) := by decide +kernel
theorem dX6_open_12 : decode cX6_open 12 = .ok (.invokestatic 28, 3) := by decide +kernel
theorem dX6_open_15 : decode cX6_open 15 = .ok (.putfield 34, 3) := by decide +kernel
theorem dX6_open_18 : decode cX6_open 18 = .ok (.iconst 0, 1) := by decide +kernel
theorem dX6_open_19 : decode cX6_open 19 = .ok (.istore_n 2, 1) := by decide +kernel
theorem dX6_open_20 : decode cX6_open 20 = .ok (.iload_n 2, 1) := by decide +kernel
theorem dX6_open_21 : decode cX6_open 21 = .ok (.aload_n 0, 1) := by decide +kernel
theorem dX6_open_22 : decode cX6_open 22 = .ok (.getfield 34, 3) := by decide +kernel
theorem dX6_open_25 : decode cX6_open 25 = .ok (.if_icmp .ge 16, 3) := by decide +kernel
theorem dX6_open_28 : decode cX6_open 28 = .ok (.aload_n 0, 1) := by decide +kernel
theorem dX6_open_29 : decode cX6_open 29 = .ok (.getfield 9, 3) := by decide +kernel
theorem dX6_open_32 : decode cX6_open 32 = .ok (.iload_n 2, 1) := by decide +kernel
theorem dX6_open_33 : decode cX6_open 33 = .ok (.iconst (-1), 1) := by decide +kernel
theorem dX6_open_34 : decode cX6_open 34 = .ok (.iastore, 1) := by decide +kernel
theorem dX6_open_35 : decode cX6_open 35 = .ok (.iinc 2 1, 3) := by decide +kernel
theorem dX6_open_38 : decode cX6_open 38 = .ok (.goto (-18), 3) := by decide +kernel
theorem dX6_open_41 : decode cX6_open 41 = .ok (.aload_n 0, 1) := by decide +kernel
theorem dX6_open_42 : decode cX6_open 42 = .ok (.getfield 9, 3) := by decide +kernel
theorem dX6_open_45 : decode cX6_open 45 = .ok (.iconst 0, 1) := by decide +kernel
theorem dX6_open_46 : decode cX6_open 46 = .ok (.iconst 0, 1) := by decide +kernel
theorem dX6_open_47 : decode cX6_open 47 = .ok (.iastore, 1) := by decide +kernel
theorem dX6_open_48 : decode cX6_open 48 = .ok (.aload_n 0, 1) := by decide +kernel
theorem dX6_open_49 : decode cX6_open 49 = .ok (.getfield 9, 3) := by decide +kernel
theorem dX6_open_52 : decode cX6_open 52 = .ok (.aload_n 0, 1) := by decide +kernel
theorem dX6_open_53 : decode cX6_open 53 = .ok (.getfield 34, 3) := by decide +kernel
theorem dX6_open_56 : decode cX6_open 56 = .ok (.iconst 0, 1) := by decide +kernel
theorem dX6_open_57 : decode cX6_open 57 = .ok (.iastore, 1) := by decide +kernel
theorem dX6_open_58 : decode cX6_open 58 = .ok (.iload_n 1, 1) := by decide +kernel
theorem dX6_open_59 : decode cX6_open 59 = .ok (.ifCond .lt 16, 3) := by decide +kernel
theorem dX6_open_62 : decode cX6_open 62 = .ok (.iload_n 1, 1) := by decide +kernel
theorem dX6_open_63 : decode cX6_open 63 = .ok (.bipush 16, 2) := by decide +kernel
theorem dX6_open_65 : decode cX6_open 65 = .ok (.if_icmp .ge 10, 3) := by decide +kernel
theorem dX6_open_68 : decode cX6_open 68 = .ok (.aload_n 0, 1) := by decide +kernel
theorem dX6_open_69 : decode cX6_open 69 = .ok (.getfield 15, 3) := by decide +kernel
theorem dX6_open_72 : decode cX6_open 72 = .ok (.iload_n 1, 1) := by decide +kernel
theorem dX6_open_73 : decode cX6_open 73 = .ok (.iconst 0, 1) := by decide +kernel
theorem dX6_open_74 : decode cX6_open 74 = .ok (.iastore, 1) := by decide +kernel
theorem dX6_open_75 : decode cX6_open 75 = .ok (.return_, 1) := by decide +kernel
theorem dX6_faultAt_0 : decode cX6_faultAt 0 = .ok (.aload_n 0, 1) := by decide +kernel
theorem dX6_faultAt_1 : decode cX6_faultAt 1 = .ok (.getfield 18, 3) := by decide +kernel
theorem dX6_faultAt_4 : decode cX6_faultAt 4 = .ok (.iload_n 1, 1) := by decide +kernel
theorem dX6_faultAt_5 : decode cX6_faultAt 5 = .ok (.iload_n 2, 1) := by decide +kernel
theorem dX6_faultAt_6 : decode cX6_faultAt 6 = .ok (.invokevirtual 38, 3) := by decide +kernel
theorem dX6_faultAt_9 : decode cX6_faultAt 9 = .ok (.astore_n 3, 1) := by decide +kernel
theorem dX6_faultAt_10 : decode cX6_faultAt 10 = .ok (.aload_n 3, 1) := by decide +kernel
theorem dX6_faultAt_11 : decode cX6_faultAt 11 = .ok (.getfield 42, 3) := by decide +kernel
theorem dX6_faultAt_14 : decode cX6_faultAt 14 = .ok (.ifCond .lt 18, 3) := by decide +kernel
theorem dX6_faultAt_17 : decode cX6_faultAt 17 = .ok (.aload_n 3, 1) := by decide +kernel
theorem dX6_faultAt_18 : decode cX6_faultAt 18 = .ok (.getfield 42, 3) := by decide +kernel
theorem dX6_faultAt_21 : decode cX6_faultAt 21 = .ok (.getstatic 47, 3) := by decide +kernel
theorem dX6_faultAt_24 : decode cX6_faultAt 24 = .ok (.arraylength, 1) := by decide +kernel
theorem dX6_faultAt_25 : decode cX6_faultAt 25 = .ok (.if_icmp .ge 7, 3) := by decide +kernel
theorem dX6_faultAt_28 : decode cX6_faultAt 28 = .ok (.iconst 1, 1) := by decide +kernel
theorem dX6_faultAt_29 : decode cX6_faultAt 29 = .ok (.goto 4, 3) := by decide +kernel
theorem dX6_faultAt_32 : decode cX6_faultAt 32 = .ok (.iconst 0, 1) := by decide +kernel
theorem dX6_faultAt_33 : decode cX6_faultAt 33 = .ok (.istore 4, 2) := by decide +kernel
theorem dX6_faultAt_35 : decode cX6_faultAt 35 = .ok (.iload 4, 2) := by decide +kernel
theorem dX6_faultAt_37 : decode cX6_faultAt 37 = .ok (.ifCond .eq 25, 3) := by decide +kernel
theorem dX6_faultAt_40 : decode cX6_faultAt 40 = .ok (.iload_n 2, 1) := by decide +kernel
theorem dX6_faultAt_41 : decode cX6_faultAt 41 = .ok (.ifCond .lt 21, 3) := by decide +kernel
theorem dX6_faultAt_44 : decode cX6_faultAt 44 = .ok (.iload_n 2, 1) := by decide +kernel
theorem dX6_faultAt_45 : decode cX6_faultAt 45 = .ok (.aload_n 0, 1) := by decide +kernel
theorem dX6_faultAt_46 : decode cX6_faultAt 46 = .ok (.getfield 34, 3) := by decide +kernel
theorem dX6_faultAt_49 : decode cX6_faultAt 49 = .ok (.if_icmp .ge 13, 3) := by decide +kernel
theorem dX6_faultAt_52 : decode cX6_faultAt 52 = .ok (.aload_n 0, 1) := by decide +kernel
theorem dX6_faultAt_53 : decode cX6_faultAt 53 = .ok (.getfield 9, 3) := by decide +kernel
theorem dX6_faultAt_56 : decode cX6_faultAt 56 = .ok (.iload_n 2, 1) := by decide +kernel
theorem dX6_faultAt_57 : decode cX6_faultAt 57 = .ok (.iaload, 1) := by decide +kernel
theorem dX6_faultAt_58 : decode cX6_faultAt 58 = .ok (.iconst (-1), 1) := by decide +kernel
theorem dX6_faultAt_59 : decode cX6_faultAt 59 = .ok (.if_icmp .ne 5, 3) := by decide +kernel
theorem dX6_faultAt_62 : decode cX6_faultAt 62 = .ok (.iconst 0, 1) := by decide +kernel
theorem dX6_faultAt_63 : decode cX6_faultAt 63 = .ok (.ireturn, 1) := by decide +kernel
theorem dX6_faultAt_64 : decode cX6_faultAt 64 = .ok (.aload_n 0, 1) := by decide +kernel
theorem dX6_faultAt_65 : decode cX6_faultAt 65 = .ok (.getfield 9, 3) := by decide +kernel
theorem dX6_faultAt_68 : decode cX6_faultAt 68 = .ok (.iload_n 2, 1) := by decide +kernel
theorem dX6_faultAt_69 : decode cX6_faultAt 69 = .ok (.iaload, 1) := by decide +kernel
theorem dX6_faultAt_70 : decode cX6_faultAt 70 = .ok (.istore 5, 2) := by decide +kernel
theorem dX6_faultAt_72 : decode cX6_faultAt 72 = .ok (.getstatic 47, 3) := by decide +kernel
theorem dX6_faultAt_75 : decode cX6_faultAt 75 = .ok (.aload_n 3, 1) := by decide +kernel
theorem dX6_faultAt_76 : decode cX6_faultAt 76 = .ok (.getfield 42, 3) := by decide +kernel
theorem dX6_faultAt_79 : decode cX6_faultAt 79 = .ok (.iaload, 1) := by decide +kernel
theorem dX6_faultAt_80 : decode cX6_faultAt 80 = .ok (.iload 5, 2) := by decide +kernel
theorem dX6_faultAt_82 : decode cX6_faultAt 82 = .ok (.if_icmp .le 6, 3) := by decide +kernel
theorem dX6_faultAt_85 : decode cX6_faultAt 85 = .ok (.bipush 8, 2) := by decide +kernel
theorem dX6_faultAt_87 : decode cX6_faultAt 87 = .ok (.ireturn, 1) := by decide +kernel
theorem dX6_faultAt_88 : decode cX6_faultAt 88 = .ok (.iload 5, 2) := by decide +kernel
theorem dX6_faultAt_90 : decode cX6_faultAt 90 = .ok (.getstatic 47, 3) := by decide +kernel
theorem dX6_faultAt_93 : decode cX6_faultAt 93 = .ok (.aload_n 3, 1) := by decide +kernel
theorem dX6_faultAt_94 : decode cX6_faultAt 94 = .ok (.getfield 42, 3) := by decide +kernel
theorem dX6_faultAt_97 : decode cX6_faultAt 97 = .ok (.iaload, 1) := by decide +kernel
theorem dX6_faultAt_98 : decode cX6_faultAt 98 = .ok (.isub, 1) := by decide +kernel
theorem dX6_faultAt_99 : decode cX6_faultAt 99 = .ok (.getstatic 50, 3) := by decide +kernel
theorem dX6_faultAt_102 : decode cX6_faultAt 102 = .ok (.aload_n 3, 1) := by decide +kernel
theorem dX6_faultAt_103 : decode cX6_faultAt 103 = .ok (.getfield 42, 3) := by decide +kernel
theorem dX6_faultAt_106 : decode cX6_faultAt 106 = .ok (.iaload, 1) := by decide +kernel
theorem dX6_faultAt_107 : decode cX6_faultAt 107 = .ok (.iadd, 1) := by decide +kernel
theorem dX6_faultAt_108 : decode cX6_faultAt 108 = .ok (.istore 6, 2) := by decide +kernel
theorem dX6_faultAt_110 : decode cX6_faultAt 110 = .ok (.iload 6, 2) := by decide +kernel
theorem dX6_faultAt_112 : decode cX6_faultAt 112 = .ok (.bipush 64, 2) := by decide +kernel
theorem dX6_faultAt_114 : decode cX6_faultAt 114 = .ok (.if_icmp .le 6, 3) := by decide +kernel
theorem dX6_faultAt_117 : decode cX6_faultAt 117 = .ok (.bipush 9, 2) := by decide +kernel
theorem dX6_faultAt_119 : decode cX6_faultAt 119 = .ok (.ireturn, 1) := by decide +kernel
theorem dX6_faultAt_120 : decode cX6_faultAt 120 = .ok (.aload_n 0, 1) := by decide +kernel
theorem dX6_faultAt_121 : decode cX6_faultAt 121 = .ok (.iload_n 2, 1) := by decide +kernel
theorem dX6_faultAt_122 : decode cX6_faultAt 122 = .ok (.aload_n 3, 1) := by decide +kernel
theorem dX6_faultAt_123 : decode cX6_faultAt 123 = .ok (.iload 6, 2) := by decide +kernel
theorem dX6_faultAt_125 : decode cX6_faultAt 125 = .ok (.invokevirtual 53, 3) := by decide +kernel
theorem dX6_faultAt_128 : decode cX6_faultAt 128 = .ok (.ifCond .ne 6, 3) := by decide +kernel
theorem dX6_faultAt_131 : decode cX6_faultAt 131 = .ok (.bipush 10, 2) := by decide +kernel
theorem dX6_faultAt_133 : decode cX6_faultAt 133 = .ok (.ireturn, 1) := by decide +kernel
theorem dX6_faultAt_134 : decode cX6_faultAt 134 = .ok (.aload_n 0, 1) := by decide +kernel
theorem dX6_faultAt_135 : decode cX6_faultAt 135 = .ok (.iload_n 1, 1) := by decide +kernel
theorem dX6_faultAt_136 : decode cX6_faultAt 136 = .ok (.iload 6, 2) := by decide +kernel
theorem dX6_faultAt_138 : decode cX6_faultAt 138 = .ok (.invokevirtual 57, 3) := by decide +kernel
theorem dX6_faultAt_141 : decode cX6_faultAt 141 = .ok (.aload_n 3, 1) := by decide +kernel
theorem dX6_faultAt_142 : decode cX6_faultAt 142 = .ok (.invokevirtual 61, 3) := by decide +kernel
theorem dX6_faultAt_145 : decode cX6_faultAt 145 = .ok (.ifCond .eq 19, 3) := by decide +kernel
theorem dX6_faultAt_148 : decode cX6_faultAt 148 = .ok (.aload_n 0, 1) := by decide +kernel
theorem dX6_faultAt_149 : decode cX6_faultAt 149 = .ok (.iload_n 1, 1) := by decide +kernel
theorem dX6_faultAt_150 : decode cX6_faultAt 150 = .ok (.iload 5, 2) := by decide +kernel
theorem dX6_faultAt_152 : decode cX6_faultAt 152 = .ok (.aload_n 0, 1) := by decide +kernel
theorem dX6_faultAt_153 : decode cX6_faultAt 153 = .ok (.aload_n 3, 1) := by decide +kernel
theorem dX6_faultAt_154 : decode cX6_faultAt 154 = .ok (.getfield 65, 3) := by decide +kernel
theorem dX6_faultAt_157 : decode cX6_faultAt 157 = .ok (.invokevirtual 68, 3) := by decide +kernel
theorem dX6_faultAt_160 : decode cX6_faultAt 160 = .ok (.iadd, 1) := by decide +kernel
theorem dX6_faultAt_161 : decode cX6_faultAt 161 = .ok (.invokevirtual 57, 3) := by decide +kernel
theorem dX6_faultAt_164 : decode cX6_faultAt 164 = .ok (.iconst 0, 1) := by decide +kernel
theorem dX6_faultAt_165 : decode cX6_faultAt 165 = .ok (.ireturn, 1) := by decide +kernel
theorem dX6_goesOn_0 : decode cX6_goesOn 0 = .ok (.aload_n 2, 1) := by decide +kernel
theorem dX6_goesOn_1 : decode cX6_goesOn 1 = .ok (.getfield 42, 3) := by decide +kernel
theorem dX6_goesOn_4 : decode cX6_goesOn 4 = .ok (.tableswitch 130 10 18 #[52, 62, 130, 91, 52, 130, 130, 130, 120], 52) := by decide +kernel
theorem dX6_goesOn_56 : decode cX6_goesOn 56 = .ok (.aload_n 0, 1) := by decide +kernel
theorem dX6_goesOn_57 : decode cX6_goesOn 57 = .ok (.aload_n 2, 1) := by decide +kernel
theorem dX6_goesOn_58 : decode cX6_goesOn 58 = .ok (.getfield 65, 3) := by decide +kernel
theorem dX6_goesOn_61 : decode cX6_goesOn 61 = .ok (.iload_n 3, 1) := by decide +kernel
theorem dX6_goesOn_62 : decode cX6_goesOn 62 = .ok (.invokevirtual 71, 3) := by decide +kernel
theorem dX6_goesOn_65 : decode cX6_goesOn 65 = .ok (.ireturn, 1) := by decide +kernel
theorem dX6_goesOn_66 : decode cX6_goesOn 66 = .ok (.aload_n 0, 1) := by decide +kernel
theorem dX6_goesOn_67 : decode cX6_goesOn 67 = .ok (.aload_n 2, 1) := by decide +kernel
theorem dX6_goesOn_68 : decode cX6_goesOn 68 = .ok (.getfield 65, 3) := by decide +kernel
theorem dX6_goesOn_71 : decode cX6_goesOn 71 = .ok (.iload_n 3, 1) := by decide +kernel
theorem dX6_goesOn_72 : decode cX6_goesOn 72 = .ok (.invokevirtual 71, 3) := by decide +kernel
theorem dX6_goesOn_75 : decode cX6_goesOn 75 = .ok (.ifCond .eq 18, 3) := by decide +kernel
theorem dX6_goesOn_78 : decode cX6_goesOn 78 = .ok (.aload_n 0, 1) := by decide +kernel
theorem dX6_goesOn_79 : decode cX6_goesOn 79 = .ok (.iload_n 1, 1) := by decide +kernel
theorem dX6_goesOn_80 : decode cX6_goesOn 80 = .ok (.iconst 1, 1) := by decide +kernel
theorem dX6_goesOn_81 : decode cX6_goesOn 81 = .ok (.iadd, 1) := by decide +kernel
theorem dX6_goesOn_82 : decode cX6_goesOn 82 = .ok (.iload_n 3, 1) := by decide +kernel
theorem dX6_goesOn_83 : decode cX6_goesOn 83 = .ok (.invokevirtual 71, 3) := by decide +kernel
theorem dX6_goesOn_86 : decode cX6_goesOn 86 = .ok (.ifCond .eq 7, 3) := by decide +kernel
theorem dX6_goesOn_89 : decode cX6_goesOn 89 = .ok (.iconst 1, 1) := by decide +kernel
theorem dX6_goesOn_90 : decode cX6_goesOn 90 = .ok (.goto 4, 3) := by decide +kernel
theorem dX6_goesOn_93 : decode cX6_goesOn 93 = .ok (.iconst 0, 1) := by decide +kernel
theorem dX6_goesOn_94 : decode cX6_goesOn 94 = .ok (.ireturn, 1) := by decide +kernel
theorem dX6_goesOn_95 : decode cX6_goesOn 95 = .ok (.aload_n 0, 1) := by decide +kernel
theorem dX6_goesOn_96 : decode cX6_goesOn 96 = .ok (.aload_n 2, 1) := by decide +kernel
theorem dX6_goesOn_97 : decode cX6_goesOn 97 = .ok (.getfield 75, 3) := by decide +kernel
theorem dX6_goesOn_100 : decode cX6_goesOn 100 = .ok (.iload_n 3, 1) := by decide +kernel
theorem dX6_goesOn_101 : decode cX6_goesOn 101 = .ok (.invokevirtual 71, 3) := by decide +kernel
theorem dX6_goesOn_104 : decode cX6_goesOn 104 = .ok (.ifCond .eq 18, 3) := by decide +kernel
theorem dX6_goesOn_107 : decode cX6_goesOn 107 = .ok (.aload_n 0, 1) := by decide +kernel
theorem dX6_goesOn_108 : decode cX6_goesOn 108 = .ok (.iload_n 1, 1) := by decide +kernel
theorem dX6_goesOn_109 : decode cX6_goesOn 109 = .ok (.iconst 1, 1) := by decide +kernel
theorem dX6_goesOn_110 : decode cX6_goesOn 110 = .ok (.iadd, 1) := by decide +kernel
theorem dX6_goesOn_111 : decode cX6_goesOn 111 = .ok (.iload_n 3, 1) := by decide +kernel
theorem dX6_goesOn_112 : decode cX6_goesOn 112 = .ok (.invokevirtual 71, 3) := by decide +kernel
theorem dX6_goesOn_115 : decode cX6_goesOn 115 = .ok (.ifCond .eq 7, 3) := by decide +kernel
theorem dX6_goesOn_118 : decode cX6_goesOn 118 = .ok (.iconst 1, 1) := by decide +kernel
theorem dX6_goesOn_119 : decode cX6_goesOn 119 = .ok (.goto 4, 3) := by decide +kernel
theorem dX6_goesOn_122 : decode cX6_goesOn 122 = .ok (.iconst 0, 1) := by decide +kernel
theorem dX6_goesOn_123 : decode cX6_goesOn 123 = .ok (.ireturn, 1) := by decide +kernel
theorem dX6_goesOn_124 : decode cX6_goesOn 124 = .ok (.aload_n 0, 1) := by decide +kernel
theorem dX6_goesOn_125 : decode cX6_goesOn 125 = .ok (.aload_n 0, 1) := by decide +kernel
theorem dX6_goesOn_126 : decode cX6_goesOn 126 = .ok (.getfield 34, 3) := by decide +kernel
theorem dX6_goesOn_129 : decode cX6_goesOn 129 = .ok (.iload_n 3, 1) := by decide +kernel
theorem dX6_goesOn_130 : decode cX6_goesOn 130 = .ok (.invokevirtual 71, 3) := by decide +kernel
theorem dX6_goesOn_133 : decode cX6_goesOn 133 = .ok (.ireturn, 1) := by decide +kernel
theorem dX6_goesOn_134 : decode cX6_goesOn 134 = .ok (.aload_n 0, 1) := by decide +kernel
theorem dX6_goesOn_135 : decode cX6_goesOn 135 = .ok (.iload_n 1, 1) := by decide +kernel
theorem dX6_goesOn_136 : decode cX6_goesOn 136 = .ok (.iconst 1, 1) := by decide +kernel
theorem dX6_goesOn_137 : decode cX6_goesOn 137 = .ok (.iadd, 1) := by decide +kernel
theorem dX6_goesOn_138 : decode cX6_goesOn 138 = .ok (.iload_n 3, 1) := by decide +kernel
theorem dX6_goesOn_139 : decode cX6_goesOn 139 = .ok (.invokevirtual 71, 3) := by decide +kernel
theorem dX6_goesOn_142 : decode cX6_goesOn 142 = .ok (.ireturn, 1) := by decide +kernel
theorem dX6_comesTo_0 : decode cX6_comesTo 0 = .ok (.iload_n 1, 1) := by decide +kernel
theorem dX6_comesTo_1 : decode cX6_comesTo 1 = .ok (.ifCond .lt 11, 3) := by decide +kernel
theorem dX6_comesTo_4 : decode cX6_comesTo 4 = .ok (.iload_n 1, 1) := by decide +kernel
theorem dX6_comesTo_5 : decode cX6_comesTo 5 = .ok (.aload_n 0, 1) := by decide +kernel
theorem dX6_comesTo_6 : decode cX6_comesTo 6 = .ok (.getfield 34, 3) := by decide +kernel
theorem dX6_comesTo_9 : decode cX6_comesTo 9 = .ok (.if_icmp .le 5, 3) := by decide +kernel
theorem dX6_comesTo_12 : decode cX6_comesTo 12 = .ok (.iconst 0, 1) := by decide +kernel
theorem dX6_comesTo_13 : decode cX6_comesTo 13 = .ok (.ireturn, 1) := by decide +kernel
theorem dX6_comesTo_14 : decode cX6_comesTo 14 = .ok (.aload_n 0, 1) := by decide +kernel
theorem dX6_comesTo_15 : decode cX6_comesTo 15 = .ok (.getfield 9, 3) := by decide +kernel
theorem dX6_comesTo_18 : decode cX6_comesTo 18 = .ok (.iload_n 1, 1) := by decide +kernel
theorem dX6_comesTo_19 : decode cX6_comesTo 19 = .ok (.iaload, 1) := by decide +kernel
theorem dX6_comesTo_20 : decode cX6_comesTo 20 = .ok (.iconst (-1), 1) := by decide +kernel
theorem dX6_comesTo_21 : decode cX6_comesTo 21 = .ok (.if_icmp .ne 10, 3) := by decide +kernel
theorem dX6_comesTo_24 : decode cX6_comesTo 24 = .ok (.aload_n 0, 1) := by decide +kernel
theorem dX6_comesTo_25 : decode cX6_comesTo 25 = .ok (.getfield 9, 3) := by decide +kernel
theorem dX6_comesTo_28 : decode cX6_comesTo 28 = .ok (.iload_n 1, 1) := by decide +kernel
theorem dX6_comesTo_29 : decode cX6_comesTo 29 = .ok (.iload_n 2, 1) := by decide +kernel
theorem dX6_comesTo_30 : decode cX6_comesTo 30 = .ok (.iastore, 1) := by decide +kernel
theorem dX6_comesTo_31 : decode cX6_comesTo 31 = .ok (.aload_n 0, 1) := by decide +kernel
theorem dX6_comesTo_32 : decode cX6_comesTo 32 = .ok (.getfield 9, 3) := by decide +kernel
theorem dX6_comesTo_35 : decode cX6_comesTo 35 = .ok (.iload_n 1, 1) := by decide +kernel
theorem dX6_comesTo_36 : decode cX6_comesTo 36 = .ok (.iaload, 1) := by decide +kernel
theorem dX6_comesTo_37 : decode cX6_comesTo 37 = .ok (.iload_n 2, 1) := by decide +kernel
theorem dX6_comesTo_38 : decode cX6_comesTo 38 = .ok (.if_icmp .ne 7, 3) := by decide +kernel
theorem dX6_comesTo_41 : decode cX6_comesTo 41 = .ok (.iconst 1, 1) := by decide +kernel
theorem dX6_comesTo_42 : decode cX6_comesTo 42 = .ok (.goto 4, 3) := by decide +kernel
theorem dX6_comesTo_45 : decode cX6_comesTo 45 = .ok (.iconst 0, 1) := by decide +kernel
theorem dX6_comesTo_46 : decode cX6_comesTo 46 = .ok (.ireturn, 1) := by decide +kernel
theorem dX6_noteDepth_0 : decode cX6_noteDepth 0 = .ok (.iload_n 1, 1) := by decide +kernel
theorem dX6_noteDepth_1 : decode cX6_noteDepth 1 = .ok (.ifCond .lt 26, 3) := by decide +kernel
theorem dX6_noteDepth_4 : decode cX6_noteDepth 4 = .ok (.iload_n 1, 1) := by decide +kernel
theorem dX6_noteDepth_5 : decode cX6_noteDepth 5 = .ok (.bipush 16, 2) := by decide +kernel
theorem dX6_noteDepth_7 : decode cX6_noteDepth 7 = .ok (.if_icmp .ge 20, 3) := by decide +kernel
theorem dX6_noteDepth_10 : decode cX6_noteDepth 10 = .ok (.iload_n 2, 1) := by decide +kernel
theorem dX6_noteDepth_11 : decode cX6_noteDepth 11 = .ok (.aload_n 0, 1) := by decide +kernel
theorem dX6_noteDepth_12 : decode cX6_noteDepth 12 = .ok (.getfield 15, 3) := by decide +kernel
theorem dX6_noteDepth_15 : decode cX6_noteDepth 15 = .ok (.iload_n 1, 1) := by decide +kernel
theorem dX6_noteDepth_16 : decode cX6_noteDepth 16 = .ok (.iaload, 1) := by decide +kernel
theorem dX6_noteDepth_17 : decode cX6_noteDepth 17 = .ok (.if_icmp .le 10, 3) := by decide +kernel
theorem dX6_noteDepth_20 : decode cX6_noteDepth 20 = .ok (.aload_n 0, 1) := by decide +kernel
theorem dX6_noteDepth_21 : decode cX6_noteDepth 21 = .ok (.getfield 15, 3) := by decide +kernel
theorem dX6_noteDepth_24 : decode cX6_noteDepth 24 = .ok (.iload_n 1, 1) := by decide +kernel
theorem dX6_noteDepth_25 : decode cX6_noteDepth 25 = .ok (.iload_n 2, 1) := by decide +kernel
theorem dX6_noteDepth_26 : decode cX6_noteDepth 26 = .ok (.iastore, 1) := by decide +kernel
theorem dX6_noteDepth_27 : decode cX6_noteDepth 27 = .ok (.return_, 1) := by decide +kernel
theorem dX7_init_0 : decode cX7_init 0 = .ok (.aload_n 0, 1) := by decide +kernel
theorem dX7_init_1 : decode cX7_init 1 = .ok (.invokespecial 3, 3) := by decide +kernel
theorem dX7_init_4 : decode cX7_init 4 = .ok (.aload_n 0, 1) := by decide +kernel
theorem dX7_init_5 : decode cX7_init 5 = .ok (.sipush 256, 3) := by decide +kernel
theorem dX7_init_8 : decode cX7_init 8 = .ok (.newarray .int, 2) := by decide +kernel
theorem dX7_init_10 : decode cX7_init 10 = .ok (.putfield 9, 3) := by decide +kernel
theorem dX7_init_13 : decode cX7_init 13 = .ok (.aload_n 0, 1) := by decide +kernel
theorem dX7_init_14 : decode cX7_init 14 = .ok (.bipush 16, 2) := by decide +kernel
theorem dX7_init_16 : decode cX7_init 16 = .ok (.newarray .int, 2) := by decide +kernel
theorem dX7_init_18 : decode cX7_init 18 = .ok (.putfield 15, 3) := by decide +kernel
theorem dX7_init_21 : decode cX7_init 21 = .ok (.aload_n 0, 1) := by decide +kernel
theorem dX7_init_22 : decode cX7_init 22 = .ok (.bipush 16, 2) := by decide +kernel
theorem dX7_init_24 : decode cX7_init 24 = .ok (.newarray .int, 2) := by decide +kernel
theorem dX7_init_26 : decode cX7_init 26 = .ok (.putfield 18, 3) := by decide +kernel
theorem dX7_init_29 : decode cX7_init 29 = .ok (.aload_n 0, 1) := by decide +kernel
theorem dX7_init_30 : decode cX7_init 30 = .ok (.aload_n 1, 1) := by decide +kernel
theorem dX7_init_31 : decode cX7_init 31 = .ok (.putfield 21, 3) := by decide +kernel
theorem dX7_init_34 : decode cX7_init 34 = .ok (.return_, 1) := by decide +kernel
theorem dX7_walked_0 : decode cX7_walked 0 = .ok (.aload_n 0, 1) := by decide +kernel
theorem dX7_walked_1 : decode cX7_walked 1 = .ok (.iconst 0, 1) := by decide +kernel
theorem dX7_walked_2 : decode cX7_walked 2 = .ok (.putfield 25, 3) := by decide +kernel
theorem dX7_walked_5 : decode cX7_walked 5 = .ok (.aload_n 0, 1) := by decide +kernel
theorem dX7_walked_6 : decode cX7_walked 6 = .ok (.iconst 0, 1) := by decide +kernel
theorem dX7_walked_7 : decode cX7_walked 7 = .ok (.putfield 29, 3) := by decide +kernel
theorem dX7_walked_10 : decode cX7_walked 10 = .ok (.aload_n 0, 1) := by decide +kernel
theorem dX7_walked_11 : decode cX7_walked 11 = .ok (.aload_n 0, 1) := by decide +kernel
theorem dX7_walked_12 : decode cX7_walked 12 = .ok (.getfield 21, 3) := by decide +kernel
theorem dX7_walked_15 : decode cX7_walked 15 = .ok (.invokevirtual 32, 3) := by decide +kernel
theorem dX7_walked_18 : decode cX7_walked 18 = .ok (.iconst 0, 1) := by decide +kernel
theorem dX7_walked_19 : decode cX7_walked 19 = .ok (.invokevirtual 38, 3) := by decide +kernel
theorem dX7_walked_22 : decode cX7_walked 22 = .ok (.iconst 0, 1) := by decide +kernel
theorem dX7_walked_23 : decode cX7_walked 23 = .ok (.istore_n 3, 1) := by decide +kernel
theorem dX7_walked_24 : decode cX7_walked 24 = .ok (.iload_n 3, 1) := by decide +kernel
theorem dX7_walked_25 : decode cX7_walked 25 = .ok (.ldc 42, 2) := by decide +kernel
theorem dX7_walked_27 : decode cX7_walked 27 = .ok (.if_icmp .ge 49, 3) := by decide +kernel
theorem dX7_walked_30 : decode cX7_walked 30 = .ok (.aload_n 0, 1) := by decide +kernel
theorem dX7_walked_31 : decode cX7_walked 31 = .ok (.getfield 43, 3) := by decide +kernel
theorem dX7_walked_34 : decode cX7_walked 34 = .ok (.aload_n 0, 1) := by decide +kernel
theorem dX7_walked_35 : decode cX7_walked 35 = .ok (.getfield 46, 3) := by decide +kernel
theorem dX7_walked_38 : decode cX7_walked 38 = .ok (.if_icmp .lt 12, 3) := by decide +kernel
theorem dX7_walked_41 : decode cX7_walked 41 = .ok (.aload_n 0, 1) := by decide +kernel
theorem dX7_walked_42 : decode cX7_walked 42 = .ok (.invokevirtual 49, 3) := by decide +kernel
theorem dX7_walked_45 : decode cX7_walked 45 = .ok (.ifCond .ne 5, 3) := by decide +kernel
theorem dX7_walked_48 : decode cX7_walked 48 = .ok (.iload_n 3, 1) := by decide +kernel
theorem dX7_walked_49 : decode cX7_walked 49 = .ok (.ireturn, 1) := by decide +kernel
theorem dX7_walked_50 : decode cX7_walked 50 = .ok (.aload_n 0, 1) := by decide +kernel
theorem dX7_walked_51 : decode cX7_walked 51 = .ok (.aload_n 0, 1) := by decide +kernel
theorem dX7_walked_52 : decode cX7_walked 52 = .ok (.getfield 21, 3) := by decide +kernel
theorem dX7_walked_55 : decode cX7_walked 55 = .ok (.aload_n 0, 1) := by decide +kernel
theorem dX7_walked_56 : decode cX7_walked 56 = .ok (.getfield 53, 3) := by decide +kernel
theorem dX7_walked_59 : decode cX7_walked 59 = .ok (.aload_n 0, 1) := by decide +kernel
theorem dX7_walked_60 : decode cX7_walked 60 = .ok (.getfield 43, 3) := by decide +kernel
theorem dX7_walked_63 : decode cX7_walked 63 = .ok (.invokevirtual 56, 3) := by decide +kernel
theorem dX7_walked_66 : decode cX7_walked 66 = .ok (.lload_n 1, 1) := by decide +kernel
theorem dX7_walked_67 : decode cX7_walked 67 = .ok (.invokevirtual 59, 3) := by decide +kernel
theorem dX7_walked_70 : decode cX7_walked 70 = .ok (.iinc 3 1, 3) := by decide +kernel
theorem dX7_walked_73 : decode cX7_walked 73 = .ok (.goto (-49), 3) := by decide +kernel
theorem dX7_walked_76 : decode cX7_walked 76 = .ok (.ldc 42, 2) := by decide +kernel
theorem dX7_walked_78 : decode cX7_walked 78 = .ok (.ireturn, 1) := by decide +kernel
theorem dX7_goTo_0 : decode cX7_goTo 0 = .ok (.aload_n 0, 1) := by decide +kernel
theorem dX7_goTo_1 : decode cX7_goTo 1 = .ok (.iload_n 1, 1) := by decide +kernel
theorem dX7_goTo_2 : decode cX7_goTo 2 = .ok (.putfield 53, 3) := by decide +kernel
theorem dX7_goTo_5 : decode cX7_goTo 5 = .ok (.aload_n 0, 1) := by decide +kernel
theorem dX7_goTo_6 : decode cX7_goTo 6 = .ok (.aload_n 0, 1) := by decide +kernel
theorem dX7_goTo_7 : decode cX7_goTo 7 = .ok (.getfield 21, 3) := by decide +kernel
theorem dX7_goTo_10 : decode cX7_goTo 10 = .ok (.iload_n 1, 1) := by decide +kernel
theorem dX7_goTo_11 : decode cX7_goTo 11 = .ok (.invokevirtual 63, 3) := by decide +kernel
theorem dX7_goTo_14 : decode cX7_goTo 14 = .ok (.putfield 46, 3) := by decide +kernel
theorem dX7_goTo_17 : decode cX7_goTo 17 = .ok (.aload_n 0, 1) := by decide +kernel
theorem dX7_goTo_18 : decode cX7_goTo 18 = .ok (.iload_n 2, 1) := by decide +kernel
theorem dX7_goTo_19 : decode cX7_goTo 19 = .ok (.putfield 43, 3) := by decide +kernel
theorem dX7_goTo_22 : decode cX7_goTo 22 = .ok (.return_, 1) := by decide +kernel
theorem dX7_comesBack_0 : decode cX7_comesBack 0 = .ok (.aload_n 0, 1) := by decide +kernel
theorem dX7_comesBack_1 : decode cX7_comesBack 1 = .ok (.getfield 43, 3) := by decide +kernel
theorem dX7_comesBack_4 : decode cX7_comesBack 4 = .ok (.aload_n 0, 1) := by decide +kernel
theorem dX7_comesBack_5 : decode cX7_comesBack 5 = .ok (.getfield 46, 3) := by decide +kernel
theorem dX7_comesBack_8 : decode cX7_comesBack 8 = .ok (.if_icmp .lt 54, 3) := by decide +kernel
theorem dX7_comesBack_11 : decode cX7_comesBack 11 = .ok (.aload_n 0, 1) := by decide +kernel
theorem dX7_comesBack_12 : decode cX7_comesBack 12 = .ok (.getfield 25, 3) := by decide +kernel
theorem dX7_comesBack_15 : decode cX7_comesBack 15 = .ok (.ifCond .le 47, 3) := by decide +kernel
theorem dX7_comesBack_18 : decode cX7_comesBack 18 = .ok (.aload_n 0, 1) := by decide +kernel
theorem dX7_comesBack_19 : decode cX7_comesBack 19 = .ok (.getfield 25, 3) := by decide +kernel
theorem dX7_comesBack_22 : decode cX7_comesBack 22 = .ok (.bipush 16, 2) := by decide +kernel
theorem dX7_comesBack_24 : decode cX7_comesBack 24 = .ok (.if_icmp .gt 38, 3) := by decide +kernel
theorem dX7_comesBack_27 : decode cX7_comesBack 27 = .ok (.aload_n 0, 1) := by decide +kernel
theorem dX7_comesBack_28 : decode cX7_comesBack 28 = .ok (.dup, 1) := by decide +kernel
theorem dX7_comesBack_29 : decode cX7_comesBack 29 = .ok (.getfield 25, 3) := by decide +kernel
theorem dX7_comesBack_32 : decode cX7_comesBack 32 = .ok (.iconst 1, 1) := by decide +kernel
theorem dX7_comesBack_33 : decode cX7_comesBack 33 = .ok (.isub, 1) := by decide +kernel
theorem dX7_comesBack_34 : decode cX7_comesBack 34 = .ok (.putfield 25, 3) := by decide +kernel
theorem dX7_comesBack_37 : decode cX7_comesBack 37 = .ok (.aload_n 0, 1) := by decide +kernel
theorem dX7_comesBack_38 : decode cX7_comesBack 38 = .ok (.aload_n 0, 1) := by decide +kernel
theorem dX7_comesBack_39 : decode cX7_comesBack 39 = .ok (.getfield 15, 3) := by decide +kernel
theorem dX7_comesBack_42 : decode cX7_comesBack 42 = .ok (.aload_n 0, 1) := by decide +kernel
theorem dX7_comesBack_43 : decode cX7_comesBack 43 = .ok (.getfield 25, 3) := by decide +kernel
theorem dX7_comesBack_46 : decode cX7_comesBack 46 = .ok (.iaload, 1) := by decide +kernel
theorem dX7_comesBack_47 : decode cX7_comesBack 47 = .ok (.aload_n 0, 1) := by decide +kernel
theorem dX7_comesBack_48 : decode cX7_comesBack 48 = .ok (.getfield 18, 3) := by decide +kernel
theorem dX7_comesBack_51 : decode cX7_comesBack 51 = .ok (.aload_n 0, 1) := by decide +kernel
theorem dX7_comesBack_52 : decode cX7_comesBack 52 = .ok (.getfield 25, 3) := by decide +kernel
theorem dX7_comesBack_55 : decode cX7_comesBack 55 = .ok (.iaload, 1) := by decide +kernel
theorem dX7_comesBack_56 : decode cX7_comesBack 56 = .ok (.invokevirtual 38, 3) := by decide +kernel
theorem dX7_comesBack_59 : decode cX7_comesBack 59 = .ok (.goto (-59), 3) := by decide +kernel
theorem dX7_comesBack_62 : decode cX7_comesBack 62 = .ok (.aload_n 0, 1) := by decide +kernel
theorem dX7_comesBack_63 : decode cX7_comesBack 63 = .ok (.getfield 43, 3) := by decide +kernel
theorem dX7_comesBack_66 : decode cX7_comesBack 66 = .ok (.aload_n 0, 1) := by decide +kernel
theorem dX7_comesBack_67 : decode cX7_comesBack 67 = .ok (.getfield 46, 3) := by decide +kernel
theorem dX7_comesBack_70 : decode cX7_comesBack 70 = .ok (.if_icmp .ge 7, 3) := by decide +kernel
theorem dX7_comesBack_73 : decode cX7_comesBack 73 = .ok (.iconst 1, 1) := by decide +kernel
theorem dX7_comesBack_74 : decode cX7_comesBack 74 = .ok (.goto 4, 3) := by decide +kernel
theorem dX7_comesBack_77 : decode cX7_comesBack 77 = .ok (.iconst 0, 1) := by decide +kernel
theorem dX7_comesBack_78 : decode cX7_comesBack 78 = .ok (.ireturn, 1) := by decide +kernel
theorem dX7_takeStep_0 : decode cX7_takeStep 0 = .ok (.aload_n 1, 1) := by decide +kernel
theorem dX7_takeStep_1 : decode cX7_takeStep 1 = .ok (.getfield 67, 3) := by decide +kernel
theorem dX7_takeStep_4 : decode cX7_takeStep 4 = .ok (.tableswitch 193 10 18 #[52, 63, 91, 127, 52, 171, 171, 193, 182], 52) := by decide +kernel
theorem dX7_takeStep_56 : decode cX7_takeStep 56 = .ok (.aload_n 0, 1) := by decide +kernel
theorem dX7_takeStep_57 : decode cX7_takeStep 57 = .ok (.aload_n 1, 1) := by decide +kernel
theorem dX7_takeStep_58 : decode cX7_takeStep 58 = .ok (.getfield 72, 3) := by decide +kernel
theorem dX7_takeStep_61 : decode cX7_takeStep 61 = .ok (.putfield 43, 3) := by decide +kernel
theorem dX7_takeStep_64 : decode cX7_takeStep 64 = .ok (.goto 143, 3) := by decide +kernel
theorem dX7_takeStep_67 : decode cX7_takeStep 67 = .ok (.aload_n 0, 1) := by decide +kernel
theorem dX7_takeStep_68 : decode cX7_takeStep 68 = .ok (.aload_n 0, 1) := by decide +kernel
theorem dX7_takeStep_69 : decode cX7_takeStep 69 = .ok (.lload_n 2, 1) := by decide +kernel
theorem dX7_takeStep_70 : decode cX7_takeStep 70 = .ok (.invokevirtual 75, 3) := by decide +kernel
theorem dX7_takeStep_73 : decode cX7_takeStep 73 = .ok (.ifCond .eq 10, 3) := by decide +kernel
theorem dX7_takeStep_76 : decode cX7_takeStep 76 = .ok (.aload_n 1, 1) := by decide +kernel
theorem dX7_takeStep_77 : decode cX7_takeStep 77 = .ok (.getfield 72, 3) := by decide +kernel
theorem dX7_takeStep_80 : decode cX7_takeStep 80 = .ok (.goto 9, 3) := by decide +kernel
theorem dX7_takeStep_83 : decode cX7_takeStep 83 = .ok (.aload_n 0, 1) := by decide +kernel
theorem dX7_takeStep_84 : decode cX7_takeStep 84 = .ok (.getfield 43, 3) := by decide +kernel
theorem dX7_takeStep_87 : decode cX7_takeStep 87 = .ok (.iconst 1, 1) := by decide +kernel
theorem dX7_takeStep_88 : decode cX7_takeStep 88 = .ok (.iadd, 1) := by decide +kernel
theorem dX7_takeStep_89 : decode cX7_takeStep 89 = .ok (.putfield 43, 3) := by decide +kernel
theorem dX7_takeStep_92 : decode cX7_takeStep 92 = .ok (.goto 115, 3) := by decide +kernel
theorem dX7_takeStep_95 : decode cX7_takeStep 95 = .ok (.aload_n 0, 1) := by decide +kernel
theorem dX7_takeStep_96 : decode cX7_takeStep 96 = .ok (.aload_n 0, 1) := by decide +kernel
theorem dX7_takeStep_97 : decode cX7_takeStep 97 = .ok (.getfield 21, 3) := by decide +kernel
theorem dX7_takeStep_100 : decode cX7_takeStep 100 = .ok (.aload_n 0, 1) := by decide +kernel
theorem dX7_takeStep_101 : decode cX7_takeStep 101 = .ok (.getfield 53, 3) := by decide +kernel
theorem dX7_takeStep_104 : decode cX7_takeStep 104 = .ok (.aload_n 0, 1) := by decide +kernel
theorem dX7_takeStep_105 : decode cX7_takeStep 105 = .ok (.getfield 43, 3) := by decide +kernel
theorem dX7_takeStep_108 : decode cX7_takeStep 108 = .ok (.invokevirtual 79, 3) := by decide +kernel
theorem dX7_takeStep_111 : decode cX7_takeStep 111 = .ok (.aload_n 1, 1) := by decide +kernel
theorem dX7_takeStep_112 : decode cX7_takeStep 112 = .ok (.getfield 83, 3) := by decide +kernel
theorem dX7_takeStep_115 : decode cX7_takeStep 115 = .ok (.invokevirtual 86, 3) := by decide +kernel
theorem dX7_takeStep_118 : decode cX7_takeStep 118 = .ok (.aload_n 0, 1) := by decide +kernel
theorem dX7_takeStep_119 : decode cX7_takeStep 119 = .ok (.dup, 1) := by decide +kernel
theorem dX7_takeStep_120 : decode cX7_takeStep 120 = .ok (.getfield 43, 3) := by decide +kernel
theorem dX7_takeStep_123 : decode cX7_takeStep 123 = .ok (.iconst 1, 1) := by decide +kernel
theorem dX7_takeStep_124 : decode cX7_takeStep 124 = .ok (.iadd, 1) := by decide +kernel
theorem dX7_takeStep_125 : decode cX7_takeStep 125 = .ok (.putfield 43, 3) := by decide +kernel
theorem dX7_takeStep_128 : decode cX7_takeStep 128 = .ok (.goto 79, 3) := by decide +kernel
theorem dX7_takeStep_131 : decode cX7_takeStep 131 = .ok (.aload_n 0, 1) := by decide +kernel
theorem dX7_takeStep_132 : decode cX7_takeStep 132 = .ok (.aload_n 0, 1) := by decide +kernel
theorem dX7_takeStep_133 : decode cX7_takeStep 133 = .ok (.aload_n 0, 1) := by decide +kernel
theorem dX7_takeStep_134 : decode cX7_takeStep 134 = .ok (.getfield 21, 3) := by decide +kernel
theorem dX7_takeStep_137 : decode cX7_takeStep 137 = .ok (.aload_n 0, 1) := by decide +kernel
theorem dX7_takeStep_138 : decode cX7_takeStep 138 = .ok (.getfield 53, 3) := by decide +kernel
theorem dX7_takeStep_141 : decode cX7_takeStep 141 = .ok (.aload_n 0, 1) := by decide +kernel
theorem dX7_takeStep_142 : decode cX7_takeStep 142 = .ok (.getfield 43, 3) := by decide +kernel
theorem dX7_takeStep_145 : decode cX7_takeStep 145 = .ok (.iconst 1, 1) := by decide +kernel
theorem dX7_takeStep_146 : decode cX7_takeStep 146 = .ok (.isub, 1) := by decide +kernel
theorem dX7_takeStep_147 : decode cX7_takeStep 147 = .ok (.invokevirtual 79, 3) := by decide +kernel
theorem dX7_takeStep_150 : decode cX7_takeStep 150 = .ok (.invokevirtual 89, 3) := by decide +kernel
theorem dX7_takeStep_153 : decode cX7_takeStep 153 = .ok (.ifCond .eq 12, 3) := by decide +kernel
theorem dX7_takeStep_156 : decode cX7_takeStep 156 = .ok (.aload_n 0, 1) := by decide +kernel
theorem dX7_takeStep_157 : decode cX7_takeStep 157 = .ok (.getfield 43, 3) := by decide +kernel
theorem dX7_takeStep_160 : decode cX7_takeStep 160 = .ok (.iconst 1, 1) := by decide +kernel
theorem dX7_takeStep_161 : decode cX7_takeStep 161 = .ok (.iadd, 1) := by decide +kernel
theorem dX7_takeStep_162 : decode cX7_takeStep 162 = .ok (.goto 7, 3) := by decide +kernel
theorem dX7_takeStep_165 : decode cX7_takeStep 165 = .ok (.aload_n 1, 1) := by decide +kernel
theorem dX7_takeStep_166 : decode cX7_takeStep 166 = .ok (.getfield 83, 3) := by decide +kernel
theorem dX7_takeStep_169 : decode cX7_takeStep 169 = .ok (.putfield 43, 3) := by decide +kernel
theorem dX7_takeStep_172 : decode cX7_takeStep 172 = .ok (.goto 35, 3) := by decide +kernel
theorem dX7_takeStep_175 : decode cX7_takeStep 175 = .ok (.aload_n 0, 1) := by decide +kernel
theorem dX7_takeStep_176 : decode cX7_takeStep 176 = .ok (.aload_n 1, 1) := by decide +kernel
theorem dX7_takeStep_177 : decode cX7_takeStep 177 = .ok (.getfield 72, 3) := by decide +kernel
theorem dX7_takeStep_180 : decode cX7_takeStep 180 = .ok (.invokevirtual 93, 3) := by decide +kernel
theorem dX7_takeStep_183 : decode cX7_takeStep 183 = .ok (.goto 24, 3) := by decide +kernel
theorem dX7_takeStep_186 : decode cX7_takeStep 186 = .ok (.aload_n 0, 1) := by decide +kernel
theorem dX7_takeStep_187 : decode cX7_takeStep 187 = .ok (.aload_n 0, 1) := by decide +kernel
theorem dX7_takeStep_188 : decode cX7_takeStep 188 = .ok (.getfield 46, 3) := by decide +kernel
theorem dX7_takeStep_191 : decode cX7_takeStep 191 = .ok (.putfield 43, 3) := by decide +kernel
theorem dX7_takeStep_194 : decode cX7_takeStep 194 = .ok (.goto 13, 3) := by decide +kernel
theorem dX7_takeStep_197 : decode cX7_takeStep 197 = .ok (.aload_n 0, 1) := by decide +kernel
theorem dX7_takeStep_198 : decode cX7_takeStep 198 = .ok (.dup, 1) := by decide +kernel
theorem dX7_takeStep_199 : decode cX7_takeStep 199 = .ok (.getfield 43, 3) := by decide +kernel
theorem dX7_takeStep_202 : decode cX7_takeStep 202 = .ok (.iconst 1, 1) := by decide +kernel
theorem dX7_takeStep_203 : decode cX7_takeStep 203 = .ok (.iadd, 1) := by decide +kernel
theorem dX7_takeStep_204 : decode cX7_takeStep 204 = .ok (.putfield 43, 3) := by decide +kernel
theorem dX7_takeStep_207 : decode cX7_takeStep 207 = .ok (.return_, 1) := by decide +kernel
theorem dX7_chosen_0 : decode cX7_chosen 0 = .ok (.lload_n 1, 1) := by decide +kernel
theorem dX7_chosen_1 : decode cX7_chosen 1 = .ok (.aload_n 0, 1) := by decide +kernel
theorem dX7_chosen_2 : decode cX7_chosen 2 = .ok (.getfield 29, 3) := by decide +kernel
theorem dX7_chosen_5 : decode cX7_chosen 5 = .ok (.bipush 62, 2) := by decide +kernel
theorem dX7_chosen_7 : decode cX7_chosen 7 = .ok (.irem, 1) := by decide +kernel
theorem dX7_chosen_8 : decode cX7_chosen 8 = .ok (.lushr, 1) := by decide +kernel
theorem dX7_chosen_9 : decode cX7_chosen 9 = .ok (.lconst 1, 1) := by decide +kernel
theorem dX7_chosen_10 : decode cX7_chosen 10 = .ok (.land, 1) := by decide +kernel
theorem dX7_chosen_11 : decode cX7_chosen 11 = .ok (.lstore_n 3, 1) := by decide +kernel
theorem dX7_chosen_12 : decode cX7_chosen 12 = .ok (.aload_n 0, 1) := by decide +kernel
theorem dX7_chosen_13 : decode cX7_chosen 13 = .ok (.dup, 1) := by decide +kernel
theorem dX7_chosen_14 : decode cX7_chosen 14 = .ok (.getfield 29, 3) := by decide +kernel
theorem dX7_chosen_17 : decode cX7_chosen 17 = .ok (.iconst 1, 1) := by decide +kernel
theorem dX7_chosen_18 : decode cX7_chosen 18 = .ok (.iadd, 1) := by decide +kernel
theorem dX7_chosen_19 : decode cX7_chosen 19 = .ok (.putfield 29, 3) := by decide +kernel
theorem dX7_chosen_22 : decode cX7_chosen 22 = .ok (.lload_n 3, 1) := by decide +kernel
theorem dX7_chosen_23 : decode cX7_chosen 23 = .ok (.lconst 1, 1) := by decide +kernel
theorem dX7_chosen_24 : decode cX7_chosen 24 = .ok (.lcmp, 1) := by decide +kernel
theorem dX7_chosen_25 : decode cX7_chosen 25 = .ok (.ifCond .ne 7, 3) := by decide +kernel
theorem dX7_chosen_28 : decode cX7_chosen 28 = .ok (.iconst 1, 1) := by decide +kernel
theorem dX7_chosen_29 : decode cX7_chosen 29 = .ok (.goto 4, 3) := by decide +kernel
theorem dX7_chosen_32 : decode cX7_chosen 32 = .ok (.iconst 0, 1) := by decide +kernel
theorem dX7_chosen_33 : decode cX7_chosen 33 = .ok (.ireturn, 1) := by decide +kernel
theorem dX7_setCounter_0 : decode cX7_setCounter 0 = .ok (.iload_n 1, 1) := by decide +kernel
theorem dX7_setCounter_1 : decode cX7_setCounter 1 = .ok (.ifCond .lt 17, 3) := by decide +kernel
theorem dX7_setCounter_4 : decode cX7_setCounter 4 = .ok (.iload_n 1, 1) := by decide +kernel
theorem dX7_setCounter_5 : decode cX7_setCounter 5 = .ok (.sipush 256, 3) := by decide +kernel
theorem dX7_setCounter_8 : decode cX7_setCounter 8 = .ok (.if_icmp .ge 10, 3) := by decide +kernel
theorem dX7_setCounter_11 : decode cX7_setCounter 11 = .ok (.aload_n 0, 1) := by decide +kernel
theorem dX7_setCounter_12 : decode cX7_setCounter 12 = .ok (.getfield 9, 3) := by decide +kernel
theorem dX7_setCounter_15 : decode cX7_setCounter 15 = .ok (.iload_n 1, 1) := by decide +kernel
theorem dX7_setCounter_16 : decode cX7_setCounter 16 = .ok (.iload_n 2, 1) := by decide +kernel
theorem dX7_setCounter_17 : decode cX7_setCounter 17 = .ok (.iastore, 1) := by decide +kernel
theorem dX7_setCounter_18 : decode cX7_setCounter 18 = .ok (.return_, 1) := by decide +kernel
theorem dX7_countsDown_0 : decode cX7_countsDown 0 = .ok (.iload_n 1, 1) := by decide +kernel
theorem dX7_countsDown_1 : decode cX7_countsDown 1 = .ok (.ifCond .lt 19, 3) := by decide +kernel
theorem dX7_countsDown_4 : decode cX7_countsDown 4 = .ok (.iload_n 1, 1) := by decide +kernel
theorem dX7_countsDown_5 : decode cX7_countsDown 5 = .ok (.sipush 256, 3) := by decide +kernel
theorem dX7_countsDown_8 : decode cX7_countsDown 8 = .ok (.if_icmp .ge 12, 3) := by decide +kernel
theorem dX7_countsDown_11 : decode cX7_countsDown 11 = .ok (.aload_n 0, 1) := by decide +kernel
theorem dX7_countsDown_12 : decode cX7_countsDown 12 = .ok (.getfield 9, 3) := by decide +kernel
theorem dX7_countsDown_15 : decode cX7_countsDown 15 = .ok (.iload_n 1, 1) := by decide +kernel
theorem dX7_countsDown_16 : decode cX7_countsDown 16 = .ok (.iaload, 1) := by decide +kernel
theorem dX7_countsDown_17 : decode cX7_countsDown 17 = .ok (.ifCond .ne 5, 3) := by decide +kernel
theorem dX7_countsDown_20 : decode cX7_countsDown 20 = .ok (.iconst 0, 1) := by decide +kernel
theorem dX7_countsDown_21 : decode cX7_countsDown 21 = .ok (.ireturn, 1) := by decide +kernel
theorem dX7_countsDown_22 : decode cX7_countsDown 22 = .ok (.aload_n 0, 1) := by decide +kernel
theorem dX7_countsDown_23 : decode cX7_countsDown 23 = .ok (.getfield 9, 3) := by decide +kernel
theorem dX7_countsDown_26 : decode cX7_countsDown 26 = .ok (.iload_n 1, 1) := by decide +kernel
theorem dX7_countsDown_27 : decode cX7_countsDown 27 = .ok (.dup2, 1) := by decide +kernel
theorem dX7_countsDown_28 : decode cX7_countsDown 28 = .ok (.iaload, 1) := by decide +kernel
theorem dX7_countsDown_29 : decode cX7_countsDown 29 = .ok (.iconst 1, 1) := by decide +kernel
theorem dX7_countsDown_30 : decode cX7_countsDown 30 = .ok (.isub, 1) := by decide +kernel
theorem dX7_countsDown_31 : decode cX7_countsDown 31 = .ok (.iastore, 1) := by decide +kernel
theorem dX7_countsDown_32 : decode cX7_countsDown 32 = .ok (.iconst 1, 1) := by decide +kernel
theorem dX7_countsDown_33 : decode cX7_countsDown 33 = .ok (.ireturn, 1) := by decide +kernel
theorem dX7_goInto_0 : decode cX7_goInto 0 = .ok (.aload_n 0, 1) := by decide +kernel
theorem dX7_goInto_1 : decode cX7_goInto 1 = .ok (.getfield 25, 3) := by decide +kernel
theorem dX7_goInto_4 : decode cX7_goInto 4 = .ok (.ifCond .lt 56, 3) := by decide +kernel
theorem dX7_goInto_7 : decode cX7_goInto 7 = .ok (.aload_n 0, 1) := by decide +kernel
theorem dX7_goInto_8 : decode cX7_goInto 8 = .ok (.getfield 25, 3) := by decide +kernel
theorem dX7_goInto_11 : decode cX7_goInto 11 = .ok (.bipush 16, 2) := by decide +kernel
theorem dX7_goInto_13 : decode cX7_goInto 13 = .ok (.if_icmp .ge 47, 3) := by decide +kernel
theorem dX7_goInto_16 : decode cX7_goInto 16 = .ok (.aload_n 0, 1) := by decide +kernel
theorem dX7_goInto_17 : decode cX7_goInto 17 = .ok (.getfield 15, 3) := by decide +kernel
theorem dX7_goInto_20 : decode cX7_goInto 20 = .ok (.aload_n 0, 1) := by decide +kernel
theorem dX7_goInto_21 : decode cX7_goInto 21 = .ok (.getfield 25, 3) := by decide +kernel
theorem dX7_goInto_24 : decode cX7_goInto 24 = .ok (.aload_n 0, 1) := by decide +kernel
theorem dX7_goInto_25 : decode cX7_goInto 25 = .ok (.getfield 53, 3) := by decide +kernel
theorem dX7_goInto_28 : decode cX7_goInto 28 = .ok (.iastore, 1) := by decide +kernel
theorem dX7_goInto_29 : decode cX7_goInto 29 = .ok (.aload_n 0, 1) := by decide +kernel
theorem dX7_goInto_30 : decode cX7_goInto 30 = .ok (.getfield 18, 3) := by decide +kernel
theorem dX7_goInto_33 : decode cX7_goInto 33 = .ok (.aload_n 0, 1) := by decide +kernel
theorem dX7_goInto_34 : decode cX7_goInto 34 = .ok (.getfield 25, 3) := by decide +kernel
theorem dX7_goInto_37 : decode cX7_goInto 37 = .ok (.aload_n 0, 1) := by decide +kernel
theorem dX7_goInto_38 : decode cX7_goInto 38 = .ok (.getfield 43, 3) := by decide +kernel
theorem dX7_goInto_41 : decode cX7_goInto 41 = .ok (.iconst 1, 1) := by decide +kernel
theorem dX7_goInto_42 : decode cX7_goInto 42 = .ok (.iadd, 1) := by decide +kernel
theorem dX7_goInto_43 : decode cX7_goInto 43 = .ok (.iastore, 1) := by decide +kernel
theorem dX7_goInto_44 : decode cX7_goInto 44 = .ok (.aload_n 0, 1) := by decide +kernel
theorem dX7_goInto_45 : decode cX7_goInto 45 = .ok (.dup, 1) := by decide +kernel
theorem dX7_goInto_46 : decode cX7_goInto 46 = .ok (.getfield 25, 3) := by decide +kernel
theorem dX7_goInto_49 : decode cX7_goInto 49 = .ok (.iconst 1, 1) := by decide +kernel
theorem dX7_goInto_50 : decode cX7_goInto 50 = .ok (.iadd, 1) := by decide +kernel
theorem dX7_goInto_51 : decode cX7_goInto 51 = .ok (.putfield 25, 3) := by decide +kernel
theorem dX7_goInto_54 : decode cX7_goInto 54 = .ok (.aload_n 0, 1) := by decide +kernel
theorem dX7_goInto_55 : decode cX7_goInto 55 = .ok (.iload_n 1, 1) := by decide +kernel
theorem dX7_goInto_56 : decode cX7_goInto 56 = .ok (.iconst 0, 1) := by decide +kernel
theorem dX7_goInto_57 : decode cX7_goInto 57 = .ok (.invokevirtual 38, 3) := by decide +kernel
theorem dX7_goInto_60 : decode cX7_goInto 60 = .ok (.return_, 1) := by decide +kernel
theorem dX8_init_0 : decode cX8_init 0 = .ok (.aload_n 0, 1) := by decide +kernel
theorem dX8_init_1 : decode cX8_init 1 = .ok (.invokespecial 3, 3) := by decide +kernel
theorem dX8_init_4 : decode cX8_init 4 = .ok (.aload_n 0, 1) := by decide +kernel
theorem dX8_init_5 : decode cX8_init 5 = .ok (.sipush 257, 3) := by decide +kernel
theorem dX8_init_8 : decode cX8_init 8 = .ok (.newarray .long, 2) := by decide +kernel
theorem dX8_init_10 : decode cX8_init 10 = .ok (.putfield 9, 3) := by decide +kernel
theorem dX8_init_13 : decode cX8_init 13 = .ok (.aload_n 0, 1) := by decide +kernel
theorem dX8_init_14 : decode cX8_init 14 = .ok (.sipush 256, 3) := by decide +kernel
theorem dX8_init_17 : decode cX8_init 17 = .ok (.newarray .long, 2) := by decide +kernel
theorem dX8_init_19 : decode cX8_init 19 = .ok (.putfield 15, 3) := by decide +kernel
theorem dX8_init_22 : decode cX8_init 22 = .ok (.aload_n 0, 1) := by decide +kernel
theorem dX8_init_23 : decode cX8_init 23 = .ok (.bipush 16, 2) := by decide +kernel
theorem dX8_init_25 : decode cX8_init 25 = .ok (.newarray .int, 2) := by decide +kernel
theorem dX8_init_27 : decode cX8_init 27 = .ok (.putfield 18, 3) := by decide +kernel
theorem dX8_init_30 : decode cX8_init 30 = .ok (.aload_n 0, 1) := by decide +kernel
theorem dX8_init_31 : decode cX8_init 31 = .ok (.aload_n 1, 1) := by decide +kernel
theorem dX8_init_32 : decode cX8_init 32 = .ok (.putfield 22, 3) := by decide +kernel
theorem dX8_init_35 : decode cX8_init 35 = .ok (.return_, 1) := by decide +kernel
theorem dX8_stepsOf_0 : decode cX8_stepsOf 0 = .ok (.iload_n 1, 1) := by decide +kernel
theorem dX8_stepsOf_1 : decode cX8_stepsOf 1 = .ok (.ifCond .lt 18, 3) := by decide +kernel
theorem dX8_stepsOf_4 : decode cX8_stepsOf 4 = .ok (.iload_n 1, 1) := by decide +kernel
theorem dX8_stepsOf_5 : decode cX8_stepsOf 5 = .ok (.bipush 16, 2) := by decide +kernel
theorem dX8_stepsOf_7 : decode cX8_stepsOf 7 = .ok (.if_icmp .ge 12, 3) := by decide +kernel
theorem dX8_stepsOf_10 : decode cX8_stepsOf 10 = .ok (.aload_n 0, 1) := by decide +kernel
theorem dX8_stepsOf_11 : decode cX8_stepsOf 11 = .ok (.getfield 18, 3) := by decide +kernel
theorem dX8_stepsOf_14 : decode cX8_stepsOf 14 = .ok (.iload_n 1, 1) := by decide +kernel
theorem dX8_stepsOf_15 : decode cX8_stepsOf 15 = .ok (.iaload, 1) := by decide +kernel
theorem dX8_stepsOf_16 : decode cX8_stepsOf 16 = .ok (.goto 4, 3) := by decide +kernel
theorem dX8_stepsOf_19 : decode cX8_stepsOf 19 = .ok (.iconst 0, 1) := by decide +kernel
theorem dX8_stepsOf_20 : decode cX8_stepsOf 20 = .ok (.ireturn, 1) := by decide +kernel
theorem dX8_measure_0 : decode cX8_measure 0 = .ok (.aload_n 0, 1) := by decide +kernel
theorem dX8_measure_1 : decode cX8_measure 1 = .ok (.getfield 22, 3) := by decide +kernel
theorem dX8_measure_4 : decode cX8_measure 4 = .ok (.iload_n 1, 1) := by decide +kernel
theorem dX8_measure_5 : decode cX8_measure 5 = .ok (.invokevirtual 26, 3) := by decide +kernel
theorem dX8_measure_8 : decode cX8_measure 8 = .ok (.sipush 256, 3) := by decide +kernel
theorem dX8_measure_11 : decode cX8_measure 11 = .ok (.invokestatic 32, 3) := by decide +kernel
theorem dX8_measure_14 : decode cX8_measure 14 = .ok (.istore_n 2, 1) := by decide +kernel
theorem dX8_measure_15 : decode cX8_measure 15 = .ok (.iload_n 2, 1) := by decide +kernel
theorem dX8_measure_16 : decode cX8_measure 16 = .ok (.iconst 1, 1) := by decide +kernel
theorem dX8_measure_17 : decode cX8_measure 17 = .ok (.isub, 1) := by decide +kernel
theorem dX8_measure_18 : decode cX8_measure 18 = .ok (.istore_n 3, 1) := by decide +kernel
theorem dX8_measure_19 : decode cX8_measure 19 = .ok (.iload_n 3, 1) := by decide +kernel
theorem dX8_measure_20 : decode cX8_measure 20 = .ok (.ifCond .lt 73, 3) := by decide +kernel
theorem dX8_measure_23 : decode cX8_measure 23 = .ok (.aload_n 0, 1) := by decide +kernel
theorem dX8_measure_24 : decode cX8_measure 24 = .ok (.getfield 22, 3) := by decide +kernel
theorem dX8_measure_27 : decode cX8_measure 27 = .ok (.iload_n 1, 1) := by decide +kernel
theorem dX8_measure_28 : decode cX8_measure 28 = .ok (.iload_n 3, 1) := by decide +kernel
theorem dX8_measure_29 : decode cX8_measure 29 = .ok (.invokevirtual 38, 3) := by decide +kernel
theorem dX8_measure_32 : decode cX8_measure 32 = .ok (.astore 4, 2) := by decide +kernel
theorem dX8_measure_34 : decode cX8_measure 34 = .ok (.aload 4, 2) := by decide +kernel
theorem dX8_measure_36 : decode cX8_measure 36 = .ok (.getfield 42, 3) := by decide +kernel
theorem dX8_measure_39 : decode cX8_measure 39 = .ok (.bipush 13, 2) := by decide +kernel
theorem dX8_measure_41 : decode cX8_measure 41 = .ok (.if_icmp .ne 46, 3) := by decide +kernel
theorem dX8_measure_44 : decode cX8_measure 44 = .ok (.aload_n 0, 1) := by decide +kernel
theorem dX8_measure_45 : decode cX8_measure 45 = .ok (.iload_n 1, 1) := by decide +kernel
theorem dX8_measure_46 : decode cX8_measure 46 = .ok (.iload_n 3, 1) := by decide +kernel
theorem dX8_measure_47 : decode cX8_measure 47 = .ok (.iconst 1, 1) := by decide +kernel
theorem dX8_measure_48 : decode cX8_measure 48 = .ok (.iadd, 1) := by decide +kernel
theorem dX8_measure_49 : decode cX8_measure 49 = .ok (.aload 4, 2) := by decide +kernel
theorem dX8_measure_51 : decode cX8_measure 51 = .ok (.getfield 48, 3) := by decide +kernel
theorem dX8_measure_54 : decode cX8_measure 54 = .ok (.iconst 1, 1) := by decide +kernel
theorem dX8_measure_55 : decode cX8_measure 55 = .ok (.isub, 1) := by decide +kernel
theorem dX8_measure_56 : decode cX8_measure 56 = .ok (.lconst 1, 1) := by decide +kernel
theorem dX8_measure_57 : decode cX8_measure 57 = .ok (.invokevirtual 51, 3) := by decide +kernel
theorem dX8_measure_60 : decode cX8_measure 60 = .ok (.lstore 5, 2) := by decide +kernel
theorem dX8_measure_62 : decode cX8_measure 62 = .ok (.aload_n 0, 1) := by decide +kernel
theorem dX8_measure_63 : decode cX8_measure 63 = .ok (.getfield 15, 3) := by decide +kernel
theorem dX8_measure_66 : decode cX8_measure 66 = .ok (.iload_n 3, 1) := by decide +kernel
theorem dX8_measure_67 : decode cX8_measure 67 = .ok (.lload 5, 2) := by decide +kernel
theorem dX8_measure_69 : decode cX8_measure 69 = .ok (.ldc2_w 55, 3) := by decide +kernel
theorem dX8_measure_72 : decode cX8_measure 72 = .ok (.lcmp, 1) := by decide +kernel
theorem dX8_measure_73 : decode cX8_measure 73 = .ok (.ifCond .ne 9, 3) := by decide +kernel
theorem dX8_measure_76 : decode cX8_measure 76 = .ok (.ldc2_w 55, 3) := by decide +kernel
theorem dX8_measure_79 : decode cX8_measure 79 = .ok (.goto 7, 3) := by decide +kernel
theorem dX8_measure_82 : decode cX8_measure 82 = .ok (.lload 5, 2) := by decide +kernel
theorem dX8_measure_84 : decode cX8_measure 84 = .ok (.lconst 1, 1) := by decide +kernel
theorem dX8_measure_85 : decode cX8_measure 85 = .ok (.ladd, 1) := by decide +kernel
theorem dX8_measure_86 : decode cX8_measure 86 = .ok (.lastore, 1) := by decide +kernel
theorem dX8_measure_87 : decode cX8_measure 87 = .ok (.iinc 3 (-1), 3) := by decide +kernel
theorem dX8_measure_90 : decode cX8_measure 90 = .ok (.goto (-71), 3) := by decide +kernel
theorem dX8_measure_93 : decode cX8_measure 93 = .ok (.aload_n 0, 1) := by decide +kernel
theorem dX8_measure_94 : decode cX8_measure 94 = .ok (.iload_n 1, 1) := by decide +kernel
theorem dX8_measure_95 : decode cX8_measure 95 = .ok (.iconst 0, 1) := by decide +kernel
theorem dX8_measure_96 : decode cX8_measure 96 = .ok (.iload_n 2, 1) := by decide +kernel
theorem dX8_measure_97 : decode cX8_measure 97 = .ok (.lconst 0, 1) := by decide +kernel
theorem dX8_measure_98 : decode cX8_measure 98 = .ok (.invokevirtual 51, 3) := by decide +kernel
theorem dX8_measure_101 : decode cX8_measure 101 = .ok (.lstore_n 3, 1) := by decide +kernel
theorem dX8_measure_102 : decode cX8_measure 102 = .ok (.lload_n 3, 1) := by decide +kernel
theorem dX8_measure_103 : decode cX8_measure 103 = .ok (.ldc2_w 57, 3) := by decide +kernel
theorem dX8_measure_106 : decode cX8_measure 106 = .ok (.lcmp, 1) := by decide +kernel
theorem dX8_measure_107 : decode cX8_measure 107 = .ok (.ifCond .gt 13, 3) := by decide +kernel
theorem dX8_measure_110 : decode cX8_measure 110 = .ok (.iload_n 1, 1) := by decide +kernel
theorem dX8_measure_111 : decode cX8_measure 111 = .ok (.ifCond .lt 9, 3) := by decide +kernel
theorem dX8_measure_114 : decode cX8_measure 114 = .ok (.iload_n 1, 1) := by decide +kernel
theorem dX8_measure_115 : decode cX8_measure 115 = .ok (.bipush 16, 2) := by decide +kernel
theorem dX8_measure_117 : decode cX8_measure 117 = .ok (.if_icmp .lt 5, 3) := by decide +kernel
theorem dX8_measure_120 : decode cX8_measure 120 = .ok (.iconst 0, 1) := by decide +kernel
theorem dX8_measure_121 : decode cX8_measure 121 = .ok (.ireturn, 1) := by decide +kernel
theorem dX8_measure_122 : decode cX8_measure 122 = .ok (.aload_n 0, 1) := by decide +kernel
theorem dX8_measure_123 : decode cX8_measure 123 = .ok (.getfield 18, 3) := by decide +kernel
theorem dX8_measure_126 : decode cX8_measure 126 = .ok (.iload_n 1, 1) := by decide +kernel
theorem dX8_measure_127 : decode cX8_measure 127 = .ok (.lload_n 3, 1) := by decide +kernel
theorem dX8_measure_128 : decode cX8_measure 128 = .ok (.l2i, 1) := by decide +kernel
theorem dX8_measure_129 : decode cX8_measure 129 = .ok (.iastore, 1) := by decide +kernel
theorem dX8_measure_130 : decode cX8_measure 130 = .ok (.iconst 1, 1) := by decide +kernel
theorem dX8_measure_131 : decode cX8_measure 131 = .ok (.ireturn, 1) := by decide +kernel
theorem dX8_longest_0 : decode cX8_longest 0 = .ok (.iload_n 2, 1) := by decide +kernel
theorem dX8_longest_1 : decode cX8_longest 1 = .ok (.ifCond .lt 15, 3) := by decide +kernel
theorem dX8_longest_4 : decode cX8_longest 4 = .ok (.iload_n 2, 1) := by decide +kernel
theorem dX8_longest_5 : decode cX8_longest 5 = .ok (.iload_n 3, 1) := by decide +kernel
theorem dX8_longest_6 : decode cX8_longest 6 = .ok (.if_icmp .gt 10, 3) := by decide +kernel
theorem dX8_longest_9 : decode cX8_longest 9 = .ok (.iload_n 3, 1) := by decide +kernel
theorem dX8_longest_10 : decode cX8_longest 10 = .ok (.sipush 256, 3) := by decide +kernel
theorem dX8_longest_13 : decode cX8_longest 13 = .ok (.if_icmp .le 7, 3) := by decide +kernel
theorem dX8_longest_16 : decode cX8_longest 16 = .ok (.ldc2_w 55, 3) := by decide +kernel
theorem dX8_longest_19 : decode cX8_longest 19 = .ok (.lreturn, 1) := by decide +kernel
theorem dX8_longest_20 : decode cX8_longest 20 = .ok (.iload_n 2, 1) := by decide +kernel
theorem dX8_longest_21 : decode cX8_longest 21 = .ok (.istore 6, 2) := by decide +kernel
theorem dX8_longest_23 : decode cX8_longest 23 = .ok (.iload 6, 2) := by decide +kernel
theorem dX8_longest_25 : decode cX8_longest 25 = .ok (.iload_n 3, 1) := by decide +kernel
theorem dX8_longest_26 : decode cX8_longest 26 = .ok (.if_icmp .gt 19, 3) := by decide +kernel
theorem dX8_longest_29 : decode cX8_longest 29 = .ok (.aload_n 0, 1) := by decide +kernel
theorem dX8_longest_30 : decode cX8_longest 30 = .ok (.getfield 9, 3) := by decide +kernel
theorem dX8_longest_33 : decode cX8_longest 33 = .ok (.iload 6, 2) := by decide +kernel
theorem dX8_longest_35 : decode cX8_longest 35 = .ok (.ldc2_w 55, 3) := by decide +kernel
theorem dX8_longest_38 : decode cX8_longest 38 = .ok (.lastore, 1) := by decide +kernel
theorem dX8_longest_39 : decode cX8_longest 39 = .ok (.iinc 6 1, 3) := by decide +kernel
theorem dX8_longest_42 : decode cX8_longest 42 = .ok (.goto (-19), 3) := by decide +kernel
theorem dX8_longest_45 : decode cX8_longest 45 = .ok (.aload_n 0, 1) := by decide +kernel
theorem dX8_longest_46 : decode cX8_longest 46 = .ok (.getfield 9, 3) := by decide +kernel
theorem dX8_longest_49 : decode cX8_longest 49 = .ok (.iload_n 2, 1) := by decide +kernel
theorem dX8_longest_50 : decode cX8_longest 50 = .ok (.lload 4, 2) := by decide +kernel
theorem dX8_longest_52 : decode cX8_longest 52 = .ok (.lastore, 1) := by decide +kernel
theorem dX8_longest_53 : decode cX8_longest 53 = .ok (.iload_n 2, 1) := by decide +kernel
theorem dX8_longest_54 : decode cX8_longest 54 = .ok (.istore 6, 2) := by decide +kernel
theorem dX8_longest_56 : decode cX8_longest 56 = .ok (.iload 6, 2) := by decide +kernel
theorem dX8_longest_58 : decode cX8_longest 58 = .ok (.iload_n 3, 1) := by decide +kernel
theorem dX8_longest_59 : decode cX8_longest 59 = .ok (.if_icmp .ge 31, 3) := by decide +kernel
theorem dX8_longest_62 : decode cX8_longest 62 = .ok (.aload_n 0, 1) := by decide +kernel
theorem dX8_longest_63 : decode cX8_longest 63 = .ok (.getfield 9, 3) := by decide +kernel
theorem dX8_longest_66 : decode cX8_longest 66 = .ok (.iload 6, 2) := by decide +kernel
theorem dX8_longest_68 : decode cX8_longest 68 = .ok (.laload, 1) := by decide +kernel
theorem dX8_longest_69 : decode cX8_longest 69 = .ok (.ldc2_w 55, 3) := by decide +kernel
theorem dX8_longest_72 : decode cX8_longest 72 = .ok (.lcmp, 1) := by decide +kernel
theorem dX8_longest_73 : decode cX8_longest 73 = .ok (.ifCond .eq 11, 3) := by decide +kernel
theorem dX8_longest_76 : decode cX8_longest 76 = .ok (.aload_n 0, 1) := by decide +kernel
theorem dX8_longest_77 : decode cX8_longest 77 = .ok (.iload_n 1, 1) := by decide +kernel
theorem dX8_longest_78 : decode cX8_longest 78 = .ok (.iload 6, 2) := by decide +kernel
theorem dX8_longest_80 : decode cX8_longest 80 = .ok (.iload_n 3, 1) := by decide +kernel
theorem dX8_longest_81 : decode cX8_longest 81 = .ok (.invokevirtual 59, 3) := by decide +kernel
theorem dX8_longest_84 : decode cX8_longest 84 = .ok (.iinc 6 1, 3) := by decide +kernel
theorem dX8_longest_87 : decode cX8_longest 87 = .ok (.goto (-31), 3) := by decide +kernel
theorem dX8_longest_90 : decode cX8_longest 90 = .ok (.aload_n 0, 1) := by decide +kernel
theorem dX8_longest_91 : decode cX8_longest 91 = .ok (.getfield 9, 3) := by decide +kernel
theorem dX8_longest_94 : decode cX8_longest 94 = .ok (.iload_n 3, 1) := by decide +kernel
theorem dX8_longest_95 : decode cX8_longest 95 = .ok (.laload, 1) := by decide +kernel
theorem dX8_longest_96 : decode cX8_longest 96 = .ok (.lreturn, 1) := by decide +kernel
theorem dX8_goOn_0 : decode cX8_goOn 0 = .ok (.aload_n 0, 1) := by decide +kernel
theorem dX8_goOn_1 : decode cX8_goOn 1 = .ok (.getfield 22, 3) := by decide +kernel
theorem dX8_goOn_4 : decode cX8_goOn 4 = .ok (.iload_n 1, 1) := by decide +kernel
theorem dX8_goOn_5 : decode cX8_goOn 5 = .ok (.iload_n 2, 1) := by decide +kernel
theorem dX8_goOn_6 : decode cX8_goOn 6 = .ok (.invokevirtual 38, 3) := by decide +kernel
theorem dX8_goOn_9 : decode cX8_goOn 9 = .ok (.astore 4, 2) := by decide +kernel
theorem dX8_goOn_11 : decode cX8_goOn 11 = .ok (.aload_n 0, 1) := by decide +kernel
theorem dX8_goOn_12 : decode cX8_goOn 12 = .ok (.getfield 9, 3) := by decide +kernel
theorem dX8_goOn_15 : decode cX8_goOn 15 = .ok (.iload_n 2, 1) := by decide +kernel
theorem dX8_goOn_16 : decode cX8_goOn 16 = .ok (.laload, 1) := by decide +kernel
theorem dX8_goOn_17 : decode cX8_goOn 17 = .ok (.lconst 1, 1) := by decide +kernel
theorem dX8_goOn_18 : decode cX8_goOn 18 = .ok (.ladd, 1) := by decide +kernel
theorem dX8_goOn_19 : decode cX8_goOn 19 = .ok (.lstore 5, 2) := by decide +kernel
theorem dX8_goOn_21 : decode cX8_goOn 21 = .ok (.aload 4, 2) := by decide +kernel
theorem dX8_goOn_23 : decode cX8_goOn 23 = .ok (.getfield 42, 3) := by decide +kernel
theorem dX8_goOn_26 : decode cX8_goOn 26 = .ok (.tableswitch 214 10 18 #[50, 65, 214, 90, 157, 172, 172, 214, 196], 50) := by decide +kernel
theorem dX8_goOn_76 : decode cX8_goOn 76 = .ok (.aload_n 0, 1) := by decide +kernel
theorem dX8_goOn_77 : decode cX8_goOn 77 = .ok (.aload 4, 2) := by decide +kernel
theorem dX8_goOn_79 : decode cX8_goOn 79 = .ok (.getfield 63, 3) := by decide +kernel
theorem dX8_goOn_82 : decode cX8_goOn 82 = .ok (.iload_n 3, 1) := by decide +kernel
theorem dX8_goOn_83 : decode cX8_goOn 83 = .ok (.lload 5, 2) := by decide +kernel
theorem dX8_goOn_85 : decode cX8_goOn 85 = .ok (.invokevirtual 66, 3) := by decide +kernel
theorem dX8_goOn_88 : decode cX8_goOn 88 = .ok (.goto 162, 3) := by decide +kernel
theorem dX8_goOn_91 : decode cX8_goOn 91 = .ok (.aload_n 0, 1) := by decide +kernel
theorem dX8_goOn_92 : decode cX8_goOn 92 = .ok (.aload 4, 2) := by decide +kernel
theorem dX8_goOn_94 : decode cX8_goOn 94 = .ok (.getfield 63, 3) := by decide +kernel
theorem dX8_goOn_97 : decode cX8_goOn 97 = .ok (.iload_n 3, 1) := by decide +kernel
theorem dX8_goOn_98 : decode cX8_goOn 98 = .ok (.lload 5, 2) := by decide +kernel
theorem dX8_goOn_100 : decode cX8_goOn 100 = .ok (.invokevirtual 66, 3) := by decide +kernel
theorem dX8_goOn_103 : decode cX8_goOn 103 = .ok (.aload_n 0, 1) := by decide +kernel
theorem dX8_goOn_104 : decode cX8_goOn 104 = .ok (.iload_n 2, 1) := by decide +kernel
theorem dX8_goOn_105 : decode cX8_goOn 105 = .ok (.iconst 1, 1) := by decide +kernel
theorem dX8_goOn_106 : decode cX8_goOn 106 = .ok (.iadd, 1) := by decide +kernel
theorem dX8_goOn_107 : decode cX8_goOn 107 = .ok (.iload_n 3, 1) := by decide +kernel
theorem dX8_goOn_108 : decode cX8_goOn 108 = .ok (.lload 5, 2) := by decide +kernel
theorem dX8_goOn_110 : decode cX8_goOn 110 = .ok (.invokevirtual 66, 3) := by decide +kernel
theorem dX8_goOn_113 : decode cX8_goOn 113 = .ok (.goto 137, 3) := by decide +kernel
theorem dX8_goOn_116 : decode cX8_goOn 116 = .ok (.aload_n 0, 1) := by decide +kernel
theorem dX8_goOn_117 : decode cX8_goOn 117 = .ok (.getfield 22, 3) := by decide +kernel
theorem dX8_goOn_120 : decode cX8_goOn 120 = .ok (.iload_n 1, 1) := by decide +kernel
theorem dX8_goOn_121 : decode cX8_goOn 121 = .ok (.iload_n 2, 1) := by decide +kernel
theorem dX8_goOn_122 : decode cX8_goOn 122 = .ok (.iconst 1, 1) := by decide +kernel
theorem dX8_goOn_123 : decode cX8_goOn 123 = .ok (.isub, 1) := by decide +kernel
theorem dX8_goOn_124 : decode cX8_goOn 124 = .ok (.invokevirtual 38, 3) := by decide +kernel
theorem dX8_goOn_127 : decode cX8_goOn 127 = .ok (.getfield 48, 3) := by decide +kernel
theorem dX8_goOn_130 : decode cX8_goOn 130 = .ok (.ifCond .ne 18, 3) := by decide +kernel
theorem dX8_goOn_133 : decode cX8_goOn 133 = .ok (.aload_n 0, 1) := by decide +kernel
theorem dX8_goOn_134 : decode cX8_goOn 134 = .ok (.aload 4, 2) := by decide +kernel
theorem dX8_goOn_136 : decode cX8_goOn 136 = .ok (.getfield 48, 3) := by decide +kernel
theorem dX8_goOn_139 : decode cX8_goOn 139 = .ok (.iload_n 3, 1) := by decide +kernel
theorem dX8_goOn_140 : decode cX8_goOn 140 = .ok (.lload 5, 2) := by decide +kernel
theorem dX8_goOn_142 : decode cX8_goOn 142 = .ok (.invokevirtual 66, 3) := by decide +kernel
theorem dX8_goOn_145 : decode cX8_goOn 145 = .ok (.goto 105, 3) := by decide +kernel
theorem dX8_goOn_148 : decode cX8_goOn 148 = .ok (.aload_n 0, 1) := by decide +kernel
theorem dX8_goOn_149 : decode cX8_goOn 149 = .ok (.iload_n 2, 1) := by decide +kernel
theorem dX8_goOn_150 : decode cX8_goOn 150 = .ok (.iconst 1, 1) := by decide +kernel
theorem dX8_goOn_151 : decode cX8_goOn 151 = .ok (.iadd, 1) := by decide +kernel
theorem dX8_goOn_152 : decode cX8_goOn 152 = .ok (.iload_n 3, 1) := by decide +kernel
theorem dX8_goOn_153 : decode cX8_goOn 153 = .ok (.lload 5, 2) := by decide +kernel
theorem dX8_goOn_155 : decode cX8_goOn 155 = .ok (.aload_n 0, 1) := by decide +kernel
theorem dX8_goOn_156 : decode cX8_goOn 156 = .ok (.iload_n 2, 1) := by decide +kernel
theorem dX8_goOn_157 : decode cX8_goOn 157 = .ok (.aload_n 0, 1) := by decide +kernel
theorem dX8_goOn_158 : decode cX8_goOn 158 = .ok (.getfield 22, 3) := by decide +kernel
theorem dX8_goOn_161 : decode cX8_goOn 161 = .ok (.iload_n 1, 1) := by decide +kernel
theorem dX8_goOn_162 : decode cX8_goOn 162 = .ok (.iload_n 2, 1) := by decide +kernel
theorem dX8_goOn_163 : decode cX8_goOn 163 = .ok (.iconst 1, 1) := by decide +kernel
theorem dX8_goOn_164 : decode cX8_goOn 164 = .ok (.isub, 1) := by decide +kernel
theorem dX8_goOn_165 : decode cX8_goOn 165 = .ok (.invokevirtual 38, 3) := by decide +kernel
theorem dX8_goOn_168 : decode cX8_goOn 168 = .ok (.getfield 48, 3) := by decide +kernel
theorem dX8_goOn_171 : decode cX8_goOn 171 = .ok (.iconst 1, 1) := by decide +kernel
theorem dX8_goOn_172 : decode cX8_goOn 172 = .ok (.isub, 1) := by decide +kernel
theorem dX8_goOn_173 : decode cX8_goOn 173 = .ok (.invokevirtual 70, 3) := by decide +kernel
theorem dX8_goOn_176 : decode cX8_goOn 176 = .ok (.ladd, 1) := by decide +kernel
theorem dX8_goOn_177 : decode cX8_goOn 177 = .ok (.invokevirtual 66, 3) := by decide +kernel
theorem dX8_goOn_180 : decode cX8_goOn 180 = .ok (.goto 70, 3) := by decide +kernel
theorem dX8_goOn_183 : decode cX8_goOn 183 = .ok (.aload_n 0, 1) := by decide +kernel
theorem dX8_goOn_184 : decode cX8_goOn 184 = .ok (.iload_n 2, 1) := by decide +kernel
theorem dX8_goOn_185 : decode cX8_goOn 185 = .ok (.iconst 1, 1) := by decide +kernel
theorem dX8_goOn_186 : decode cX8_goOn 186 = .ok (.iadd, 1) := by decide +kernel
theorem dX8_goOn_187 : decode cX8_goOn 187 = .ok (.iload_n 3, 1) := by decide +kernel
theorem dX8_goOn_188 : decode cX8_goOn 188 = .ok (.lload 5, 2) := by decide +kernel
theorem dX8_goOn_190 : decode cX8_goOn 190 = .ok (.lconst 1, 1) := by decide +kernel
theorem dX8_goOn_191 : decode cX8_goOn 191 = .ok (.ladd, 1) := by decide +kernel
theorem dX8_goOn_192 : decode cX8_goOn 192 = .ok (.invokevirtual 66, 3) := by decide +kernel
theorem dX8_goOn_195 : decode cX8_goOn 195 = .ok (.goto 55, 3) := by decide +kernel
theorem dX8_goOn_198 : decode cX8_goOn 198 = .ok (.aload_n 0, 1) := by decide +kernel
theorem dX8_goOn_199 : decode cX8_goOn 199 = .ok (.iload_n 2, 1) := by decide +kernel
theorem dX8_goOn_200 : decode cX8_goOn 200 = .ok (.iconst 1, 1) := by decide +kernel
theorem dX8_goOn_201 : decode cX8_goOn 201 = .ok (.iadd, 1) := by decide +kernel
theorem dX8_goOn_202 : decode cX8_goOn 202 = .ok (.iload_n 3, 1) := by decide +kernel
theorem dX8_goOn_203 : decode cX8_goOn 203 = .ok (.lload 5, 2) := by decide +kernel
theorem dX8_goOn_205 : decode cX8_goOn 205 = .ok (.aload_n 0, 1) := by decide +kernel
theorem dX8_goOn_206 : decode cX8_goOn 206 = .ok (.aload 4, 2) := by decide +kernel
theorem dX8_goOn_208 : decode cX8_goOn 208 = .ok (.getfield 63, 3) := by decide +kernel
theorem dX8_goOn_211 : decode cX8_goOn 211 = .ok (.invokevirtual 74, 3) := by decide +kernel
theorem dX8_goOn_214 : decode cX8_goOn 214 = .ok (.i2l, 1) := by decide +kernel
theorem dX8_goOn_215 : decode cX8_goOn 215 = .ok (.ladd, 1) := by decide +kernel
theorem dX8_goOn_216 : decode cX8_goOn 216 = .ok (.invokevirtual 66, 3) := by decide +kernel
theorem dX8_goOn_219 : decode cX8_goOn 219 = .ok (.goto 31, 3) := by decide +kernel
theorem dX8_goOn_222 : decode cX8_goOn 222 = .ok (.aload_n 0, 1) := by decide +kernel
theorem dX8_goOn_223 : decode cX8_goOn 223 = .ok (.aload_n 0, 1) := by decide +kernel
theorem dX8_goOn_224 : decode cX8_goOn 224 = .ok (.getfield 22, 3) := by decide +kernel
theorem dX8_goOn_227 : decode cX8_goOn 227 = .ok (.iload_n 1, 1) := by decide +kernel
theorem dX8_goOn_228 : decode cX8_goOn 228 = .ok (.invokevirtual 26, 3) := by decide +kernel
theorem dX8_goOn_231 : decode cX8_goOn 231 = .ok (.iload_n 3, 1) := by decide +kernel
theorem dX8_goOn_232 : decode cX8_goOn 232 = .ok (.lload 5, 2) := by decide +kernel
theorem dX8_goOn_234 : decode cX8_goOn 234 = .ok (.invokevirtual 66, 3) := by decide +kernel
theorem dX8_goOn_237 : decode cX8_goOn 237 = .ok (.goto 13, 3) := by decide +kernel
theorem dX8_goOn_240 : decode cX8_goOn 240 = .ok (.aload_n 0, 1) := by decide +kernel
theorem dX8_goOn_241 : decode cX8_goOn 241 = .ok (.iload_n 2, 1) := by decide +kernel
theorem dX8_goOn_242 : decode cX8_goOn 242 = .ok (.iconst 1, 1) := by decide +kernel
theorem dX8_goOn_243 : decode cX8_goOn 243 = .ok (.iadd, 1) := by decide +kernel
theorem dX8_goOn_244 : decode cX8_goOn 244 = .ok (.iload_n 3, 1) := by decide +kernel
theorem dX8_goOn_245 : decode cX8_goOn 245 = .ok (.lload 5, 2) := by decide +kernel
theorem dX8_goOn_247 : decode cX8_goOn 247 = .ok (.invokevirtual 66, 3) := by decide +kernel
theorem dX8_goOn_250 : decode cX8_goOn 250 = .ok (.return_, 1) := by decide +kernel
theorem dX8_stepsOfRounds_0 : decode cX8_stepsOfRounds 0 = .ok (.iload_n 1, 1) := by decide +kernel
theorem dX8_stepsOfRounds_1 : decode cX8_stepsOfRounds 1 = .ok (.ifCond .lt 23, 3) := by decide +kernel
theorem dX8_stepsOfRounds_4 : decode cX8_stepsOfRounds 4 = .ok (.iload_n 1, 1) := by decide +kernel
theorem dX8_stepsOfRounds_5 : decode cX8_stepsOfRounds 5 = .ok (.sipush 256, 3) := by decide +kernel
theorem dX8_stepsOfRounds_8 : decode cX8_stepsOfRounds 8 = .ok (.if_icmp .ge 16, 3) := by decide +kernel
theorem dX8_stepsOfRounds_11 : decode cX8_stepsOfRounds 11 = .ok (.aload_n 0, 1) := by decide +kernel
theorem dX8_stepsOfRounds_12 : decode cX8_stepsOfRounds 12 = .ok (.getfield 15, 3) := by decide +kernel
theorem dX8_stepsOfRounds_15 : decode cX8_stepsOfRounds 15 = .ok (.iload_n 1, 1) := by decide +kernel
theorem dX8_stepsOfRounds_16 : decode cX8_stepsOfRounds 16 = .ok (.laload, 1) := by decide +kernel
theorem dX8_stepsOfRounds_17 : decode cX8_stepsOfRounds 17 = .ok (.ldc2_w 55, 3) := by decide +kernel
theorem dX8_stepsOfRounds_20 : decode cX8_stepsOfRounds 20 = .ok (.lcmp, 1) := by decide +kernel
theorem dX8_stepsOfRounds_21 : decode cX8_stepsOfRounds 21 = .ok (.ifCond .ne 5, 3) := by decide +kernel
theorem dX8_stepsOfRounds_24 : decode cX8_stepsOfRounds 24 = .ok (.lconst 0, 1) := by decide +kernel
theorem dX8_stepsOfRounds_25 : decode cX8_stepsOfRounds 25 = .ok (.lreturn, 1) := by decide +kernel
theorem dX8_stepsOfRounds_26 : decode cX8_stepsOfRounds 26 = .ok (.iload_n 2, 1) := by decide +kernel
theorem dX8_stepsOfRounds_27 : decode cX8_stepsOfRounds 27 = .ok (.i2l, 1) := by decide +kernel
theorem dX8_stepsOfRounds_28 : decode cX8_stepsOfRounds 28 = .ok (.aload_n 0, 1) := by decide +kernel
theorem dX8_stepsOfRounds_29 : decode cX8_stepsOfRounds 29 = .ok (.getfield 15, 3) := by decide +kernel
theorem dX8_stepsOfRounds_32 : decode cX8_stepsOfRounds 32 = .ok (.iload_n 1, 1) := by decide +kernel
theorem dX8_stepsOfRounds_33 : decode cX8_stepsOfRounds 33 = .ok (.laload, 1) := by decide +kernel
theorem dX8_stepsOfRounds_34 : decode cX8_stepsOfRounds 34 = .ok (.lmul, 1) := by decide +kernel
theorem dX8_stepsOfRounds_35 : decode cX8_stepsOfRounds 35 = .ok (.lreturn, 1) := by decide +kernel
theorem dX8_comeTo_0 : decode cX8_comeTo 0 = .ok (.iload_n 1, 1) := by decide +kernel
theorem dX8_comeTo_1 : decode cX8_comeTo 1 = .ok (.ifCond .lt 40, 3) := by decide +kernel
theorem dX8_comeTo_4 : decode cX8_comeTo 4 = .ok (.iload_n 1, 1) := by decide +kernel
theorem dX8_comeTo_5 : decode cX8_comeTo 5 = .ok (.iload_n 2, 1) := by decide +kernel
theorem dX8_comeTo_6 : decode cX8_comeTo 6 = .ok (.if_icmp .gt 35, 3) := by decide +kernel
theorem dX8_comeTo_9 : decode cX8_comeTo 9 = .ok (.lload_n 3, 1) := by decide +kernel
theorem dX8_comeTo_10 : decode cX8_comeTo 10 = .ok (.aload_n 0, 1) := by decide +kernel
theorem dX8_comeTo_11 : decode cX8_comeTo 11 = .ok (.getfield 9, 3) := by decide +kernel
theorem dX8_comeTo_14 : decode cX8_comeTo 14 = .ok (.iload_n 1, 1) := by decide +kernel
theorem dX8_comeTo_15 : decode cX8_comeTo 15 = .ok (.laload, 1) := by decide +kernel
theorem dX8_comeTo_16 : decode cX8_comeTo 16 = .ok (.lcmp, 1) := by decide +kernel
theorem dX8_comeTo_17 : decode cX8_comeTo 17 = .ok (.ifCond .le 24, 3) := by decide +kernel
theorem dX8_comeTo_20 : decode cX8_comeTo 20 = .ok (.aload_n 0, 1) := by decide +kernel
theorem dX8_comeTo_21 : decode cX8_comeTo 21 = .ok (.getfield 9, 3) := by decide +kernel
theorem dX8_comeTo_24 : decode cX8_comeTo 24 = .ok (.iload_n 1, 1) := by decide +kernel
theorem dX8_comeTo_25 : decode cX8_comeTo 25 = .ok (.lload_n 3, 1) := by decide +kernel
theorem dX8_comeTo_26 : decode cX8_comeTo 26 = .ok (.ldc2_w 77, 3) := by decide +kernel
theorem dX8_comeTo_29 : decode cX8_comeTo 29 = .ok (.lcmp, 1) := by decide +kernel
theorem dX8_comeTo_30 : decode cX8_comeTo 30 = .ok (.ifCond .ge 7, 3) := by decide +kernel
theorem dX8_comeTo_33 : decode cX8_comeTo 33 = .ok (.lload_n 3, 1) := by decide +kernel
theorem dX8_comeTo_34 : decode cX8_comeTo 34 = .ok (.goto 6, 3) := by decide +kernel
theorem dX8_comeTo_37 : decode cX8_comeTo 37 = .ok (.ldc2_w 77, 3) := by decide +kernel
theorem dX8_comeTo_40 : decode cX8_comeTo 40 = .ok (.lastore, 1) := by decide +kernel
theorem dX8_comeTo_41 : decode cX8_comeTo 41 = .ok (.return_, 1) := by decide +kernel
theorem dX9_init_0 : decode cX9_init 0 = .ok (.aload_n 0, 1) := by decide +kernel
theorem dX9_init_1 : decode cX9_init 1 = .ok (.invokespecial 1, 3) := by decide +kernel
theorem dX9_init_4 : decode cX9_init 4 = .ok (.aload_n 0, 1) := by decide +kernel
theorem dX9_init_5 : decode cX9_init 5 = .ok (.new 7, 3) := by decide +kernel
theorem dX9_init_8 : decode cX9_init 8 = .ok (.dup, 1) := by decide +kernel
theorem dX9_init_9 : decode cX9_init 9 = .ok (.invokespecial 9, 3) := by decide +kernel
theorem dX9_init_12 : decode cX9_init 12 = .ok (.putfield 10, 3) := by decide +kernel
theorem dX9_init_15 : decode cX9_init 15 = .ok (.aload_n 0, 1) := by decide +kernel
theorem dX9_init_16 : decode cX9_init 16 = .ok (.new 16, 3) := by decide +kernel
theorem dX9_init_19 : decode cX9_init 19 = .ok (.dup, 1) := by decide +kernel
theorem dX9_init_20 : decode cX9_init 20 = .ok (.aload_n 0, 1) := by decide +kernel
theorem dX9_init_21 : decode cX9_init 21 = .ok (.getfield 10, 3) := by decide +kernel
theorem dX9_init_24 : decode cX9_init 24 = .ok (.invokespecial 18, 3) := by decide +kernel
theorem dX9_init_27 : decode cX9_init 27 = .ok (.putfield 21, 3) := by decide +kernel
theorem dX9_init_30 : decode cX9_init 30 = .ok (.aload_n 0, 1) := by decide +kernel
theorem dX9_init_31 : decode cX9_init 31 = .ok (.new 25, 3) := by decide +kernel
theorem dX9_init_34 : decode cX9_init 34 = .ok (.dup, 1) := by decide +kernel
theorem dX9_init_35 : decode cX9_init 35 = .ok (.aload_n 0, 1) := by decide +kernel
theorem dX9_init_36 : decode cX9_init 36 = .ok (.getfield 10, 3) := by decide +kernel
theorem dX9_init_39 : decode cX9_init 39 = .ok (.invokespecial 27, 3) := by decide +kernel
theorem dX9_init_42 : decode cX9_init 42 = .ok (.putfield 28, 3) := by decide +kernel
theorem dX9_init_45 : decode cX9_init 45 = .ok (.return_, 1) := by decide +kernel
theorem dX9_begin_0 : decode cX9_begin 0 = .ok (.iload_n 1, 1) := by decide +kernel
theorem dX9_begin_1 : decode cX9_begin 1 = .ok (.iconst 1, 1) := by decide +kernel
theorem dX9_begin_2 : decode cX9_begin 2 = .ok (.if_icmp .lt 10, 3) := by decide +kernel
theorem dX9_begin_5 : decode cX9_begin 5 = .ok (.iload_n 1, 1) := by decide +kernel
theorem dX9_begin_6 : decode cX9_begin 6 = .ok (.sipush 4096, 3) := by decide +kernel
theorem dX9_begin_9 : decode cX9_begin 9 = .ok (.if_icmp .le 5, 3) := by decide +kernel
theorem dX9_begin_12 : decode cX9_begin 12 = .ok (.iconst (-1), 1) := by decide +kernel
theorem dX9_begin_13 : decode cX9_begin 13 = .ok (.ireturn, 1) := by decide +kernel
theorem dX9_begin_14 : decode cX9_begin 14 = .ok (.aload_n 0, 1) := by decide +kernel
theorem dX9_begin_15 : decode cX9_begin 15 = .ok (.getfield 10, 3) := by decide +kernel
theorem dX9_begin_18 : decode cX9_begin 18 = .ok (.iload_n 1, 1) := by decide +kernel
theorem dX9_begin_19 : decode cX9_begin 19 = .ok (.invokevirtual 32, 3) := by decide +kernel
theorem dX9_begin_22 : decode cX9_begin 22 = .ok (.aload_n 0, 1) := by decide +kernel
theorem dX9_begin_23 : decode cX9_begin 23 = .ok (.getfield 21, 3) := by decide +kernel
theorem dX9_begin_26 : decode cX9_begin 26 = .ok (.invokevirtual 36, 3) := by decide +kernel
theorem dX9_begin_29 : decode cX9_begin 29 = .ok (.iload_n 1, 1) := by decide +kernel
theorem dX9_begin_30 : decode cX9_begin 30 = .ok (.ireturn, 1) := by decide +kernel
theorem dX9_unit_0 : decode cX9_unit 0 = .ok (.iload_n 1, 1) := by decide +kernel
theorem dX9_unit_1 : decode cX9_unit 1 = .ok (.ifCond .lt 26, 3) := by decide +kernel
theorem dX9_unit_4 : decode cX9_unit 4 = .ok (.iload_n 1, 1) := by decide +kernel
theorem dX9_unit_5 : decode cX9_unit 5 = .ok (.sipush 4096, 3) := by decide +kernel
theorem dX9_unit_8 : decode cX9_unit 8 = .ok (.if_icmp .gt 19, 3) := by decide +kernel
theorem dX9_unit_11 : decode cX9_unit 11 = .ok (.iload_n 2, 1) := by decide +kernel
theorem dX9_unit_12 : decode cX9_unit 12 = .ok (.iconst (-1), 1) := by decide +kernel
theorem dX9_unit_13 : decode cX9_unit 13 = .ok (.if_icmp .lt 14, 3) := by decide +kernel
theorem dX9_unit_16 : decode cX9_unit 16 = .ok (.iload_n 2, 1) := by decide +kernel
theorem dX9_unit_17 : decode cX9_unit 17 = .ok (.sipush 4096, 3) := by decide +kernel
theorem dX9_unit_20 : decode cX9_unit 20 = .ok (.if_icmp .ge 7, 3) := by decide +kernel
theorem dX9_unit_23 : decode cX9_unit 23 = .ok (.iconst 1, 1) := by decide +kernel
theorem dX9_unit_24 : decode cX9_unit 24 = .ok (.goto 4, 3) := by decide +kernel
theorem dX9_unit_27 : decode cX9_unit 27 = .ok (.iconst 0, 1) := by decide +kernel
theorem dX9_unit_28 : decode cX9_unit 28 = .ok (.istore_n 3, 1) := by decide +kernel
theorem dX9_unit_29 : decode cX9_unit 29 = .ok (.iload_n 3, 1) := by decide +kernel
theorem dX9_unit_30 : decode cX9_unit 30 = .ok (.ifCond .eq 15, 3) := by decide +kernel
theorem dX9_unit_33 : decode cX9_unit 33 = .ok (.aload_n 0, 1) := by decide +kernel
theorem dX9_unit_34 : decode cX9_unit 34 = .ok (.getfield 10, 3) := by decide +kernel
theorem dX9_unit_37 : decode cX9_unit 37 = .ok (.iload_n 1, 1) := by decide +kernel
theorem dX9_unit_38 : decode cX9_unit 38 = .ok (.iload_n 2, 1) := by decide +kernel
theorem dX9_unit_39 : decode cX9_unit 39 = .ok (.invokevirtual 39, 3) := by decide +kernel
theorem dX9_unit_42 : decode cX9_unit 42 = .ok (.goto 4, 3) := by decide +kernel
theorem dX9_unit_45 : decode cX9_unit 45 = .ok (.iconst (-1), 1) := by decide +kernel
theorem dX9_unit_46 : decode cX9_unit 46 = .ok (.istore 4, 2) := by decide +kernel
theorem dX9_unit_48 : decode cX9_unit 48 = .ok (.iload 4, 2) := by decide +kernel
theorem dX9_unit_50 : decode cX9_unit 50 = .ok (.iconst (-1), 1) := by decide +kernel
theorem dX9_unit_51 : decode cX9_unit 51 = .ok (.if_icmp .eq 10, 3) := by decide +kernel
theorem dX9_unit_54 : decode cX9_unit 54 = .ok (.aload_n 0, 1) := by decide +kernel
theorem dX9_unit_55 : decode cX9_unit 55 = .ok (.getfield 21, 3) := by decide +kernel
theorem dX9_unit_58 : decode cX9_unit 58 = .ok (.invokevirtual 36, 3) := by decide +kernel
theorem dX9_unit_61 : decode cX9_unit 61 = .ok (.iload 4, 2) := by decide +kernel
theorem dX9_unit_63 : decode cX9_unit 63 = .ok (.ireturn, 1) := by decide +kernel
theorem dX9_add_0 : decode cX9_add 0 = .ok (.aload_n 0, 1) := by decide +kernel
theorem dX9_add_1 : decode cX9_add 1 = .ok (.getfield 10, 3) := by decide +kernel
theorem dX9_add_4 : decode cX9_add 4 = .ok (.iload_n 1, 1) := by decide +kernel
theorem dX9_add_5 : decode cX9_add 5 = .ok (.iload_n 2, 1) := by decide +kernel
theorem dX9_add_6 : decode cX9_add 6 = .ok (.iload_n 3, 1) := by decide +kernel
theorem dX9_add_7 : decode cX9_add 7 = .ok (.iload 4, 2) := by decide +kernel
theorem dX9_add_9 : decode cX9_add 9 = .ok (.invokevirtual 43, 3) := by decide +kernel
theorem dX9_add_12 : decode cX9_add 12 = .ok (.istore 5, 2) := by decide +kernel
theorem dX9_add_14 : decode cX9_add 14 = .ok (.iload 5, 2) := by decide +kernel
theorem dX9_add_16 : decode cX9_add 16 = .ok (.iconst (-1), 1) := by decide +kernel
theorem dX9_add_17 : decode cX9_add 17 = .ok (.if_icmp .eq 10, 3) := by decide +kernel
theorem dX9_add_20 : decode cX9_add 20 = .ok (.aload_n 0, 1) := by decide +kernel
theorem dX9_add_21 : decode cX9_add 21 = .ok (.getfield 21, 3) := by decide +kernel
theorem dX9_add_24 : decode cX9_add 24 = .ok (.invokevirtual 36, 3) := by decide +kernel
theorem dX9_add_27 : decode cX9_add 27 = .ok (.iload 5, 2) := by decide +kernel
theorem dX9_add_29 : decode cX9_add 29 = .ok (.ireturn, 1) := by decide +kernel
theorem dX9_change_0 : decode cX9_change 0 = .ok (.iload_n 2, 1) := by decide +kernel
theorem dX9_change_1 : decode cX9_change 1 = .ok (.ifCond .lt 15, 3) := by decide +kernel
theorem dX9_change_4 : decode cX9_change 4 = .ok (.iload_n 2, 1) := by decide +kernel
theorem dX9_change_5 : decode cX9_change 5 = .ok (.aload_n 0, 1) := by decide +kernel
theorem dX9_change_6 : decode cX9_change 6 = .ok (.getfield 10, 3) := by decide +kernel
theorem dX9_change_9 : decode cX9_change 9 = .ok (.iload_n 1, 1) := by decide +kernel
theorem dX9_change_10 : decode cX9_change 10 = .ok (.invokevirtual 47, 3) := by decide +kernel
theorem dX9_change_13 : decode cX9_change 13 = .ok (.if_icmp .lt 5, 3) := by decide +kernel
theorem dX9_change_16 : decode cX9_change 16 = .ok (.iconst (-1), 1) := by decide +kernel
theorem dX9_change_17 : decode cX9_change 17 = .ok (.ireturn, 1) := by decide +kernel
theorem dX9_change_18 : decode cX9_change 18 = .ok (.aload_n 0, 1) := by decide +kernel
theorem dX9_change_19 : decode cX9_change 19 = .ok (.getfield 21, 3) := by decide +kernel
theorem dX9_change_22 : decode cX9_change 22 = .ok (.invokevirtual 36, 3) := by decide +kernel
theorem dX9_change_25 : decode cX9_change 25 = .ok (.aload_n 0, 1) := by decide +kernel
theorem dX9_change_26 : decode cX9_change 26 = .ok (.getfield 10, 3) := by decide +kernel
theorem dX9_change_29 : decode cX9_change 29 = .ok (.iload_n 1, 1) := by decide +kernel
theorem dX9_change_30 : decode cX9_change 30 = .ok (.iload_n 2, 1) := by decide +kernel
theorem dX9_change_31 : decode cX9_change 31 = .ok (.invokevirtual 51, 3) := by decide +kernel
theorem dX9_change_34 : decode cX9_change 34 = .ok (.iload_n 3, 1) := by decide +kernel
theorem dX9_change_35 : decode cX9_change 35 = .ok (.iload 4, 2) := by decide +kernel
theorem dX9_change_37 : decode cX9_change 37 = .ok (.iload 5, 2) := by decide +kernel
theorem dX9_change_39 : decode cX9_change 39 = .ok (.iload 6, 2) := by decide +kernel
theorem dX9_change_41 : decode cX9_change 41 = .ok (.invokevirtual 55, 3) := by decide +kernel
theorem dX9_change_44 : decode cX9_change 44 = .ok (.iconst 0, 1) := by decide +kernel
theorem dX9_change_45 : decode cX9_change 45 = .ok (.ireturn, 1) := by decide +kernel
theorem dX9_prove_0 : decode cX9_prove 0 = .ok (.aload_n 0, 1) := by decide +kernel
theorem dX9_prove_1 : decode cX9_prove 1 = .ok (.getfield 21, 3) := by decide +kernel
theorem dX9_prove_4 : decode cX9_prove 4 = .ok (.invokevirtual 61, 3) := by decide +kernel
theorem dX9_prove_7 : decode cX9_prove 7 = .ok (.ireturn, 1) := by decide +kernel
theorem dX9_count_0 : decode cX9_count 0 = .ok (.iload_n 1, 1) := by decide +kernel
theorem dX9_count_1 : decode cX9_count 1 = .ok (.tableswitch 75 0 4 #[35, 43, 51, 59, 67], 35) := by decide +kernel
theorem dX9_count_36 : decode cX9_count 36 = .ok (.aload_n 0, 1) := by decide +kernel
theorem dX9_count_37 : decode cX9_count 37 = .ok (.getfield 21, 3) := by decide +kernel
theorem dX9_count_40 : decode cX9_count 40 = .ok (.getfield 65, 3) := by decide +kernel
theorem dX9_count_43 : decode cX9_count 43 = .ok (.ireturn, 1) := by decide +kernel
theorem dX9_count_44 : decode cX9_count 44 = .ok (.aload_n 0, 1) := by decide +kernel
theorem dX9_count_45 : decode cX9_count 45 = .ok (.getfield 21, 3) := by decide +kernel
theorem dX9_count_48 : decode cX9_count 48 = .ok (.getfield 69, 3) := by decide +kernel
theorem dX9_count_51 : decode cX9_count 51 = .ok (.ireturn, 1) := by decide +kernel
theorem dX9_count_52 : decode cX9_count 52 = .ok (.aload_n 0, 1) := by decide +kernel
theorem dX9_count_53 : decode cX9_count 53 = .ok (.getfield 21, 3) := by decide +kernel
theorem dX9_count_56 : decode cX9_count 56 = .ok (.getfield 72, 3) := by decide +kernel
theorem dX9_count_59 : decode cX9_count 59 = .ok (.ireturn, 1) := by decide +kernel
theorem dX9_count_60 : decode cX9_count 60 = .ok (.aload_n 0, 1) := by decide +kernel
theorem dX9_count_61 : decode cX9_count 61 = .ok (.getfield 10, 3) := by decide +kernel
theorem dX9_count_64 : decode cX9_count 64 = .ok (.getfield 75, 3) := by decide +kernel
theorem dX9_count_67 : decode cX9_count 67 = .ok (.ireturn, 1) := by decide +kernel
theorem dX9_count_68 : decode cX9_count 68 = .ok (.aload_n 0, 1) := by decide +kernel
theorem dX9_count_69 : decode cX9_count 69 = .ok (.getfield 10, 3) := by decide +kernel
theorem dX9_count_72 : decode cX9_count 72 = .ok (.getfield 78, 3) := by decide +kernel
theorem dX9_count_75 : decode cX9_count 75 = .ok (.ireturn, 1) := by decide +kernel
theorem dX9_count_76 : decode cX9_count 76 = .ok (.iconst (-1), 1) := by decide +kernel
theorem dX9_count_77 : decode cX9_count 77 = .ok (.ireturn, 1) := by decide +kernel
theorem dX9_steps_0 : decode cX9_steps 0 = .ok (.aload_n 0, 1) := by decide +kernel
theorem dX9_steps_1 : decode cX9_steps 1 = .ok (.getfield 21, 3) := by decide +kernel
theorem dX9_steps_4 : decode cX9_steps 4 = .ok (.iload_n 1, 1) := by decide +kernel
theorem dX9_steps_5 : decode cX9_steps 5 = .ok (.invokevirtual 81, 3) := by decide +kernel
theorem dX9_steps_8 : decode cX9_steps 8 = .ok (.ifCond .eq 17, 3) := by decide +kernel
theorem dX9_steps_11 : decode cX9_steps 11 = .ok (.aload_n 0, 1) := by decide +kernel
theorem dX9_steps_12 : decode cX9_steps 12 = .ok (.getfield 21, 3) := by decide +kernel
theorem dX9_steps_15 : decode cX9_steps 15 = .ok (.getfield 85, 3) := by decide +kernel
theorem dX9_steps_18 : decode cX9_steps 18 = .ok (.iload_n 1, 1) := by decide +kernel
theorem dX9_steps_19 : decode cX9_steps 19 = .ok (.invokevirtual 89, 3) := by decide +kernel
theorem dX9_steps_22 : decode cX9_steps 22 = .ok (.goto 4, 3) := by decide +kernel
theorem dX9_steps_25 : decode cX9_steps 25 = .ok (.iconst (-1), 1) := by decide +kernel
theorem dX9_steps_26 : decode cX9_steps 26 = .ok (.ireturn, 1) := by decide +kernel
theorem dX9_depth_0 : decode cX9_depth 0 = .ok (.aload_n 0, 1) := by decide +kernel
theorem dX9_depth_1 : decode cX9_depth 1 = .ok (.getfield 21, 3) := by decide +kernel
theorem dX9_depth_4 : decode cX9_depth 4 = .ok (.iload_n 1, 1) := by decide +kernel
theorem dX9_depth_5 : decode cX9_depth 5 = .ok (.invokevirtual 81, 3) := by decide +kernel
theorem dX9_depth_8 : decode cX9_depth 8 = .ok (.ifCond .eq 17, 3) := by decide +kernel
theorem dX9_depth_11 : decode cX9_depth 11 = .ok (.aload_n 0, 1) := by decide +kernel
theorem dX9_depth_12 : decode cX9_depth 12 = .ok (.getfield 21, 3) := by decide +kernel
theorem dX9_depth_15 : decode cX9_depth 15 = .ok (.getfield 94, 3) := by decide +kernel
theorem dX9_depth_18 : decode cX9_depth 18 = .ok (.iload_n 1, 1) := by decide +kernel
theorem dX9_depth_19 : decode cX9_depth 19 = .ok (.invokevirtual 98, 3) := by decide +kernel
theorem dX9_depth_22 : decode cX9_depth 22 = .ok (.goto 4, 3) := by decide +kernel
theorem dX9_depth_25 : decode cX9_depth 25 = .ok (.iconst (-1), 1) := by decide +kernel
theorem dX9_depth_26 : decode cX9_depth 26 = .ok (.ireturn, 1) := by decide +kernel
theorem dX9_walk_0 : decode cX9_walk 0 = .ok (.aload_n 0, 1) := by decide +kernel
theorem dX9_walk_1 : decode cX9_walk 1 = .ok (.getfield 21, 3) := by decide +kernel
theorem dX9_walk_4 : decode cX9_walk 4 = .ok (.aload_n 0, 1) := by decide +kernel
theorem dX9_walk_5 : decode cX9_walk 5 = .ok (.getfield 10, 3) := by decide +kernel
theorem dX9_walk_8 : decode cX9_walk 8 = .ok (.invokevirtual 103, 3) := by decide +kernel
theorem dX9_walk_11 : decode cX9_walk 11 = .ok (.invokevirtual 81, 3) := by decide +kernel
theorem dX9_walk_14 : decode cX9_walk 14 = .ok (.ifCond .eq 14, 3) := by decide +kernel
theorem dX9_walk_17 : decode cX9_walk 17 = .ok (.aload_n 0, 1) := by decide +kernel
theorem dX9_walk_18 : decode cX9_walk 18 = .ok (.getfield 28, 3) := by decide +kernel
theorem dX9_walk_21 : decode cX9_walk 21 = .ok (.lload_n 1, 1) := by decide +kernel
theorem dX9_walk_22 : decode cX9_walk 22 = .ok (.invokevirtual 106, 3) := by decide +kernel
theorem dX9_walk_25 : decode cX9_walk 25 = .ok (.goto 4, 3) := by decide +kernel
theorem dX9_walk_28 : decode cX9_walk 28 = .ok (.iconst (-1), 1) := by decide +kernel
theorem dX9_walk_29 : decode cX9_walk 29 = .ok (.ireturn, 1) := by decide +kernel
theorem dX10_init_0 : decode cX10_init 0 = .ok (.aload_n 0, 1) := by decide +kernel
theorem dX10_init_1 : decode cX10_init 1 = .ok (.invokespecial 1, 3) := by decide +kernel
theorem dX10_init_4 : decode cX10_init 4 = .ok (.aload_n 0, 1) := by decide +kernel
theorem dX10_init_5 : decode cX10_init 5 = .ok (.bipush 16, 2) := by decide +kernel
theorem dX10_init_7 : decode cX10_init 7 = .ok (.newarray .int, 2) := by decide +kernel
theorem dX10_init_9 : decode cX10_init 9 = .ok (.putfield 7, 3) := by decide +kernel
theorem dX10_init_12 : decode cX10_init 12 = .ok (.aload_n 0, 1) := by decide +kernel
theorem dX10_init_13 : decode cX10_init 13 = .ok (.bipush 16, 2) := by decide +kernel
theorem dX10_init_15 : decode cX10_init 15 = .ok (.newarray .int, 2) := by decide +kernel
theorem dX10_init_17 : decode cX10_init 17 = .ok (.putfield 13, 3) := by decide +kernel
theorem dX10_init_20 : decode cX10_init 20 = .ok (.aload_n 0, 1) := by decide +kernel
theorem dX10_init_21 : decode cX10_init 21 = .ok (.bipush 17, 2) := by decide +kernel
theorem dX10_init_23 : decode cX10_init 23 = .ok (.newarray .int, 2) := by decide +kernel
theorem dX10_init_25 : decode cX10_init 25 = .ok (.putfield 16, 3) := by decide +kernel
theorem dX10_init_28 : decode cX10_init 28 = .ok (.aload_n 0, 1) := by decide +kernel
theorem dX10_init_29 : decode cX10_init 29 = .ok (.sipush 256, 3) := by decide +kernel
theorem dX10_init_32 : decode cX10_init 32 = .ok (.newarray .int, 2) := by decide +kernel
theorem dX10_init_34 : decode cX10_init 34 = .ok (.putfield 19, 3) := by decide +kernel
theorem dX10_init_37 : decode cX10_init 37 = .ok (.aload_n 0, 1) := by decide +kernel
theorem dX10_init_38 : decode cX10_init 38 = .ok (.sipush 256, 3) := by decide +kernel
theorem dX10_init_41 : decode cX10_init 41 = .ok (.newarray .int, 2) := by decide +kernel
theorem dX10_init_43 : decode cX10_init 43 = .ok (.putfield 22, 3) := by decide +kernel
theorem dX10_init_46 : decode cX10_init 46 = .ok (.aload_n 0, 1) := by decide +kernel
theorem dX10_init_47 : decode cX10_init 47 = .ok (.sipush 256, 3) := by decide +kernel
theorem dX10_init_50 : decode cX10_init 50 = .ok (.newarray .int, 2) := by decide +kernel
theorem dX10_init_52 : decode cX10_init 52 = .ok (.putfield 25, 3) := by decide +kernel
theorem dX10_init_55 : decode cX10_init 55 = .ok (.aload_n 0, 1) := by decide +kernel
theorem dX10_init_56 : decode cX10_init 56 = .ok (.sipush 256, 3) := by decide +kernel
theorem dX10_init_59 : decode cX10_init 59 = .ok (.newarray .int, 2) := by decide +kernel
theorem dX10_init_61 : decode cX10_init 61 = .ok (.putfield 28, 3) := by decide +kernel
theorem dX10_init_64 : decode cX10_init 64 = .ok (.aload_n 0, 1) := by decide +kernel
theorem dX10_init_65 : decode cX10_init 65 = .ok (.sipush 257, 3) := by decide +kernel
theorem dX10_init_68 : decode cX10_init 68 = .ok (.newarray .int, 2) := by decide +kernel
theorem dX10_init_70 : decode cX10_init 70 = .ok (.putfield 31, 3) := by decide +kernel
theorem dX10_init_73 : decode cX10_init 73 = .ok (.aload_n 0, 1) := by decide +kernel
theorem dX10_init_74 : decode cX10_init 74 = .ok (.sipush 257, 3) := by decide +kernel
theorem dX10_init_77 : decode cX10_init 77 = .ok (.newarray .long, 2) := by decide +kernel
theorem dX10_init_79 : decode cX10_init 79 = .ok (.putfield 34, 3) := by decide +kernel
theorem dX10_init_82 : decode cX10_init 82 = .ok (.aload_n 0, 1) := by decide +kernel
theorem dX10_init_83 : decode cX10_init 83 = .ok (.sipush 256, 3) := by decide +kernel
theorem dX10_init_86 : decode cX10_init 86 = .ok (.newarray .long, 2) := by decide +kernel
theorem dX10_init_88 : decode cX10_init 88 = .ok (.putfield 38, 3) := by decide +kernel
theorem dX10_init_91 : decode cX10_init 91 = .ok (.aload_n 0, 1) := by decide +kernel
theorem dX10_init_92 : decode cX10_init 92 = .ok (.bipush 16, 2) := by decide +kernel
theorem dX10_init_94 : decode cX10_init 94 = .ok (.newarray .long, 2) := by decide +kernel
theorem dX10_init_96 : decode cX10_init 96 = .ok (.putfield 41, 3) := by decide +kernel
theorem dX10_init_99 : decode cX10_init 99 = .ok (.aload_n 0, 1) := by decide +kernel
theorem dX10_init_100 : decode cX10_init 100 = .ok (.bipush 16, 2) := by decide +kernel
theorem dX10_init_102 : decode cX10_init 102 = .ok (.newarray .int, 2) := by decide +kernel
theorem dX10_init_104 : decode cX10_init 104 = .ok (.putfield 44, 3) := by decide +kernel
theorem dX10_init_107 : decode cX10_init 107 = .ok (.aload_n 0, 1) := by decide +kernel
theorem dX10_init_108 : decode cX10_init 108 = .ok (.iconst (-1), 1) := by decide +kernel
theorem dX10_init_109 : decode cX10_init 109 = .ok (.putfield 47, 3) := by decide +kernel
theorem dX10_init_112 : decode cX10_init 112 = .ok (.aload_n 0, 1) := by decide +kernel
theorem dX10_init_113 : decode cX10_init 113 = .ok (.iconst (-1), 1) := by decide +kernel
theorem dX10_init_114 : decode cX10_init 114 = .ok (.putfield 51, 3) := by decide +kernel
theorem dX10_init_117 : decode cX10_init 117 = .ok (.aload_n 0, 1) := by decide +kernel
theorem dX10_init_118 : decode cX10_init 118 = .ok (.sipush 4096, 3) := by decide +kernel
theorem dX10_init_121 : decode cX10_init 121 = .ok (.newarray .int, 2) := by decide +kernel
theorem dX10_init_123 : decode cX10_init 123 = .ok (.putfield 54, 3) := by decide +kernel
theorem dX10_init_126 : decode cX10_init 126 = .ok (.aload_n 0, 1) := by decide +kernel
theorem dX10_init_127 : decode cX10_init 127 = .ok (.bipush 20, 2) := by decide +kernel
theorem dX10_init_129 : decode cX10_init 129 = .ok (.newarray .int, 2) := by decide +kernel
theorem dX10_init_131 : decode cX10_init 131 = .ok (.putfield 57, 3) := by decide +kernel
theorem dX10_init_134 : decode cX10_init 134 = .ok (.aload_n 0, 1) := by decide +kernel
theorem dX10_init_135 : decode cX10_init 135 = .ok (.bipush 20, 2) := by decide +kernel
theorem dX10_init_137 : decode cX10_init 137 = .ok (.newarray .int, 2) := by decide +kernel
theorem dX10_init_139 : decode cX10_init 139 = .ok (.putfield 60, 3) := by decide +kernel
theorem dX10_init_142 : decode cX10_init 142 = .ok (.aload_n 0, 1) := by decide +kernel
theorem dX10_init_143 : decode cX10_init 143 = .ok (.bipush 20, 2) := by decide +kernel
theorem dX10_init_145 : decode cX10_init 145 = .ok (.newarray .int, 2) := by decide +kernel
theorem dX10_init_147 : decode cX10_init 147 = .ok (.putfield 63, 3) := by decide +kernel
theorem dX10_init_150 : decode cX10_init 150 = .ok (.aload_n 0, 1) := by decide +kernel
theorem dX10_init_151 : decode cX10_init 151 = .ok (.bipush 64, 2) := by decide +kernel
theorem dX10_init_153 : decode cX10_init 153 = .ok (.invokevirtual 66, 3) := by decide +kernel
theorem dX10_init_156 : decode cX10_init 156 = .ok (.pop, 1) := by decide +kernel
theorem dX10_init_157 : decode cX10_init 157 = .ok (.return_, 1) := by decide +kernel
theorem dX10_forget_0 : decode cX10_forget 0 = .ok (.aload_n 0, 1) := by decide +kernel
theorem dX10_forget_1 : decode cX10_forget 1 = .ok (.iconst 0, 1) := by decide +kernel
theorem dX10_forget_2 : decode cX10_forget 2 = .ok (.putfield 70, 3) := by decide +kernel
theorem dX10_forget_5 : decode cX10_forget 5 = .ok (.aload_n 0, 1) := by decide +kernel
theorem dX10_forget_6 : decode cX10_forget 6 = .ok (.iconst 0, 1) := by decide +kernel
theorem dX10_forget_7 : decode cX10_forget 7 = .ok (.putfield 74, 3) := by decide +kernel
theorem dX10_forget_10 : decode cX10_forget 10 = .ok (.aload_n 0, 1) := by decide +kernel
theorem dX10_forget_11 : decode cX10_forget 11 = .ok (.iconst (-1), 1) := by decide +kernel
theorem dX10_forget_12 : decode cX10_forget 12 = .ok (.putfield 47, 3) := by decide +kernel
theorem dX10_forget_15 : decode cX10_forget 15 = .ok (.aload_n 0, 1) := by decide +kernel
theorem dX10_forget_16 : decode cX10_forget 16 = .ok (.iconst (-1), 1) := by decide +kernel
theorem dX10_forget_17 : decode cX10_forget 17 = .ok (.putfield 51, 3) := by decide +kernel
theorem dX10_forget_20 : decode cX10_forget 20 = .ok (.return_, 1) := by decide +kernel
theorem dX10_begin_0 : decode cX10_begin 0 = .ok (.iload_n 1, 1) := by decide +kernel
theorem dX10_begin_1 : decode cX10_begin 1 = .ok (.iconst 1, 1) := by decide +kernel
theorem dX10_begin_2 : decode cX10_begin 2 = .ok (.if_icmp .lt 10, 3) := by decide +kernel
theorem dX10_begin_5 : decode cX10_begin 5 = .ok (.iload_n 1, 1) := by decide +kernel
theorem dX10_begin_6 : decode cX10_begin 6 = .ok (.sipush 4096, 3) := by decide +kernel
theorem dX10_begin_9 : decode cX10_begin 9 = .ok (.if_icmp .le 5, 3) := by decide +kernel
theorem dX10_begin_12 : decode cX10_begin 12 = .ok (.iconst (-1), 1) := by decide +kernel
theorem dX10_begin_13 : decode cX10_begin 13 = .ok (.ireturn, 1) := by decide +kernel
theorem dX10_begin_14 : decode cX10_begin 14 = .ok (.aload_n 0, 1) := by decide +kernel
theorem dX10_begin_15 : decode cX10_begin 15 = .ok (.invokevirtual 77, 3) := by decide +kernel
theorem dX10_begin_18 : decode cX10_begin 18 = .ok (.aload_n 0, 1) := by decide +kernel
theorem dX10_begin_19 : decode cX10_begin 19 = .ok (.iload_n 1, 1) := by decide +kernel
theorem dX10_begin_20 : decode cX10_begin 20 = .ok (.putfield 80, 3) := by decide +kernel
theorem dX10_begin_23 : decode cX10_begin 23 = .ok (.aload_n 0, 1) := by decide +kernel
theorem dX10_begin_24 : decode cX10_begin 24 = .ok (.iconst 0, 1) := by decide +kernel
theorem dX10_begin_25 : decode cX10_begin 25 = .ok (.putfield 83, 3) := by decide +kernel
theorem dX10_begin_28 : decode cX10_begin 28 = .ok (.aload_n 0, 1) := by decide +kernel
theorem dX10_begin_29 : decode cX10_begin 29 = .ok (.iconst 0, 1) := by decide +kernel
theorem dX10_begin_30 : decode cX10_begin 30 = .ok (.putfield 86, 3) := by decide +kernel
theorem dX10_begin_33 : decode cX10_begin 33 = .ok (.iload_n 1, 1) := by decide +kernel
theorem dX10_begin_34 : decode cX10_begin 34 = .ok (.ireturn, 1) := by decide +kernel
theorem dX10_unit_0 : decode cX10_unit 0 = .ok (.aload_n 0, 1) := by decide +kernel
theorem dX10_unit_1 : decode cX10_unit 1 = .ok (.getfield 83, 3) := by decide +kernel
theorem dX10_unit_4 : decode cX10_unit 4 = .ok (.bipush 16, 2) := by decide +kernel
theorem dX10_unit_6 : decode cX10_unit 6 = .ok (.if_icmp .eq 26, 3) := by decide +kernel
theorem dX10_unit_9 : decode cX10_unit 9 = .ok (.iload_n 1, 1) := by decide +kernel
theorem dX10_unit_10 : decode cX10_unit 10 = .ok (.ifCond .lt 22, 3) := by decide +kernel
theorem dX10_unit_13 : decode cX10_unit 13 = .ok (.iload_n 1, 1) := by decide +kernel
theorem dX10_unit_14 : decode cX10_unit 14 = .ok (.sipush 4096, 3) := by decide +kernel
theorem dX10_unit_17 : decode cX10_unit 17 = .ok (.if_icmp .gt 15, 3) := by decide +kernel
theorem dX10_unit_20 : decode cX10_unit 20 = .ok (.iload_n 2, 1) := by decide +kernel
theorem dX10_unit_21 : decode cX10_unit 21 = .ok (.iconst (-1), 1) := by decide +kernel
theorem dX10_unit_22 : decode cX10_unit 22 = .ok (.if_icmp .lt 10, 3) := by decide +kernel
theorem dX10_unit_25 : decode cX10_unit 25 = .ok (.iload_n 2, 1) := by decide +kernel
theorem dX10_unit_26 : decode cX10_unit 26 = .ok (.sipush 4095, 3) := by decide +kernel
theorem dX10_unit_29 : decode cX10_unit 29 = .ok (.if_icmp .le 5, 3) := by decide +kernel
theorem dX10_unit_32 : decode cX10_unit 32 = .ok (.iconst (-1), 1) := by decide +kernel
theorem dX10_unit_33 : decode cX10_unit 33 = .ok (.ireturn, 1) := by decide +kernel
theorem dX10_unit_34 : decode cX10_unit 34 = .ok (.aload_n 0, 1) := by decide +kernel
theorem dX10_unit_35 : decode cX10_unit 35 = .ok (.invokevirtual 77, 3) := by decide +kernel
theorem dX10_unit_38 : decode cX10_unit 38 = .ok (.aload_n 0, 1) := by decide +kernel
theorem dX10_unit_39 : decode cX10_unit 39 = .ok (.getfield 7, 3) := by decide +kernel
theorem dX10_unit_42 : decode cX10_unit 42 = .ok (.aload_n 0, 1) := by decide +kernel
theorem dX10_unit_43 : decode cX10_unit 43 = .ok (.getfield 83, 3) := by decide +kernel
theorem dX10_unit_46 : decode cX10_unit 46 = .ok (.iload_n 1, 1) := by decide +kernel
theorem dX10_unit_47 : decode cX10_unit 47 = .ok (.iastore, 1) := by decide +kernel
theorem dX10_unit_48 : decode cX10_unit 48 = .ok (.aload_n 0, 1) := by decide +kernel
theorem dX10_unit_49 : decode cX10_unit 49 = .ok (.getfield 13, 3) := by decide +kernel
theorem dX10_unit_52 : decode cX10_unit 52 = .ok (.aload_n 0, 1) := by decide +kernel
theorem dX10_unit_53 : decode cX10_unit 53 = .ok (.getfield 83, 3) := by decide +kernel
theorem dX10_unit_56 : decode cX10_unit 56 = .ok (.iload_n 2, 1) := by decide +kernel
theorem dX10_unit_57 : decode cX10_unit 57 = .ok (.iastore, 1) := by decide +kernel
theorem dX10_unit_58 : decode cX10_unit 58 = .ok (.aload_n 0, 1) := by decide +kernel
theorem dX10_unit_59 : decode cX10_unit 59 = .ok (.getfield 16, 3) := by decide +kernel
theorem dX10_unit_62 : decode cX10_unit 62 = .ok (.aload_n 0, 1) := by decide +kernel
theorem dX10_unit_63 : decode cX10_unit 63 = .ok (.getfield 83, 3) := by decide +kernel
theorem dX10_unit_66 : decode cX10_unit 66 = .ok (.aload_n 0, 1) := by decide +kernel
theorem dX10_unit_67 : decode cX10_unit 67 = .ok (.getfield 86, 3) := by decide +kernel
theorem dX10_unit_70 : decode cX10_unit 70 = .ok (.iastore, 1) := by decide +kernel
theorem dX10_unit_71 : decode cX10_unit 71 = .ok (.aload_n 0, 1) := by decide +kernel
theorem dX10_unit_72 : decode cX10_unit 72 = .ok (.dup, 1) := by decide +kernel
theorem dX10_unit_73 : decode cX10_unit 73 = .ok (.getfield 83, 3) := by decide +kernel
theorem dX10_unit_76 : decode cX10_unit 76 = .ok (.iconst 1, 1) := by decide +kernel
theorem dX10_unit_77 : decode cX10_unit 77 = .ok (.iadd, 1) := by decide +kernel
theorem dX10_unit_78 : decode cX10_unit 78 = .ok (.putfield 83, 3) := by decide +kernel
theorem dX10_unit_81 : decode cX10_unit 81 = .ok (.aload_n 0, 1) := by decide +kernel
theorem dX10_unit_82 : decode cX10_unit 82 = .ok (.getfield 16, 3) := by decide +kernel
theorem dX10_unit_85 : decode cX10_unit 85 = .ok (.aload_n 0, 1) := by decide +kernel
theorem dX10_unit_86 : decode cX10_unit 86 = .ok (.getfield 83, 3) := by decide +kernel
theorem dX10_unit_89 : decode cX10_unit 89 = .ok (.aload_n 0, 1) := by decide +kernel
theorem dX10_unit_90 : decode cX10_unit 90 = .ok (.getfield 86, 3) := by decide +kernel
theorem dX10_unit_93 : decode cX10_unit 93 = .ok (.iastore, 1) := by decide +kernel
theorem dX10_unit_94 : decode cX10_unit 94 = .ok (.aload_n 0, 1) := by decide +kernel
theorem dX10_unit_95 : decode cX10_unit 95 = .ok (.getfield 83, 3) := by decide +kernel
theorem dX10_unit_98 : decode cX10_unit 98 = .ok (.iconst 1, 1) := by decide +kernel
theorem dX10_unit_99 : decode cX10_unit 99 = .ok (.isub, 1) := by decide +kernel
theorem dX10_unit_100 : decode cX10_unit 100 = .ok (.ireturn, 1) := by decide +kernel
theorem dX10_lay_0 : decode cX10_lay 0 = .ok (.aload_n 0, 1) := by decide +kernel
theorem dX10_lay_1 : decode cX10_lay 1 = .ok (.invokevirtual 77, 3) := by decide +kernel
theorem dX10_lay_4 : decode cX10_lay 4 = .ok (.aload_n 0, 1) := by decide +kernel
theorem dX10_lay_5 : decode cX10_lay 5 = .ok (.getfield 19, 3) := by decide +kernel
theorem dX10_lay_8 : decode cX10_lay 8 = .ok (.iload_n 1, 1) := by decide +kernel
theorem dX10_lay_9 : decode cX10_lay 9 = .ok (.iload_n 2, 1) := by decide +kernel
theorem dX10_lay_10 : decode cX10_lay 10 = .ok (.iastore, 1) := by decide +kernel
theorem dX10_lay_11 : decode cX10_lay 11 = .ok (.aload_n 0, 1) := by decide +kernel
theorem dX10_lay_12 : decode cX10_lay 12 = .ok (.getfield 22, 3) := by decide +kernel
theorem dX10_lay_15 : decode cX10_lay 15 = .ok (.iload_n 1, 1) := by decide +kernel
theorem dX10_lay_16 : decode cX10_lay 16 = .ok (.iload_n 3, 1) := by decide +kernel
theorem dX10_lay_17 : decode cX10_lay 17 = .ok (.iastore, 1) := by decide +kernel
theorem dX10_lay_18 : decode cX10_lay 18 = .ok (.aload_n 0, 1) := by decide +kernel
theorem dX10_lay_19 : decode cX10_lay 19 = .ok (.getfield 25, 3) := by decide +kernel
theorem dX10_lay_22 : decode cX10_lay 22 = .ok (.iload_n 1, 1) := by decide +kernel
theorem dX10_lay_23 : decode cX10_lay 23 = .ok (.iload 4, 2) := by decide +kernel
theorem dX10_lay_25 : decode cX10_lay 25 = .ok (.iastore, 1) := by decide +kernel
theorem dX10_lay_26 : decode cX10_lay 26 = .ok (.aload_n 0, 1) := by decide +kernel
theorem dX10_lay_27 : decode cX10_lay 27 = .ok (.getfield 28, 3) := by decide +kernel
theorem dX10_lay_30 : decode cX10_lay 30 = .ok (.iload_n 1, 1) := by decide +kernel
theorem dX10_lay_31 : decode cX10_lay 31 = .ok (.iload 5, 2) := by decide +kernel
theorem dX10_lay_33 : decode cX10_lay 33 = .ok (.iastore, 1) := by decide +kernel
