theorem dX0_init_0 : decode cX0_init 0 = .ok (.aload_n 0, 1) := by decide +kernel
theorem dX0_init_1 : decode cX0_init 1 = .ok (.invokespecial 3, 3) := by decide +kernel
theorem dX0_init_4 : decode cX0_init 4 = .ok (.aload_n 0, 1) := by decide +kernel
theorem dX0_init_5 : decode cX0_init 5 = .ok (.sipush 256, 3) := by decide +kernel
theorem dX0_init_8 : decode cX0_init 8 = .ok (.anewarray 9, 3) := by decide +kernel
theorem dX0_init_11 : decode cX0_init 11 = .ok (.putfield 11, 3) := by decide +kernel
theorem dX0_init_14 : decode cX0_init 14 = .ok (.aload_n 0, 1) := by decide +kernel
theorem dX0_init_15 : decode cX0_init 15 = .ok (.new 9, 3) := by decide +kernel
theorem dX0_init_18 : decode cX0_init 18 = .ok (.dup, 1) := by decide +kernel
theorem dX0_init_19 : decode cX0_init 19 = .ok (.invokespecial 17, 3) := by decide +kernel
theorem dX0_init_22 : decode cX0_init 22 = .ok (.putfield 18, 3) := by decide +kernel
theorem dX0_init_25 : decode cX0_init 25 = .ok (.aload_n 0, 1) := by decide +kernel
theorem dX0_init_26 : decode cX0_init 26 = .ok (.bipush 16, 2) := by decide +kernel
theorem dX0_init_28 : decode cX0_init 28 = .ok (.newarray .int, 2) := by decide +kernel
theorem dX0_init_30 : decode cX0_init 30 = .ok (.putfield 22, 3) := by decide +kernel
theorem dX0_init_33 : decode cX0_init 33 = .ok (.aload_n 0, 1) := by decide +kernel
theorem dX0_init_34 : decode cX0_init 34 = .ok (.bipush 16, 2) := by decide +kernel
theorem dX0_init_36 : decode cX0_init 36 = .ok (.newarray .int, 2) := by decide +kernel
theorem dX0_init_38 : decode cX0_init 38 = .ok (.putfield 26, 3) := by decide +kernel
theorem dX0_init_41 : decode cX0_init 41 = .ok (.aload_n 0, 1) := by decide +kernel
theorem dX0_init_42 : decode cX0_init 42 = .ok (.bipush 16, 2) := by decide +kernel
theorem dX0_init_44 : decode cX0_init 44 = .ok (.newarray .int, 2) := by decide +kernel
theorem dX0_init_46 : decode cX0_init 46 = .ok (.putfield 29, 3) := by decide +kernel
theorem dX0_init_49 : decode cX0_init 49 = .ok (.aload_n 0, 1) := by decide +kernel
theorem dX0_init_50 : decode cX0_init 50 = .ok (.bipush 16, 2) := by decide +kernel
theorem dX0_init_52 : decode cX0_init 52 = .ok (.newarray .int, 2) := by decide +kernel
theorem dX0_init_54 : decode cX0_init 54 = .ok (.putfield 32, 3) := by decide +kernel
theorem dX0_init_57 : decode cX0_init 57 = .ok (.aload_n 0, 1) := by decide +kernel
theorem dX0_init_58 : decode cX0_init 58 = .ok (.bipush 64, 2) := by decide +kernel
theorem dX0_init_60 : decode cX0_init 60 = .ok (.putfield 35, 3) := by decide +kernel
theorem dX0_init_63 : decode cX0_init 63 = .ok (.iconst 0, 1) := by decide +kernel
theorem dX0_init_64 : decode cX0_init 64 = .ok (.istore_n 1, 1) := by decide +kernel
theorem dX0_init_65 : decode cX0_init 65 = .ok (.iload_n 1, 1) := by decide +kernel
theorem dX0_init_66 : decode cX0_init 66 = .ok (.sipush 256, 3) := by decide +kernel
theorem dX0_init_69 : decode cX0_init 69 = .ok (.if_icmp .ge 22, 3) := by decide +kernel
theorem dX0_init_72 : decode cX0_init 72 = .ok (.aload_n 0, 1) := by decide +kernel
theorem dX0_init_73 : decode cX0_init 73 = .ok (.getfield 11, 3) := by decide +kernel
theorem dX0_init_76 : decode cX0_init 76 = .ok (.iload_n 1, 1) := by decide +kernel
theorem dX0_init_77 : decode cX0_init 77 = .ok (.new 9, 3) := by decide +kernel
theorem dX0_init_80 : decode cX0_init 80 = .ok (.dup, 1) := by decide +kernel
theorem dX0_init_81 : decode cX0_init 81 = .ok (.invokespecial 17, 3) := by decide +kernel
theorem dX0_init_84 : decode cX0_init 84 = .ok (.aastore, 1) := by decide +kernel
theorem dX0_init_85 : decode cX0_init 85 = .ok (.iinc 1 1, 3) := by decide +kernel
theorem dX0_init_88 : decode cX0_init 88 = .ok (.goto (-23), 3) := by decide +kernel
theorem dX0_init_91 : decode cX0_init 91 = .ok (.return_, 1) := by decide +kernel
theorem dX0_clear_0 : decode cX0_clear 0 = .ok (.aload_n 0, 1) := by decide +kernel
theorem dX0_clear_1 : decode cX0_clear 1 = .ok (.iload_n 1, 1) := by decide +kernel
theorem dX0_clear_2 : decode cX0_clear 2 = .ok (.putfield 35, 3) := by decide +kernel
theorem dX0_clear_5 : decode cX0_clear 5 = .ok (.aload_n 0, 1) := by decide +kernel
theorem dX0_clear_6 : decode cX0_clear 6 = .ok (.iconst 0, 1) := by decide +kernel
theorem dX0_clear_7 : decode cX0_clear 7 = .ok (.putfield 39, 3) := by decide +kernel
theorem dX0_clear_10 : decode cX0_clear 10 = .ok (.aload_n 0, 1) := by decide +kernel
theorem dX0_clear_11 : decode cX0_clear 11 = .ok (.iconst 0, 1) := by decide +kernel
theorem dX0_clear_12 : decode cX0_clear 12 = .ok (.putfield 42, 3) := by decide +kernel
theorem dX0_clear_15 : decode cX0_clear 15 = .ok (.return_, 1) := by decide +kernel
theorem dX0_newUnit_0 : decode cX0_newUnit 0 = .ok (.aload_n 0, 1) := by decide +kernel
theorem dX0_newUnit_1 : decode cX0_newUnit 1 = .ok (.getfield 39, 3) := by decide +kernel
theorem dX0_newUnit_4 : decode cX0_newUnit 4 = .ok (.bipush 16, 2) := by decide +kernel
theorem dX0_newUnit_6 : decode cX0_newUnit 6 = .ok (.if_icmp .lt 5, 3) := by decide +kernel
theorem dX0_newUnit_9 : decode cX0_newUnit 9 = .ok (.iconst (-1), 1) := by decide +kernel
theorem dX0_newUnit_10 : decode cX0_newUnit 10 = .ok (.ireturn, 1) := by decide +kernel
theorem dX0_newUnit_11 : decode cX0_newUnit 11 = .ok (.aload_n 0, 1) := by decide +kernel
theorem dX0_newUnit_12 : decode cX0_newUnit 12 = .ok (.getfield 22, 3) := by decide +kernel
theorem dX0_newUnit_15 : decode cX0_newUnit 15 = .ok (.aload_n 0, 1) := by decide +kernel
theorem dX0_newUnit_16 : decode cX0_newUnit 16 = .ok (.getfield 39, 3) := by decide +kernel
theorem dX0_newUnit_19 : decode cX0_newUnit 19 = .ok (.aload_n 0, 1) := by decide +kernel
theorem dX0_newUnit_20 : decode cX0_newUnit 20 = .ok (.getfield 42, 3) := by decide +kernel
theorem dX0_newUnit_23 : decode cX0_newUnit 23 = .ok (.iastore, 1) := by decide +kernel
theorem dX0_newUnit_24 : decode cX0_newUnit 24 = .ok (.aload_n 0, 1) := by decide +kernel
theorem dX0_newUnit_25 : decode cX0_newUnit 25 = .ok (.getfield 26, 3) := by decide +kernel
theorem dX0_newUnit_28 : decode cX0_newUnit 28 = .ok (.aload_n 0, 1) := by decide +kernel
theorem dX0_newUnit_29 : decode cX0_newUnit 29 = .ok (.getfield 39, 3) := by decide +kernel
theorem dX0_newUnit_32 : decode cX0_newUnit 32 = .ok (.iconst 0, 1) := by decide +kernel
theorem dX0_newUnit_33 : decode cX0_newUnit 33 = .ok (.iastore, 1) := by decide +kernel
theorem dX0_newUnit_34 : decode cX0_newUnit 34 = .ok (.aload_n 0, 1) := by decide +kernel
theorem dX0_newUnit_35 : decode cX0_newUnit 35 = .ok (.getfield 29, 3) := by decide +kernel
theorem dX0_newUnit_38 : decode cX0_newUnit 38 = .ok (.aload_n 0, 1) := by decide +kernel
theorem dX0_newUnit_39 : decode cX0_newUnit 39 = .ok (.getfield 39, 3) := by decide +kernel
theorem dX0_newUnit_42 : decode cX0_newUnit 42 = .ok (.iload_n 1, 1) := by decide +kernel
theorem dX0_newUnit_43 : decode cX0_newUnit 43 = .ok (.iastore, 1) := by decide +kernel
theorem dX0_newUnit_44 : decode cX0_newUnit 44 = .ok (.aload_n 0, 1) := by decide +kernel
theorem dX0_newUnit_45 : decode cX0_newUnit 45 = .ok (.getfield 32, 3) := by decide +kernel
theorem dX0_newUnit_48 : decode cX0_newUnit 48 = .ok (.aload_n 0, 1) := by decide +kernel
theorem dX0_newUnit_49 : decode cX0_newUnit 49 = .ok (.getfield 39, 3) := by decide +kernel
theorem dX0_newUnit_52 : decode cX0_newUnit 52 = .ok (.iload_n 2, 1) := by decide +kernel
theorem dX0_newUnit_53 : decode cX0_newUnit 53 = .ok (.iastore, 1) := by decide +kernel
theorem dX0_newUnit_54 : decode cX0_newUnit 54 = .ok (.aload_n 0, 1) := by decide +kernel
theorem dX0_newUnit_55 : decode cX0_newUnit 55 = .ok (.dup, 1) := by decide +kernel
theorem dX0_newUnit_56 : decode cX0_newUnit 56 = .ok (.getfield 39, 3) := by decide +kernel
theorem dX0_newUnit_59 : decode cX0_newUnit 59 = .ok (.iconst 1, 1) := by decide +kernel
theorem dX0_newUnit_60 : decode cX0_newUnit 60 = .ok (.iadd, 1) := by decide +kernel
theorem dX0_newUnit_61 : decode cX0_newUnit 61 = .ok (.putfield 39, 3) := by decide +kernel
theorem dX0_newUnit_64 : decode cX0_newUnit 64 = .ok (.aload_n 0, 1) := by decide +kernel
theorem dX0_newUnit_65 : decode cX0_newUnit 65 = .ok (.getfield 39, 3) := by decide +kernel
theorem dX0_newUnit_68 : decode cX0_newUnit 68 = .ok (.iconst 1, 1) := by decide +kernel
theorem dX0_newUnit_69 : decode cX0_newUnit 69 = .ok (.isub, 1) := by decide +kernel
theorem dX0_newUnit_70 : decode cX0_newUnit 70 = .ok (.ireturn, 1) := by decide +kernel
theorem dX0_newInstruction_0 : decode cX0_newInstruction 0 = .ok (.aload_n 0, 1) := by decide +kernel
theorem dX0_newInstruction_1 : decode cX0_newInstruction 1 = .ok (.getfield 39, 3) := by decide +kernel
theorem dX0_newInstruction_4 : decode cX0_newInstruction 4 = .ok (.iconst 1, 1) := by decide +kernel
theorem dX0_newInstruction_5 : decode cX0_newInstruction 5 = .ok (.isub, 1) := by decide +kernel
theorem dX0_newInstruction_6 : decode cX0_newInstruction 6 = .ok (.istore 5, 2) := by decide +kernel
theorem dX0_newInstruction_8 : decode cX0_newInstruction 8 = .ok (.iload 5, 2) := by decide +kernel
theorem dX0_newInstruction_10 : decode cX0_newInstruction 10 = .ok (.ifCond .lt 13, 3) := by decide +kernel
theorem dX0_newInstruction_13 : decode cX0_newInstruction 13 = .ok (.aload_n 0, 1) := by decide +kernel
theorem dX0_newInstruction_14 : decode cX0_newInstruction 14 = .ok (.getfield 42, 3) := by decide +kernel
theorem dX0_newInstruction_17 : decode cX0_newInstruction 17 = .ok (.sipush 256, 3) := by decide +kernel
theorem dX0_newInstruction_20 : decode cX0_newInstruction 20 = .ok (.if_icmp .lt 5, 3) := by decide +kernel
theorem dX0_newInstruction_23 : decode cX0_newInstruction 23 = .ok (.iconst (-1), 1) := by decide +kernel
theorem dX0_newInstruction_24 : decode cX0_newInstruction 24 = .ok (.ireturn, 1) := by decide +kernel
theorem dX0_newInstruction_25 : decode cX0_newInstruction 25 = .ok (.aload_n 0, 1) := by decide +kernel
theorem dX0_newInstruction_26 : decode cX0_newInstruction 26 = .ok (.getfield 11, 3) := by decide +kernel
theorem dX0_newInstruction_29 : decode cX0_newInstruction 29 = .ok (.aload_n 0, 1) := by decide +kernel
theorem dX0_newInstruction_30 : decode cX0_newInstruction 30 = .ok (.getfield 42, 3) := by decide +kernel
theorem dX0_newInstruction_33 : decode cX0_newInstruction 33 = .ok (.aaload, 1) := by decide +kernel
theorem dX0_newInstruction_34 : decode cX0_newInstruction 34 = .ok (.iload_n 1, 1) := by decide +kernel
theorem dX0_newInstruction_35 : decode cX0_newInstruction 35 = .ok (.iload_n 2, 1) := by decide +kernel
theorem dX0_newInstruction_36 : decode cX0_newInstruction 36 = .ok (.iload_n 3, 1) := by decide +kernel
theorem dX0_newInstruction_37 : decode cX0_newInstruction 37 = .ok (.iload 4, 2) := by decide +kernel
theorem dX0_newInstruction_39 : decode cX0_newInstruction 39 = .ok (.invokevirtual 45, 3) := by decide +kernel
theorem dX0_newInstruction_42 : decode cX0_newInstruction 42 = .ok (.aload_n 0, 1) := by decide +kernel
theorem dX0_newInstruction_43 : decode cX0_newInstruction 43 = .ok (.dup, 1) := by decide +kernel
theorem dX0_newInstruction_44 : decode cX0_newInstruction 44 = .ok (.getfield 42, 3) := by decide +kernel
theorem dX0_newInstruction_47 : decode cX0_newInstruction 47 = .ok (.iconst 1, 1) := by decide +kernel
theorem dX0_newInstruction_48 : decode cX0_newInstruction 48 = .ok (.iadd, 1) := by decide +kernel
theorem dX0_newInstruction_49 : decode cX0_newInstruction 49 = .ok (.putfield 42, 3) := by decide +kernel
theorem dX0_newInstruction_52 : decode cX0_newInstruction 52 = .ok (.aload_n 0, 1) := by decide +kernel
theorem dX0_newInstruction_53 : decode cX0_newInstruction 53 = .ok (.getfield 26, 3) := by decide +kernel
theorem dX0_newInstruction_56 : decode cX0_newInstruction 56 = .ok (.iload 5, 2) := by decide +kernel
theorem dX0_newInstruction_58 : decode cX0_newInstruction 58 = .ok (.dup2, 1) := by decide +kernel
theorem dX0_newInstruction_59 : decode cX0_newInstruction 59 = .ok (.iaload, 1) := by decide +kernel
theorem dX0_newInstruction_60 : decode cX0_newInstruction 60 = .ok (.iconst 1, 1) := by decide +kernel
theorem dX0_newInstruction_61 : decode cX0_newInstruction 61 = .ok (.iadd, 1) := by decide +kernel
theorem dX0_newInstruction_62 : decode cX0_newInstruction 62 = .ok (.iastore, 1) := by decide +kernel
theorem dX0_newInstruction_63 : decode cX0_newInstruction 63 = .ok (.aload_n 0, 1) := by decide +kernel
theorem dX0_newInstruction_64 : decode cX0_newInstruction 64 = .ok (.getfield 26, 3) := by decide +kernel
theorem dX0_newInstruction_67 : decode cX0_newInstruction 67 = .ok (.iload 5, 2) := by decide +kernel
theorem dX0_newInstruction_69 : decode cX0_newInstruction 69 = .ok (.iaload, 1) := by decide +kernel
theorem dX0_newInstruction_70 : decode cX0_newInstruction 70 = .ok (.iconst 1, 1) := by decide +kernel
theorem dX0_newInstruction_71 : decode cX0_newInstruction 71 = .ok (.isub, 1) := by decide +kernel
theorem dX0_newInstruction_72 : decode cX0_newInstruction 72 = .ok (.ireturn, 1) := by decide +kernel
theorem dX0_has_0 : decode cX0_has 0 = .ok (.iload_n 1, 1) := by decide +kernel
theorem dX0_has_1 : decode cX0_has 1 = .ok (.ifCond .lt 15, 3) := by decide +kernel
theorem dX0_has_4 : decode cX0_has 4 = .ok (.iload_n 1, 1) := by decide +kernel
theorem dX0_has_5 : decode cX0_has 5 = .ok (.aload_n 0, 1) := by decide +kernel
theorem dX0_has_6 : decode cX0_has 6 = .ok (.getfield 39, 3) := by decide +kernel
theorem dX0_has_9 : decode cX0_has 9 = .ok (.if_icmp .ge 7, 3) := by decide +kernel
theorem dX0_has_12 : decode cX0_has 12 = .ok (.iconst 1, 1) := by decide +kernel
theorem dX0_has_13 : decode cX0_has 13 = .ok (.goto 4, 3) := by decide +kernel
theorem dX0_has_16 : decode cX0_has 16 = .ok (.iconst 0, 1) := by decide +kernel
theorem dX0_has_17 : decode cX0_has 17 = .ok (.ireturn, 1) := by decide +kernel
theorem dX0_program_0 : decode cX0_program 0 = .ok (.aload_n 0, 1) := by decide +kernel
theorem dX0_program_1 : decode cX0_program 1 = .ok (.getfield 39, 3) := by decide +kernel
theorem dX0_program_4 : decode cX0_program 4 = .ok (.iconst 1, 1) := by decide +kernel
theorem dX0_program_5 : decode cX0_program 5 = .ok (.isub, 1) := by decide +kernel
theorem dX0_program_6 : decode cX0_program 6 = .ok (.ireturn, 1) := by decide +kernel
theorem dX0_sizeOf_0 : decode cX0_sizeOf 0 = .ok (.iload_n 1, 1) := by decide +kernel
theorem dX0_sizeOf_1 : decode cX0_sizeOf 1 = .ok (.ifCond .lt 20, 3) := by decide +kernel
theorem dX0_sizeOf_4 : decode cX0_sizeOf 4 = .ok (.iload_n 1, 1) := by decide +kernel
theorem dX0_sizeOf_5 : decode cX0_sizeOf 5 = .ok (.aload_n 0, 1) := by decide +kernel
theorem dX0_sizeOf_6 : decode cX0_sizeOf 6 = .ok (.getfield 39, 3) := by decide +kernel
theorem dX0_sizeOf_9 : decode cX0_sizeOf 9 = .ok (.if_icmp .ge 12, 3) := by decide +kernel
theorem dX0_sizeOf_12 : decode cX0_sizeOf 12 = .ok (.aload_n 0, 1) := by decide +kernel
theorem dX0_sizeOf_13 : decode cX0_sizeOf 13 = .ok (.getfield 26, 3) := by decide +kernel
theorem dX0_sizeOf_16 : decode cX0_sizeOf 16 = .ok (.iload_n 1, 1) := by decide +kernel
theorem dX0_sizeOf_17 : decode cX0_sizeOf 17 = .ok (.iaload, 1) := by decide +kernel
theorem dX0_sizeOf_18 : decode cX0_sizeOf 18 = .ok (.goto 4, 3) := by decide +kernel
theorem dX0_sizeOf_21 : decode cX0_sizeOf 21 = .ok (.iconst 0, 1) := by decide +kernel
theorem dX0_sizeOf_22 : decode cX0_sizeOf 22 = .ok (.ireturn, 1) := by decide +kernel
theorem dX0_frameOf_0 : decode cX0_frameOf 0 = .ok (.iload_n 1, 1) := by decide +kernel
theorem dX0_frameOf_1 : decode cX0_frameOf 1 = .ok (.ifCond .lt 20, 3) := by decide +kernel
theorem dX0_frameOf_4 : decode cX0_frameOf 4 = .ok (.iload_n 1, 1) := by decide +kernel
theorem dX0_frameOf_5 : decode cX0_frameOf 5 = .ok (.aload_n 0, 1) := by decide +kernel
theorem dX0_frameOf_6 : decode cX0_frameOf 6 = .ok (.getfield 39, 3) := by decide +kernel
theorem dX0_frameOf_9 : decode cX0_frameOf 9 = .ok (.if_icmp .ge 12, 3) := by decide +kernel
theorem dX0_frameOf_12 : decode cX0_frameOf 12 = .ok (.aload_n 0, 1) := by decide +kernel
theorem dX0_frameOf_13 : decode cX0_frameOf 13 = .ok (.getfield 29, 3) := by decide +kernel
theorem dX0_frameOf_16 : decode cX0_frameOf 16 = .ok (.iload_n 1, 1) := by decide +kernel
theorem dX0_frameOf_17 : decode cX0_frameOf 17 = .ok (.iaload, 1) := by decide +kernel
theorem dX0_frameOf_18 : decode cX0_frameOf 18 = .ok (.goto 4, 3) := by decide +kernel
theorem dX0_frameOf_21 : decode cX0_frameOf 21 = .ok (.iconst 0, 1) := by decide +kernel
theorem dX0_frameOf_22 : decode cX0_frameOf 22 = .ok (.ireturn, 1) := by decide +kernel
theorem dX0_placeOf_0 : decode cX0_placeOf 0 = .ok (.iload_n 1, 1) := by decide +kernel
theorem dX0_placeOf_1 : decode cX0_placeOf 1 = .ok (.ifCond .lt 20, 3) := by decide +kernel
theorem dX0_placeOf_4 : decode cX0_placeOf 4 = .ok (.iload_n 1, 1) := by decide +kernel
theorem dX0_placeOf_5 : decode cX0_placeOf 5 = .ok (.aload_n 0, 1) := by decide +kernel
theorem dX0_placeOf_6 : decode cX0_placeOf 6 = .ok (.getfield 39, 3) := by decide +kernel
theorem dX0_placeOf_9 : decode cX0_placeOf 9 = .ok (.if_icmp .ge 12, 3) := by decide +kernel
theorem dX0_placeOf_12 : decode cX0_placeOf 12 = .ok (.aload_n 0, 1) := by decide +kernel
theorem dX0_placeOf_13 : decode cX0_placeOf 13 = .ok (.getfield 32, 3) := by decide +kernel
theorem dX0_placeOf_16 : decode cX0_placeOf 16 = .ok (.iload_n 1, 1) := by decide +kernel
theorem dX0_placeOf_17 : decode cX0_placeOf 17 = .ok (.iaload, 1) := by decide +kernel
theorem dX0_placeOf_18 : decode cX0_placeOf 18 = .ok (.goto 4, 3) := by decide +kernel
theorem dX0_placeOf_21 : decode cX0_placeOf 21 = .ok (.iconst (-1), 1) := by decide +kernel
theorem dX0_placeOf_22 : decode cX0_placeOf 22 = .ok (.ireturn, 1) := by decide +kernel
theorem dX0_rowOf_0 : decode cX0_rowOf 0 = .ok (.iload_n 1, 1) := by decide +kernel
theorem dX0_rowOf_1 : decode cX0_rowOf 1 = .ok (.ifCond .lt 25, 3) := by decide +kernel
theorem dX0_rowOf_4 : decode cX0_rowOf 4 = .ok (.iload_n 1, 1) := by decide +kernel
theorem dX0_rowOf_5 : decode cX0_rowOf 5 = .ok (.aload_n 0, 1) := by decide +kernel
theorem dX0_rowOf_6 : decode cX0_rowOf 6 = .ok (.getfield 39, 3) := by decide +kernel
theorem dX0_rowOf_9 : decode cX0_rowOf 9 = .ok (.if_icmp .ge 17, 3) := by decide +kernel
theorem dX0_rowOf_12 : decode cX0_rowOf 12 = .ok (.iload_n 2, 1) := by decide +kernel
theorem dX0_rowOf_13 : decode cX0_rowOf 13 = .ok (.ifCond .lt 13, 3) := by decide +kernel
theorem dX0_rowOf_16 : decode cX0_rowOf 16 = .ok (.iload_n 2, 1) := by decide +kernel
theorem dX0_rowOf_17 : decode cX0_rowOf 17 = .ok (.aload_n 0, 1) := by decide +kernel
theorem dX0_rowOf_18 : decode cX0_rowOf 18 = .ok (.getfield 26, 3) := by decide +kernel
theorem dX0_rowOf_21 : decode cX0_rowOf 21 = .ok (.iload_n 1, 1) := by decide +kernel
theorem dX0_rowOf_22 : decode cX0_rowOf 22 = .ok (.iaload, 1) := by decide +kernel
theorem dX0_rowOf_23 : decode cX0_rowOf 23 = .ok (.if_icmp .lt 5, 3) := by decide +kernel
theorem dX0_rowOf_26 : decode cX0_rowOf 26 = .ok (.iconst (-1), 1) := by decide +kernel
theorem dX0_rowOf_27 : decode cX0_rowOf 27 = .ok (.ireturn, 1) := by decide +kernel
theorem dX0_rowOf_28 : decode cX0_rowOf 28 = .ok (.aload_n 0, 1) := by decide +kernel
theorem dX0_rowOf_29 : decode cX0_rowOf 29 = .ok (.getfield 22, 3) := by decide +kernel
theorem dX0_rowOf_32 : decode cX0_rowOf 32 = .ok (.iload_n 1, 1) := by decide +kernel
theorem dX0_rowOf_33 : decode cX0_rowOf 33 = .ok (.iaload, 1) := by decide +kernel
theorem dX0_rowOf_34 : decode cX0_rowOf 34 = .ok (.iload_n 2, 1) := by decide +kernel
theorem dX0_rowOf_35 : decode cX0_rowOf 35 = .ok (.iadd, 1) := by decide +kernel
theorem dX0_rowOf_36 : decode cX0_rowOf 36 = .ok (.ireturn, 1) := by decide +kernel
theorem dX0_at_0 : decode cX0_at 0 = .ok (.iload_n 1, 1) := by decide +kernel
theorem dX0_at_1 : decode cX0_at 1 = .ok (.ifCond .lt 25, 3) := by decide +kernel
theorem dX0_at_4 : decode cX0_at 4 = .ok (.iload_n 1, 1) := by decide +kernel
theorem dX0_at_5 : decode cX0_at 5 = .ok (.aload_n 0, 1) := by decide +kernel
theorem dX0_at_6 : decode cX0_at 6 = .ok (.getfield 39, 3) := by decide +kernel
theorem dX0_at_9 : decode cX0_at 9 = .ok (.if_icmp .ge 17, 3) := by decide +kernel
theorem dX0_at_12 : decode cX0_at 12 = .ok (.iload_n 2, 1) := by decide +kernel
theorem dX0_at_13 : decode cX0_at 13 = .ok (.ifCond .lt 13, 3) := by decide +kernel
theorem dX0_at_16 : decode cX0_at 16 = .ok (.iload_n 2, 1) := by decide +kernel
theorem dX0_at_17 : decode cX0_at 17 = .ok (.aload_n 0, 1) := by decide +kernel
theorem dX0_at_18 : decode cX0_at 18 = .ok (.getfield 26, 3) := by decide +kernel
theorem dX0_at_21 : decode cX0_at 21 = .ok (.iload_n 1, 1) := by decide +kernel
theorem dX0_at_22 : decode cX0_at 22 = .ok (.iaload, 1) := by decide +kernel
theorem dX0_at_23 : decode cX0_at 23 = .ok (.if_icmp .lt 8, 3) := by decide +kernel
theorem dX0_at_26 : decode cX0_at 26 = .ok (.aload_n 0, 1) := by decide +kernel
theorem dX0_at_27 : decode cX0_at 27 = .ok (.getfield 18, 3) := by decide +kernel
theorem dX0_at_30 : decode cX0_at 30 = .ok (.areturn, 1) := by decide +kernel
theorem dX0_at_31 : decode cX0_at 31 = .ok (.aload_n 0, 1) := by decide +kernel
theorem dX0_at_32 : decode cX0_at 32 = .ok (.getfield 11, 3) := by decide +kernel
theorem dX0_at_35 : decode cX0_at 35 = .ok (.aload_n 0, 1) := by decide +kernel
theorem dX0_at_36 : decode cX0_at 36 = .ok (.getfield 22, 3) := by decide +kernel
theorem dX0_at_39 : decode cX0_at 39 = .ok (.iload_n 1, 1) := by decide +kernel
theorem dX0_at_40 : decode cX0_at 40 = .ok (.iaload, 1) := by decide +kernel
theorem dX0_at_41 : decode cX0_at 41 = .ok (.iload_n 2, 1) := by decide +kernel
theorem dX0_at_42 : decode cX0_at 42 = .ok (.iadd, 1) := by decide +kernel
theorem dX0_at_43 : decode cX0_at 43 = .ok (.aaload, 1) := by decide +kernel
theorem dX0_at_44 : decode cX0_at 44 = .ok (.areturn, 1) := by decide +kernel
theorem dX1_init_0 : decode cX1_init 0 = .ok (.aload_n 0, 1) := by decide +kernel
theorem dX1_init_1 : decode cX1_init 1 = .ok (.aload_n 1, 1) := by decide +kernel
theorem dX1_init_2 : decode cX1_init 2 = .ok (.invokespecial 3, 3) := by decide +kernel
theorem dX1_init_5 : decode cX1_init 5 = .ok (.return_, 1) := by decide +kernel
theorem dX1_open_0 : decode cX1_open 0 = .ok (.return_, 1) := by decide +kernel
theorem dX1_faultAt_0 : decode cX1_faultAt 0 = .ok (.aload_n 0, 1) := by decide +kernel
theorem dX1_faultAt_1 : decode cX1_faultAt 1 = .ok (.getfield 9, 3) := by decide +kernel
theorem dX1_faultAt_4 : decode cX1_faultAt 4 = .ok (.iload_n 1, 1) := by decide +kernel
theorem dX1_faultAt_5 : decode cX1_faultAt 5 = .ok (.iload_n 2, 1) := by decide +kernel
theorem dX1_faultAt_6 : decode cX1_faultAt 6 = .ok (.invokevirtual 15, 3) := by decide +kernel
theorem dX1_faultAt_9 : decode cX1_faultAt 9 = .ok (.astore_n 3, 1) := by decide +kernel
theorem dX1_faultAt_10 : decode cX1_faultAt 10 = .ok (.aload_n 0, 1) := by decide +kernel
theorem dX1_faultAt_11 : decode cX1_faultAt 11 = .ok (.aload_n 3, 1) := by decide +kernel
theorem dX1_faultAt_12 : decode cX1_faultAt 12 = .ok (.invokevirtual 21, 3) := by decide +kernel
theorem dX1_faultAt_15 : decode cX1_faultAt 15 = .ok (.ifCond .eq 5, 3) := by decide +kernel
theorem dX1_faultAt_18 : decode cX1_faultAt 18 = .ok (.iconst 2, 1) := by decide +kernel
theorem dX1_faultAt_19 : decode cX1_faultAt 19 = .ok (.ireturn, 1) := by decide +kernel
theorem dX1_faultAt_20 : decode cX1_faultAt 20 = .ok (.aload_n 0, 1) := by decide +kernel
theorem dX1_faultAt_21 : decode cX1_faultAt 21 = .ok (.iload_n 1, 1) := by decide +kernel
theorem dX1_faultAt_22 : decode cX1_faultAt 22 = .ok (.aload_n 3, 1) := by decide +kernel
theorem dX1_faultAt_23 : decode cX1_faultAt 23 = .ok (.invokevirtual 25, 3) := by decide +kernel
theorem dX1_faultAt_26 : decode cX1_faultAt 26 = .ok (.ifCond .eq 5, 3) := by decide +kernel
theorem dX1_faultAt_29 : decode cX1_faultAt 29 = .ok (.iconst 3, 1) := by decide +kernel
theorem dX1_faultAt_30 : decode cX1_faultAt 30 = .ok (.ireturn, 1) := by decide +kernel
theorem dX1_faultAt_31 : decode cX1_faultAt 31 = .ok (.aload_n 0, 1) := by decide +kernel
theorem dX1_faultAt_32 : decode cX1_faultAt 32 = .ok (.iload_n 1, 1) := by decide +kernel
theorem dX1_faultAt_33 : decode cX1_faultAt 33 = .ok (.aload_n 3, 1) := by decide +kernel
theorem dX1_faultAt_34 : decode cX1_faultAt 34 = .ok (.invokevirtual 29, 3) := by decide +kernel
theorem dX1_faultAt_37 : decode cX1_faultAt 37 = .ok (.ifCond .eq 5, 3) := by decide +kernel
theorem dX1_faultAt_40 : decode cX1_faultAt 40 = .ok (.iconst 4, 1) := by decide +kernel
theorem dX1_faultAt_41 : decode cX1_faultAt 41 = .ok (.ireturn, 1) := by decide +kernel
theorem dX1_faultAt_42 : decode cX1_faultAt 42 = .ok (.aload_n 0, 1) := by decide +kernel
theorem dX1_faultAt_43 : decode cX1_faultAt 43 = .ok (.iload_n 1, 1) := by decide +kernel
theorem dX1_faultAt_44 : decode cX1_faultAt 44 = .ok (.aload_n 3, 1) := by decide +kernel
theorem dX1_faultAt_45 : decode cX1_faultAt 45 = .ok (.invokevirtual 32, 3) := by decide +kernel
theorem dX1_faultAt_48 : decode cX1_faultAt 48 = .ok (.ifCond .eq 5, 3) := by decide +kernel
theorem dX1_faultAt_51 : decode cX1_faultAt 51 = .ok (.iconst 5, 1) := by decide +kernel
theorem dX1_faultAt_52 : decode cX1_faultAt 52 = .ok (.ireturn, 1) := by decide +kernel
theorem dX1_faultAt_53 : decode cX1_faultAt 53 = .ok (.aload_n 0, 1) := by decide +kernel
theorem dX1_faultAt_54 : decode cX1_faultAt 54 = .ok (.iload_n 1, 1) := by decide +kernel
theorem dX1_faultAt_55 : decode cX1_faultAt 55 = .ok (.iload_n 2, 1) := by decide +kernel
theorem dX1_faultAt_56 : decode cX1_faultAt 56 = .ok (.aload_n 3, 1) := by decide +kernel
theorem dX1_faultAt_57 : decode cX1_faultAt 57 = .ok (.invokevirtual 35, 3) := by decide +kernel
theorem dX1_faultAt_60 : decode cX1_faultAt 60 = .ok (.ifCond .eq 8, 3) := by decide +kernel
theorem dX1_faultAt_63 : decode cX1_faultAt 63 = .ok (.bipush 6, 2) := by decide +kernel
theorem dX1_faultAt_65 : decode cX1_faultAt 65 = .ok (.goto 4, 3) := by decide +kernel
theorem dX1_faultAt_68 : decode cX1_faultAt 68 = .ok (.iconst 0, 1) := by decide +kernel
theorem dX1_faultAt_69 : decode cX1_faultAt 69 = .ok (.ireturn, 1) := by decide +kernel
theorem dX1_hasWrongForm_0 : decode cX1_hasWrongForm 0 = .ok (.aload_n 1, 1) := by decide +kernel
theorem dX1_hasWrongForm_1 : decode cX1_hasWrongForm 1 = .ok (.getfield 39, 3) := by decide +kernel
theorem dX1_hasWrongForm_4 : decode cX1_hasWrongForm 4 = .ok (.tableswitch 178 3 17 #[76, 76, 178, 178, 90, 112, 178, 178, 178, 134, 178, 178, 178, 178, 156], 76) := by decide +kernel
theorem dX1_hasWrongForm_80 : decode cX1_hasWrongForm 80 = .ok (.aload_n 1, 1) := by decide +kernel
theorem dX1_hasWrongForm_81 : decode cX1_hasWrongForm 81 = .ok (.getfield 45, 3) := by decide +kernel
theorem dX1_hasWrongForm_84 : decode cX1_hasWrongForm 84 = .ok (.iconst 1, 1) := by decide +kernel
theorem dX1_hasWrongForm_85 : decode cX1_hasWrongForm 85 = .ok (.if_icmp .ge 7, 3) := by decide +kernel
theorem dX1_hasWrongForm_88 : decode cX1_hasWrongForm 88 = .ok (.iconst 1, 1) := by decide +kernel
theorem dX1_hasWrongForm_89 : decode cX1_hasWrongForm 89 = .ok (.goto 4, 3) := by decide +kernel
theorem dX1_hasWrongForm_92 : decode cX1_hasWrongForm 92 = .ok (.iconst 0, 1) := by decide +kernel
theorem dX1_hasWrongForm_93 : decode cX1_hasWrongForm 93 = .ok (.ireturn, 1) := by decide +kernel
theorem dX1_hasWrongForm_94 : decode cX1_hasWrongForm 94 = .ok (.aload_n 1, 1) := by decide +kernel
theorem dX1_hasWrongForm_95 : decode cX1_hasWrongForm 95 = .ok (.getfield 48, 3) := by decide +kernel
theorem dX1_hasWrongForm_98 : decode cX1_hasWrongForm 98 = .ok (.ifCond .lt 12, 3) := by decide +kernel
theorem dX1_hasWrongForm_101 : decode cX1_hasWrongForm 101 = .ok (.aload_n 1, 1) := by decide +kernel
theorem dX1_hasWrongForm_102 : decode cX1_hasWrongForm 102 = .ok (.getfield 48, 3) := by decide +kernel
theorem dX1_hasWrongForm_105 : decode cX1_hasWrongForm 105 = .ok (.bipush 24, 2) := by decide +kernel
theorem dX1_hasWrongForm_107 : decode cX1_hasWrongForm 107 = .ok (.if_icmp .le 7, 3) := by decide +kernel
theorem dX1_hasWrongForm_110 : decode cX1_hasWrongForm 110 = .ok (.iconst 1, 1) := by decide +kernel
theorem dX1_hasWrongForm_111 : decode cX1_hasWrongForm 111 = .ok (.goto 4, 3) := by decide +kernel
theorem dX1_hasWrongForm_114 : decode cX1_hasWrongForm 114 = .ok (.iconst 0, 1) := by decide +kernel
theorem dX1_hasWrongForm_115 : decode cX1_hasWrongForm 115 = .ok (.ireturn, 1) := by decide +kernel
theorem dX1_hasWrongForm_116 : decode cX1_hasWrongForm 116 = .ok (.aload_n 1, 1) := by decide +kernel
theorem dX1_hasWrongForm_117 : decode cX1_hasWrongForm 117 = .ok (.getfield 48, 3) := by decide +kernel
theorem dX1_hasWrongForm_120 : decode cX1_hasWrongForm 120 = .ok (.ifCond .lt 12, 3) := by decide +kernel
theorem dX1_hasWrongForm_123 : decode cX1_hasWrongForm 123 = .ok (.aload_n 1, 1) := by decide +kernel
theorem dX1_hasWrongForm_124 : decode cX1_hasWrongForm 124 = .ok (.getfield 48, 3) := by decide +kernel
theorem dX1_hasWrongForm_127 : decode cX1_hasWrongForm 127 = .ok (.bipush 7, 2) := by decide +kernel
theorem dX1_hasWrongForm_129 : decode cX1_hasWrongForm 129 = .ok (.if_icmp .le 7, 3) := by decide +kernel
theorem dX1_hasWrongForm_132 : decode cX1_hasWrongForm 132 = .ok (.iconst 1, 1) := by decide +kernel
theorem dX1_hasWrongForm_133 : decode cX1_hasWrongForm 133 = .ok (.goto 4, 3) := by decide +kernel
theorem dX1_hasWrongForm_136 : decode cX1_hasWrongForm 136 = .ok (.iconst 0, 1) := by decide +kernel
theorem dX1_hasWrongForm_137 : decode cX1_hasWrongForm 137 = .ok (.ireturn, 1) := by decide +kernel
theorem dX1_hasWrongForm_138 : decode cX1_hasWrongForm 138 = .ok (.aload_n 1, 1) := by decide +kernel
theorem dX1_hasWrongForm_139 : decode cX1_hasWrongForm 139 = .ok (.getfield 51, 3) := by decide +kernel
theorem dX1_hasWrongForm_142 : decode cX1_hasWrongForm 142 = .ok (.ifCond .lt 12, 3) := by decide +kernel
theorem dX1_hasWrongForm_145 : decode cX1_hasWrongForm 145 = .ok (.aload_n 1, 1) := by decide +kernel
theorem dX1_hasWrongForm_146 : decode cX1_hasWrongForm 146 = .ok (.getfield 51, 3) := by decide +kernel
theorem dX1_hasWrongForm_149 : decode cX1_hasWrongForm 149 = .ok (.ldc 54, 2) := by decide +kernel
theorem dX1_hasWrongForm_151 : decode cX1_hasWrongForm 151 = .ok (.if_icmp .le 7, 3) := by decide +kernel
theorem dX1_hasWrongForm_154 : decode cX1_hasWrongForm 154 = .ok (.iconst 1, 1) := by decide +kernel
theorem dX1_hasWrongForm_155 : decode cX1_hasWrongForm 155 = .ok (.goto 4, 3) := by decide +kernel
theorem dX1_hasWrongForm_158 : decode cX1_hasWrongForm 158 = .ok (.iconst 0, 1) := by decide +kernel
theorem dX1_hasWrongForm_159 : decode cX1_hasWrongForm 159 = .ok (.ireturn, 1) := by decide +kernel
theorem dX1_hasWrongForm_160 : decode cX1_hasWrongForm 160 = .ok (.aload_n 1, 1) := by decide +kernel
theorem dX1_hasWrongForm_161 : decode cX1_hasWrongForm 161 = .ok (.getfield 48, 3) := by decide +kernel
theorem dX1_hasWrongForm_164 : decode cX1_hasWrongForm 164 = .ok (.ifCond .lt 12, 3) := by decide +kernel
theorem dX1_hasWrongForm_167 : decode cX1_hasWrongForm 167 = .ok (.aload_n 1, 1) := by decide +kernel
theorem dX1_hasWrongForm_168 : decode cX1_hasWrongForm 168 = .ok (.getfield 48, 3) := by decide +kernel
theorem dX1_hasWrongForm_171 : decode cX1_hasWrongForm 171 = .ok (.bipush 8, 2) := by decide +kernel
theorem dX1_hasWrongForm_173 : decode cX1_hasWrongForm 173 = .ok (.if_icmp .le 7, 3) := by decide +kernel
theorem dX1_hasWrongForm_176 : decode cX1_hasWrongForm 176 = .ok (.iconst 1, 1) := by decide +kernel
theorem dX1_hasWrongForm_177 : decode cX1_hasWrongForm 177 = .ok (.goto 4, 3) := by decide +kernel
theorem dX1_hasWrongForm_180 : decode cX1_hasWrongForm 180 = .ok (.iconst 0, 1) := by decide +kernel
theorem dX1_hasWrongForm_181 : decode cX1_hasWrongForm 181 = .ok (.ireturn, 1) := by decide +kernel
theorem dX1_hasWrongForm_182 : decode cX1_hasWrongForm 182 = .ok (.aload_n 1, 1) := by decide +kernel
theorem dX1_hasWrongForm_183 : decode cX1_hasWrongForm 183 = .ok (.getfield 39, 3) := by decide +kernel
theorem dX1_hasWrongForm_186 : decode cX1_hasWrongForm 186 = .ok (.ifCond .lt 12, 3) := by decide +kernel
theorem dX1_hasWrongForm_189 : decode cX1_hasWrongForm 189 = .ok (.aload_n 1, 1) := by decide +kernel
theorem dX1_hasWrongForm_190 : decode cX1_hasWrongForm 190 = .ok (.getfield 39, 3) := by decide +kernel
theorem dX1_hasWrongForm_193 : decode cX1_hasWrongForm 193 = .ok (.bipush 18, 2) := by decide +kernel
theorem dX1_hasWrongForm_195 : decode cX1_hasWrongForm 195 = .ok (.if_icmp .le 7, 3) := by decide +kernel
theorem dX1_hasWrongForm_198 : decode cX1_hasWrongForm 198 = .ok (.iconst 1, 1) := by decide +kernel
theorem dX1_hasWrongForm_199 : decode cX1_hasWrongForm 199 = .ok (.goto 4, 3) := by decide +kernel
theorem dX1_hasWrongForm_202 : decode cX1_hasWrongForm 202 = .ok (.iconst 0, 1) := by decide +kernel
theorem dX1_hasWrongForm_203 : decode cX1_hasWrongForm 203 = .ok (.ireturn, 1) := by decide +kernel
theorem dX1_namesWrongUnit_0 : decode cX1_namesWrongUnit 0 = .ok (.aload_n 2, 1) := by decide +kernel
theorem dX1_namesWrongUnit_1 : decode cX1_namesWrongUnit 1 = .ok (.getfield 39, 3) := by decide +kernel
theorem dX1_namesWrongUnit_4 : decode cX1_namesWrongUnit 4 = .ok (.lookupswitch 116 #[(5, 44), (6, 44), (15, 80), (16, 44)], 44) := by decide +kernel
theorem dX1_namesWrongUnit_48 : decode cX1_namesWrongUnit 48 = .ok (.aload_n 2, 1) := by decide +kernel
theorem dX1_namesWrongUnit_49 : decode cX1_namesWrongUnit 49 = .ok (.getfield 48, 3) := by decide +kernel
theorem dX1_namesWrongUnit_52 : decode cX1_namesWrongUnit 52 = .ok (.ifCond .lt 26, 3) := by decide +kernel
theorem dX1_namesWrongUnit_55 : decode cX1_namesWrongUnit 55 = .ok (.aload_n 2, 1) := by decide +kernel
theorem dX1_namesWrongUnit_56 : decode cX1_namesWrongUnit 56 = .ok (.getfield 48, 3) := by decide +kernel
theorem dX1_namesWrongUnit_59 : decode cX1_namesWrongUnit 59 = .ok (.iload_n 1, 1) := by decide +kernel
theorem dX1_namesWrongUnit_60 : decode cX1_namesWrongUnit 60 = .ok (.if_icmp .ge 18, 3) := by decide +kernel
theorem dX1_namesWrongUnit_63 : decode cX1_namesWrongUnit 63 = .ok (.aload_n 0, 1) := by decide +kernel
theorem dX1_namesWrongUnit_64 : decode cX1_namesWrongUnit 64 = .ok (.getfield 9, 3) := by decide +kernel
theorem dX1_namesWrongUnit_67 : decode cX1_namesWrongUnit 67 = .ok (.aload_n 2, 1) := by decide +kernel
theorem dX1_namesWrongUnit_68 : decode cX1_namesWrongUnit 68 = .ok (.getfield 48, 3) := by decide +kernel
theorem dX1_namesWrongUnit_71 : decode cX1_namesWrongUnit 71 = .ok (.invokevirtual 55, 3) := by decide +kernel
theorem dX1_namesWrongUnit_74 : decode cX1_namesWrongUnit 74 = .ok (.iconst (-1), 1) := by decide +kernel
theorem dX1_namesWrongUnit_75 : decode cX1_namesWrongUnit 75 = .ok (.if_icmp .ne 7, 3) := by decide +kernel
theorem dX1_namesWrongUnit_78 : decode cX1_namesWrongUnit 78 = .ok (.iconst 1, 1) := by decide +kernel
theorem dX1_namesWrongUnit_79 : decode cX1_namesWrongUnit 79 = .ok (.goto 4, 3) := by decide +kernel
theorem dX1_namesWrongUnit_82 : decode cX1_namesWrongUnit 82 = .ok (.iconst 0, 1) := by decide +kernel
theorem dX1_namesWrongUnit_83 : decode cX1_namesWrongUnit 83 = .ok (.ireturn, 1) := by decide +kernel
theorem dX1_namesWrongUnit_84 : decode cX1_namesWrongUnit 84 = .ok (.aload_n 2, 1) := by decide +kernel
theorem dX1_namesWrongUnit_85 : decode cX1_namesWrongUnit 85 = .ok (.getfield 48, 3) := by decide +kernel
theorem dX1_namesWrongUnit_88 : decode cX1_namesWrongUnit 88 = .ok (.ifCond .lt 26, 3) := by decide +kernel
theorem dX1_namesWrongUnit_91 : decode cX1_namesWrongUnit 91 = .ok (.aload_n 2, 1) := by decide +kernel
theorem dX1_namesWrongUnit_92 : decode cX1_namesWrongUnit 92 = .ok (.getfield 48, 3) := by decide +kernel
theorem dX1_namesWrongUnit_95 : decode cX1_namesWrongUnit 95 = .ok (.iload_n 1, 1) := by decide +kernel
theorem dX1_namesWrongUnit_96 : decode cX1_namesWrongUnit 96 = .ok (.if_icmp .ge 18, 3) := by decide +kernel
theorem dX1_namesWrongUnit_99 : decode cX1_namesWrongUnit 99 = .ok (.aload_n 0, 1) := by decide +kernel
theorem dX1_namesWrongUnit_100 : decode cX1_namesWrongUnit 100 = .ok (.getfield 9, 3) := by decide +kernel
theorem dX1_namesWrongUnit_103 : decode cX1_namesWrongUnit 103 = .ok (.aload_n 2, 1) := by decide +kernel
theorem dX1_namesWrongUnit_104 : decode cX1_namesWrongUnit 104 = .ok (.getfield 48, 3) := by decide +kernel
theorem dX1_namesWrongUnit_107 : decode cX1_namesWrongUnit 107 = .ok (.invokevirtual 55, 3) := by decide +kernel
theorem dX1_namesWrongUnit_110 : decode cX1_namesWrongUnit 110 = .ok (.iconst (-1), 1) := by decide +kernel
theorem dX1_namesWrongUnit_111 : decode cX1_namesWrongUnit 111 = .ok (.if_icmp .eq 7, 3) := by decide +kernel
theorem dX1_namesWrongUnit_114 : decode cX1_namesWrongUnit 114 = .ok (.iconst 1, 1) := by decide +kernel
theorem dX1_namesWrongUnit_115 : decode cX1_namesWrongUnit 115 = .ok (.goto 4, 3) := by decide +kernel
theorem dX1_namesWrongUnit_118 : decode cX1_namesWrongUnit 118 = .ok (.iconst 0, 1) := by decide +kernel
theorem dX1_namesWrongUnit_119 : decode cX1_namesWrongUnit 119 = .ok (.ireturn, 1) := by decide +kernel
theorem dX1_namesWrongUnit_120 : decode cX1_namesWrongUnit 120 = .ok (.iconst 0, 1) := by decide +kernel
theorem dX1_namesWrongUnit_121 : decode cX1_namesWrongUnit 121 = .ok (.ireturn, 1) := by decide +kernel
theorem dX1_namesCellOutside_0 : decode cX1_namesCellOutside 0 = .ok (.aload_n 0, 1) := by decide +kernel
theorem dX1_namesCellOutside_1 : decode cX1_namesCellOutside 1 = .ok (.aload_n 2, 1) := by decide +kernel
theorem dX1_namesCellOutside_2 : decode cX1_namesCellOutside 2 = .ok (.invokevirtual 59, 3) := by decide +kernel
theorem dX1_namesCellOutside_5 : decode cX1_namesCellOutside 5 = .ok (.istore_n 3, 1) := by decide +kernel
theorem dX1_namesCellOutside_6 : decode cX1_namesCellOutside 6 = .ok (.iload_n 3, 1) := by decide +kernel
theorem dX1_namesCellOutside_7 : decode cX1_namesCellOutside 7 = .ok (.iconst (-1), 1) := by decide +kernel
theorem dX1_namesCellOutside_8 : decode cX1_namesCellOutside 8 = .ok (.if_icmp .ne 5, 3) := by decide +kernel
theorem dX1_namesCellOutside_11 : decode cX1_namesCellOutside 11 = .ok (.iconst 0, 1) := by decide +kernel
theorem dX1_namesCellOutside_12 : decode cX1_namesCellOutside 12 = .ok (.ireturn, 1) := by decide +kernel
theorem dX1_namesCellOutside_13 : decode cX1_namesCellOutside 13 = .ok (.aload_n 0, 1) := by decide +kernel
theorem dX1_namesCellOutside_14 : decode cX1_namesCellOutside 14 = .ok (.aload_n 2, 1) := by decide +kernel
theorem dX1_namesCellOutside_15 : decode cX1_namesCellOutside 15 = .ok (.invokevirtual 63, 3) := by decide +kernel
theorem dX1_namesCellOutside_18 : decode cX1_namesCellOutside 18 = .ok (.istore 4, 2) := by decide +kernel
theorem dX1_namesCellOutside_20 : decode cX1_namesCellOutside 20 = .ok (.iload 4, 2) := by decide +kernel
theorem dX1_namesCellOutside_22 : decode cX1_namesCellOutside 22 = .ok (.ifCond .lt 31, 3) := by decide +kernel
theorem dX1_namesCellOutside_25 : decode cX1_namesCellOutside 25 = .ok (.iload_n 3, 1) := by decide +kernel
theorem dX1_namesCellOutside_26 : decode cX1_namesCellOutside 26 = .ok (.ifCond .le 31, 3) := by decide +kernel
theorem dX1_namesCellOutside_29 : decode cX1_namesCellOutside 29 = .ok (.iload 4, 2) := by decide +kernel
theorem dX1_namesCellOutside_31 : decode cX1_namesCellOutside 31 = .ok (.i2l, 1) := by decide +kernel
theorem dX1_namesCellOutside_32 : decode cX1_namesCellOutside 32 = .ok (.iload_n 3, 1) := by decide +kernel
theorem dX1_namesCellOutside_33 : decode cX1_namesCellOutside 33 = .ok (.i2l, 1) := by decide +kernel
theorem dX1_namesCellOutside_34 : decode cX1_namesCellOutside 34 = .ok (.ladd, 1) := by decide +kernel
theorem dX1_namesCellOutside_35 : decode cX1_namesCellOutside 35 = .ok (.aload_n 0, 1) := by decide +kernel
theorem dX1_namesCellOutside_36 : decode cX1_namesCellOutside 36 = .ok (.getfield 9, 3) := by decide +kernel
theorem dX1_namesCellOutside_39 : decode cX1_namesCellOutside 39 = .ok (.aload_n 0, 1) := by decide +kernel
theorem dX1_namesCellOutside_40 : decode cX1_namesCellOutside 40 = .ok (.iload_n 1, 1) := by decide +kernel
theorem dX1_namesCellOutside_41 : decode cX1_namesCellOutside 41 = .ok (.aload_n 2, 1) := by decide +kernel
theorem dX1_namesCellOutside_42 : decode cX1_namesCellOutside 42 = .ok (.invokevirtual 66, 3) := by decide +kernel
theorem dX1_namesCellOutside_45 : decode cX1_namesCellOutside 45 = .ok (.invokevirtual 70, 3) := by decide +kernel
theorem dX1_namesCellOutside_48 : decode cX1_namesCellOutside 48 = .ok (.i2l, 1) := by decide +kernel
theorem dX1_namesCellOutside_49 : decode cX1_namesCellOutside 49 = .ok (.lcmp, 1) := by decide +kernel
theorem dX1_namesCellOutside_50 : decode cX1_namesCellOutside 50 = .ok (.ifCond .le 7, 3) := by decide +kernel
theorem dX1_namesCellOutside_53 : decode cX1_namesCellOutside 53 = .ok (.iconst 1, 1) := by decide +kernel
theorem dX1_namesCellOutside_54 : decode cX1_namesCellOutside 54 = .ok (.goto 4, 3) := by decide +kernel
theorem dX1_namesCellOutside_57 : decode cX1_namesCellOutside 57 = .ok (.iconst 0, 1) := by decide +kernel
theorem dX1_namesCellOutside_58 : decode cX1_namesCellOutside 58 = .ok (.ireturn, 1) := by decide +kernel
theorem dX1_namesCounterAsCell_0 : decode cX1_namesCounterAsCell 0 = .ok (.aload_n 0, 1) := by decide +kernel
theorem dX1_namesCounterAsCell_1 : decode cX1_namesCounterAsCell 1 = .ok (.aload_n 2, 1) := by decide +kernel
theorem dX1_namesCounterAsCell_2 : decode cX1_namesCounterAsCell 2 = .ok (.invokevirtual 59, 3) := by decide +kernel
theorem dX1_namesCounterAsCell_5 : decode cX1_namesCounterAsCell 5 = .ok (.istore_n 3, 1) := by decide +kernel
theorem dX1_namesCounterAsCell_6 : decode cX1_namesCounterAsCell 6 = .ok (.iload_n 3, 1) := by decide +kernel
theorem dX1_namesCounterAsCell_7 : decode cX1_namesCounterAsCell 7 = .ok (.iconst 1, 1) := by decide +kernel
theorem dX1_namesCounterAsCell_8 : decode cX1_namesCounterAsCell 8 = .ok (.if_icmp .lt 10, 3) := by decide +kernel
theorem dX1_namesCounterAsCell_11 : decode cX1_namesCounterAsCell 11 = .ok (.aload_n 2, 1) := by decide +kernel
theorem dX1_namesCounterAsCell_12 : decode cX1_namesCounterAsCell 12 = .ok (.invokevirtual 73, 3) := by decide +kernel
theorem dX1_namesCounterAsCell_15 : decode cX1_namesCounterAsCell 15 = .ok (.ifCond .eq 5, 3) := by decide +kernel
theorem dX1_namesCounterAsCell_18 : decode cX1_namesCounterAsCell 18 = .ok (.iconst 0, 1) := by decide +kernel
theorem dX1_namesCounterAsCell_19 : decode cX1_namesCounterAsCell 19 = .ok (.ireturn, 1) := by decide +kernel
theorem dX1_namesCounterAsCell_20 : decode cX1_namesCounterAsCell 20 = .ok (.aload_n 0, 1) := by decide +kernel
theorem dX1_namesCounterAsCell_21 : decode cX1_namesCounterAsCell 21 = .ok (.iload_n 1, 1) := by decide +kernel
theorem dX1_namesCounterAsCell_22 : decode cX1_namesCounterAsCell 22 = .ok (.aload_n 2, 1) := by decide +kernel
theorem dX1_namesCounterAsCell_23 : decode cX1_namesCounterAsCell 23 = .ok (.invokevirtual 66, 3) := by decide +kernel
theorem dX1_namesCounterAsCell_26 : decode cX1_namesCounterAsCell 26 = .ok (.istore 4, 2) := by decide +kernel
theorem dX1_namesCounterAsCell_28 : decode cX1_namesCounterAsCell 28 = .ok (.aload_n 0, 1) := by decide +kernel
theorem dX1_namesCounterAsCell_29 : decode cX1_namesCounterAsCell 29 = .ok (.aload_n 2, 1) := by decide +kernel
theorem dX1_namesCounterAsCell_30 : decode cX1_namesCounterAsCell 30 = .ok (.invokevirtual 63, 3) := by decide +kernel
theorem dX1_namesCounterAsCell_33 : decode cX1_namesCounterAsCell 33 = .ok (.i2l, 1) := by decide +kernel
theorem dX1_namesCounterAsCell_34 : decode cX1_namesCounterAsCell 34 = .ok (.lstore 5, 2) := by decide +kernel
theorem dX1_namesCounterAsCell_36 : decode cX1_namesCounterAsCell 36 = .ok (.aload_n 0, 1) := by decide +kernel
theorem dX1_namesCounterAsCell_37 : decode cX1_namesCounterAsCell 37 = .ok (.getfield 9, 3) := by decide +kernel
theorem dX1_namesCounterAsCell_40 : decode cX1_namesCounterAsCell 40 = .ok (.iload 4, 2) := by decide +kernel
theorem dX1_namesCounterAsCell_42 : decode cX1_namesCounterAsCell 42 = .ok (.invokevirtual 77, 3) := by decide +kernel
theorem dX1_namesCounterAsCell_45 : decode cX1_namesCounterAsCell 45 = .ok (.istore 7, 2) := by decide +kernel
theorem dX1_namesCounterAsCell_47 : decode cX1_namesCounterAsCell 47 = .ok (.iconst 0, 1) := by decide +kernel
theorem dX1_namesCounterAsCell_48 : decode cX1_namesCounterAsCell 48 = .ok (.istore 8, 2) := by decide +kernel
theorem dX1_namesCounterAsCell_50 : decode cX1_namesCounterAsCell 50 = .ok (.iload 8, 2) := by decide +kernel
theorem dX1_namesCounterAsCell_52 : decode cX1_namesCounterAsCell 52 = .ok (.iload 7, 2) := by decide +kernel
theorem dX1_namesCounterAsCell_54 : decode cX1_namesCounterAsCell 54 = .ok (.if_icmp .ge 59, 3) := by decide +kernel
theorem dX1_namesCounterAsCell_57 : decode cX1_namesCounterAsCell 57 = .ok (.aload_n 0, 1) := by decide +kernel
theorem dX1_namesCounterAsCell_58 : decode cX1_namesCounterAsCell 58 = .ok (.getfield 9, 3) := by decide +kernel
theorem dX1_namesCounterAsCell_61 : decode cX1_namesCounterAsCell 61 = .ok (.iload 4, 2) := by decide +kernel
theorem dX1_namesCounterAsCell_63 : decode cX1_namesCounterAsCell 63 = .ok (.iload 8, 2) := by decide +kernel
theorem dX1_namesCounterAsCell_65 : decode cX1_namesCounterAsCell 65 = .ok (.invokevirtual 15, 3) := by decide +kernel
theorem dX1_namesCounterAsCell_68 : decode cX1_namesCounterAsCell 68 = .ok (.astore 9, 2) := by decide +kernel
theorem dX1_namesCounterAsCell_70 : decode cX1_namesCounterAsCell 70 = .ok (.aload 9, 2) := by decide +kernel
theorem dX1_namesCounterAsCell_72 : decode cX1_namesCounterAsCell 72 = .ok (.invokevirtual 73, 3) := by decide +kernel
theorem dX1_namesCounterAsCell_75 : decode cX1_namesCounterAsCell 75 = .ok (.ifCond .eq 32, 3) := by decide +kernel
theorem dX1_namesCounterAsCell_78 : decode cX1_namesCounterAsCell 78 = .ok (.aload 9, 2) := by decide +kernel
theorem dX1_namesCounterAsCell_80 : decode cX1_namesCounterAsCell 80 = .ok (.getfield 48, 3) := by decide +kernel
theorem dX1_namesCounterAsCell_83 : decode cX1_namesCounterAsCell 83 = .ok (.i2l, 1) := by decide +kernel
theorem dX1_namesCounterAsCell_84 : decode cX1_namesCounterAsCell 84 = .ok (.lload 5, 2) := by decide +kernel
theorem dX1_namesCounterAsCell_86 : decode cX1_namesCounterAsCell 86 = .ok (.lcmp, 1) := by decide +kernel
theorem dX1_namesCounterAsCell_87 : decode cX1_namesCounterAsCell 87 = .ok (.ifCond .lt 20, 3) := by decide +kernel
theorem dX1_namesCounterAsCell_90 : decode cX1_namesCounterAsCell 90 = .ok (.aload 9, 2) := by decide +kernel
theorem dX1_namesCounterAsCell_92 : decode cX1_namesCounterAsCell 92 = .ok (.getfield 48, 3) := by decide +kernel
theorem dX1_namesCounterAsCell_95 : decode cX1_namesCounterAsCell 95 = .ok (.i2l, 1) := by decide +kernel
theorem dX1_namesCounterAsCell_96 : decode cX1_namesCounterAsCell 96 = .ok (.lload 5, 2) := by decide +kernel
theorem dX1_namesCounterAsCell_98 : decode cX1_namesCounterAsCell 98 = .ok (.iload_n 3, 1) := by decide +kernel
theorem dX1_namesCounterAsCell_99 : decode cX1_namesCounterAsCell 99 = .ok (.i2l, 1) := by decide +kernel
theorem dX1_namesCounterAsCell_100 : decode cX1_namesCounterAsCell 100 = .ok (.ladd, 1) := by decide +kernel
theorem dX1_namesCounterAsCell_101 : decode cX1_namesCounterAsCell 101 = .ok (.lcmp, 1) := by decide +kernel
theorem dX1_namesCounterAsCell_102 : decode cX1_namesCounterAsCell 102 = .ok (.ifCond .ge 5, 3) := by decide +kernel
theorem dX1_namesCounterAsCell_105 : decode cX1_namesCounterAsCell 105 = .ok (.iconst 1, 1) := by decide +kernel
theorem dX1_namesCounterAsCell_106 : decode cX1_namesCounterAsCell 106 = .ok (.ireturn, 1) := by decide +kernel
theorem dX1_namesCounterAsCell_107 : decode cX1_namesCounterAsCell 107 = .ok (.iinc 8 1, 3) := by decide +kernel
theorem dX1_namesCounterAsCell_110 : decode cX1_namesCounterAsCell 110 = .ok (.goto (-60), 3) := by decide +kernel
theorem dX1_namesCounterAsCell_113 : decode cX1_namesCounterAsCell 113 = .ok (.iconst 0, 1) := by decide +kernel
theorem dX1_namesCounterAsCell_114 : decode cX1_namesCounterAsCell 114 = .ok (.ireturn, 1) := by decide +kernel
theorem dX1_goesWrong_0 : decode cX1_goesWrong 0 = .ok (.aload_n 3, 1) := by decide +kernel
theorem dX1_goesWrong_1 : decode cX1_goesWrong 1 = .ok (.getfield 39, 3) := by decide +kernel
theorem dX1_goesWrong_4 : decode cX1_goesWrong 4 = .ok (.tableswitch 115 10 14 #[36, 36, 115, 65, 94], 36) := by decide +kernel
theorem dX1_goesWrong_40 : decode cX1_goesWrong 40 = .ok (.aload_n 3, 1) := by decide +kernel
theorem dX1_goesWrong_41 : decode cX1_goesWrong 41 = .ok (.getfield 48, 3) := by decide +kernel
theorem dX1_goesWrong_44 : decode cX1_goesWrong 44 = .ok (.iload_n 2, 1) := by decide +kernel
theorem dX1_goesWrong_45 : decode cX1_goesWrong 45 = .ok (.if_icmp .le 18, 3) := by decide +kernel
theorem dX1_goesWrong_48 : decode cX1_goesWrong 48 = .ok (.aload_n 3, 1) := by decide +kernel
theorem dX1_goesWrong_49 : decode cX1_goesWrong 49 = .ok (.getfield 48, 3) := by decide +kernel
theorem dX1_goesWrong_52 : decode cX1_goesWrong 52 = .ok (.aload_n 0, 1) := by decide +kernel
theorem dX1_goesWrong_53 : decode cX1_goesWrong 53 = .ok (.getfield 9, 3) := by decide +kernel
theorem dX1_goesWrong_56 : decode cX1_goesWrong 56 = .ok (.iload_n 1, 1) := by decide +kernel
theorem dX1_goesWrong_57 : decode cX1_goesWrong 57 = .ok (.invokevirtual 77, 3) := by decide +kernel
theorem dX1_goesWrong_60 : decode cX1_goesWrong 60 = .ok (.if_icmp .le 7, 3) := by decide +kernel
theorem dX1_goesWrong_63 : decode cX1_goesWrong 63 = .ok (.iconst 1, 1) := by decide +kernel
theorem dX1_goesWrong_64 : decode cX1_goesWrong 64 = .ok (.goto 4, 3) := by decide +kernel
theorem dX1_goesWrong_67 : decode cX1_goesWrong 67 = .ok (.iconst 0, 1) := by decide +kernel
theorem dX1_goesWrong_68 : decode cX1_goesWrong 68 = .ok (.ireturn, 1) := by decide +kernel
theorem dX1_goesWrong_69 : decode cX1_goesWrong 69 = .ok (.aload_n 3, 1) := by decide +kernel
theorem dX1_goesWrong_70 : decode cX1_goesWrong 70 = .ok (.getfield 51, 3) := by decide +kernel
theorem dX1_goesWrong_73 : decode cX1_goesWrong 73 = .ok (.iload_n 2, 1) := by decide +kernel
theorem dX1_goesWrong_74 : decode cX1_goesWrong 74 = .ok (.if_icmp .le 18, 3) := by decide +kernel
theorem dX1_goesWrong_77 : decode cX1_goesWrong 77 = .ok (.aload_n 3, 1) := by decide +kernel
theorem dX1_goesWrong_78 : decode cX1_goesWrong 78 = .ok (.getfield 51, 3) := by decide +kernel
theorem dX1_goesWrong_81 : decode cX1_goesWrong 81 = .ok (.aload_n 0, 1) := by decide +kernel
theorem dX1_goesWrong_82 : decode cX1_goesWrong 82 = .ok (.getfield 9, 3) := by decide +kernel
theorem dX1_goesWrong_85 : decode cX1_goesWrong 85 = .ok (.iload_n 1, 1) := by decide +kernel
theorem dX1_goesWrong_86 : decode cX1_goesWrong 86 = .ok (.invokevirtual 77, 3) := by decide +kernel
theorem dX1_goesWrong_89 : decode cX1_goesWrong 89 = .ok (.if_icmp .le 7, 3) := by decide +kernel
theorem dX1_goesWrong_92 : decode cX1_goesWrong 92 = .ok (.iconst 1, 1) := by decide +kernel
theorem dX1_goesWrong_93 : decode cX1_goesWrong 93 = .ok (.goto 4, 3) := by decide +kernel
theorem dX1_goesWrong_96 : decode cX1_goesWrong 96 = .ok (.iconst 0, 1) := by decide +kernel
theorem dX1_goesWrong_97 : decode cX1_goesWrong 97 = .ok (.ireturn, 1) := by decide +kernel
theorem dX1_goesWrong_98 : decode cX1_goesWrong 98 = .ok (.aload_n 3, 1) := by decide +kernel
theorem dX1_goesWrong_99 : decode cX1_goesWrong 99 = .ok (.getfield 48, 3) := by decide +kernel
theorem dX1_goesWrong_102 : decode cX1_goesWrong 102 = .ok (.ifCond .lt 11, 3) := by decide +kernel
theorem dX1_goesWrong_105 : decode cX1_goesWrong 105 = .ok (.aload_n 3, 1) := by decide +kernel
theorem dX1_goesWrong_106 : decode cX1_goesWrong 106 = .ok (.getfield 48, 3) := by decide +kernel
theorem dX1_goesWrong_109 : decode cX1_goesWrong 109 = .ok (.iload_n 2, 1) := by decide +kernel
theorem dX1_goesWrong_110 : decode cX1_goesWrong 110 = .ok (.if_icmp .lt 7, 3) := by decide +kernel
theorem dX1_goesWrong_113 : decode cX1_goesWrong 113 = .ok (.iconst 1, 1) := by decide +kernel
theorem dX1_goesWrong_114 : decode cX1_goesWrong 114 = .ok (.goto 4, 3) := by decide +kernel
theorem dX1_goesWrong_117 : decode cX1_goesWrong 117 = .ok (.iconst 0, 1) := by decide +kernel
theorem dX1_goesWrong_118 : decode cX1_goesWrong 118 = .ok (.ireturn, 1) := by decide +kernel
theorem dX1_goesWrong_119 : decode cX1_goesWrong 119 = .ok (.iconst 0, 1) := by decide +kernel
theorem dX1_goesWrong_120 : decode cX1_goesWrong 120 = .ok (.ireturn, 1) := by decide +kernel
theorem dX1_ownerOfCells_0 : decode cX1_ownerOfCells 0 = .ok (.aload_n 2, 1) := by decide +kernel
theorem dX1_ownerOfCells_1 : decode cX1_ownerOfCells 1 = .ok (.getfield 39, 3) := by decide +kernel
theorem dX1_ownerOfCells_4 : decode cX1_ownerOfCells 4 = .ok (.iconst 5, 1) := by decide +kernel
theorem dX1_ownerOfCells_5 : decode cX1_ownerOfCells 5 = .ok (.if_icmp .eq 12, 3) := by decide +kernel
theorem dX1_ownerOfCells_8 : decode cX1_ownerOfCells 8 = .ok (.aload_n 2, 1) := by decide +kernel
theorem dX1_ownerOfCells_9 : decode cX1_ownerOfCells 9 = .ok (.getfield 39, 3) := by decide +kernel
theorem dX1_ownerOfCells_12 : decode cX1_ownerOfCells 12 = .ok (.bipush 6, 2) := by decide +kernel
theorem dX1_ownerOfCells_14 : decode cX1_ownerOfCells 14 = .ok (.if_icmp .ne 10, 3) := by decide +kernel
theorem dX1_ownerOfCells_17 : decode cX1_ownerOfCells 17 = .ok (.aload_n 2, 1) := by decide +kernel
theorem dX1_ownerOfCells_18 : decode cX1_ownerOfCells 18 = .ok (.getfield 48, 3) := by decide +kernel
theorem dX1_ownerOfCells_21 : decode cX1_ownerOfCells 21 = .ok (.goto 4, 3) := by decide +kernel
theorem dX1_ownerOfCells_24 : decode cX1_ownerOfCells 24 = .ok (.iload_n 1, 1) := by decide +kernel
theorem dX1_ownerOfCells_25 : decode cX1_ownerOfCells 25 = .ok (.ireturn, 1) := by decide +kernel
theorem dX1_firstCell_0 : decode cX1_firstCell 0 = .ok (.aload_n 1, 1) := by decide +kernel
theorem dX1_firstCell_1 : decode cX1_firstCell 1 = .ok (.getfield 39, 3) := by decide +kernel
theorem dX1_firstCell_4 : decode cX1_firstCell 4 = .ok (.lookupswitch 49 #[(5, 44), (6, 44), (15, 44), (17, 44)], 44) := by decide +kernel
theorem dX1_firstCell_48 : decode cX1_firstCell 48 = .ok (.aload_n 1, 1) := by decide +kernel
theorem dX1_firstCell_49 : decode cX1_firstCell 49 = .ok (.getfield 51, 3) := by decide +kernel
theorem dX1_firstCell_52 : decode cX1_firstCell 52 = .ok (.ireturn, 1) := by decide +kernel
theorem dX1_firstCell_53 : decode cX1_firstCell 53 = .ok (.aload_n 1, 1) := by decide +kernel
theorem dX1_firstCell_54 : decode cX1_firstCell 54 = .ok (.getfield 48, 3) := by decide +kernel
theorem dX1_firstCell_57 : decode cX1_firstCell 57 = .ok (.ireturn, 1) := by decide +kernel
theorem dX1_cellsNamed_0 : decode cX1_cellsNamed 0 = .ok (.aload_n 1, 1) := by decide +kernel
theorem dX1_cellsNamed_1 : decode cX1_cellsNamed 1 = .ok (.getfield 39, 3) := by decide +kernel
theorem dX1_cellsNamed_4 : decode cX1_cellsNamed 4 = .ok (.tableswitch 118 1 17 #[84, 84, 86, 86, 84, 84, 118, 118, 118, 118, 118, 84, 84, 118, 91, 118, 103], 84) := by decide +kernel
theorem dX1_cellsNamed_88 : decode cX1_cellsNamed 88 = .ok (.iconst 1, 1) := by decide +kernel
theorem dX1_cellsNamed_89 : decode cX1_cellsNamed 89 = .ok (.ireturn, 1) := by decide +kernel
theorem dX1_cellsNamed_90 : decode cX1_cellsNamed 90 = .ok (.aload_n 1, 1) := by decide +kernel
theorem dX1_cellsNamed_91 : decode cX1_cellsNamed 91 = .ok (.getfield 45, 3) := by decide +kernel
theorem dX1_cellsNamed_94 : decode cX1_cellsNamed 94 = .ok (.ireturn, 1) := by decide +kernel
theorem dX1_cellsNamed_95 : decode cX1_cellsNamed 95 = .ok (.aload_n 0, 1) := by decide +kernel
theorem dX1_cellsNamed_96 : decode cX1_cellsNamed 96 = .ok (.getfield 9, 3) := by decide +kernel
theorem dX1_cellsNamed_99 : decode cX1_cellsNamed 99 = .ok (.aload_n 1, 1) := by decide +kernel
theorem dX1_cellsNamed_100 : decode cX1_cellsNamed 100 = .ok (.getfield 48, 3) := by decide +kernel
theorem dX1_cellsNamed_103 : decode cX1_cellsNamed 103 = .ok (.invokevirtual 70, 3) := by decide +kernel
theorem dX1_cellsNamed_106 : decode cX1_cellsNamed 106 = .ok (.ireturn, 1) := by decide +kernel
theorem dX1_cellsNamed_107 : decode cX1_cellsNamed 107 = .ok (.aload_n 1, 1) := by decide +kernel
theorem dX1_cellsNamed_108 : decode cX1_cellsNamed 108 = .ok (.getfield 48, 3) := by decide +kernel
theorem dX1_cellsNamed_111 : decode cX1_cellsNamed 111 = .ok (.iconst 4, 1) := by decide +kernel
theorem dX1_cellsNamed_112 : decode cX1_cellsNamed 112 = .ok (.if_icmp .gt 8, 3) := by decide +kernel
theorem dX1_cellsNamed_115 : decode cX1_cellsNamed 115 = .ok (.bipush 6, 2) := by decide +kernel
theorem dX1_cellsNamed_117 : decode cX1_cellsNamed 117 = .ok (.goto 4, 3) := by decide +kernel
theorem dX1_cellsNamed_120 : decode cX1_cellsNamed 120 = .ok (.iconst 3, 1) := by decide +kernel
theorem dX1_cellsNamed_121 : decode cX1_cellsNamed 121 = .ok (.ireturn, 1) := by decide +kernel
theorem dX1_cellsNamed_122 : decode cX1_cellsNamed 122 = .ok (.iconst (-1), 1) := by decide +kernel
theorem dX1_cellsNamed_123 : decode cX1_cellsNamed 123 = .ok (.ireturn, 1) := by decide +kernel
theorem dX2_init_0 : decode cX2_init 0 = .ok (.aload_n 0, 1) := by decide +kernel
theorem dX2_init_1 : decode cX2_init 1 = .ok (.invokespecial 3, 3) := by decide +kernel
theorem dX2_init_4 : decode cX2_init 4 = .ok (.aload_n 0, 1) := by decide +kernel
theorem dX2_init_5 : decode cX2_init 5 = .ok (.iconst (-1), 1) := by decide +kernel
theorem dX2_init_6 : decode cX2_init 6 = .ok (.putfield 9, 3) := by decide +kernel
theorem dX2_init_9 : decode cX2_init 9 = .ok (.return_, 1) := by decide +kernel
theorem dX2_become_0 : decode cX2_become 0 = .ok (.aload_n 0, 1) := by decide +kernel
theorem dX2_become_1 : decode cX2_become 1 = .ok (.iload_n 1, 1) := by decide +kernel
theorem dX2_become_2 : decode cX2_become 2 = .ok (.putfield 9, 3) := by decide +kernel
theorem dX2_become_5 : decode cX2_become 5 = .ok (.aload_n 0, 1) := by decide +kernel
theorem dX2_become_6 : decode cX2_become 6 = .ok (.iload_n 2, 1) := by decide +kernel
theorem dX2_become_7 : decode cX2_become 7 = .ok (.putfield 15, 3) := by decide +kernel
theorem dX2_become_10 : decode cX2_become 10 = .ok (.aload_n 0, 1) := by decide +kernel
theorem dX2_become_11 : decode cX2_become 11 = .ok (.iload_n 3, 1) := by decide +kernel
theorem dX2_become_12 : decode cX2_become 12 = .ok (.putfield 18, 3) := by decide +kernel
theorem dX2_become_15 : decode cX2_become 15 = .ok (.aload_n 0, 1) := by decide +kernel
theorem dX2_become_16 : decode cX2_become 16 = .ok (.iload 4, 2) := by decide +kernel
theorem dX2_become_18 : decode cX2_become 18 = .ok (.putfield 21, 3) := by decide +kernel
theorem dX2_become_21 : decode cX2_become 21 = .ok (.return_, 1) := by decide +kernel
theorem dX2_namesCounter_0 : decode cX2_namesCounter 0 = .ok (.aload_n 0, 1) := by decide +kernel
theorem dX2_namesCounter_1 : decode cX2_namesCounter 1 = .ok (.getfield 9, 3) := by decide +kernel
theorem dX2_namesCounter_4 : decode cX2_namesCounter 4 = .ok (.bipush 12, 2) := by decide +kernel
theorem dX2_namesCounter_6 : decode cX2_namesCounter 6 = .ok (.if_icmp .eq 12, 3) := by decide +kernel
theorem dX2_namesCounter_9 : decode cX2_namesCounter 9 = .ok (.aload_n 0, 1) := by decide +kernel
theorem dX2_namesCounter_10 : decode cX2_namesCounter 10 = .ok (.getfield 9, 3) := by decide +kernel
theorem dX2_namesCounter_13 : decode cX2_namesCounter 13 = .ok (.bipush 13, 2) := by decide +kernel
theorem dX2_namesCounter_15 : decode cX2_namesCounter 15 = .ok (.if_icmp .ne 7, 3) := by decide +kernel
theorem dX2_namesCounter_18 : decode cX2_namesCounter 18 = .ok (.iconst 1, 1) := by decide +kernel
theorem dX2_namesCounter_19 : decode cX2_namesCounter 19 = .ok (.goto 4, 3) := by decide +kernel
theorem dX2_namesCounter_22 : decode cX2_namesCounter 22 = .ok (.iconst 0, 1) := by decide +kernel
theorem dX2_namesCounter_23 : decode cX2_namesCounter 23 = .ok (.ireturn, 1) := by decide +kernel
theorem dX2_beginsUnit_0 : decode cX2_beginsUnit 0 = .ok (.aload_n 0, 1) := by decide +kernel
theorem dX2_beginsUnit_1 : decode cX2_beginsUnit 1 = .ok (.getfield 9, 3) := by decide +kernel
theorem dX2_beginsUnit_4 : decode cX2_beginsUnit 4 = .ok (.bipush 15, 2) := by decide +kernel
theorem dX2_beginsUnit_6 : decode cX2_beginsUnit 6 = .ok (.if_icmp .eq 12, 3) := by decide +kernel
theorem dX2_beginsUnit_9 : decode cX2_beginsUnit 9 = .ok (.aload_n 0, 1) := by decide +kernel
theorem dX2_beginsUnit_10 : decode cX2_beginsUnit 10 = .ok (.getfield 9, 3) := by decide +kernel
theorem dX2_beginsUnit_13 : decode cX2_beginsUnit 13 = .ok (.bipush 16, 2) := by decide +kernel
theorem dX2_beginsUnit_15 : decode cX2_beginsUnit 15 = .ok (.if_icmp .ne 7, 3) := by decide +kernel
theorem dX2_beginsUnit_18 : decode cX2_beginsUnit 18 = .ok (.iconst 1, 1) := by decide +kernel
theorem dX2_beginsUnit_19 : decode cX2_beginsUnit 19 = .ok (.goto 4, 3) := by decide +kernel
theorem dX2_beginsUnit_22 : decode cX2_beginsUnit 22 = .ok (.iconst 0, 1) := by decide +kernel
theorem dX2_beginsUnit_23 : decode cX2_beginsUnit 23 = .ok (.ireturn, 1) := by decide +kernel
theorem dX3_init_0 : decode cX3_init 0 = .ok (.aload_n 0, 1) := by decide +kernel
theorem dX3_init_1 : decode cX3_init 1 = .ok (.aload_n 1, 1) := by decide +kernel
theorem dX3_init_2 : decode cX3_init 2 = .ok (.invokespecial 3, 3) := by decide +kernel
theorem dX3_init_5 : decode cX3_init 5 = .ok (.aload_n 0, 1) := by decide +kernel
theorem dX3_init_6 : decode cX3_init 6 = .ok (.sipush 256, 3) := by decide +kernel
theorem dX3_init_9 : decode cX3_init 9 = .ok (.newarray .int, 2) := by decide +kernel
theorem dX3_init_11 : decode cX3_init 11 = .ok (.putfield 9, 3) := by decide +kernel
theorem dX3_init_14 : decode cX3_init 14 = .ok (.return_, 1) := by decide +kernel
theorem dX3_open_0 : decode cX3_open 0 = .ok (.aload_n 0, 1) := by decide +kernel
theorem dX3_open_1 : decode cX3_open 1 = .ok (.iconst 0, 1) := by decide +kernel
theorem dX3_open_2 : decode cX3_open 2 = .ok (.putfield 15, 3) := by decide +kernel
theorem dX3_open_5 : decode cX3_open 5 = .ok (.aload_n 0, 1) := by decide +kernel
theorem dX3_open_6 : decode cX3_open 6 = .ok (.getfield 19, 3) := by decide +kernel
theorem dX3_open_9 : decode cX3_open 9 = .ok (.iload_n 1, 1) := by decide +kernel
theorem dX3_open_10 : decode cX3_open 10 = .ok (.invokevirtual 23, 3) := by decide +kernel
theorem dX3_open_13 : decode cX3_open 13 = .ok (.istore_n 2, 1) := by decide +kernel
theorem dX3_open_14 : decode cX3_open 14 = .ok (.iconst 0, 1) := by decide +kernel
theorem dX3_open_15 : decode cX3_open 15 = .ok (.istore_n 3, 1) := by decide +kernel
theorem dX3_open_16 : decode cX3_open 16 = .ok (.iload_n 3, 1) := by decide +kernel
theorem dX3_open_17 : decode cX3_open 17 = .ok (.iload_n 2, 1) := by decide +kernel
theorem dX3_open_18 : decode cX3_open 18 = .ok (.if_icmp .ge 56, 3) := by decide +kernel
theorem dX3_open_21 : decode cX3_open 21 = .ok (.aload_n 0, 1) := by decide +kernel
theorem dX3_open_22 : decode cX3_open 22 = .ok (.getfield 19, 3) := by decide +kernel
theorem dX3_open_25 : decode cX3_open 25 = .ok (.iload_n 1, 1) := by decide +kernel
theorem dX3_open_26 : decode cX3_open 26 = .ok (.iload_n 3, 1) := by decide +kernel
theorem dX3_open_27 : decode cX3_open 27 = .ok (.invokevirtual 29, 3) := by decide +kernel
theorem dX3_open_30 : decode cX3_open 30 = .ok (.getfield 33, 3) := by decide +kernel
theorem dX3_open_33 : decode cX3_open 33 = .ok (.bipush 13, 2) := by decide +kernel
theorem dX3_open_35 : decode cX3_open 35 = .ok (.if_icmp .ne 33, 3) := by decide +kernel
theorem dX3_open_38 : decode cX3_open 38 = .ok (.aload_n 0, 1) := by decide +kernel
theorem dX3_open_39 : decode cX3_open 39 = .ok (.getfield 15, 3) := by decide +kernel
theorem dX3_open_42 : decode cX3_open 42 = .ok (.sipush 256, 3) := by decide +kernel
theorem dX3_open_45 : decode cX3_open 45 = .ok (.if_icmp .ge 23, 3) := by decide +kernel
theorem dX3_open_48 : decode cX3_open 48 = .ok (.aload_n 0, 1) := by decide +kernel
theorem dX3_open_49 : decode cX3_open 49 = .ok (.getfield 9, 3) := by decide +kernel
theorem dX3_open_52 : decode cX3_open 52 = .ok (.aload_n 0, 1) := by decide +kernel
theorem dX3_open_53 : decode cX3_open 53 = .ok (.getfield 15, 3) := by decide +kernel
theorem dX3_open_56 : decode cX3_open 56 = .ok (.iload_n 3, 1) := by decide +kernel
theorem dX3_open_57 : decode cX3_open 57 = .ok (.iastore, 1) := by decide +kernel
theorem dX3_open_58 : decode cX3_open 58 = .ok (.aload_n 0, 1) := by decide +kernel
theorem dX3_open_59 : decode cX3_open 59 = .ok (.dup, 1) := by decide +kernel
theorem dX3_open_60 : decode cX3_open 60 = .ok (.getfield 15, 3) := by decide +kernel
theorem dX3_open_63 : decode cX3_open 63 = .ok (.iconst 1, 1) := by decide +kernel
theorem dX3_open_64 : decode cX3_open 64 = .ok (.iadd, 1) := by decide +kernel
theorem dX3_open_65 : decode cX3_open 65 = .ok (.putfield 15, 3) := by decide +kernel
theorem dX3_open_68 : decode cX3_open 68 = .ok (.iinc 3 1, 3) := by decide +kernel
theorem dX3_open_71 : decode cX3_open 71 = .ok (.goto (-55), 3) := by decide +kernel
theorem dX3_open_74 : decode cX3_open 74 = .ok (.return_, 1) := by decide +kernel
theorem dX3_faultAt_0 : decode cX3_faultAt 0 = .ok (.aload_n 0, 1) := by decide +kernel
theorem dX3_faultAt_1 : decode cX3_faultAt 1 = .ok (.getfield 19, 3) := by decide +kernel
theorem dX3_faultAt_4 : decode cX3_faultAt 4 = .ok (.iload_n 1, 1) := by decide +kernel
theorem dX3_faultAt_5 : decode cX3_faultAt 5 = .ok (.iload_n 2, 1) := by decide +kernel
theorem dX3_faultAt_6 : decode cX3_faultAt 6 = .ok (.invokevirtual 29, 3) := by decide +kernel
theorem dX3_faultAt_9 : decode cX3_faultAt 9 = .ok (.astore_n 3, 1) := by decide +kernel
theorem dX3_faultAt_10 : decode cX3_faultAt 10 = .ok (.aload_n 3, 1) := by decide +kernel
theorem dX3_faultAt_11 : decode cX3_faultAt 11 = .ok (.getfield 33, 3) := by decide +kernel
theorem dX3_faultAt_14 : decode cX3_faultAt 14 = .ok (.tableswitch 85 10 14 #[34, 34, 49, 61, 73], 34) := by decide +kernel
theorem dX3_faultAt_48 : decode cX3_faultAt 48 = .ok (.aload_n 0, 1) := by decide +kernel
theorem dX3_faultAt_49 : decode cX3_faultAt 49 = .ok (.iload_n 1, 1) := by decide +kernel
theorem dX3_faultAt_50 : decode cX3_faultAt 50 = .ok (.iload_n 2, 1) := by decide +kernel
theorem dX3_faultAt_51 : decode cX3_faultAt 51 = .ok (.aload_n 3, 1) := by decide +kernel
theorem dX3_faultAt_52 : decode cX3_faultAt 52 = .ok (.getfield 38, 3) := by decide +kernel
theorem dX3_faultAt_55 : decode cX3_faultAt 55 = .ok (.invokevirtual 41, 3) := by decide +kernel
theorem dX3_faultAt_58 : decode cX3_faultAt 58 = .ok (.istore 4, 2) := by decide +kernel
theorem dX3_faultAt_60 : decode cX3_faultAt 60 = .ok (.goto 42, 3) := by decide +kernel
theorem dX3_faultAt_63 : decode cX3_faultAt 63 = .ok (.aload_n 0, 1) := by decide +kernel
theorem dX3_faultAt_64 : decode cX3_faultAt 64 = .ok (.iload_n 1, 1) := by decide +kernel
theorem dX3_faultAt_65 : decode cX3_faultAt 65 = .ok (.iload_n 2, 1) := by decide +kernel
theorem dX3_faultAt_66 : decode cX3_faultAt 66 = .ok (.aload_n 3, 1) := by decide +kernel
theorem dX3_faultAt_67 : decode cX3_faultAt 67 = .ok (.invokevirtual 45, 3) := by decide +kernel
theorem dX3_faultAt_70 : decode cX3_faultAt 70 = .ok (.istore 4, 2) := by decide +kernel
theorem dX3_faultAt_72 : decode cX3_faultAt 72 = .ok (.goto 30, 3) := by decide +kernel
theorem dX3_faultAt_75 : decode cX3_faultAt 75 = .ok (.aload_n 0, 1) := by decide +kernel
theorem dX3_faultAt_76 : decode cX3_faultAt 76 = .ok (.iload_n 1, 1) := by decide +kernel
theorem dX3_faultAt_77 : decode cX3_faultAt 77 = .ok (.iload_n 2, 1) := by decide +kernel
theorem dX3_faultAt_78 : decode cX3_faultAt 78 = .ok (.aload_n 3, 1) := by decide +kernel
theorem dX3_faultAt_79 : decode cX3_faultAt 79 = .ok (.invokevirtual 49, 3) := by decide +kernel
theorem dX3_faultAt_82 : decode cX3_faultAt 82 = .ok (.istore 4, 2) := by decide +kernel
theorem dX3_faultAt_84 : decode cX3_faultAt 84 = .ok (.goto 18, 3) := by decide +kernel
theorem dX3_faultAt_87 : decode cX3_faultAt 87 = .ok (.aload_n 0, 1) := by decide +kernel
theorem dX3_faultAt_88 : decode cX3_faultAt 88 = .ok (.iload_n 1, 1) := by decide +kernel
theorem dX3_faultAt_89 : decode cX3_faultAt 89 = .ok (.iload_n 2, 1) := by decide +kernel
theorem dX3_faultAt_90 : decode cX3_faultAt 90 = .ok (.aload_n 3, 1) := by decide +kernel
theorem dX3_faultAt_91 : decode cX3_faultAt 91 = .ok (.invokevirtual 52, 3) := by decide +kernel
theorem dX3_faultAt_94 : decode cX3_faultAt 94 = .ok (.istore 4, 2) := by decide +kernel
theorem dX3_faultAt_96 : decode cX3_faultAt 96 = .ok (.goto 6, 3) := by decide +kernel
theorem dX3_faultAt_99 : decode cX3_faultAt 99 = .ok (.iconst 0, 1) := by decide +kernel
theorem dX3_faultAt_100 : decode cX3_faultAt 100 = .ok (.istore 4, 2) := by decide +kernel
theorem dX3_faultAt_102 : decode cX3_faultAt 102 = .ok (.iload 4, 2) := by decide +kernel
theorem dX3_faultAt_104 : decode cX3_faultAt 104 = .ok (.ifCond .eq 8, 3) := by decide +kernel
theorem dX3_faultAt_107 : decode cX3_faultAt 107 = .ok (.bipush 7, 2) := by decide +kernel
theorem dX3_faultAt_109 : decode cX3_faultAt 109 = .ok (.goto 4, 3) := by decide +kernel
theorem dX3_faultAt_112 : decode cX3_faultAt 112 = .ok (.iconst 0, 1) := by decide +kernel
theorem dX3_faultAt_113 : decode cX3_faultAt 113 = .ok (.ireturn, 1) := by decide +kernel
theorem dX3_goesIntoLoop_0 : decode cX3_goesIntoLoop 0 = .ok (.iconst 0, 1) := by decide +kernel
theorem dX3_goesIntoLoop_1 : decode cX3_goesIntoLoop 1 = .ok (.istore 4, 2) := by decide +kernel
theorem dX3_goesIntoLoop_3 : decode cX3_goesIntoLoop 3 = .ok (.iload 4, 2) := by decide +kernel
theorem dX3_goesIntoLoop_5 : decode cX3_goesIntoLoop 5 = .ok (.aload_n 0, 1) := by decide +kernel
theorem dX3_goesIntoLoop_6 : decode cX3_goesIntoLoop 6 = .ok (.getfield 15, 3) := by decide +kernel
theorem dX3_goesIntoLoop_9 : decode cX3_goesIntoLoop 9 = .ok (.if_icmp .ge 83, 3) := by decide +kernel
theorem dX3_goesIntoLoop_12 : decode cX3_goesIntoLoop 12 = .ok (.aload_n 0, 1) := by decide +kernel
theorem dX3_goesIntoLoop_13 : decode cX3_goesIntoLoop 13 = .ok (.getfield 9, 3) := by decide +kernel
theorem dX3_goesIntoLoop_16 : decode cX3_goesIntoLoop 16 = .ok (.iload 4, 2) := by decide +kernel
theorem dX3_goesIntoLoop_18 : decode cX3_goesIntoLoop 18 = .ok (.iaload, 1) := by decide +kernel
theorem dX3_goesIntoLoop_19 : decode cX3_goesIntoLoop 19 = .ok (.istore 5, 2) := by decide +kernel
theorem dX3_goesIntoLoop_21 : decode cX3_goesIntoLoop 21 = .ok (.aload_n 0, 1) := by decide +kernel
theorem dX3_goesIntoLoop_22 : decode cX3_goesIntoLoop 22 = .ok (.getfield 19, 3) := by decide +kernel
theorem dX3_goesIntoLoop_25 : decode cX3_goesIntoLoop 25 = .ok (.iload_n 1, 1) := by decide +kernel
theorem dX3_goesIntoLoop_26 : decode cX3_goesIntoLoop 26 = .ok (.iload 5, 2) := by decide +kernel
theorem dX3_goesIntoLoop_28 : decode cX3_goesIntoLoop 28 = .ok (.invokevirtual 29, 3) := by decide +kernel
theorem dX3_goesIntoLoop_31 : decode cX3_goesIntoLoop 31 = .ok (.getfield 55, 3) := by decide +kernel
theorem dX3_goesIntoLoop_34 : decode cX3_goesIntoLoop 34 = .ok (.istore 6, 2) := by decide +kernel
theorem dX3_goesIntoLoop_36 : decode cX3_goesIntoLoop 36 = .ok (.iload_n 3, 1) := by decide +kernel
theorem dX3_goesIntoLoop_37 : decode cX3_goesIntoLoop 37 = .ok (.iload 5, 2) := by decide +kernel
theorem dX3_goesIntoLoop_39 : decode cX3_goesIntoLoop 39 = .ok (.if_icmp .lt 13, 3) := by decide +kernel
theorem dX3_goesIntoLoop_42 : decode cX3_goesIntoLoop 42 = .ok (.iload_n 3, 1) := by decide +kernel
theorem dX3_goesIntoLoop_43 : decode cX3_goesIntoLoop 43 = .ok (.iload 6, 2) := by decide +kernel
theorem dX3_goesIntoLoop_45 : decode cX3_goesIntoLoop 45 = .ok (.if_icmp .ge 7, 3) := by decide +kernel
theorem dX3_goesIntoLoop_48 : decode cX3_goesIntoLoop 48 = .ok (.iconst 1, 1) := by decide +kernel
theorem dX3_goesIntoLoop_49 : decode cX3_goesIntoLoop 49 = .ok (.goto 4, 3) := by decide +kernel
theorem dX3_goesIntoLoop_52 : decode cX3_goesIntoLoop 52 = .ok (.iconst 0, 1) := by decide +kernel
theorem dX3_goesIntoLoop_53 : decode cX3_goesIntoLoop 53 = .ok (.istore 7, 2) := by decide +kernel
theorem dX3_goesIntoLoop_55 : decode cX3_goesIntoLoop 55 = .ok (.iload_n 2, 1) := by decide +kernel
theorem dX3_goesIntoLoop_56 : decode cX3_goesIntoLoop 56 = .ok (.iload 5, 2) := by decide +kernel
theorem dX3_goesIntoLoop_58 : decode cX3_goesIntoLoop 58 = .ok (.if_icmp .le 13, 3) := by decide +kernel
theorem dX3_goesIntoLoop_61 : decode cX3_goesIntoLoop 61 = .ok (.iload_n 2, 1) := by decide +kernel
theorem dX3_goesIntoLoop_62 : decode cX3_goesIntoLoop 62 = .ok (.iload 6, 2) := by decide +kernel
theorem dX3_goesIntoLoop_64 : decode cX3_goesIntoLoop 64 = .ok (.if_icmp .ge 7, 3) := by decide +kernel
theorem dX3_goesIntoLoop_67 : decode cX3_goesIntoLoop 67 = .ok (.iconst 1, 1) := by decide +kernel
theorem dX3_goesIntoLoop_68 : decode cX3_goesIntoLoop 68 = .ok (.goto 4, 3) := by decide +kernel
theorem dX3_goesIntoLoop_71 : decode cX3_goesIntoLoop 71 = .ok (.iconst 0, 1) := by decide +kernel
theorem dX3_goesIntoLoop_72 : decode cX3_goesIntoLoop 72 = .ok (.istore 8, 2) := by decide +kernel
theorem dX3_goesIntoLoop_74 : decode cX3_goesIntoLoop 74 = .ok (.iload 7, 2) := by decide +kernel
theorem dX3_goesIntoLoop_76 : decode cX3_goesIntoLoop 76 = .ok (.ifCond .eq 10, 3) := by decide +kernel
theorem dX3_goesIntoLoop_79 : decode cX3_goesIntoLoop 79 = .ok (.iload 8, 2) := by decide +kernel
theorem dX3_goesIntoLoop_81 : decode cX3_goesIntoLoop 81 = .ok (.ifCond .ne 5, 3) := by decide +kernel
theorem dX3_goesIntoLoop_84 : decode cX3_goesIntoLoop 84 = .ok (.iconst 1, 1) := by decide +kernel
theorem dX3_goesIntoLoop_85 : decode cX3_goesIntoLoop 85 = .ok (.ireturn, 1) := by decide +kernel
theorem dX3_goesIntoLoop_86 : decode cX3_goesIntoLoop 86 = .ok (.iinc 4 1, 3) := by decide +kernel
theorem dX3_goesIntoLoop_89 : decode cX3_goesIntoLoop 89 = .ok (.goto (-86), 3) := by decide +kernel
theorem dX3_goesIntoLoop_92 : decode cX3_goesIntoLoop 92 = .ok (.iconst 0, 1) := by decide +kernel
theorem dX3_goesIntoLoop_93 : decode cX3_goesIntoLoop 93 = .ok (.ireturn, 1) := by decide +kernel
theorem dX3_isWrongCount_0 : decode cX3_isWrongCount 0 = .ok (.aload_n 0, 1) := by decide +kernel
theorem dX3_isWrongCount_1 : decode cX3_isWrongCount 1 = .ok (.getfield 19, 3) := by decide +kernel
theorem dX3_isWrongCount_4 : decode cX3_isWrongCount 4 = .ok (.iload_n 1, 1) := by decide +kernel
theorem dX3_isWrongCount_5 : decode cX3_isWrongCount 5 = .ok (.iload_n 2, 1) := by decide +kernel
theorem dX3_isWrongCount_6 : decode cX3_isWrongCount 6 = .ok (.iconst 1, 1) := by decide +kernel
theorem dX3_isWrongCount_7 : decode cX3_isWrongCount 7 = .ok (.iadd, 1) := by decide +kernel
theorem dX3_isWrongCount_8 : decode cX3_isWrongCount 8 = .ok (.invokevirtual 29, 3) := by decide +kernel
theorem dX3_isWrongCount_11 : decode cX3_isWrongCount 11 = .ok (.astore 4, 2) := by decide +kernel
theorem dX3_isWrongCount_13 : decode cX3_isWrongCount 13 = .ok (.aload 4, 2) := by decide +kernel
theorem dX3_isWrongCount_15 : decode cX3_isWrongCount 15 = .ok (.getfield 33, 3) := by decide +kernel
theorem dX3_isWrongCount_18 : decode cX3_isWrongCount 18 = .ok (.bipush 13, 2) := by decide +kernel
theorem dX3_isWrongCount_20 : decode cX3_isWrongCount 20 = .ok (.if_icmp .ne 15, 3) := by decide +kernel
theorem dX3_isWrongCount_23 : decode cX3_isWrongCount 23 = .ok (.aload 4, 2) := by decide +kernel
theorem dX3_isWrongCount_25 : decode cX3_isWrongCount 25 = .ok (.getfield 38, 3) := by decide +kernel
theorem dX3_isWrongCount_28 : decode cX3_isWrongCount 28 = .ok (.aload_n 3, 1) := by decide +kernel
theorem dX3_isWrongCount_29 : decode cX3_isWrongCount 29 = .ok (.getfield 38, 3) := by decide +kernel
theorem dX3_isWrongCount_32 : decode cX3_isWrongCount 32 = .ok (.if_icmp .eq 5, 3) := by decide +kernel
theorem dX3_isWrongCount_35 : decode cX3_isWrongCount 35 = .ok (.iconst 1, 1) := by decide +kernel
theorem dX3_isWrongCount_36 : decode cX3_isWrongCount 36 = .ok (.ireturn, 1) := by decide +kernel
theorem dX3_isWrongCount_37 : decode cX3_isWrongCount 37 = .ok (.iconst 0, 1) := by decide +kernel
theorem dX3_isWrongCount_38 : decode cX3_isWrongCount 38 = .ok (.istore 5, 2) := by decide +kernel
theorem dX3_isWrongCount_40 : decode cX3_isWrongCount 40 = .ok (.iload 5, 2) := by decide +kernel
theorem dX3_isWrongCount_42 : decode cX3_isWrongCount 42 = .ok (.aload_n 0, 1) := by decide +kernel
theorem dX3_isWrongCount_43 : decode cX3_isWrongCount 43 = .ok (.getfield 15, 3) := by decide +kernel
theorem dX3_isWrongCount_46 : decode cX3_isWrongCount 46 = .ok (.if_icmp .ge 60, 3) := by decide +kernel
theorem dX3_isWrongCount_49 : decode cX3_isWrongCount 49 = .ok (.aload_n 0, 1) := by decide +kernel
theorem dX3_isWrongCount_50 : decode cX3_isWrongCount 50 = .ok (.getfield 19, 3) := by decide +kernel
theorem dX3_isWrongCount_53 : decode cX3_isWrongCount 53 = .ok (.iload_n 1, 1) := by decide +kernel
theorem dX3_isWrongCount_54 : decode cX3_isWrongCount 54 = .ok (.aload_n 0, 1) := by decide +kernel
theorem dX3_isWrongCount_55 : decode cX3_isWrongCount 55 = .ok (.getfield 9, 3) := by decide +kernel
theorem dX3_isWrongCount_58 : decode cX3_isWrongCount 58 = .ok (.iload 5, 2) := by decide +kernel
theorem dX3_isWrongCount_60 : decode cX3_isWrongCount 60 = .ok (.iaload, 1) := by decide +kernel
theorem dX3_isWrongCount_61 : decode cX3_isWrongCount 61 = .ok (.invokevirtual 29, 3) := by decide +kernel
theorem dX3_isWrongCount_64 : decode cX3_isWrongCount 64 = .ok (.astore 6, 2) := by decide +kernel
theorem dX3_isWrongCount_66 : decode cX3_isWrongCount 66 = .ok (.aload 6, 2) := by decide +kernel
theorem dX3_isWrongCount_68 : decode cX3_isWrongCount 68 = .ok (.getfield 38, 3) := by decide +kernel
theorem dX3_isWrongCount_71 : decode cX3_isWrongCount 71 = .ok (.aload_n 3, 1) := by decide +kernel
theorem dX3_isWrongCount_72 : decode cX3_isWrongCount 72 = .ok (.getfield 38, 3) := by decide +kernel
theorem dX3_isWrongCount_75 : decode cX3_isWrongCount 75 = .ok (.if_icmp .ne 25, 3) := by decide +kernel
theorem dX3_isWrongCount_78 : decode cX3_isWrongCount 78 = .ok (.iload_n 2, 1) := by decide +kernel
theorem dX3_isWrongCount_79 : decode cX3_isWrongCount 79 = .ok (.aload_n 0, 1) := by decide +kernel
theorem dX3_isWrongCount_80 : decode cX3_isWrongCount 80 = .ok (.getfield 9, 3) := by decide +kernel
theorem dX3_isWrongCount_83 : decode cX3_isWrongCount 83 = .ok (.iload 5, 2) := by decide +kernel
theorem dX3_isWrongCount_85 : decode cX3_isWrongCount 85 = .ok (.iaload, 1) := by decide +kernel
theorem dX3_isWrongCount_86 : decode cX3_isWrongCount 86 = .ok (.if_icmp .le 14, 3) := by decide +kernel
theorem dX3_isWrongCount_89 : decode cX3_isWrongCount 89 = .ok (.iload_n 2, 1) := by decide +kernel
theorem dX3_isWrongCount_90 : decode cX3_isWrongCount 90 = .ok (.aload 6, 2) := by decide +kernel
theorem dX3_isWrongCount_92 : decode cX3_isWrongCount 92 = .ok (.getfield 55, 3) := by decide +kernel
theorem dX3_isWrongCount_95 : decode cX3_isWrongCount 95 = .ok (.if_icmp .ge 5, 3) := by decide +kernel
theorem dX3_isWrongCount_98 : decode cX3_isWrongCount 98 = .ok (.iconst 1, 1) := by decide +kernel
theorem dX3_isWrongCount_99 : decode cX3_isWrongCount 99 = .ok (.ireturn, 1) := by decide +kernel
theorem dX3_isWrongCount_100 : decode cX3_isWrongCount 100 = .ok (.iinc 5 1, 3) := by decide +kernel
theorem dX3_isWrongCount_103 : decode cX3_isWrongCount 103 = .ok (.goto (-63), 3) := by decide +kernel
theorem dX3_isWrongCount_106 : decode cX3_isWrongCount 106 = .ok (.iconst 0, 1) := by decide +kernel
theorem dX3_isWrongCount_107 : decode cX3_isWrongCount 107 = .ok (.ireturn, 1) := by decide +kernel
theorem dX3_isWrongNext_0 : decode cX3_isWrongNext 0 = .ok (.aload_n 0, 1) := by decide +kernel
theorem dX3_isWrongNext_1 : decode cX3_isWrongNext 1 = .ok (.getfield 19, 3) := by decide +kernel
theorem dX3_isWrongNext_4 : decode cX3_isWrongNext 4 = .ok (.iload_n 1, 1) := by decide +kernel
theorem dX3_isWrongNext_5 : decode cX3_isWrongNext 5 = .ok (.iload_n 2, 1) := by decide +kernel
theorem dX3_isWrongNext_6 : decode cX3_isWrongNext 6 = .ok (.iconst 1, 1) := by decide +kernel
theorem dX3_isWrongNext_7 : decode cX3_isWrongNext 7 = .ok (.isub, 1) := by decide +kernel
theorem dX3_isWrongNext_8 : decode cX3_isWrongNext 8 = .ok (.invokevirtual 29, 3) := by decide +kernel
theorem dX3_isWrongNext_11 : decode cX3_isWrongNext 11 = .ok (.astore 4, 2) := by decide +kernel
theorem dX3_isWrongNext_13 : decode cX3_isWrongNext 13 = .ok (.aload 4, 2) := by decide +kernel
theorem dX3_isWrongNext_15 : decode cX3_isWrongNext 15 = .ok (.getfield 33, 3) := by decide +kernel
theorem dX3_isWrongNext_18 : decode cX3_isWrongNext 18 = .ok (.bipush 12, 2) := by decide +kernel
theorem dX3_isWrongNext_20 : decode cX3_isWrongNext 20 = .ok (.if_icmp .ne 15, 3) := by decide +kernel
theorem dX3_isWrongNext_23 : decode cX3_isWrongNext 23 = .ok (.aload 4, 2) := by decide +kernel
theorem dX3_isWrongNext_25 : decode cX3_isWrongNext 25 = .ok (.getfield 38, 3) := by decide +kernel
theorem dX3_isWrongNext_28 : decode cX3_isWrongNext 28 = .ok (.aload_n 3, 1) := by decide +kernel
theorem dX3_isWrongNext_29 : decode cX3_isWrongNext 29 = .ok (.getfield 38, 3) := by decide +kernel
theorem dX3_isWrongNext_32 : decode cX3_isWrongNext 32 = .ok (.if_icmp .eq 5, 3) := by decide +kernel
theorem dX3_isWrongNext_35 : decode cX3_isWrongNext 35 = .ok (.iconst 1, 1) := by decide +kernel
theorem dX3_isWrongNext_36 : decode cX3_isWrongNext 36 = .ok (.ireturn, 1) := by decide +kernel
theorem dX3_isWrongNext_37 : decode cX3_isWrongNext 37 = .ok (.aload_n 0, 1) := by decide +kernel
theorem dX3_isWrongNext_38 : decode cX3_isWrongNext 38 = .ok (.getfield 19, 3) := by decide +kernel
theorem dX3_isWrongNext_41 : decode cX3_isWrongNext 41 = .ok (.iload_n 1, 1) := by decide +kernel
theorem dX3_isWrongNext_42 : decode cX3_isWrongNext 42 = .ok (.aload_n 3, 1) := by decide +kernel
theorem dX3_isWrongNext_43 : decode cX3_isWrongNext 43 = .ok (.getfield 55, 3) := by decide +kernel
theorem dX3_isWrongNext_46 : decode cX3_isWrongNext 46 = .ok (.iconst 1, 1) := by decide +kernel
theorem dX3_isWrongNext_47 : decode cX3_isWrongNext 47 = .ok (.isub, 1) := by decide +kernel
theorem dX3_isWrongNext_48 : decode cX3_isWrongNext 48 = .ok (.invokevirtual 29, 3) := by decide +kernel
theorem dX3_isWrongNext_51 : decode cX3_isWrongNext 51 = .ok (.astore 5, 2) := by decide +kernel
theorem dX3_isWrongNext_53 : decode cX3_isWrongNext 53 = .ok (.aload 5, 2) := by decide +kernel
theorem dX3_isWrongNext_55 : decode cX3_isWrongNext 55 = .ok (.getfield 33, 3) := by decide +kernel
theorem dX3_isWrongNext_58 : decode cX3_isWrongNext 58 = .ok (.bipush 14, 2) := by decide +kernel
theorem dX3_isWrongNext_60 : decode cX3_isWrongNext 60 = .ok (.if_icmp .ne 12, 3) := by decide +kernel
theorem dX3_isWrongNext_63 : decode cX3_isWrongNext 63 = .ok (.aload 5, 2) := by decide +kernel
theorem dX3_isWrongNext_65 : decode cX3_isWrongNext 65 = .ok (.getfield 38, 3) := by decide +kernel
theorem dX3_isWrongNext_68 : decode cX3_isWrongNext 68 = .ok (.iload_n 2, 1) := by decide +kernel
theorem dX3_isWrongNext_69 : decode cX3_isWrongNext 69 = .ok (.if_icmp .eq 5, 3) := by decide +kernel
theorem dX3_isWrongNext_72 : decode cX3_isWrongNext 72 = .ok (.iconst 1, 1) := by decide +kernel
theorem dX3_isWrongNext_73 : decode cX3_isWrongNext 73 = .ok (.ireturn, 1) := by decide +kernel
theorem dX3_isWrongNext_74 : decode cX3_isWrongNext 74 = .ok (.iconst 0, 1) := by decide +kernel
theorem dX3_isWrongNext_75 : decode cX3_isWrongNext 75 = .ok (.istore 6, 2) := by decide +kernel
theorem dX3_isWrongNext_77 : decode cX3_isWrongNext 77 = .ok (.iload 6, 2) := by decide +kernel
theorem dX3_isWrongNext_79 : decode cX3_isWrongNext 79 = .ok (.aload_n 0, 1) := by decide +kernel
theorem dX3_isWrongNext_80 : decode cX3_isWrongNext 80 = .ok (.getfield 15, 3) := by decide +kernel
theorem dX3_isWrongNext_83 : decode cX3_isWrongNext 83 = .ok (.if_icmp .ge 57, 3) := by decide +kernel
theorem dX3_isWrongNext_86 : decode cX3_isWrongNext 86 = .ok (.aload_n 0, 1) := by decide +kernel
theorem dX3_isWrongNext_87 : decode cX3_isWrongNext 87 = .ok (.getfield 19, 3) := by decide +kernel
theorem dX3_isWrongNext_90 : decode cX3_isWrongNext 90 = .ok (.iload_n 1, 1) := by decide +kernel
theorem dX3_isWrongNext_91 : decode cX3_isWrongNext 91 = .ok (.aload_n 0, 1) := by decide +kernel
theorem dX3_isWrongNext_92 : decode cX3_isWrongNext 92 = .ok (.getfield 9, 3) := by decide +kernel
theorem dX3_isWrongNext_95 : decode cX3_isWrongNext 95 = .ok (.iload 6, 2) := by decide +kernel
theorem dX3_isWrongNext_97 : decode cX3_isWrongNext 97 = .ok (.iaload, 1) := by decide +kernel
theorem dX3_isWrongNext_98 : decode cX3_isWrongNext 98 = .ok (.invokevirtual 29, 3) := by decide +kernel
theorem dX3_isWrongNext_101 : decode cX3_isWrongNext 101 = .ok (.getfield 55, 3) := by decide +kernel
theorem dX3_isWrongNext_104 : decode cX3_isWrongNext 104 = .ok (.istore 7, 2) := by decide +kernel
theorem dX3_isWrongNext_106 : decode cX3_isWrongNext 106 = .ok (.iload_n 2, 1) := by decide +kernel
theorem dX3_isWrongNext_107 : decode cX3_isWrongNext 107 = .ok (.aload_n 0, 1) := by decide +kernel
theorem dX3_isWrongNext_108 : decode cX3_isWrongNext 108 = .ok (.getfield 9, 3) := by decide +kernel
theorem dX3_isWrongNext_111 : decode cX3_isWrongNext 111 = .ok (.iload 6, 2) := by decide +kernel
theorem dX3_isWrongNext_113 : decode cX3_isWrongNext 113 = .ok (.iaload, 1) := by decide +kernel
theorem dX3_isWrongNext_114 : decode cX3_isWrongNext 114 = .ok (.if_icmp .le 20, 3) := by decide +kernel
theorem dX3_isWrongNext_117 : decode cX3_isWrongNext 117 = .ok (.iload_n 2, 1) := by decide +kernel
theorem dX3_isWrongNext_118 : decode cX3_isWrongNext 118 = .ok (.iload 7, 2) := by decide +kernel
theorem dX3_isWrongNext_120 : decode cX3_isWrongNext 120 = .ok (.if_icmp .ge 14, 3) := by decide +kernel
theorem dX3_isWrongNext_123 : decode cX3_isWrongNext 123 = .ok (.aload_n 3, 1) := by decide +kernel
theorem dX3_isWrongNext_124 : decode cX3_isWrongNext 124 = .ok (.getfield 55, 3) := by decide +kernel
theorem dX3_isWrongNext_127 : decode cX3_isWrongNext 127 = .ok (.iload 7, 2) := by decide +kernel
theorem dX3_isWrongNext_129 : decode cX3_isWrongNext 129 = .ok (.if_icmp .le 5, 3) := by decide +kernel
theorem dX3_isWrongNext_132 : decode cX3_isWrongNext 132 = .ok (.iconst 1, 1) := by decide +kernel
theorem dX3_isWrongNext_133 : decode cX3_isWrongNext 133 = .ok (.ireturn, 1) := by decide +kernel
theorem dX3_isWrongNext_134 : decode cX3_isWrongNext 134 = .ok (.iinc 6 1, 3) := by decide +kernel
theorem dX3_isWrongNext_137 : decode cX3_isWrongNext 137 = .ok (.goto (-60), 3) := by decide +kernel
theorem dX3_isWrongNext_140 : decode cX3_isWrongNext 140 = .ok (.iconst 0, 1) := by decide +kernel
theorem dX3_isWrongNext_141 : decode cX3_isWrongNext 141 = .ok (.ireturn, 1) := by decide +kernel
theorem dX3_isWrongBack_0 : decode cX3_isWrongBack 0 = .ok (.aload_n 0, 1) := by decide +kernel
theorem dX3_isWrongBack_1 : decode cX3_isWrongBack 1 = .ok (.getfield 19, 3) := by decide +kernel
theorem dX3_isWrongBack_4 : decode cX3_isWrongBack 4 = .ok (.iload_n 1, 1) := by decide +kernel
theorem dX3_isWrongBack_5 : decode cX3_isWrongBack 5 = .ok (.aload_n 3, 1) := by decide +kernel
theorem dX3_isWrongBack_6 : decode cX3_isWrongBack 6 = .ok (.getfield 38, 3) := by decide +kernel
theorem dX3_isWrongBack_9 : decode cX3_isWrongBack 9 = .ok (.invokevirtual 29, 3) := by decide +kernel
theorem dX3_isWrongBack_12 : decode cX3_isWrongBack 12 = .ok (.astore 4, 2) := by decide +kernel
theorem dX3_isWrongBack_14 : decode cX3_isWrongBack 14 = .ok (.aload 4, 2) := by decide +kernel
theorem dX3_isWrongBack_16 : decode cX3_isWrongBack 16 = .ok (.getfield 33, 3) := by decide +kernel
theorem dX3_isWrongBack_19 : decode cX3_isWrongBack 19 = .ok (.bipush 13, 2) := by decide +kernel
theorem dX3_isWrongBack_21 : decode cX3_isWrongBack 21 = .ok (.if_icmp .ne 14, 3) := by decide +kernel
theorem dX3_isWrongBack_24 : decode cX3_isWrongBack 24 = .ok (.aload 4, 2) := by decide +kernel
theorem dX3_isWrongBack_26 : decode cX3_isWrongBack 26 = .ok (.getfield 55, 3) := by decide +kernel
theorem dX3_isWrongBack_29 : decode cX3_isWrongBack 29 = .ok (.iload_n 2, 1) := by decide +kernel
theorem dX3_isWrongBack_30 : decode cX3_isWrongBack 30 = .ok (.iconst 1, 1) := by decide +kernel
theorem dX3_isWrongBack_31 : decode cX3_isWrongBack 31 = .ok (.iadd, 1) := by decide +kernel
theorem dX3_isWrongBack_32 : decode cX3_isWrongBack 32 = .ok (.if_icmp .eq 7, 3) := by decide +kernel
theorem dX3_isWrongBack_35 : decode cX3_isWrongBack 35 = .ok (.iconst 1, 1) := by decide +kernel
theorem dX3_isWrongBack_36 : decode cX3_isWrongBack 36 = .ok (.goto 4, 3) := by decide +kernel
theorem dX3_isWrongBack_39 : decode cX3_isWrongBack 39 = .ok (.iconst 0, 1) := by decide +kernel
theorem dX3_isWrongBack_40 : decode cX3_isWrongBack 40 = .ok (.ireturn, 1) := by decide +kernel
theorem dX4_init_0 : decode cX4_init 0 = .ok (.aload_n 0, 1) := by decide +kernel
theorem dX4_init_1 : decode cX4_init 1 = .ok (.invokespecial 1, 3) := by decide +kernel
theorem dX4_init_4 : decode cX4_init 4 = .ok (.aload_n 0, 1) := by decide +kernel
theorem dX4_init_5 : decode cX4_init 5 = .ok (.aload_n 1, 1) := by decide +kernel
theorem dX4_init_6 : decode cX4_init 6 = .ok (.putfield 7, 3) := by decide +kernel
theorem dX4_init_9 : decode cX4_init 9 = .ok (.return_, 1) := by decide +kernel
theorem dX5_init_0 : decode cX5_init 0 = .ok (.aload_n 0, 1) := by decide +kernel
theorem dX5_init_1 : decode cX5_init 1 = .ok (.invokespecial 3, 3) := by decide +kernel
theorem dX5_init_4 : decode cX5_init 4 = .ok (.aload_n 0, 1) := by decide +kernel
theorem dX5_init_5 : decode cX5_init 5 = .ok (.iconst (-1), 1) := by decide +kernel
theorem dX5_init_6 : decode cX5_init 6 = .ok (.putfield 9, 3) := by decide +kernel
theorem dX5_init_9 : decode cX5_init 9 = .ok (.aload_n 0, 1) := by decide +kernel
theorem dX5_init_10 : decode cX5_init 10 = .ok (.iconst (-1), 1) := by decide +kernel
theorem dX5_init_11 : decode cX5_init 11 = .ok (.putfield 15, 3) := by decide +kernel
theorem dX5_init_14 : decode cX5_init 14 = .ok (.aload_n 0, 1) := by decide +kernel
theorem dX5_init_15 : decode cX5_init 15 = .ok (.aload_n 1, 1) := by decide +kernel
theorem dX5_init_16 : decode cX5_init 16 = .ok (.putfield 18, 3) := by decide +kernel
theorem dX5_init_19 : decode cX5_init 19 = .ok (.aload_n 0, 1) := by decide +kernel
theorem dX5_init_20 : decode cX5_init 20 = .ok (.new 22, 3) := by decide +kernel
theorem dX5_init_23 : decode cX5_init 23 = .ok (.dup, 1) := by decide +kernel
theorem dX5_init_24 : decode cX5_init 24 = .ok (.aload_n 1, 1) := by decide +kernel
theorem dX5_init_25 : decode cX5_init 25 = .ok (.invokespecial 24, 3) := by decide +kernel
theorem dX5_init_28 : decode cX5_init 28 = .ok (.putfield 27, 3) := by decide +kernel
theorem dX5_init_31 : decode cX5_init 31 = .ok (.aload_n 0, 1) := by decide +kernel
theorem dX5_init_32 : decode cX5_init 32 = .ok (.new 31, 3) := by decide +kernel
theorem dX5_init_35 : decode cX5_init 35 = .ok (.dup, 1) := by decide +kernel
theorem dX5_init_36 : decode cX5_init 36 = .ok (.aload_n 1, 1) := by decide +kernel
theorem dX5_init_37 : decode cX5_init 37 = .ok (.invokespecial 33, 3) := by decide +kernel
theorem dX5_init_40 : decode cX5_init 40 = .ok (.putfield 34, 3) := by decide +kernel
theorem dX5_init_43 : decode cX5_init 43 = .ok (.aload_n 0, 1) := by decide +kernel
theorem dX5_init_44 : decode cX5_init 44 = .ok (.new 38, 3) := by decide +kernel
theorem dX5_init_47 : decode cX5_init 47 = .ok (.dup, 1) := by decide +kernel
theorem dX5_init_48 : decode cX5_init 48 = .ok (.aload_n 1, 1) := by decide +kernel
theorem dX5_init_49 : decode cX5_init 49 = .ok (.invokespecial 40, 3) := by decide +kernel
theorem dX5_init_52 : decode cX5_init 52 = .ok (.putfield 41, 3) := by decide +kernel
theorem dX5_init_55 : decode cX5_init 55 = .ok (.aload_n 0, 1) := by decide +kernel
theorem dX5_init_56 : decode cX5_init 56 = .ok (.new 45, 3) := by decide +kernel
theorem dX5_init_59 : decode cX5_init 59 = .ok (.dup, 1) := by decide +kernel
theorem dX5_init_60 : decode cX5_init 60 = .ok (.aload_n 1, 1) := by decide +kernel
theorem dX5_init_61 : decode cX5_init 61 = .ok (.invokespecial 47, 3) := by decide +kernel
theorem dX5_init_64 : decode cX5_init 64 = .ok (.putfield 48, 3) := by decide +kernel
theorem dX5_init_67 : decode cX5_init 67 = .ok (.return_, 1) := by decide +kernel
theorem dX5_forget_0 : decode cX5_forget 0 = .ok (.aload_n 0, 1) := by decide +kernel
theorem dX5_forget_1 : decode cX5_forget 1 = .ok (.iconst 0, 1) := by decide +kernel
theorem dX5_forget_2 : decode cX5_forget 2 = .ok (.putfield 52, 3) := by decide +kernel
theorem dX5_forget_5 : decode cX5_forget 5 = .ok (.aload_n 0, 1) := by decide +kernel
theorem dX5_forget_6 : decode cX5_forget 6 = .ok (.iconst 0, 1) := by decide +kernel
theorem dX5_forget_7 : decode cX5_forget 7 = .ok (.iconst (-1), 1) := by decide +kernel
theorem dX5_forget_8 : decode cX5_forget 8 = .ok (.iconst (-1), 1) := by decide +kernel
theorem dX5_forget_9 : decode cX5_forget 9 = .ok (.invokevirtual 56, 3) := by decide +kernel
theorem dX5_forget_12 : decode cX5_forget 12 = .ok (.pop, 1) := by decide +kernel
theorem dX5_forget_13 : decode cX5_forget 13 = .ok (.return_, 1) := by decide +kernel
theorem dX5_accepts_0 : decode cX5_accepts 0 = .ok (.aload_n 0, 1) := by decide +kernel
theorem dX5_accepts_1 : decode cX5_accepts 1 = .ok (.getfield 52, 3) := by decide +kernel
theorem dX5_accepts_4 : decode cX5_accepts 4 = .ok (.ifCond .eq 18, 3) := by decide +kernel
theorem dX5_accepts_7 : decode cX5_accepts 7 = .ok (.aload_n 0, 1) := by decide +kernel
theorem dX5_accepts_8 : decode cX5_accepts 8 = .ok (.getfield 18, 3) := by decide +kernel
theorem dX5_accepts_11 : decode cX5_accepts 11 = .ok (.iload_n 1, 1) := by decide +kernel
theorem dX5_accepts_12 : decode cX5_accepts 12 = .ok (.invokevirtual 60, 3) := by decide +kernel
theorem dX5_accepts_15 : decode cX5_accepts 15 = .ok (.ifCond .eq 7, 3) := by decide +kernel
theorem dX5_accepts_18 : decode cX5_accepts 18 = .ok (.iconst 1, 1) := by decide +kernel
theorem dX5_accepts_19 : decode cX5_accepts 19 = .ok (.goto 4, 3) := by decide +kernel
theorem dX5_accepts_22 : decode cX5_accepts 22 = .ok (.iconst 0, 1) := by decide +kernel
theorem dX5_accepts_23 : decode cX5_accepts 23 = .ok (.ireturn, 1) := by decide +kernel
theorem dX5_search_0 : decode cX5_search 0 = .ok (.aload_n 0, 1) := by decide +kernel
theorem dX5_search_1 : decode cX5_search 1 = .ok (.invokevirtual 66, 3) := by decide +kernel
theorem dX5_search_4 : decode cX5_search 4 = .ok (.iconst 0, 1) := by decide +kernel
theorem dX5_search_5 : decode cX5_search 5 = .ok (.istore_n 1, 1) := by decide +kernel
theorem dX5_search_6 : decode cX5_search 6 = .ok (.iload_n 1, 1) := by decide +kernel
theorem dX5_search_7 : decode cX5_search 7 = .ok (.aload_n 0, 1) := by decide +kernel
theorem dX5_search_8 : decode cX5_search 8 = .ok (.getfield 18, 3) := by decide +kernel
theorem dX5_search_11 : decode cX5_search 11 = .ok (.getfield 69, 3) := by decide +kernel
theorem dX5_search_14 : decode cX5_search 14 = .ok (.if_icmp .ge 22, 3) := by decide +kernel
theorem dX5_search_17 : decode cX5_search 17 = .ok (.aload_n 0, 1) := by decide +kernel
theorem dX5_search_18 : decode cX5_search 18 = .ok (.iload_n 1, 1) := by decide +kernel
theorem dX5_search_19 : decode cX5_search 19 = .ok (.invokevirtual 72, 3) := by decide +kernel
theorem dX5_search_22 : decode cX5_search 22 = .ok (.ifCond .eq 8, 3) := by decide +kernel
theorem dX5_search_25 : decode cX5_search 25 = .ok (.aload_n 0, 1) := by decide +kernel
theorem dX5_search_26 : decode cX5_search 26 = .ok (.getfield 75, 3) := by decide +kernel
theorem dX5_search_29 : decode cX5_search 29 = .ok (.ireturn, 1) := by decide +kernel
theorem dX5_search_30 : decode cX5_search 30 = .ok (.iinc 1 1, 3) := by decide +kernel
theorem dX5_search_33 : decode cX5_search 33 = .ok (.goto (-27), 3) := by decide +kernel
theorem dX5_search_36 : decode cX5_search 36 = .ok (.aload_n 0, 1) := by decide +kernel
theorem dX5_search_37 : decode cX5_search 37 = .ok (.iconst 1, 1) := by decide +kernel
theorem dX5_search_38 : decode cX5_search 38 = .ok (.putfield 52, 3) := by decide +kernel
theorem dX5_search_41 : decode cX5_search 41 = .ok (.iconst 0, 1) := by decide +kernel
theorem dX5_search_42 : decode cX5_search 42 = .ok (.ireturn, 1) := by decide +kernel
theorem dX5_isRefused_0 : decode cX5_isRefused 0 = .ok (.aload_n 0, 1) := by decide +kernel
theorem dX5_isRefused_1 : decode cX5_isRefused 1 = .ok (.iload_n 1, 1) := by decide +kernel
theorem dX5_isRefused_2 : decode cX5_isRefused 2 = .ok (.invokevirtual 78, 3) := by decide +kernel
theorem dX5_isRefused_5 : decode cX5_isRefused 5 = .ok (.ifCond .eq 11, 3) := by decide +kernel
theorem dX5_isRefused_8 : decode cX5_isRefused 8 = .ok (.aload_n 0, 1) := by decide +kernel
theorem dX5_isRefused_9 : decode cX5_isRefused 9 = .ok (.iconst 1, 1) := by decide +kernel
theorem dX5_isRefused_10 : decode cX5_isRefused 10 = .ok (.iload_n 1, 1) := by decide +kernel
theorem dX5_isRefused_11 : decode cX5_isRefused 11 = .ok (.iconst (-1), 1) := by decide +kernel
theorem dX5_isRefused_12 : decode cX5_isRefused 12 = .ok (.invokevirtual 56, 3) := by decide +kernel
theorem dX5_isRefused_15 : decode cX5_isRefused 15 = .ok (.ireturn, 1) := by decide +kernel
theorem dX5_isRefused_16 : decode cX5_isRefused 16 = .ok (.aload_n 0, 1) := by decide +kernel
theorem dX5_isRefused_17 : decode cX5_isRefused 17 = .ok (.aload_n 0, 1) := by decide +kernel
theorem dX5_isRefused_18 : decode cX5_isRefused 18 = .ok (.getfield 27, 3) := by decide +kernel
theorem dX5_isRefused_21 : decode cX5_isRefused 21 = .ok (.iload_n 1, 1) := by decide +kernel
theorem dX5_isRefused_22 : decode cX5_isRefused 22 = .ok (.invokevirtual 81, 3) := by decide +kernel
theorem dX5_isRefused_25 : decode cX5_isRefused 25 = .ok (.ifCond .ne 27, 3) := by decide +kernel
theorem dX5_isRefused_28 : decode cX5_isRefused 28 = .ok (.aload_n 0, 1) := by decide +kernel
theorem dX5_isRefused_29 : decode cX5_isRefused 29 = .ok (.aload_n 0, 1) := by decide +kernel
theorem dX5_isRefused_30 : decode cX5_isRefused 30 = .ok (.getfield 34, 3) := by decide +kernel
theorem dX5_isRefused_33 : decode cX5_isRefused 33 = .ok (.iload_n 1, 1) := by decide +kernel
theorem dX5_isRefused_34 : decode cX5_isRefused 34 = .ok (.invokevirtual 81, 3) := by decide +kernel
theorem dX5_isRefused_37 : decode cX5_isRefused 37 = .ok (.ifCond .ne 15, 3) := by decide +kernel
theorem dX5_isRefused_40 : decode cX5_isRefused 40 = .ok (.aload_n 0, 1) := by decide +kernel
theorem dX5_isRefused_41 : decode cX5_isRefused 41 = .ok (.aload_n 0, 1) := by decide +kernel
theorem dX5_isRefused_42 : decode cX5_isRefused 42 = .ok (.getfield 41, 3) := by decide +kernel
theorem dX5_isRefused_45 : decode cX5_isRefused 45 = .ok (.iload_n 1, 1) := by decide +kernel
theorem dX5_isRefused_46 : decode cX5_isRefused 46 = .ok (.invokevirtual 81, 3) := by decide +kernel
theorem dX5_isRefused_49 : decode cX5_isRefused 49 = .ok (.ifCond .eq 5, 3) := by decide +kernel
theorem dX5_isRefused_52 : decode cX5_isRefused 52 = .ok (.iconst 1, 1) := by decide +kernel
theorem dX5_isRefused_53 : decode cX5_isRefused 53 = .ok (.ireturn, 1) := by decide +kernel
theorem dX5_isRefused_54 : decode cX5_isRefused 54 = .ok (.aload_n 0, 1) := by decide +kernel
theorem dX5_isRefused_55 : decode cX5_isRefused 55 = .ok (.getfield 48, 3) := by decide +kernel
theorem dX5_isRefused_58 : decode cX5_isRefused 58 = .ok (.iload_n 1, 1) := by decide +kernel
theorem dX5_isRefused_59 : decode cX5_isRefused 59 = .ok (.invokevirtual 85, 3) := by decide +kernel
theorem dX5_isRefused_62 : decode cX5_isRefused 62 = .ok (.ifCond .ne 18, 3) := by decide +kernel
theorem dX5_isRefused_65 : decode cX5_isRefused 65 = .ok (.aload_n 0, 1) := by decide +kernel
theorem dX5_isRefused_66 : decode cX5_isRefused 66 = .ok (.bipush 11, 2) := by decide +kernel
theorem dX5_isRefused_68 : decode cX5_isRefused 68 = .ok (.iload_n 1, 1) := by decide +kernel
theorem dX5_isRefused_69 : decode cX5_isRefused 69 = .ok (.iconst (-1), 1) := by decide +kernel
theorem dX5_isRefused_70 : decode cX5_isRefused 70 = .ok (.invokevirtual 56, 3) := by decide +kernel
theorem dX5_isRefused_73 : decode cX5_isRefused 73 = .ok (.ifCond .eq 7, 3) := by decide +kernel
theorem dX5_isRefused_76 : decode cX5_isRefused 76 = .ok (.iconst 1, 1) := by decide +kernel
theorem dX5_isRefused_77 : decode cX5_isRefused 77 = .ok (.goto 4, 3) := by decide +kernel
theorem dX5_isRefused_80 : decode cX5_isRefused 80 = .ok (.iconst 0, 1) := by decide +kernel
theorem dX5_isRefused_81 : decode cX5_isRefused 81 = .ok (.ireturn, 1) := by decide +kernel
theorem dX5_isMisplaced_0 : decode cX5_isMisplaced 0 = .ok (.aload_n 0, 1) := by decide +kernel
theorem dX5_isMisplaced_1 : decode cX5_isMisplaced 1 = .ok (.getfield 18, 3) := by decide +kernel
theorem dX5_isMisplaced_4 : decode cX5_isMisplaced 4 = .ok (.iload_n 1, 1) := by decide +kernel
theorem dX5_isMisplaced_5 : decode cX5_isMisplaced 5 = .ok (.invokevirtual 88, 3) := by decide +kernel
theorem dX5_isMisplaced_8 : decode cX5_isMisplaced 8 = .ok (.istore_n 2, 1) := by decide +kernel
theorem dX5_isMisplaced_9 : decode cX5_isMisplaced 9 = .ok (.iload_n 1, 1) := by decide +kernel
theorem dX5_isMisplaced_10 : decode cX5_isMisplaced 10 = .ok (.aload_n 0, 1) := by decide +kernel
theorem dX5_isMisplaced_11 : decode cX5_isMisplaced 11 = .ok (.getfield 18, 3) := by decide +kernel
theorem dX5_isMisplaced_14 : decode cX5_isMisplaced 14 = .ok (.invokevirtual 92, 3) := by decide +kernel
theorem dX5_isMisplaced_17 : decode cX5_isMisplaced 17 = .ok (.if_icmp .ne 9, 3) := by decide +kernel
theorem dX5_isMisplaced_20 : decode cX5_isMisplaced 20 = .ok (.iload_n 2, 1) := by decide +kernel
theorem dX5_isMisplaced_21 : decode cX5_isMisplaced 21 = .ok (.ifCond .eq 5, 3) := by decide +kernel
theorem dX5_isMisplaced_24 : decode cX5_isMisplaced 24 = .ok (.iconst 1, 1) := by decide +kernel
theorem dX5_isMisplaced_25 : decode cX5_isMisplaced 25 = .ok (.ireturn, 1) := by decide +kernel
theorem dX5_isMisplaced_26 : decode cX5_isMisplaced 26 = .ok (.aload_n 0, 1) := by decide +kernel
theorem dX5_isMisplaced_27 : decode cX5_isMisplaced 27 = .ok (.getfield 18, 3) := by decide +kernel
theorem dX5_isMisplaced_30 : decode cX5_isMisplaced 30 = .ok (.iload_n 1, 1) := by decide +kernel
theorem dX5_isMisplaced_31 : decode cX5_isMisplaced 31 = .ok (.invokevirtual 96, 3) := by decide +kernel
theorem dX5_isMisplaced_34 : decode cX5_isMisplaced 34 = .ok (.istore_n 3, 1) := by decide +kernel
theorem dX5_isMisplaced_35 : decode cX5_isMisplaced 35 = .ok (.iload_n 2, 1) := by decide +kernel
theorem dX5_isMisplaced_36 : decode cX5_isMisplaced 36 = .ok (.iconst (-1), 1) := by decide +kernel
theorem dX5_isMisplaced_37 : decode cX5_isMisplaced 37 = .ok (.if_icmp .eq 7, 3) := by decide +kernel
theorem dX5_isMisplaced_40 : decode cX5_isMisplaced 40 = .ok (.iload_n 3, 1) := by decide +kernel
theorem dX5_isMisplaced_41 : decode cX5_isMisplaced 41 = .ok (.ifCond .ne 5, 3) := by decide +kernel
theorem dX5_isMisplaced_44 : decode cX5_isMisplaced 44 = .ok (.iconst 0, 1) := by decide +kernel
theorem dX5_isMisplaced_45 : decode cX5_isMisplaced 45 = .ok (.ireturn, 1) := by decide +kernel
theorem dX5_isMisplaced_46 : decode cX5_isMisplaced 46 = .ok (.iload_n 2, 1) := by decide +kernel
theorem dX5_isMisplaced_47 : decode cX5_isMisplaced 47 = .ok (.iload_n 3, 1) := by decide +kernel
theorem dX5_isMisplaced_48 : decode cX5_isMisplaced 48 = .ok (.iadd, 1) := by decide +kernel
theorem dX5_isMisplaced_49 : decode cX5_isMisplaced 49 = .ok (.istore 4, 2) := by decide +kernel
theorem dX5_isMisplaced_51 : decode cX5_isMisplaced 51 = .ok (.iload 4, 2) := by decide +kernel
theorem dX5_isMisplaced_53 : decode cX5_isMisplaced 53 = .ok (.aload_n 0, 1) := by decide +kernel
theorem dX5_isMisplaced_54 : decode cX5_isMisplaced 54 = .ok (.getfield 18, 3) := by decide +kernel
theorem dX5_isMisplaced_57 : decode cX5_isMisplaced 57 = .ok (.getfield 99, 3) := by decide +kernel
theorem dX5_isMisplaced_60 : decode cX5_isMisplaced 60 = .ok (.if_icmp .le 5, 3) := by decide +kernel
theorem dX5_isMisplaced_63 : decode cX5_isMisplaced 63 = .ok (.iconst 1, 1) := by decide +kernel
theorem dX5_isMisplaced_64 : decode cX5_isMisplaced 64 = .ok (.ireturn, 1) := by decide +kernel
theorem dX5_isMisplaced_65 : decode cX5_isMisplaced 65 = .ok (.iconst 0, 1) := by decide +kernel
theorem dX5_isMisplaced_66 : decode cX5_isMisplaced 66 = .ok (.istore 5, 2) := by decide +kernel
theorem dX5_isMisplaced_68 : decode cX5_isMisplaced 68 = .ok (.iload 5, 2) := by decide +kernel
theorem dX5_isMisplaced_70 : decode cX5_isMisplaced 70 = .ok (.iload_n 1, 1) := by decide +kernel
theorem dX5_isMisplaced_71 : decode cX5_isMisplaced 71 = .ok (.if_icmp .ge 58, 3) := by decide +kernel
theorem dX5_isMisplaced_74 : decode cX5_isMisplaced 74 = .ok (.aload_n 0, 1) := by decide +kernel
theorem dX5_isMisplaced_75 : decode cX5_isMisplaced 75 = .ok (.getfield 18, 3) := by decide +kernel
theorem dX5_isMisplaced_78 : decode cX5_isMisplaced 78 = .ok (.iload 5, 2) := by decide +kernel
theorem dX5_isMisplaced_80 : decode cX5_isMisplaced 80 = .ok (.invokevirtual 88, 3) := by decide +kernel
theorem dX5_isMisplaced_83 : decode cX5_isMisplaced 83 = .ok (.istore 6, 2) := by decide +kernel
theorem dX5_isMisplaced_85 : decode cX5_isMisplaced 85 = .ok (.iload 6, 2) := by decide +kernel
theorem dX5_isMisplaced_87 : decode cX5_isMisplaced 87 = .ok (.aload_n 0, 1) := by decide +kernel
theorem dX5_isMisplaced_88 : decode cX5_isMisplaced 88 = .ok (.getfield 18, 3) := by decide +kernel
theorem dX5_isMisplaced_91 : decode cX5_isMisplaced 91 = .ok (.iload 5, 2) := by decide +kernel
theorem dX5_isMisplaced_93 : decode cX5_isMisplaced 93 = .ok (.invokevirtual 96, 3) := by decide +kernel
theorem dX5_isMisplaced_96 : decode cX5_isMisplaced 96 = .ok (.iadd, 1) := by decide +kernel
theorem dX5_isMisplaced_97 : decode cX5_isMisplaced 97 = .ok (.istore 7, 2) := by decide +kernel
theorem dX5_isMisplaced_99 : decode cX5_isMisplaced 99 = .ok (.iload 6, 2) := by decide +kernel
theorem dX5_isMisplaced_101 : decode cX5_isMisplaced 101 = .ok (.iconst (-1), 1) := by decide +kernel
theorem dX5_isMisplaced_102 : decode cX5_isMisplaced 102 = .ok (.if_icmp .eq 21, 3) := by decide +kernel
theorem dX5_isMisplaced_105 : decode cX5_isMisplaced 105 = .ok (.iload_n 2, 1) := by decide +kernel
theorem dX5_isMisplaced_106 : decode cX5_isMisplaced 106 = .ok (.iload 6, 2) := by decide +kernel
theorem dX5_isMisplaced_108 : decode cX5_isMisplaced 108 = .ok (.invokestatic 102, 3) := by decide +kernel
theorem dX5_isMisplaced_111 : decode cX5_isMisplaced 111 = .ok (.iload 4, 2) := by decide +kernel
theorem dX5_isMisplaced_113 : decode cX5_isMisplaced 113 = .ok (.iload 7, 2) := by decide +kernel
theorem dX5_isMisplaced_115 : decode cX5_isMisplaced 115 = .ok (.invokestatic 108, 3) := by decide +kernel
theorem dX5_isMisplaced_118 : decode cX5_isMisplaced 118 = .ok (.if_icmp .ge 5, 3) := by decide +kernel
theorem dX5_isMisplaced_121 : decode cX5_isMisplaced 121 = .ok (.iconst 1, 1) := by decide +kernel
theorem dX5_isMisplaced_122 : decode cX5_isMisplaced 122 = .ok (.ireturn, 1) := by decide +kernel
theorem dX5_isMisplaced_123 : decode cX5_isMisplaced 123 = .ok (.iinc 5 1, 3) := by decide +kernel
theorem dX5_isMisplaced_126 : decode cX5_isMisplaced 126 = .ok (.goto (-58), 3) := by decide +kernel
theorem dX5_isMisplaced_129 : decode cX5_isMisplaced 129 = .ok (.iconst 0, 1) := by decide +kernel
theorem dX5_isMisplaced_130 : decode cX5_isMisplaced 130 = .ok (.ireturn, 1) := by decide +kernel
theorem dX5_stopsIn_0 : decode cX5_stopsIn 0 = .ok (.aload_n 1, 1) := by decide +kernel
theorem dX5_stopsIn_1 : decode cX5_stopsIn 1 = .ok (.iload_n 2, 1) := by decide +kernel
theorem dX5_stopsIn_2 : decode cX5_stopsIn 2 = .ok (.invokevirtual 111, 3) := by decide +kernel
theorem dX5_stopsIn_5 : decode cX5_stopsIn 5 = .ok (.aload_n 0, 1) := by decide +kernel
theorem dX5_stopsIn_6 : decode cX5_stopsIn 6 = .ok (.getfield 18, 3) := by decide +kernel
theorem dX5_stopsIn_9 : decode cX5_stopsIn 9 = .ok (.iload_n 2, 1) := by decide +kernel
theorem dX5_stopsIn_10 : decode cX5_stopsIn 10 = .ok (.invokevirtual 117, 3) := by decide +kernel
theorem dX5_stopsIn_13 : decode cX5_stopsIn 13 = .ok (.istore_n 3, 1) := by decide +kernel
theorem dX5_stopsIn_14 : decode cX5_stopsIn 14 = .ok (.iconst 0, 1) := by decide +kernel
theorem dX5_stopsIn_15 : decode cX5_stopsIn 15 = .ok (.istore 4, 2) := by decide +kernel
theorem dX5_stopsIn_17 : decode cX5_stopsIn 17 = .ok (.iload 4, 2) := by decide +kernel
theorem dX5_stopsIn_19 : decode cX5_stopsIn 19 = .ok (.iload_n 3, 1) := by decide +kernel
theorem dX5_stopsIn_20 : decode cX5_stopsIn 20 = .ok (.if_icmp .ge 33, 3) := by decide +kernel
theorem dX5_stopsIn_23 : decode cX5_stopsIn 23 = .ok (.aload_n 1, 1) := by decide +kernel
theorem dX5_stopsIn_24 : decode cX5_stopsIn 24 = .ok (.iload_n 2, 1) := by decide +kernel
theorem dX5_stopsIn_25 : decode cX5_stopsIn 25 = .ok (.iload 4, 2) := by decide +kernel
theorem dX5_stopsIn_27 : decode cX5_stopsIn 27 = .ok (.invokevirtual 120, 3) := by decide +kernel
theorem dX5_stopsIn_30 : decode cX5_stopsIn 30 = .ok (.istore 5, 2) := by decide +kernel
theorem dX5_stopsIn_32 : decode cX5_stopsIn 32 = .ok (.iload 5, 2) := by decide +kernel
theorem dX5_stopsIn_34 : decode cX5_stopsIn 34 = .ok (.ifCond .eq 13, 3) := by decide +kernel
theorem dX5_stopsIn_37 : decode cX5_stopsIn 37 = .ok (.aload_n 0, 1) := by decide +kernel
theorem dX5_stopsIn_38 : decode cX5_stopsIn 38 = .ok (.iload 5, 2) := by decide +kernel
theorem dX5_stopsIn_40 : decode cX5_stopsIn 40 = .ok (.iload_n 2, 1) := by decide +kernel
theorem dX5_stopsIn_41 : decode cX5_stopsIn 41 = .ok (.iload 4, 2) := by decide +kernel
theorem dX5_stopsIn_43 : decode cX5_stopsIn 43 = .ok (.invokevirtual 56, 3) := by decide +kernel
theorem dX5_stopsIn_46 : decode cX5_stopsIn 46 = .ok (.ireturn, 1) := by decide +kernel
theorem dX5_stopsIn_47 : decode cX5_stopsIn 47 = .ok (.iinc 4 1, 3) := by decide +kernel
theorem dX5_stopsIn_50 : decode cX5_stopsIn 50 = .ok (.goto (-33), 3) := by decide +kernel
theorem dX5_stopsIn_53 : decode cX5_stopsIn 53 = .ok (.iconst 0, 1) := by decide +kernel
theorem dX5_stopsIn_54 : decode cX5_stopsIn 54 = .ok (.ireturn, 1) := by decide +kernel
theorem dX5_found_0 : decode cX5_found 0 = .ok (.aload_n 0, 1) := by decide +kernel
theorem dX5_found_1 : decode cX5_found 1 = .ok (.iload_n 1, 1) := by decide +kernel
theorem dX5_found_2 : decode cX5_found 2 = .ok (.putfield 75, 3) := by decide +kernel
theorem dX5_found_5 : decode cX5_found 5 = .ok (.aload_n 0, 1) := by decide +kernel
theorem dX5_found_6 : decode cX5_found 6 = .ok (.iload_n 2, 1) := by decide +kernel
theorem dX5_found_7 : decode cX5_found 7 = .ok (.putfield 9, 3) := by decide +kernel
theorem dX5_found_10 : decode cX5_found 10 = .ok (.aload_n 0, 1) := by decide +kernel
theorem dX5_found_11 : decode cX5_found 11 = .ok (.iload_n 3, 1) := by decide +kernel
theorem dX5_found_12 : decode cX5_found 12 = .ok (.putfield 15, 3) := by decide +kernel
theorem dX5_found_15 : decode cX5_found 15 = .ok (.iload_n 1, 1) := by decide +kernel
theorem dX5_found_16 : decode cX5_found 16 = .ok (.ifCond .eq 7, 3) := by decide +kernel
theorem dX5_found_19 : decode cX5_found 19 = .ok (.iconst 1, 1) := by decide +kernel
theorem dX5_found_20 : decode cX5_found 20 = .ok (.goto 4, 3) := by decide +kernel
theorem dX5_found_23 : decode cX5_found 23 = .ok (.iconst 0, 1) := by decide +kernel
theorem dX5_found_24 : decode cX5_found 24 = .ok (.ireturn, 1) := by decide +kernel
theorem dX6_init_0 : decode cX6_init 0 = .ok (.aload_n 0, 1) := by decide +kernel
theorem dX6_init_1 : decode cX6_init 1 = .ok (.aload_n 1, 1) := by decide +kernel
theorem dX6_init_2 : decode cX6_init 2 = .ok (.invokespecial 3, 3) := by decide +kernel
theorem dX6_init_5 : decode cX6_init 5 = .ok (.aload_n 0, 1) := by decide +kernel
theorem dX6_init_6 : decode cX6_init 6 = .ok (.sipush 257, 3) := by decide +kernel
theorem dX6_init_9 : decode cX6_init 9 = .ok (.newarray .int, 2) := by decide +kernel
theorem dX6_init_11 : decode cX6_init 11 = .ok (.putfield 9, 3) := by decide +kernel
theorem dX6_init_14 : decode cX6_init 14 = .ok (.aload_n 0, 1) := by decide +kernel
theorem dX6_init_15 : decode cX6_init 15 = .ok (.bipush 16, 2) := by decide +kernel
theorem dX6_init_17 : decode cX6_init 17 = .ok (.newarray .int, 2) := by decide +kernel
theorem dX6_init_19 : decode cX6_init 19 = .ok (.putfield 15, 3) := by decide +kernel
theorem dX6_init_22 : decode cX6_init 22 = .ok (.return_, 1) := by decide +kernel
theorem dX6_deepestOf_0 : decode cX6_deepestOf 0 = .ok (.iload_n 1, 1) := by decide +kernel
theorem dX6_deepestOf_1 : decode cX6_deepestOf 1 = .ok (.ifCond .lt 18, 3) := by decide +kernel
theorem dX6_deepestOf_4 : decode cX6_deepestOf 4 = .ok (.iload_n 1, 1) := by decide +kernel
theorem dX6_deepestOf_5 : decode cX6_deepestOf 5 = .ok (.bipush 16, 2) := by decide +kernel
theorem dX6_deepestOf_7 : decode cX6_deepestOf 7 = .ok (.if_icmp .ge 12, 3) := by decide +kernel
theorem dX6_deepestOf_10 : decode cX6_deepestOf 10 = .ok (.aload_n 0, 1) := by decide +kernel
theorem dX6_deepestOf_11 : decode cX6_deepestOf 11 = .ok (.getfield 15, 3) := by decide +kernel
theorem dX6_deepestOf_14 : decode cX6_deepestOf 14 = .ok (.iload_n 1, 1) := by decide +kernel
theorem dX6_deepestOf_15 : decode cX6_deepestOf 15 = .ok (.iaload, 1) := by decide +kernel
theorem dX6_deepestOf_16 : decode cX6_deepestOf 16 = .ok (.goto 4, 3) := by decide +kernel
theorem dX6_deepestOf_19 : decode cX6_deepestOf 19 = .ok (.iconst 0, 1) := by decide +kernel
theorem dX6_deepestOf_20 : decode cX6_deepestOf 20 = .ok (.ireturn, 1) := by decide +kernel
theorem dX6_open_0 : decode cX6_open 0 = .ok (.aload_n 0, 1) := by decide +kernel
theorem dX6_open_1 : decode cX6_open 1 = .ok (.aload_n 0, 1) := by decide +kernel
theorem dX6_open_2 : decode cX6_open 2 = .ok (.getfield 18, 3) := by decide +kernel
theorem dX6_open_5 : decode cX6_open 5 = .ok (.iload_n 1, 1) := by decide +kernel
theorem dX6_open_6 : decode cX6_open 6 = .ok (.invokevirtual 22, 3) := by decide +kernel
