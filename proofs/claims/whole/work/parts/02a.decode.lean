theorem dX0_init_0 : decode cX0_init 0 = .ok (.aload_n 0, 1) := by decide +kernel
theorem dX0_init_1 : decode cX0_init 1 = .ok (.invokespecial 3, 3) := by decide +kernel
theorem dX0_init_4 : decode cX0_init 4 = .ok (.aload_n 0, 1) := by decide +kernel
theorem dX0_init_5 : decode cX0_init 5 = .ok (.bipush 16, 2) := by decide +kernel
theorem dX0_init_7 : decode cX0_init 7 = .ok (.newarray .long, 2) := by decide +kernel
theorem dX0_init_9 : decode cX0_init 9 = .ok (.putfield 9, 3) := by decide +kernel
theorem dX0_init_12 : decode cX0_init 12 = .ok (.aload_n 0, 1) := by decide +kernel
theorem dX0_init_13 : decode cX0_init 13 = .ok (.iconst 0, 1) := by decide +kernel
theorem dX0_init_14 : decode cX0_init 14 = .ok (.putfield 13, 3) := by decide +kernel
theorem dX0_init_17 : decode cX0_init 17 = .ok (.return_, 1) := by decide +kernel
theorem dX0_setOne_0 : decode cX0_setOne 0 = .ok (.aload_n 0, 1) := by decide +kernel
theorem dX0_setOne_1 : decode cX0_setOne 1 = .ok (.getfield 9, 3) := by decide +kernel
theorem dX0_setOne_4 : decode cX0_setOne 4 = .ok (.arraylength, 1) := by decide +kernel
theorem dX0_setOne_5 : decode cX0_setOne 5 = .ok (.ifCond .le 10, 3) := by decide +kernel
theorem dX0_setOne_8 : decode cX0_setOne 8 = .ok (.aload_n 0, 1) := by decide +kernel
theorem dX0_setOne_9 : decode cX0_setOne 9 = .ok (.getfield 9, 3) := by decide +kernel
theorem dX0_setOne_12 : decode cX0_setOne 12 = .ok (.iconst 0, 1) := by decide +kernel
theorem dX0_setOne_13 : decode cX0_setOne 13 = .ok (.lconst 1, 1) := by decide +kernel
theorem dX0_setOne_14 : decode cX0_setOne 14 = .ok (.lastore, 1) := by decide +kernel
theorem dX0_setOne_15 : decode cX0_setOne 15 = .ok (.aload_n 0, 1) := by decide +kernel
theorem dX0_setOne_16 : decode cX0_setOne 16 = .ok (.iconst 1, 1) := by decide +kernel
theorem dX0_setOne_17 : decode cX0_setOne 17 = .ok (.putfield 13, 3) := by decide +kernel
theorem dX0_setOne_20 : decode cX0_setOne 20 = .ok (.return_, 1) := by decide +kernel
theorem dX0_multiply_0 : decode cX0_multiply 0 = .ok (.lconst 0, 1) := by decide +kernel
theorem dX0_multiply_1 : decode cX0_multiply 1 = .ok (.lstore_n 2, 1) := by decide +kernel
theorem dX0_multiply_2 : decode cX0_multiply 2 = .ok (.iconst 0, 1) := by decide +kernel
theorem dX0_multiply_3 : decode cX0_multiply 3 = .ok (.istore 4, 2) := by decide +kernel
theorem dX0_multiply_5 : decode cX0_multiply 5 = .ok (.iload 4, 2) := by decide +kernel
theorem dX0_multiply_7 : decode cX0_multiply 7 = .ok (.aload_n 0, 1) := by decide +kernel
theorem dX0_multiply_8 : decode cX0_multiply 8 = .ok (.getfield 13, 3) := by decide +kernel
theorem dX0_multiply_11 : decode cX0_multiply 11 = .ok (.if_icmp .ge 52, 3) := by decide +kernel
theorem dX0_multiply_14 : decode cX0_multiply 14 = .ok (.iload 4, 2) := by decide +kernel
theorem dX0_multiply_16 : decode cX0_multiply 16 = .ok (.aload_n 0, 1) := by decide +kernel
theorem dX0_multiply_17 : decode cX0_multiply 17 = .ok (.getfield 9, 3) := by decide +kernel
theorem dX0_multiply_20 : decode cX0_multiply 20 = .ok (.arraylength, 1) := by decide +kernel
theorem dX0_multiply_21 : decode cX0_multiply 21 = .ok (.if_icmp .ge 42, 3) := by decide +kernel
theorem dX0_multiply_24 : decode cX0_multiply 24 = .ok (.aload_n 0, 1) := by decide +kernel
theorem dX0_multiply_25 : decode cX0_multiply 25 = .ok (.getfield 9, 3) := by decide +kernel
theorem dX0_multiply_28 : decode cX0_multiply 28 = .ok (.iload 4, 2) := by decide +kernel
theorem dX0_multiply_30 : decode cX0_multiply 30 = .ok (.laload, 1) := by decide +kernel
theorem dX0_multiply_31 : decode cX0_multiply 31 = .ok (.iload_n 1, 1) := by decide +kernel
theorem dX0_multiply_32 : decode cX0_multiply 32 = .ok (.i2l, 1) := by decide +kernel
theorem dX0_multiply_33 : decode cX0_multiply 33 = .ok (.lmul, 1) := by decide +kernel
theorem dX0_multiply_34 : decode cX0_multiply 34 = .ok (.lload_n 2, 1) := by decide +kernel
theorem dX0_multiply_35 : decode cX0_multiply 35 = .ok (.ladd, 1) := by decide +kernel
theorem dX0_multiply_36 : decode cX0_multiply 36 = .ok (.lstore 5, 2) := by decide +kernel
theorem dX0_multiply_38 : decode cX0_multiply 38 = .ok (.aload_n 0, 1) := by decide +kernel
theorem dX0_multiply_39 : decode cX0_multiply 39 = .ok (.getfield 9, 3) := by decide +kernel
theorem dX0_multiply_42 : decode cX0_multiply 42 = .ok (.iload 4, 2) := by decide +kernel
theorem dX0_multiply_44 : decode cX0_multiply 44 = .ok (.lload 5, 2) := by decide +kernel
theorem dX0_multiply_46 : decode cX0_multiply 46 = .ok (.ldc2_w 17, 3) := by decide +kernel
theorem dX0_multiply_49 : decode cX0_multiply 49 = .ok (.land, 1) := by decide +kernel
theorem dX0_multiply_50 : decode cX0_multiply 50 = .ok (.lastore, 1) := by decide +kernel
theorem dX0_multiply_51 : decode cX0_multiply 51 = .ok (.lload 5, 2) := by decide +kernel
theorem dX0_multiply_53 : decode cX0_multiply 53 = .ok (.bipush 48, 2) := by decide +kernel
theorem dX0_multiply_55 : decode cX0_multiply 55 = .ok (.lushr, 1) := by decide +kernel
theorem dX0_multiply_56 : decode cX0_multiply 56 = .ok (.lstore_n 2, 1) := by decide +kernel
theorem dX0_multiply_57 : decode cX0_multiply 57 = .ok (.iinc 4 1, 3) := by decide +kernel
theorem dX0_multiply_60 : decode cX0_multiply 60 = .ok (.goto (-55), 3) := by decide +kernel
theorem dX0_multiply_63 : decode cX0_multiply 63 = .ok (.lload_n 2, 1) := by decide +kernel
theorem dX0_multiply_64 : decode cX0_multiply 64 = .ok (.lconst 0, 1) := by decide +kernel
theorem dX0_multiply_65 : decode cX0_multiply 65 = .ok (.lcmp, 1) := by decide +kernel
theorem dX0_multiply_66 : decode cX0_multiply 66 = .ok (.ifCond .le 42, 3) := by decide +kernel
theorem dX0_multiply_69 : decode cX0_multiply 69 = .ok (.aload_n 0, 1) := by decide +kernel
theorem dX0_multiply_70 : decode cX0_multiply 70 = .ok (.getfield 13, 3) := by decide +kernel
theorem dX0_multiply_73 : decode cX0_multiply 73 = .ok (.ifCond .lt 35, 3) := by decide +kernel
theorem dX0_multiply_76 : decode cX0_multiply 76 = .ok (.aload_n 0, 1) := by decide +kernel
theorem dX0_multiply_77 : decode cX0_multiply 77 = .ok (.getfield 13, 3) := by decide +kernel
theorem dX0_multiply_80 : decode cX0_multiply 80 = .ok (.aload_n 0, 1) := by decide +kernel
theorem dX0_multiply_81 : decode cX0_multiply 81 = .ok (.getfield 9, 3) := by decide +kernel
theorem dX0_multiply_84 : decode cX0_multiply 84 = .ok (.arraylength, 1) := by decide +kernel
theorem dX0_multiply_85 : decode cX0_multiply 85 = .ok (.if_icmp .ge 23, 3) := by decide +kernel
theorem dX0_multiply_88 : decode cX0_multiply 88 = .ok (.aload_n 0, 1) := by decide +kernel
theorem dX0_multiply_89 : decode cX0_multiply 89 = .ok (.getfield 9, 3) := by decide +kernel
theorem dX0_multiply_92 : decode cX0_multiply 92 = .ok (.aload_n 0, 1) := by decide +kernel
theorem dX0_multiply_93 : decode cX0_multiply 93 = .ok (.getfield 13, 3) := by decide +kernel
theorem dX0_multiply_96 : decode cX0_multiply 96 = .ok (.lload_n 2, 1) := by decide +kernel
theorem dX0_multiply_97 : decode cX0_multiply 97 = .ok (.lastore, 1) := by decide +kernel
theorem dX0_multiply_98 : decode cX0_multiply 98 = .ok (.aload_n 0, 1) := by decide +kernel
theorem dX0_multiply_99 : decode cX0_multiply 99 = .ok (.dup, 1) := by decide +kernel
theorem dX0_multiply_100 : decode cX0_multiply 100 = .ok (.getfield 13, 3) := by decide +kernel
theorem dX0_multiply_103 : decode cX0_multiply 103 = .ok (.iconst 1, 1) := by decide +kernel
theorem dX0_multiply_104 : decode cX0_multiply 104 = .ok (.iadd, 1) := by decide +kernel
theorem dX0_multiply_105 : decode cX0_multiply 105 = .ok (.putfield 13, 3) := by decide +kernel
theorem dX0_multiply_108 : decode cX0_multiply 108 = .ok (.return_, 1) := by decide +kernel
theorem dX0_compare_0 : decode cX0_compare 0 = .ok (.aload_n 0, 1) := by decide +kernel
theorem dX0_compare_1 : decode cX0_compare 1 = .ok (.getfield 13, 3) := by decide +kernel
theorem dX0_compare_4 : decode cX0_compare 4 = .ok (.aload_n 1, 1) := by decide +kernel
theorem dX0_compare_5 : decode cX0_compare 5 = .ok (.getfield 13, 3) := by decide +kernel
theorem dX0_compare_8 : decode cX0_compare 8 = .ok (.if_icmp .eq 20, 3) := by decide +kernel
theorem dX0_compare_11 : decode cX0_compare 11 = .ok (.aload_n 0, 1) := by decide +kernel
theorem dX0_compare_12 : decode cX0_compare 12 = .ok (.getfield 13, 3) := by decide +kernel
theorem dX0_compare_15 : decode cX0_compare 15 = .ok (.aload_n 1, 1) := by decide +kernel
theorem dX0_compare_16 : decode cX0_compare 16 = .ok (.getfield 13, 3) := by decide +kernel
theorem dX0_compare_19 : decode cX0_compare 19 = .ok (.if_icmp .le 7, 3) := by decide +kernel
theorem dX0_compare_22 : decode cX0_compare 22 = .ok (.iconst 1, 1) := by decide +kernel
theorem dX0_compare_23 : decode cX0_compare 23 = .ok (.goto 4, 3) := by decide +kernel
theorem dX0_compare_26 : decode cX0_compare 26 = .ok (.iconst (-1), 1) := by decide +kernel
theorem dX0_compare_27 : decode cX0_compare 27 = .ok (.ireturn, 1) := by decide +kernel
theorem dX0_compare_28 : decode cX0_compare 28 = .ok (.aload_n 0, 1) := by decide +kernel
theorem dX0_compare_29 : decode cX0_compare 29 = .ok (.getfield 13, 3) := by decide +kernel
theorem dX0_compare_32 : decode cX0_compare 32 = .ok (.iconst 1, 1) := by decide +kernel
theorem dX0_compare_33 : decode cX0_compare 33 = .ok (.isub, 1) := by decide +kernel
theorem dX0_compare_34 : decode cX0_compare 34 = .ok (.istore_n 2, 1) := by decide +kernel
theorem dX0_compare_35 : decode cX0_compare 35 = .ok (.iload_n 2, 1) := by decide +kernel
theorem dX0_compare_36 : decode cX0_compare 36 = .ok (.ifCond .lt 65, 3) := by decide +kernel
theorem dX0_compare_39 : decode cX0_compare 39 = .ok (.iload_n 2, 1) := by decide +kernel
theorem dX0_compare_40 : decode cX0_compare 40 = .ok (.aload_n 0, 1) := by decide +kernel
theorem dX0_compare_41 : decode cX0_compare 41 = .ok (.getfield 9, 3) := by decide +kernel
theorem dX0_compare_44 : decode cX0_compare 44 = .ok (.arraylength, 1) := by decide +kernel
theorem dX0_compare_45 : decode cX0_compare 45 = .ok (.if_icmp .ge 50, 3) := by decide +kernel
theorem dX0_compare_48 : decode cX0_compare 48 = .ok (.iload_n 2, 1) := by decide +kernel
theorem dX0_compare_49 : decode cX0_compare 49 = .ok (.aload_n 1, 1) := by decide +kernel
theorem dX0_compare_50 : decode cX0_compare 50 = .ok (.getfield 9, 3) := by decide +kernel
theorem dX0_compare_53 : decode cX0_compare 53 = .ok (.arraylength, 1) := by decide +kernel
theorem dX0_compare_54 : decode cX0_compare 54 = .ok (.if_icmp .ge 41, 3) := by decide +kernel
theorem dX0_compare_57 : decode cX0_compare 57 = .ok (.aload_n 0, 1) := by decide +kernel
theorem dX0_compare_58 : decode cX0_compare 58 = .ok (.getfield 9, 3) := by decide +kernel
theorem dX0_compare_61 : decode cX0_compare 61 = .ok (.iload_n 2, 1) := by decide +kernel
theorem dX0_compare_62 : decode cX0_compare 62 = .ok (.laload, 1) := by decide +kernel
theorem dX0_compare_63 : decode cX0_compare 63 = .ok (.aload_n 1, 1) := by decide +kernel
theorem dX0_compare_64 : decode cX0_compare 64 = .ok (.getfield 9, 3) := by decide +kernel
theorem dX0_compare_67 : decode cX0_compare 67 = .ok (.iload_n 2, 1) := by decide +kernel
theorem dX0_compare_68 : decode cX0_compare 68 = .ok (.laload, 1) := by decide +kernel
theorem dX0_compare_69 : decode cX0_compare 69 = .ok (.lcmp, 1) := by decide +kernel
theorem dX0_compare_70 : decode cX0_compare 70 = .ok (.ifCond .eq 25, 3) := by decide +kernel
theorem dX0_compare_73 : decode cX0_compare 73 = .ok (.aload_n 0, 1) := by decide +kernel
theorem dX0_compare_74 : decode cX0_compare 74 = .ok (.getfield 9, 3) := by decide +kernel
theorem dX0_compare_77 : decode cX0_compare 77 = .ok (.iload_n 2, 1) := by decide +kernel
theorem dX0_compare_78 : decode cX0_compare 78 = .ok (.laload, 1) := by decide +kernel
theorem dX0_compare_79 : decode cX0_compare 79 = .ok (.aload_n 1, 1) := by decide +kernel
theorem dX0_compare_80 : decode cX0_compare 80 = .ok (.getfield 9, 3) := by decide +kernel
theorem dX0_compare_83 : decode cX0_compare 83 = .ok (.iload_n 2, 1) := by decide +kernel
theorem dX0_compare_84 : decode cX0_compare 84 = .ok (.laload, 1) := by decide +kernel
theorem dX0_compare_85 : decode cX0_compare 85 = .ok (.lcmp, 1) := by decide +kernel
theorem dX0_compare_86 : decode cX0_compare 86 = .ok (.ifCond .le 7, 3) := by decide +kernel
theorem dX0_compare_89 : decode cX0_compare 89 = .ok (.iconst 1, 1) := by decide +kernel
theorem dX0_compare_90 : decode cX0_compare 90 = .ok (.goto 4, 3) := by decide +kernel
theorem dX0_compare_93 : decode cX0_compare 93 = .ok (.iconst (-1), 1) := by decide +kernel
theorem dX0_compare_94 : decode cX0_compare 94 = .ok (.ireturn, 1) := by decide +kernel
theorem dX0_compare_95 : decode cX0_compare 95 = .ok (.iinc 2 (-1), 3) := by decide +kernel
theorem dX0_compare_98 : decode cX0_compare 98 = .ok (.goto (-63), 3) := by decide +kernel
theorem dX0_compare_101 : decode cX0_compare 101 = .ok (.iconst 0, 1) := by decide +kernel
theorem dX0_compare_102 : decode cX0_compare 102 = .ok (.ireturn, 1) := by decide +kernel
theorem dX1_init_0 : decode cX1_init 0 = .ok (.aload_n 0, 1) := by decide +kernel
theorem dX1_init_1 : decode cX1_init 1 = .ok (.invokespecial 3, 3) := by decide +kernel
theorem dX1_init_4 : decode cX1_init 4 = .ok (.aload_n 0, 1) := by decide +kernel
theorem dX1_init_5 : decode cX1_init 5 = .ok (.sipush 4913, 3) := by decide +kernel
theorem dX1_init_8 : decode cX1_init 8 = .ok (.newarray .int, 2) := by decide +kernel
theorem dX1_init_10 : decode cX1_init 10 = .ok (.putfield 11, 3) := by decide +kernel
theorem dX1_init_13 : decode cX1_init 13 = .ok (.aload_n 0, 1) := by decide +kernel
theorem dX1_init_14 : decode cX1_init 14 = .ok (.iconst 3, 1) := by decide +kernel
theorem dX1_init_15 : decode cX1_init 15 = .ok (.newarray .int, 2) := by decide +kernel
theorem dX1_init_17 : decode cX1_init 17 = .ok (.putfield 15, 3) := by decide +kernel
theorem dX1_init_20 : decode cX1_init 20 = .ok (.aload_n 0, 1) := by decide +kernel
theorem dX1_init_21 : decode cX1_init 21 = .ok (.iconst 3, 1) := by decide +kernel
theorem dX1_init_22 : decode cX1_init 22 = .ok (.newarray .int, 2) := by decide +kernel
theorem dX1_init_24 : decode cX1_init 24 = .ok (.putfield 18, 3) := by decide +kernel
theorem dX1_init_27 : decode cX1_init 27 = .ok (.aload_n 0, 1) := by decide +kernel
theorem dX1_init_28 : decode cX1_init 28 = .ok (.new 21, 3) := by decide +kernel
theorem dX1_init_31 : decode cX1_init 31 = .ok (.dup, 1) := by decide +kernel
theorem dX1_init_32 : decode cX1_init 32 = .ok (.invokespecial 23, 3) := by decide +kernel
theorem dX1_init_35 : decode cX1_init 35 = .ok (.putfield 24, 3) := by decide +kernel
theorem dX1_init_38 : decode cX1_init 38 = .ok (.aload_n 0, 1) := by decide +kernel
theorem dX1_init_39 : decode cX1_init 39 = .ok (.iconst 0, 1) := by decide +kernel
theorem dX1_init_40 : decode cX1_init 40 = .ok (.putfield 28, 3) := by decide +kernel
theorem dX1_init_43 : decode cX1_init 43 = .ok (.aload_n 0, 1) := by decide +kernel
theorem dX1_init_44 : decode cX1_init 44 = .ok (.aload_n 1, 1) := by decide +kernel
theorem dX1_init_45 : decode cX1_init 45 = .ok (.putfield 32, 3) := by decide +kernel
theorem dX1_init_48 : decode cX1_init 48 = .ok (.return_, 1) := by decide +kernel
theorem dX1_unitsOf_0 : decode cX1_unitsOf 0 = .ok (.iload_n 1, 1) := by decide +kernel
theorem dX1_unitsOf_1 : decode cX1_unitsOf 1 = .ok (.ifCond .ne 9, 3) := by decide +kernel
theorem dX1_unitsOf_4 : decode cX1_unitsOf 4 = .ok (.iload_n 0, 1) := by decide +kernel
theorem dX1_unitsOf_5 : decode cX1_unitsOf 5 = .ok (.sipush 289, 3) := by decide +kernel
theorem dX1_unitsOf_8 : decode cX1_unitsOf 8 = .ok (.idiv, 1) := by decide +kernel
theorem dX1_unitsOf_9 : decode cX1_unitsOf 9 = .ok (.ireturn, 1) := by decide +kernel
theorem dX1_unitsOf_10 : decode cX1_unitsOf 10 = .ok (.iload_n 1, 1) := by decide +kernel
theorem dX1_unitsOf_11 : decode cX1_unitsOf 11 = .ok (.iconst 1, 1) := by decide +kernel
theorem dX1_unitsOf_12 : decode cX1_unitsOf 12 = .ok (.if_icmp .ne 13, 3) := by decide +kernel
theorem dX1_unitsOf_15 : decode cX1_unitsOf 15 = .ok (.iload_n 0, 1) := by decide +kernel
theorem dX1_unitsOf_16 : decode cX1_unitsOf 16 = .ok (.bipush 17, 2) := by decide +kernel
theorem dX1_unitsOf_18 : decode cX1_unitsOf 18 = .ok (.idiv, 1) := by decide +kernel
theorem dX1_unitsOf_19 : decode cX1_unitsOf 19 = .ok (.bipush 17, 2) := by decide +kernel
theorem dX1_unitsOf_21 : decode cX1_unitsOf 21 = .ok (.irem, 1) := by decide +kernel
theorem dX1_unitsOf_22 : decode cX1_unitsOf 22 = .ok (.goto 7, 3) := by decide +kernel
theorem dX1_unitsOf_25 : decode cX1_unitsOf 25 = .ok (.iload_n 0, 1) := by decide +kernel
theorem dX1_unitsOf_26 : decode cX1_unitsOf 26 = .ok (.bipush 17, 2) := by decide +kernel
theorem dX1_unitsOf_28 : decode cX1_unitsOf 28 = .ok (.irem, 1) := by decide +kernel
theorem dX1_unitsOf_29 : decode cX1_unitsOf 29 = .ok (.ireturn, 1) := by decide +kernel
theorem dX1_cellCount_0 : decode cX1_cellCount 0 = .ok (.aload_n 0, 1) := by decide +kernel
theorem dX1_cellCount_1 : decode cX1_cellCount 1 = .ok (.getfield 11, 3) := by decide +kernel
theorem dX1_cellCount_4 : decode cX1_cellCount 4 = .ok (.arraylength, 1) := by decide +kernel
theorem dX1_cellCount_5 : decode cX1_cellCount 5 = .ok (.ireturn, 1) := by decide +kernel
theorem dX1_forget_0 : decode cX1_forget 0 = .ok (.aload_n 0, 1) := by decide +kernel
theorem dX1_forget_1 : decode cX1_forget 1 = .ok (.iconst 0, 1) := by decide +kernel
theorem dX1_forget_2 : decode cX1_forget 2 = .ok (.putfield 28, 3) := by decide +kernel
theorem dX1_forget_5 : decode cX1_forget 5 = .ok (.return_, 1) := by decide +kernel
theorem dX1_bound_0 : decode cX1_bound 0 = .ok (.aload_n 0, 1) := by decide +kernel
theorem dX1_bound_1 : decode cX1_bound 1 = .ok (.getfield 15, 3) := by decide +kernel
theorem dX1_bound_4 : decode cX1_bound 4 = .ok (.iload_n 1, 1) := by decide +kernel
theorem dX1_bound_5 : decode cX1_bound 5 = .ok (.iload_n 2, 1) := by decide +kernel
theorem dX1_bound_6 : decode cX1_bound 6 = .ok (.invokestatic 36, 3) := by decide +kernel
theorem dX1_bound_9 : decode cX1_bound 9 = .ok (.aload_n 0, 1) := by decide +kernel
theorem dX1_bound_10 : decode cX1_bound 10 = .ok (.getfield 18, 3) := by decide +kernel
theorem dX1_bound_13 : decode cX1_bound 13 = .ok (.iload_n 1, 1) := by decide +kernel
theorem dX1_bound_14 : decode cX1_bound 14 = .ok (.iload_n 3, 1) := by decide +kernel
theorem dX1_bound_15 : decode cX1_bound 15 = .ok (.invokestatic 36, 3) := by decide +kernel
theorem dX1_bound_18 : decode cX1_bound 18 = .ok (.return_, 1) := by decide +kernel
theorem dX1_prepare_0 : decode cX1_prepare 0 = .ok (.iconst 0, 1) := by decide +kernel
theorem dX1_prepare_1 : decode cX1_prepare 1 = .ok (.istore 4, 2) := by decide +kernel
theorem dX1_prepare_3 : decode cX1_prepare 3 = .ok (.iload 4, 2) := by decide +kernel
theorem dX1_prepare_5 : decode cX1_prepare 5 = .ok (.iconst 3, 1) := by decide +kernel
theorem dX1_prepare_6 : decode cX1_prepare 6 = .ok (.if_icmp .ge 32, 3) := by decide +kernel
theorem dX1_prepare_9 : decode cX1_prepare 9 = .ok (.aload_n 0, 1) := by decide +kernel
theorem dX1_prepare_10 : decode cX1_prepare 10 = .ok (.iload 4, 2) := by decide +kernel
theorem dX1_prepare_12 : decode cX1_prepare 12 = .ok (.aload_n 2, 1) := by decide +kernel
theorem dX1_prepare_13 : decode cX1_prepare 13 = .ok (.iconst 5, 1) := by decide +kernel
theorem dX1_prepare_14 : decode cX1_prepare 14 = .ok (.iload 4, 2) := by decide +kernel
theorem dX1_prepare_16 : decode cX1_prepare 16 = .ok (.iadd, 1) := by decide +kernel
theorem dX1_prepare_17 : decode cX1_prepare 17 = .ok (.invokestatic 40, 3) := by decide +kernel
theorem dX1_prepare_20 : decode cX1_prepare 20 = .ok (.aload_n 2, 1) := by decide +kernel
theorem dX1_prepare_21 : decode cX1_prepare 21 = .ok (.bipush 8, 2) := by decide +kernel
theorem dX1_prepare_23 : decode cX1_prepare 23 = .ok (.iload 4, 2) := by decide +kernel
theorem dX1_prepare_25 : decode cX1_prepare 25 = .ok (.iadd, 1) := by decide +kernel
theorem dX1_prepare_26 : decode cX1_prepare 26 = .ok (.invokestatic 40, 3) := by decide +kernel
theorem dX1_prepare_29 : decode cX1_prepare 29 = .ok (.invokevirtual 44, 3) := by decide +kernel
theorem dX1_prepare_32 : decode cX1_prepare 32 = .ok (.iinc 4 1, 3) := by decide +kernel
theorem dX1_prepare_35 : decode cX1_prepare 35 = .ok (.goto (-32), 3) := by decide +kernel
theorem dX1_prepare_38 : decode cX1_prepare 38 = .ok (.aload_n 2, 1) := by decide +kernel
theorem dX1_prepare_39 : decode cX1_prepare 39 = .ok (.iconst 0, 1) := by decide +kernel
theorem dX1_prepare_40 : decode cX1_prepare 40 = .ok (.invokestatic 40, 3) := by decide +kernel
theorem dX1_prepare_43 : decode cX1_prepare 43 = .ok (.istore 4, 2) := by decide +kernel
theorem dX1_prepare_45 : decode cX1_prepare 45 = .ok (.aload_n 0, 1) := by decide +kernel
theorem dX1_prepare_46 : decode cX1_prepare 46 = .ok (.getfield 28, 3) := by decide +kernel
theorem dX1_prepare_49 : decode cX1_prepare 49 = .ok (.iload 4, 2) := by decide +kernel
theorem dX1_prepare_51 : decode cX1_prepare 51 = .ok (.if_icmp .ne 4, 3) := by decide +kernel
theorem dX1_prepare_54 : decode cX1_prepare 54 = .ok (.return_, 1) := by decide +kernel
theorem dX1_prepare_55 : decode cX1_prepare 55 = .ok (.iconst 0, 1) := by decide +kernel
theorem dX1_prepare_56 : decode cX1_prepare 56 = .ok (.istore 5, 2) := by decide +kernel
theorem dX1_prepare_58 : decode cX1_prepare 58 = .ok (.iload 5, 2) := by decide +kernel
theorem dX1_prepare_60 : decode cX1_prepare 60 = .ok (.aload_n 0, 1) := by decide +kernel
theorem dX1_prepare_61 : decode cX1_prepare 61 = .ok (.getfield 11, 3) := by decide +kernel
theorem dX1_prepare_64 : decode cX1_prepare 64 = .ok (.arraylength, 1) := by decide +kernel
theorem dX1_prepare_65 : decode cX1_prepare 65 = .ok (.if_icmp .ge 63, 3) := by decide +kernel
theorem dX1_prepare_68 : decode cX1_prepare 68 = .ok (.aload_n 3, 1) := by decide +kernel
theorem dX1_prepare_69 : decode cX1_prepare 69 = .ok (.iload 5, 2) := by decide +kernel
theorem dX1_prepare_71 : decode cX1_prepare 71 = .ok (.invokevirtual 48, 3) := by decide +kernel
theorem dX1_prepare_74 : decode cX1_prepare 74 = .ok (.aload_n 1, 1) := by decide +kernel
theorem dX1_prepare_75 : decode cX1_prepare 75 = .ok (.aload_n 3, 1) := by decide +kernel
theorem dX1_prepare_76 : decode cX1_prepare 76 = .ok (.invokestatic 54, 3) := by decide +kernel
theorem dX1_prepare_79 : decode cX1_prepare 79 = .ok (.ifCond .eq 14, 3) := by decide +kernel
theorem dX1_prepare_82 : decode cX1_prepare 82 = .ok (.aload_n 0, 1) := by decide +kernel
theorem dX1_prepare_83 : decode cX1_prepare 83 = .ok (.aload_n 1, 1) := by decide +kernel
theorem dX1_prepare_84 : decode cX1_prepare 84 = .ok (.iload 4, 2) := by decide +kernel
theorem dX1_prepare_86 : decode cX1_prepare 86 = .ok (.aload_n 3, 1) := by decide +kernel
theorem dX1_prepare_87 : decode cX1_prepare 87 = .ok (.invokevirtual 58, 3) := by decide +kernel
theorem dX1_prepare_90 : decode cX1_prepare 90 = .ok (.goto 4, 3) := by decide +kernel
theorem dX1_prepare_93 : decode cX1_prepare 93 = .ok (.iconst (-1), 1) := by decide +kernel
theorem dX1_prepare_94 : decode cX1_prepare 94 = .ok (.istore 6, 2) := by decide +kernel
theorem dX1_prepare_96 : decode cX1_prepare 96 = .ok (.aload_n 0, 1) := by decide +kernel
theorem dX1_prepare_97 : decode cX1_prepare 97 = .ok (.getfield 11, 3) := by decide +kernel
theorem dX1_prepare_100 : decode cX1_prepare 100 = .ok (.iload 5, 2) := by decide +kernel
theorem dX1_prepare_102 : decode cX1_prepare 102 = .ok (.iload 6, 2) := by decide +kernel
theorem dX1_prepare_104 : decode cX1_prepare 104 = .ok (.ifCond .ge 7, 3) := by decide +kernel
theorem dX1_prepare_107 : decode cX1_prepare 107 = .ok (.iconst (-1), 1) := by decide +kernel
theorem dX1_prepare_108 : decode cX1_prepare 108 = .ok (.goto 13, 3) := by decide +kernel
theorem dX1_prepare_111 : decode cX1_prepare 111 = .ok (.aload_n 3, 1) := by decide +kernel
theorem dX1_prepare_112 : decode cX1_prepare 112 = .ok (.getfield 62, 3) := by decide +kernel
theorem dX1_prepare_115 : decode cX1_prepare 115 = .ok (.bipush 64, 2) := by decide +kernel
theorem dX1_prepare_117 : decode cX1_prepare 117 = .ok (.imul, 1) := by decide +kernel
theorem dX1_prepare_118 : decode cX1_prepare 118 = .ok (.iload 6, 2) := by decide +kernel
theorem dX1_prepare_120 : decode cX1_prepare 120 = .ok (.iadd, 1) := by decide +kernel
theorem dX1_prepare_121 : decode cX1_prepare 121 = .ok (.iastore, 1) := by decide +kernel
theorem dX1_prepare_122 : decode cX1_prepare 122 = .ok (.iinc 5 1, 3) := by decide +kernel
theorem dX1_prepare_125 : decode cX1_prepare 125 = .ok (.goto (-67), 3) := by decide +kernel
theorem dX1_prepare_128 : decode cX1_prepare 128 = .ok (.aload_n 0, 1) := by decide +kernel
theorem dX1_prepare_129 : decode cX1_prepare 129 = .ok (.iload 4, 2) := by decide +kernel
theorem dX1_prepare_131 : decode cX1_prepare 131 = .ok (.putfield 28, 3) := by decide +kernel
theorem dX1_prepare_134 : decode cX1_prepare 134 = .ok (.return_, 1) := by decide +kernel
theorem dX1_isWithinMost_0 : decode cX1_isWithinMost 0 = .ok (.iconst 0, 1) := by decide +kernel
theorem dX1_isWithinMost_1 : decode cX1_isWithinMost 1 = .ok (.istore_n 2, 1) := by decide +kernel
theorem dX1_isWithinMost_2 : decode cX1_isWithinMost 2 = .ok (.iload_n 2, 1) := by decide +kernel
theorem dX1_isWithinMost_3 : decode cX1_isWithinMost 3 = .ok (.iconst 3, 1) := by decide +kernel
theorem dX1_isWithinMost_4 : decode cX1_isWithinMost 4 = .ok (.if_icmp .ge 42, 3) := by decide +kernel
theorem dX1_isWithinMost_7 : decode cX1_isWithinMost 7 = .ok (.iload_n 2, 1) := by decide +kernel
theorem dX1_isWithinMost_8 : decode cX1_isWithinMost 8 = .ok (.aload_n 0, 1) := by decide +kernel
theorem dX1_isWithinMost_9 : decode cX1_isWithinMost 9 = .ok (.getfield 65, 3) := by decide +kernel
theorem dX1_isWithinMost_12 : decode cX1_isWithinMost 12 = .ok (.if_icmp .ge 12, 3) := by decide +kernel
theorem dX1_isWithinMost_15 : decode cX1_isWithinMost 15 = .ok (.aload_n 0, 1) := by decide +kernel
theorem dX1_isWithinMost_16 : decode cX1_isWithinMost 16 = .ok (.iload_n 2, 1) := by decide +kernel
theorem dX1_isWithinMost_17 : decode cX1_isWithinMost 17 = .ok (.iconst 3, 1) := by decide +kernel
theorem dX1_isWithinMost_18 : decode cX1_isWithinMost 18 = .ok (.invokevirtual 70, 3) := by decide +kernel
theorem dX1_isWithinMost_21 : decode cX1_isWithinMost 21 = .ok (.goto 4, 3) := by decide +kernel
theorem dX1_isWithinMost_24 : decode cX1_isWithinMost 24 = .ok (.iconst 0, 1) := by decide +kernel
theorem dX1_isWithinMost_25 : decode cX1_isWithinMost 25 = .ok (.istore_n 3, 1) := by decide +kernel
theorem dX1_isWithinMost_26 : decode cX1_isWithinMost 26 = .ok (.aload_n 1, 1) := by decide +kernel
theorem dX1_isWithinMost_27 : decode cX1_isWithinMost 27 = .ok (.getfield 74, 3) := by decide +kernel
theorem dX1_isWithinMost_30 : decode cX1_isWithinMost 30 = .ok (.iload_n 2, 1) := by decide +kernel
theorem dX1_isWithinMost_31 : decode cX1_isWithinMost 31 = .ok (.invokestatic 40, 3) := by decide +kernel
theorem dX1_isWithinMost_34 : decode cX1_isWithinMost 34 = .ok (.iload_n 3, 1) := by decide +kernel
theorem dX1_isWithinMost_35 : decode cX1_isWithinMost 35 = .ok (.if_icmp .le 5, 3) := by decide +kernel
theorem dX1_isWithinMost_38 : decode cX1_isWithinMost 38 = .ok (.iconst 0, 1) := by decide +kernel
theorem dX1_isWithinMost_39 : decode cX1_isWithinMost 39 = .ok (.ireturn, 1) := by decide +kernel
theorem dX1_isWithinMost_40 : decode cX1_isWithinMost 40 = .ok (.iinc 2 1, 3) := by decide +kernel
theorem dX1_isWithinMost_43 : decode cX1_isWithinMost 43 = .ok (.goto (-41), 3) := by decide +kernel
theorem dX1_isWithinMost_46 : decode cX1_isWithinMost 46 = .ok (.iconst 1, 1) := by decide +kernel
theorem dX1_isWithinMost_47 : decode cX1_isWithinMost 47 = .ok (.ireturn, 1) := by decide +kernel
theorem dX1_powerHeld_0 : decode cX1_powerHeld 0 = .ok (.aload_n 3, 1) := by decide +kernel
theorem dX1_powerHeld_1 : decode cX1_powerHeld 1 = .ok (.aload_n 1, 1) := by decide +kernel
theorem dX1_powerHeld_2 : decode cX1_powerHeld 2 = .ok (.iload_n 2, 1) := by decide +kernel
theorem dX1_powerHeld_3 : decode cX1_powerHeld 3 = .ok (.invokevirtual 77, 3) := by decide +kernel
theorem dX1_powerHeld_6 : decode cX1_powerHeld 6 = .ok (.aload_n 3, 1) := by decide +kernel
theorem dX1_powerHeld_7 : decode cX1_powerHeld 7 = .ok (.aload_n 1, 1) := by decide +kernel
theorem dX1_powerHeld_8 : decode cX1_powerHeld 8 = .ok (.invokevirtual 81, 3) := by decide +kernel
theorem dX1_powerHeld_11 : decode cX1_powerHeld 11 = .ok (.ifCond .ne 5, 3) := by decide +kernel
theorem dX1_powerHeld_14 : decode cX1_powerHeld 14 = .ok (.iconst (-1), 1) := by decide +kernel
theorem dX1_powerHeld_15 : decode cX1_powerHeld 15 = .ok (.ireturn, 1) := by decide +kernel
theorem dX1_powerHeld_16 : decode cX1_powerHeld 16 = .ok (.aload_n 3, 1) := by decide +kernel
theorem dX1_powerHeld_17 : decode cX1_powerHeld 17 = .ok (.aload_n 1, 1) := by decide +kernel
theorem dX1_powerHeld_18 : decode cX1_powerHeld 18 = .ok (.aload_n 0, 1) := by decide +kernel
theorem dX1_powerHeld_19 : decode cX1_powerHeld 19 = .ok (.getfield 24, 3) := by decide +kernel
theorem dX1_powerHeld_22 : decode cX1_powerHeld 22 = .ok (.invokevirtual 85, 3) := by decide +kernel
theorem dX1_powerHeld_25 : decode cX1_powerHeld 25 = .ok (.aload_n 0, 1) := by decide +kernel
theorem dX1_powerHeld_26 : decode cX1_powerHeld 26 = .ok (.getfield 32, 3) := by decide +kernel
theorem dX1_powerHeld_29 : decode cX1_powerHeld 29 = .ok (.aload_n 0, 1) := by decide +kernel
theorem dX1_powerHeld_30 : decode cX1_powerHeld 30 = .ok (.getfield 24, 3) := by decide +kernel
theorem dX1_powerHeld_33 : decode cX1_powerHeld 33 = .ok (.aload_n 1, 1) := by decide +kernel
theorem dX1_powerHeld_34 : decode cX1_powerHeld 34 = .ok (.getfield 89, 3) := by decide +kernel
theorem dX1_powerHeld_37 : decode cX1_powerHeld 37 = .ok (.aload_n 1, 1) := by decide +kernel
theorem dX1_powerHeld_38 : decode cX1_powerHeld 38 = .ok (.getfield 92, 3) := by decide +kernel
theorem dX1_powerHeld_41 : decode cX1_powerHeld 41 = .ok (.invokevirtual 95, 3) := by decide +kernel
theorem dX1_powerHeld_44 : decode cX1_powerHeld 44 = .ok (.ireturn, 1) := by decide +kernel
theorem dX1_isInside_0 : decode cX1_isInside 0 = .ok (.iconst 0, 1) := by decide +kernel
theorem dX1_isInside_1 : decode cX1_isInside 1 = .ok (.istore_n 2, 1) := by decide +kernel
theorem dX1_isInside_2 : decode cX1_isInside 2 = .ok (.iload_n 2, 1) := by decide +kernel
theorem dX1_isInside_3 : decode cX1_isInside 3 = .ok (.iconst 3, 1) := by decide +kernel
theorem dX1_isInside_4 : decode cX1_isInside 4 = .ok (.if_icmp .ge 41, 3) := by decide +kernel
theorem dX1_isInside_7 : decode cX1_isInside 7 = .ok (.iload_n 1, 1) := by decide +kernel
theorem dX1_isInside_8 : decode cX1_isInside 8 = .ok (.iload_n 2, 1) := by decide +kernel
theorem dX1_isInside_9 : decode cX1_isInside 9 = .ok (.invokestatic 101, 3) := by decide +kernel
theorem dX1_isInside_12 : decode cX1_isInside 12 = .ok (.istore_n 3, 1) := by decide +kernel
theorem dX1_isInside_13 : decode cX1_isInside 13 = .ok (.iload_n 3, 1) := by decide +kernel
theorem dX1_isInside_14 : decode cX1_isInside 14 = .ok (.aload_n 0, 1) := by decide +kernel
theorem dX1_isInside_15 : decode cX1_isInside 15 = .ok (.getfield 15, 3) := by decide +kernel
theorem dX1_isInside_18 : decode cX1_isInside 18 = .ok (.iload_n 2, 1) := by decide +kernel
theorem dX1_isInside_19 : decode cX1_isInside 19 = .ok (.invokestatic 40, 3) := by decide +kernel
theorem dX1_isInside_22 : decode cX1_isInside 22 = .ok (.if_icmp .lt 15, 3) := by decide +kernel
theorem dX1_isInside_25 : decode cX1_isInside 25 = .ok (.iload_n 3, 1) := by decide +kernel
theorem dX1_isInside_26 : decode cX1_isInside 26 = .ok (.aload_n 0, 1) := by decide +kernel
theorem dX1_isInside_27 : decode cX1_isInside 27 = .ok (.getfield 18, 3) := by decide +kernel
theorem dX1_isInside_30 : decode cX1_isInside 30 = .ok (.iload_n 2, 1) := by decide +kernel
theorem dX1_isInside_31 : decode cX1_isInside 31 = .ok (.invokestatic 40, 3) := by decide +kernel
theorem dX1_isInside_34 : decode cX1_isInside 34 = .ok (.if_icmp .le 5, 3) := by decide +kernel
theorem dX1_isInside_37 : decode cX1_isInside 37 = .ok (.iconst 0, 1) := by decide +kernel
theorem dX1_isInside_38 : decode cX1_isInside 38 = .ok (.ireturn, 1) := by decide +kernel
theorem dX1_isInside_39 : decode cX1_isInside 39 = .ok (.iinc 2 1, 3) := by decide +kernel
theorem dX1_isInside_42 : decode cX1_isInside 42 = .ok (.goto (-40), 3) := by decide +kernel
theorem dX1_isInside_45 : decode cX1_isInside 45 = .ok (.iconst 1, 1) := by decide +kernel
theorem dX1_isInside_46 : decode cX1_isInside 46 = .ok (.ireturn, 1) := by decide +kernel
theorem dX1_counts_0 : decode cX1_counts 0 = .ok (.aload_n 0, 1) := by decide +kernel
theorem dX1_counts_1 : decode cX1_counts 1 = .ok (.getfield 11, 3) := by decide +kernel
theorem dX1_counts_4 : decode cX1_counts 4 = .ok (.iload_n 1, 1) := by decide +kernel
theorem dX1_counts_5 : decode cX1_counts 5 = .ok (.invokestatic 40, 3) := by decide +kernel
theorem dX1_counts_8 : decode cX1_counts 8 = .ok (.ifCond .lt 15, 3) := by decide +kernel
theorem dX1_counts_11 : decode cX1_counts 11 = .ok (.aload_n 0, 1) := by decide +kernel
theorem dX1_counts_12 : decode cX1_counts 12 = .ok (.iload_n 1, 1) := by decide +kernel
theorem dX1_counts_13 : decode cX1_counts 13 = .ok (.invokevirtual 104, 3) := by decide +kernel
theorem dX1_counts_16 : decode cX1_counts 16 = .ok (.ifCond .eq 7, 3) := by decide +kernel
theorem dX1_counts_19 : decode cX1_counts 19 = .ok (.iconst 1, 1) := by decide +kernel
theorem dX1_counts_20 : decode cX1_counts 20 = .ok (.goto 4, 3) := by decide +kernel
theorem dX1_counts_23 : decode cX1_counts 23 = .ok (.iconst 0, 1) := by decide +kernel
theorem dX1_counts_24 : decode cX1_counts 24 = .ok (.ireturn, 1) := by decide +kernel
theorem dX1_weightOf_0 : decode cX1_weightOf 0 = .ok (.aload_n 0, 1) := by decide +kernel
theorem dX1_weightOf_1 : decode cX1_weightOf 1 = .ok (.getfield 11, 3) := by decide +kernel
theorem dX1_weightOf_4 : decode cX1_weightOf 4 = .ok (.iload_n 1, 1) := by decide +kernel
theorem dX1_weightOf_5 : decode cX1_weightOf 5 = .ok (.invokestatic 40, 3) := by decide +kernel
theorem dX1_weightOf_8 : decode cX1_weightOf 8 = .ok (.bipush 64, 2) := by decide +kernel
theorem dX1_weightOf_10 : decode cX1_weightOf 10 = .ok (.idiv, 1) := by decide +kernel
theorem dX1_weightOf_11 : decode cX1_weightOf 11 = .ok (.ireturn, 1) := by decide +kernel
theorem dX1_powerOf_0 : decode cX1_powerOf 0 = .ok (.aload_n 0, 1) := by decide +kernel
theorem dX1_powerOf_1 : decode cX1_powerOf 1 = .ok (.getfield 11, 3) := by decide +kernel
theorem dX1_powerOf_4 : decode cX1_powerOf 4 = .ok (.iload_n 1, 1) := by decide +kernel
theorem dX1_powerOf_5 : decode cX1_powerOf 5 = .ok (.invokestatic 40, 3) := by decide +kernel
theorem dX1_powerOf_8 : decode cX1_powerOf 8 = .ok (.bipush 64, 2) := by decide +kernel
theorem dX1_powerOf_10 : decode cX1_powerOf 10 = .ok (.irem, 1) := by decide +kernel
theorem dX1_powerOf_11 : decode cX1_powerOf 11 = .ok (.ireturn, 1) := by decide +kernel
theorem dX1_best_0 : decode cX1_best 0 = .ok (.iconst (-1), 1) := by decide +kernel
theorem dX1_best_1 : decode cX1_best 1 = .ok (.istore_n 2, 1) := by decide +kernel
theorem dX1_best_2 : decode cX1_best 2 = .ok (.iconst 0, 1) := by decide +kernel
theorem dX1_best_3 : decode cX1_best 3 = .ok (.istore_n 3, 1) := by decide +kernel
theorem dX1_best_4 : decode cX1_best 4 = .ok (.iload_n 3, 1) := by decide +kernel
theorem dX1_best_5 : decode cX1_best 5 = .ok (.aload_n 0, 1) := by decide +kernel
theorem dX1_best_6 : decode cX1_best 6 = .ok (.getfield 11, 3) := by decide +kernel
theorem dX1_best_9 : decode cX1_best 9 = .ok (.arraylength, 1) := by decide +kernel
theorem dX1_best_10 : decode cX1_best 10 = .ok (.if_icmp .ge 45, 3) := by decide +kernel
theorem dX1_best_13 : decode cX1_best 13 = .ok (.aload_n 0, 1) := by decide +kernel
theorem dX1_best_14 : decode cX1_best 14 = .ok (.iload_n 3, 1) := by decide +kernel
theorem dX1_best_15 : decode cX1_best 15 = .ok (.invokevirtual 108, 3) := by decide +kernel
theorem dX1_best_18 : decode cX1_best 18 = .ok (.ifCond .eq 31, 3) := by decide +kernel
theorem dX1_best_21 : decode cX1_best 21 = .ok (.aload_n 0, 1) := by decide +kernel
theorem dX1_best_22 : decode cX1_best 22 = .ok (.iload_n 3, 1) := by decide +kernel
theorem dX1_best_23 : decode cX1_best 23 = .ok (.invokevirtual 111, 3) := by decide +kernel
theorem dX1_best_26 : decode cX1_best 26 = .ok (.iload_n 1, 1) := by decide +kernel
theorem dX1_best_27 : decode cX1_best 27 = .ok (.if_icmp .lt 22, 3) := by decide +kernel
theorem dX1_best_30 : decode cX1_best 30 = .ok (.iload_n 2, 1) := by decide +kernel
theorem dX1_best_31 : decode cX1_best 31 = .ok (.ifCond .lt 16, 3) := by decide +kernel
theorem dX1_best_34 : decode cX1_best 34 = .ok (.aload_n 0, 1) := by decide +kernel
theorem dX1_best_35 : decode cX1_best 35 = .ok (.iload_n 3, 1) := by decide +kernel
theorem dX1_best_36 : decode cX1_best 36 = .ok (.invokevirtual 114, 3) := by decide +kernel
theorem dX1_best_39 : decode cX1_best 39 = .ok (.aload_n 0, 1) := by decide +kernel
theorem dX1_best_40 : decode cX1_best 40 = .ok (.iload_n 2, 1) := by decide +kernel
theorem dX1_best_41 : decode cX1_best 41 = .ok (.invokevirtual 114, 3) := by decide +kernel
theorem dX1_best_44 : decode cX1_best 44 = .ok (.if_icmp .ge 5, 3) := by decide +kernel
theorem dX1_best_47 : decode cX1_best 47 = .ok (.iload_n 3, 1) := by decide +kernel
theorem dX1_best_48 : decode cX1_best 48 = .ok (.istore_n 2, 1) := by decide +kernel
theorem dX1_best_49 : decode cX1_best 49 = .ok (.iinc 3 1, 3) := by decide +kernel
theorem dX1_best_52 : decode cX1_best 52 = .ok (.goto (-48), 3) := by decide +kernel
theorem dX1_best_55 : decode cX1_best 55 = .ok (.iload_n 2, 1) := by decide +kernel
theorem dX1_best_56 : decode cX1_best 56 = .ok (.ireturn, 1) := by decide +kernel
theorem dX1_highestPower_0 : decode cX1_highestPower 0 = .ok (.bipush (-2), 2) := by decide +kernel
theorem dX1_highestPower_2 : decode cX1_highestPower 2 = .ok (.istore_n 1, 1) := by decide +kernel
theorem dX1_highestPower_3 : decode cX1_highestPower 3 = .ok (.iconst 0, 1) := by decide +kernel
theorem dX1_highestPower_4 : decode cX1_highestPower 4 = .ok (.istore_n 2, 1) := by decide +kernel
theorem dX1_highestPower_5 : decode cX1_highestPower 5 = .ok (.iload_n 2, 1) := by decide +kernel
theorem dX1_highestPower_6 : decode cX1_highestPower 6 = .ok (.aload_n 0, 1) := by decide +kernel
theorem dX1_highestPower_7 : decode cX1_highestPower 7 = .ok (.getfield 11, 3) := by decide +kernel
theorem dX1_highestPower_10 : decode cX1_highestPower 10 = .ok (.arraylength, 1) := by decide +kernel
theorem dX1_highestPower_11 : decode cX1_highestPower 11 = .ok (.if_icmp .ge 27, 3) := by decide +kernel
theorem dX1_highestPower_14 : decode cX1_highestPower 14 = .ok (.aload_n 0, 1) := by decide +kernel
theorem dX1_highestPower_15 : decode cX1_highestPower 15 = .ok (.iload_n 2, 1) := by decide +kernel
theorem dX1_highestPower_16 : decode cX1_highestPower 16 = .ok (.invokevirtual 108, 3) := by decide +kernel
theorem dX1_highestPower_19 : decode cX1_highestPower 19 = .ok (.ifCond .eq 13, 3) := by decide +kernel
theorem dX1_highestPower_22 : decode cX1_highestPower 22 = .ok (.iload_n 1, 1) := by decide +kernel
theorem dX1_highestPower_23 : decode cX1_highestPower 23 = .ok (.aload_n 0, 1) := by decide +kernel
theorem dX1_highestPower_24 : decode cX1_highestPower 24 = .ok (.iload_n 2, 1) := by decide +kernel
theorem dX1_highestPower_25 : decode cX1_highestPower 25 = .ok (.invokevirtual 111, 3) := by decide +kernel
theorem dX1_highestPower_28 : decode cX1_highestPower 28 = .ok (.invokestatic 117, 3) := by decide +kernel
theorem dX1_highestPower_31 : decode cX1_highestPower 31 = .ok (.istore_n 1, 1) := by decide +kernel
theorem dX1_highestPower_32 : decode cX1_highestPower 32 = .ok (.iinc 2 1, 3) := by decide +kernel
theorem dX1_highestPower_35 : decode cX1_highestPower 35 = .ok (.goto (-30), 3) := by decide +kernel
theorem dX1_highestPower_38 : decode cX1_highestPower 38 = .ok (.iload_n 1, 1) := by decide +kernel
theorem dX1_highestPower_39 : decode cX1_highestPower 39 = .ok (.ireturn, 1) := by decide +kernel
theorem dX1_count_0 : decode cX1_count 0 = .ok (.iconst 0, 1) := by decide +kernel
theorem dX1_count_1 : decode cX1_count 1 = .ok (.istore_n 2, 1) := by decide +kernel
theorem dX1_count_2 : decode cX1_count 2 = .ok (.iconst 0, 1) := by decide +kernel
theorem dX1_count_3 : decode cX1_count 3 = .ok (.istore_n 3, 1) := by decide +kernel
theorem dX1_count_4 : decode cX1_count 4 = .ok (.iload_n 3, 1) := by decide +kernel
theorem dX1_count_5 : decode cX1_count 5 = .ok (.aload_n 0, 1) := by decide +kernel
theorem dX1_count_6 : decode cX1_count 6 = .ok (.getfield 11, 3) := by decide +kernel
theorem dX1_count_9 : decode cX1_count 9 = .ok (.arraylength, 1) := by decide +kernel
theorem dX1_count_10 : decode cX1_count 10 = .ok (.if_icmp .ge 29, 3) := by decide +kernel
theorem dX1_count_13 : decode cX1_count 13 = .ok (.aload_n 0, 1) := by decide +kernel
theorem dX1_count_14 : decode cX1_count 14 = .ok (.iload_n 3, 1) := by decide +kernel
theorem dX1_count_15 : decode cX1_count 15 = .ok (.invokevirtual 108, 3) := by decide +kernel
theorem dX1_count_18 : decode cX1_count 18 = .ok (.ifCond .eq 15, 3) := by decide +kernel
theorem dX1_count_21 : decode cX1_count 21 = .ok (.aload_n 0, 1) := by decide +kernel
theorem dX1_count_22 : decode cX1_count 22 = .ok (.iload_n 3, 1) := by decide +kernel
theorem dX1_count_23 : decode cX1_count 23 = .ok (.invokevirtual 111, 3) := by decide +kernel
theorem dX1_count_26 : decode cX1_count 26 = .ok (.iload_n 1, 1) := by decide +kernel
theorem dX1_count_27 : decode cX1_count 27 = .ok (.if_icmp .lt 6, 3) := by decide +kernel
theorem dX1_count_30 : decode cX1_count 30 = .ok (.iinc 2 1, 3) := by decide +kernel
theorem dX1_count_33 : decode cX1_count 33 = .ok (.iinc 3 1, 3) := by decide +kernel
theorem dX1_count_36 : decode cX1_count 36 = .ok (.goto (-32), 3) := by decide +kernel
theorem dX1_count_39 : decode cX1_count 39 = .ok (.iload_n 2, 1) := by decide +kernel
theorem dX1_count_40 : decode cX1_count 40 = .ok (.ireturn, 1) := by decide +kernel
theorem dX1_extreme_0 : decode cX1_extreme 0 = .ok (.bipush (-2), 2) := by decide +kernel
theorem dX1_extreme_2 : decode cX1_extreme 2 = .ok (.istore 4, 2) := by decide +kernel
theorem dX1_extreme_4 : decode cX1_extreme 4 = .ok (.iconst 0, 1) := by decide +kernel
theorem dX1_extreme_5 : decode cX1_extreme 5 = .ok (.istore 5, 2) := by decide +kernel
theorem dX1_extreme_7 : decode cX1_extreme 7 = .ok (.iload 5, 2) := by decide +kernel
theorem dX1_extreme_9 : decode cX1_extreme 9 = .ok (.aload_n 0, 1) := by decide +kernel
theorem dX1_extreme_10 : decode cX1_extreme 10 = .ok (.getfield 11, 3) := by decide +kernel
theorem dX1_extreme_13 : decode cX1_extreme 13 = .ok (.arraylength, 1) := by decide +kernel
theorem dX1_extreme_14 : decode cX1_extreme 14 = .ok (.if_icmp .ge 66, 3) := by decide +kernel
theorem dX1_extreme_17 : decode cX1_extreme 17 = .ok (.aload_n 0, 1) := by decide +kernel
theorem dX1_extreme_18 : decode cX1_extreme 18 = .ok (.iload 5, 2) := by decide +kernel
theorem dX1_extreme_20 : decode cX1_extreme 20 = .ok (.invokevirtual 108, 3) := by decide +kernel
theorem dX1_extreme_23 : decode cX1_extreme 23 = .ok (.ifCond .eq 51, 3) := by decide +kernel
theorem dX1_extreme_26 : decode cX1_extreme 26 = .ok (.aload_n 0, 1) := by decide +kernel
theorem dX1_extreme_27 : decode cX1_extreme 27 = .ok (.iload 5, 2) := by decide +kernel
theorem dX1_extreme_29 : decode cX1_extreme 29 = .ok (.invokevirtual 111, 3) := by decide +kernel
theorem dX1_extreme_32 : decode cX1_extreme 32 = .ok (.iload_n 1, 1) := by decide +kernel
theorem dX1_extreme_33 : decode cX1_extreme 33 = .ok (.if_icmp .lt 41, 3) := by decide +kernel
theorem dX1_extreme_36 : decode cX1_extreme 36 = .ok (.iload 5, 2) := by decide +kernel
theorem dX1_extreme_38 : decode cX1_extreme 38 = .ok (.iload_n 2, 1) := by decide +kernel
theorem dX1_extreme_39 : decode cX1_extreme 39 = .ok (.invokestatic 101, 3) := by decide +kernel
theorem dX1_extreme_42 : decode cX1_extreme 42 = .ok (.istore 6, 2) := by decide +kernel
theorem dX1_extreme_44 : decode cX1_extreme 44 = .ok (.iload 4, 2) := by decide +kernel
theorem dX1_extreme_46 : decode cX1_extreme 46 = .ok (.ifCond .lt 24, 3) := by decide +kernel
theorem dX1_extreme_49 : decode cX1_extreme 49 = .ok (.iload_n 3, 1) := by decide +kernel
theorem dX1_extreme_50 : decode cX1_extreme 50 = .ok (.ifCond .eq 13, 3) := by decide +kernel
theorem dX1_extreme_53 : decode cX1_extreme 53 = .ok (.iload 6, 2) := by decide +kernel
theorem dX1_extreme_55 : decode cX1_extreme 55 = .ok (.iload 4, 2) := by decide +kernel
theorem dX1_extreme_57 : decode cX1_extreme 57 = .ok (.if_icmp .le 17, 3) := by decide +kernel
theorem dX1_extreme_60 : decode cX1_extreme 60 = .ok (.goto 10, 3) := by decide +kernel
theorem dX1_extreme_63 : decode cX1_extreme 63 = .ok (.iload 6, 2) := by decide +kernel
theorem dX1_extreme_65 : decode cX1_extreme 65 = .ok (.iload 4, 2) := by decide +kernel
theorem dX1_extreme_67 : decode cX1_extreme 67 = .ok (.if_icmp .ge 7, 3) := by decide +kernel
theorem dX1_extreme_70 : decode cX1_extreme 70 = .ok (.iload 6, 2) := by decide +kernel
theorem dX1_extreme_72 : decode cX1_extreme 72 = .ok (.istore 4, 2) := by decide +kernel
theorem dX1_extreme_74 : decode cX1_extreme 74 = .ok (.iinc 5 1, 3) := by decide +kernel
theorem dX1_extreme_77 : decode cX1_extreme 77 = .ok (.goto (-70), 3) := by decide +kernel
theorem dX1_extreme_80 : decode cX1_extreme 80 = .ok (.iload 4, 2) := by decide +kernel
theorem dX1_extreme_82 : decode cX1_extreme 82 = .ok (.ireturn, 1) := by decide +kernel
theorem dX1_heaviestLoad_0 : decode cX1_heaviestLoad 0 = .ok (.iconst 0, 1) := by decide +kernel
theorem dX1_heaviestLoad_1 : decode cX1_heaviestLoad 1 = .ok (.istore 4, 2) := by decide +kernel
theorem dX1_heaviestLoad_3 : decode cX1_heaviestLoad 3 = .ok (.iconst 0, 1) := by decide +kernel
theorem dX1_heaviestLoad_4 : decode cX1_heaviestLoad 4 = .ok (.istore 5, 2) := by decide +kernel
theorem dX1_heaviestLoad_6 : decode cX1_heaviestLoad 6 = .ok (.iload 5, 2) := by decide +kernel
theorem dX1_heaviestLoad_8 : decode cX1_heaviestLoad 8 = .ok (.aload_n 0, 1) := by decide +kernel
theorem dX1_heaviestLoad_9 : decode cX1_heaviestLoad 9 = .ok (.getfield 11, 3) := by decide +kernel
theorem dX1_heaviestLoad_12 : decode cX1_heaviestLoad 12 = .ok (.arraylength, 1) := by decide +kernel
theorem dX1_heaviestLoad_13 : decode cX1_heaviestLoad 13 = .ok (.if_icmp .ge 59, 3) := by decide +kernel
theorem dX1_heaviestLoad_16 : decode cX1_heaviestLoad 16 = .ok (.aload_n 3, 1) := by decide +kernel
theorem dX1_heaviestLoad_17 : decode cX1_heaviestLoad 17 = .ok (.iload 5, 2) := by decide +kernel
theorem dX1_heaviestLoad_19 : decode cX1_heaviestLoad 19 = .ok (.invokevirtual 48, 3) := by decide +kernel
theorem dX1_heaviestLoad_22 : decode cX1_heaviestLoad 22 = .ok (.aload_n 1, 1) := by decide +kernel
theorem dX1_heaviestLoad_23 : decode cX1_heaviestLoad 23 = .ok (.aload_n 3, 1) := by decide +kernel
theorem dX1_heaviestLoad_24 : decode cX1_heaviestLoad 24 = .ok (.invokestatic 54, 3) := by decide +kernel
theorem dX1_heaviestLoad_27 : decode cX1_heaviestLoad 27 = .ok (.ifCond .eq 39, 3) := by decide +kernel
theorem dX1_heaviestLoad_30 : decode cX1_heaviestLoad 30 = .ok (.aload_n 0, 1) := by decide +kernel
theorem dX1_heaviestLoad_31 : decode cX1_heaviestLoad 31 = .ok (.iload 5, 2) := by decide +kernel
theorem dX1_heaviestLoad_33 : decode cX1_heaviestLoad 33 = .ok (.invokevirtual 104, 3) := by decide +kernel
theorem dX1_heaviestLoad_36 : decode cX1_heaviestLoad 36 = .ok (.ifCond .eq 30, 3) := by decide +kernel
theorem dX1_heaviestLoad_39 : decode cX1_heaviestLoad 39 = .ok (.iload 4, 2) := by decide +kernel
theorem dX1_heaviestLoad_41 : decode cX1_heaviestLoad 41 = .ok (.bipush 40, 2) := by decide +kernel
theorem dX1_heaviestLoad_43 : decode cX1_heaviestLoad 43 = .ok (.if_icmp .ge 23, 3) := by decide +kernel
theorem dX1_heaviestLoad_46 : decode cX1_heaviestLoad 46 = .ok (.aload_n 0, 1) := by decide +kernel
theorem dX1_heaviestLoad_47 : decode cX1_heaviestLoad 47 = .ok (.aload_n 1, 1) := by decide +kernel
theorem dX1_heaviestLoad_48 : decode cX1_heaviestLoad 48 = .ok (.iload 4, 2) := by decide +kernel
theorem dX1_heaviestLoad_50 : decode cX1_heaviestLoad 50 = .ok (.iconst 1, 1) := by decide +kernel
theorem dX1_heaviestLoad_51 : decode cX1_heaviestLoad 51 = .ok (.iadd, 1) := by decide +kernel
theorem dX1_heaviestLoad_52 : decode cX1_heaviestLoad 52 = .ok (.aload_n 3, 1) := by decide +kernel
theorem dX1_heaviestLoad_53 : decode cX1_heaviestLoad 53 = .ok (.invokevirtual 58, 3) := by decide +kernel
theorem dX1_heaviestLoad_56 : decode cX1_heaviestLoad 56 = .ok (.iload_n 2, 1) := by decide +kernel
theorem dX1_heaviestLoad_57 : decode cX1_heaviestLoad 57 = .ok (.if_icmp .lt 9, 3) := by decide +kernel
theorem dX1_heaviestLoad_60 : decode cX1_heaviestLoad 60 = .ok (.iinc 4 1, 3) := by decide +kernel
theorem dX1_heaviestLoad_63 : decode cX1_heaviestLoad 63 = .ok (.goto (-24), 3) := by decide +kernel
theorem dX1_heaviestLoad_66 : decode cX1_heaviestLoad 66 = .ok (.iinc 5 1, 3) := by decide +kernel
theorem dX1_heaviestLoad_69 : decode cX1_heaviestLoad 69 = .ok (.goto (-63), 3) := by decide +kernel
theorem dX1_heaviestLoad_72 : decode cX1_heaviestLoad 72 = .ok (.iload 4, 2) := by decide +kernel
theorem dX1_heaviestLoad_74 : decode cX1_heaviestLoad 74 = .ok (.ifCond .ne 8, 3) := by decide +kernel
theorem dX1_heaviestLoad_77 : decode cX1_heaviestLoad 77 = .ok (.bipush (-2), 2) := by decide +kernel
theorem dX1_heaviestLoad_79 : decode cX1_heaviestLoad 79 = .ok (.goto 5, 3) := by decide +kernel
theorem dX1_heaviestLoad_82 : decode cX1_heaviestLoad 82 = .ok (.iload 4, 2) := by decide +kernel
theorem dX1_heaviestLoad_84 : decode cX1_heaviestLoad 84 = .ok (.ireturn, 1) := by decide +kernel
theorem dX2_init_0 : decode cX2_init 0 = .ok (.aload_n 0, 1) := by decide +kernel
theorem dX2_init_1 : decode cX2_init 1 = .ok (.invokespecial 3, 3) := by decide +kernel
theorem dX2_init_4 : decode cX2_init 4 = .ok (.aload_n 0, 1) := by decide +kernel
theorem dX2_init_5 : decode cX2_init 5 = .ok (.bipush 51, 2) := by decide +kernel
theorem dX2_init_7 : decode cX2_init 7 = .ok (.newarray .int, 2) := by decide +kernel
theorem dX2_init_9 : decode cX2_init 9 = .ok (.putfield 11, 3) := by decide +kernel
theorem dX2_init_12 : decode cX2_init 12 = .ok (.aload_n 0, 1) := by decide +kernel
theorem dX2_init_13 : decode cX2_init 13 = .ok (.bipush 51, 2) := by decide +kernel
theorem dX2_init_15 : decode cX2_init 15 = .ok (.newarray .int, 2) := by decide +kernel
theorem dX2_init_17 : decode cX2_init 17 = .ok (.putfield 15, 3) := by decide +kernel
theorem dX2_init_20 : decode cX2_init 20 = .ok (.aload_n 0, 1) := by decide +kernel
theorem dX2_init_21 : decode cX2_init 21 = .ok (.bipush 51, 2) := by decide +kernel
theorem dX2_init_23 : decode cX2_init 23 = .ok (.newarray .int, 2) := by decide +kernel
theorem dX2_init_25 : decode cX2_init 25 = .ok (.putfield 18, 3) := by decide +kernel
theorem dX2_init_28 : decode cX2_init 28 = .ok (.aload_n 0, 1) := by decide +kernel
theorem dX2_init_29 : decode cX2_init 29 = .ok (.bipush 51, 2) := by decide +kernel
theorem dX2_init_31 : decode cX2_init 31 = .ok (.newarray .int, 2) := by decide +kernel
theorem dX2_init_33 : decode cX2_init 33 = .ok (.putfield 21, 3) := by decide +kernel
theorem dX2_init_36 : decode cX2_init 36 = .ok (.aload_n 0, 1) := by decide +kernel
theorem dX2_init_37 : decode cX2_init 37 = .ok (.bipush 51, 2) := by decide +kernel
theorem dX2_init_39 : decode cX2_init 39 = .ok (.newarray .int, 2) := by decide +kernel
theorem dX2_init_41 : decode cX2_init 41 = .ok (.putfield 24, 3) := by decide +kernel
theorem dX2_init_44 : decode cX2_init 44 = .ok (.aload_n 0, 1) := by decide +kernel
theorem dX2_init_45 : decode cX2_init 45 = .ok (.bipush 51, 2) := by decide +kernel
theorem dX2_init_47 : decode cX2_init 47 = .ok (.newarray .int, 2) := by decide +kernel
theorem dX2_init_49 : decode cX2_init 49 = .ok (.putfield 27, 3) := by decide +kernel
theorem dX2_init_52 : decode cX2_init 52 = .ok (.aload_n 0, 1) := by decide +kernel
theorem dX2_init_53 : decode cX2_init 53 = .ok (.new 30, 3) := by decide +kernel
theorem dX2_init_56 : decode cX2_init 56 = .ok (.dup, 1) := by decide +kernel
theorem dX2_init_57 : decode cX2_init 57 = .ok (.invokespecial 32, 3) := by decide +kernel
theorem dX2_init_60 : decode cX2_init 60 = .ok (.putfield 33, 3) := by decide +kernel
theorem dX2_init_63 : decode cX2_init 63 = .ok (.aload_n 0, 1) := by decide +kernel
theorem dX2_init_64 : decode cX2_init 64 = .ok (.iconst 0, 1) := by decide +kernel
theorem dX2_init_65 : decode cX2_init 65 = .ok (.putfield 37, 3) := by decide +kernel
theorem dX2_init_68 : decode cX2_init 68 = .ok (.aload_n 0, 1) := by decide +kernel
theorem dX2_init_69 : decode cX2_init 69 = .ok (.iconst 0, 1) := by decide +kernel
theorem dX2_init_70 : decode cX2_init 70 = .ok (.putfield 41, 3) := by decide +kernel
theorem dX2_init_73 : decode cX2_init 73 = .ok (.aload_n 0, 1) := by decide +kernel
theorem dX2_init_74 : decode cX2_init 74 = .ok (.iconst 0, 1) := by decide +kernel
theorem dX2_init_75 : decode cX2_init 75 = .ok (.putfield 44, 3) := by decide +kernel
theorem dX2_init_78 : decode cX2_init 78 = .ok (.return_, 1) := by decide +kernel
theorem dX2_fly_0 : decode cX2_fly 0 = .ok (.aload_n 0, 1) := by decide +kernel
theorem dX2_fly_1 : decode cX2_fly 1 = .ok (.iconst 0, 1) := by decide +kernel
theorem dX2_fly_2 : decode cX2_fly 2 = .ok (.putfield 37, 3) := by decide +kernel
theorem dX2_fly_5 : decode cX2_fly 5 = .ok (.aload_n 0, 1) := by decide +kernel
theorem dX2_fly_6 : decode cX2_fly 6 = .ok (.iconst 0, 1) := by decide +kernel
theorem dX2_fly_7 : decode cX2_fly 7 = .ok (.putfield 41, 3) := by decide +kernel
theorem dX2_fly_10 : decode cX2_fly 10 = .ok (.aload_n 0, 1) := by decide +kernel
theorem dX2_fly_11 : decode cX2_fly 11 = .ok (.iconst 0, 1) := by decide +kernel
theorem dX2_fly_12 : decode cX2_fly 12 = .ok (.putfield 44, 3) := by decide +kernel
theorem dX2_fly_15 : decode cX2_fly 15 = .ok (.aload_n 0, 1) := by decide +kernel
theorem dX2_fly_16 : decode cX2_fly 16 = .ok (.getfield 33, 3) := by decide +kernel
theorem dX2_fly_19 : decode cX2_fly 19 = .ok (.invokevirtual 47, 3) := by decide +kernel
theorem dX2_fly_22 : decode cX2_fly 22 = .ok (.iconst 0, 1) := by decide +kernel
theorem dX2_fly_23 : decode cX2_fly 23 = .ok (.istore 5, 2) := by decide +kernel
theorem dX2_fly_25 : decode cX2_fly 25 = .ok (.iload 5, 2) := by decide +kernel
theorem dX2_fly_27 : decode cX2_fly 27 = .ok (.aload_n 1, 1) := by decide +kernel
theorem dX2_fly_28 : decode cX2_fly 28 = .ok (.getfield 50, 3) := by decide +kernel
theorem dX2_fly_31 : decode cX2_fly 31 = .ok (.if_icmp .ge 29, 3) := by decide +kernel
theorem dX2_fly_34 : decode cX2_fly 34 = .ok (.aload_n 0, 1) := by decide +kernel
theorem dX2_fly_35 : decode cX2_fly 35 = .ok (.aload_n 1, 1) := by decide +kernel
theorem dX2_fly_36 : decode cX2_fly 36 = .ok (.aload_n 2, 1) := by decide +kernel
theorem dX2_fly_37 : decode cX2_fly 37 = .ok (.iload 5, 2) := by decide +kernel
theorem dX2_fly_39 : decode cX2_fly 39 = .ok (.iload 5, 2) := by decide +kernel
theorem dX2_fly_41 : decode cX2_fly 41 = .ok (.iload_n 3, 1) := by decide +kernel
theorem dX2_fly_42 : decode cX2_fly 42 = .ok (.if_icmp .ne 8, 3) := by decide +kernel
theorem dX2_fly_45 : decode cX2_fly 45 = .ok (.iload 4, 2) := by decide +kernel
theorem dX2_fly_47 : decode cX2_fly 47 = .ok (.goto 4, 3) := by decide +kernel
theorem dX2_fly_50 : decode cX2_fly 50 = .ok (.iconst 0, 1) := by decide +kernel
theorem dX2_fly_51 : decode cX2_fly 51 = .ok (.invokevirtual 55, 3) := by decide +kernel
theorem dX2_fly_54 : decode cX2_fly 54 = .ok (.iinc 5 1, 3) := by decide +kernel
theorem dX2_fly_57 : decode cX2_fly 57 = .ok (.goto (-32), 3) := by decide +kernel
theorem dX2_fly_60 : decode cX2_fly 60 = .ok (.aload_n 1, 1) := by decide +kernel
theorem dX2_fly_61 : decode cX2_fly 61 = .ok (.getfield 59, 3) := by decide +kernel
theorem dX2_fly_64 : decode cX2_fly 64 = .ok (.ifCond .le 36, 3) := by decide +kernel
theorem dX2_fly_67 : decode cX2_fly 67 = .ok (.aload_n 0, 1) := by decide +kernel
theorem dX2_fly_68 : decode cX2_fly 68 = .ok (.getfield 33, 3) := by decide +kernel
theorem dX2_fly_71 : decode cX2_fly 71 = .ok (.aload_n 1, 1) := by decide +kernel
theorem dX2_fly_72 : decode cX2_fly 72 = .ok (.getfield 59, 3) := by decide +kernel
theorem dX2_fly_75 : decode cX2_fly 75 = .ok (.aload_n 0, 1) := by decide +kernel
theorem dX2_fly_76 : decode cX2_fly 76 = .ok (.getfield 37, 3) := by decide +kernel
theorem dX2_fly_79 : decode cX2_fly 79 = .ok (.invokevirtual 62, 3) := by decide +kernel
theorem dX2_fly_82 : decode cX2_fly 82 = .ok (.aload_n 0, 1) := by decide +kernel
theorem dX2_fly_83 : decode cX2_fly 83 = .ok (.getfield 33, 3) := by decide +kernel
theorem dX2_fly_86 : decode cX2_fly 86 = .ok (.aload_n 1, 1) := by decide +kernel
theorem dX2_fly_87 : decode cX2_fly 87 = .ok (.getfield 59, 3) := by decide +kernel
theorem dX2_fly_90 : decode cX2_fly 90 = .ok (.iconst 1, 1) := by decide +kernel
theorem dX2_fly_91 : decode cX2_fly 91 = .ok (.iadd, 1) := by decide +kernel
theorem dX2_fly_92 : decode cX2_fly 92 = .ok (.aload_n 0, 1) := by decide +kernel
theorem dX2_fly_93 : decode cX2_fly 93 = .ok (.getfield 37, 3) := by decide +kernel
theorem dX2_fly_96 : decode cX2_fly 96 = .ok (.ineg, 1) := by decide +kernel
theorem dX2_fly_97 : decode cX2_fly 97 = .ok (.invokevirtual 62, 3) := by decide +kernel
theorem dX2_fly_100 : decode cX2_fly 100 = .ok (.return_, 1) := by decide +kernel
theorem dX2_burn_0 : decode cX2_burn 0 = .ok (.aload_n 1, 1) := by decide +kernel
theorem dX2_burn_1 : decode cX2_burn 1 = .ok (.iload_n 3, 1) := by decide +kernel
theorem dX2_burn_2 : decode cX2_burn 2 = .ok (.iconst 0, 1) := by decide +kernel
theorem dX2_burn_3 : decode cX2_burn 3 = .ok (.invokevirtual 66, 3) := by decide +kernel
theorem dX2_burn_6 : decode cX2_burn 6 = .ok (.istore 5, 2) := by decide +kernel
theorem dX2_burn_8 : decode cX2_burn 8 = .ok (.aload_n 1, 1) := by decide +kernel
theorem dX2_burn_9 : decode cX2_burn 9 = .ok (.iload_n 3, 1) := by decide +kernel
theorem dX2_burn_10 : decode cX2_burn 10 = .ok (.iconst 4, 1) := by decide +kernel
theorem dX2_burn_11 : decode cX2_burn 11 = .ok (.invokevirtual 66, 3) := by decide +kernel
theorem dX2_burn_14 : decode cX2_burn 14 = .ok (.istore 6, 2) := by decide +kernel
theorem dX2_burn_16 : decode cX2_burn 16 = .ok (.aload_n 2, 1) := by decide +kernel
theorem dX2_burn_17 : decode cX2_burn 17 = .ok (.getfield 70, 3) := by decide +kernel
theorem dX2_burn_20 : decode cX2_burn 20 = .ok (.iload_n 3, 1) := by decide +kernel
theorem dX2_burn_21 : decode cX2_burn 21 = .ok (.invokestatic 75, 3) := by decide +kernel
theorem dX2_burn_24 : decode cX2_burn 24 = .ok (.istore 7, 2) := by decide +kernel
theorem dX2_burn_26 : decode cX2_burn 26 = .ok (.aload_n 2, 1) := by decide +kernel
theorem dX2_burn_27 : decode cX2_burn 27 = .ok (.getfield 79, 3) := by decide +kernel
theorem dX2_burn_30 : decode cX2_burn 30 = .ok (.iload_n 3, 1) := by decide +kernel
theorem dX2_burn_31 : decode cX2_burn 31 = .ok (.invokestatic 75, 3) := by decide +kernel
theorem dX2_burn_34 : decode cX2_burn 34 = .ok (.istore 8, 2) := by decide +kernel
theorem dX2_burn_36 : decode cX2_burn 36 = .ok (.iconst 1, 1) := by decide +kernel
theorem dX2_burn_37 : decode cX2_burn 37 = .ok (.istore 9, 2) := by decide +kernel
theorem dX2_burn_39 : decode cX2_burn 39 = .ok (.iload 7, 2) := by decide +kernel
theorem dX2_burn_41 : decode cX2_burn 41 = .ok (.ifCond .le 213, 3) := by decide +kernel
theorem dX2_burn_44 : decode cX2_burn 44 = .ok (.iload 6, 2) := by decide +kernel
theorem dX2_burn_46 : decode cX2_burn 46 = .ok (.ifCond .le 208, 3) := by decide +kernel
theorem dX2_burn_49 : decode cX2_burn 49 = .ok (.iload 9, 2) := by decide +kernel
theorem dX2_burn_51 : decode cX2_burn 51 = .ok (.bipush 99, 2) := by decide +kernel
theorem dX2_burn_53 : decode cX2_burn 53 = .ok (.if_icmp .gt 201, 3) := by decide +kernel
theorem dX2_burn_56 : decode cX2_burn 56 = .ok (.aload_n 1, 1) := by decide +kernel
theorem dX2_burn_57 : decode cX2_burn 57 = .ok (.iload_n 3, 1) := by decide +kernel
theorem dX2_burn_58 : decode cX2_burn 58 = .ok (.iload 9, 2) := by decide +kernel
theorem dX2_burn_60 : decode cX2_burn 60 = .ok (.invokevirtual 82, 3) := by decide +kernel
theorem dX2_burn_63 : decode cX2_burn 63 = .ok (.iload 9, 2) := by decide +kernel
theorem dX2_burn_65 : decode cX2_burn 65 = .ok (.iload 4, 2) := by decide +kernel
theorem dX2_burn_67 : decode cX2_burn 67 = .ok (.if_icmp .ne 7, 3) := by decide +kernel
theorem dX2_burn_70 : decode cX2_burn 70 = .ok (.iconst 1, 1) := by decide +kernel
theorem dX2_burn_71 : decode cX2_burn 71 = .ok (.goto 4, 3) := by decide +kernel
theorem dX2_burn_74 : decode cX2_burn 74 = .ok (.iconst 0, 1) := by decide +kernel
theorem dX2_burn_75 : decode cX2_burn 75 = .ok (.iadd, 1) := by decide +kernel
theorem dX2_burn_76 : decode cX2_burn 76 = .ok (.istore 10, 2) := by decide +kernel
theorem dX2_burn_78 : decode cX2_burn 78 = .ok (.iload 5, 2) := by decide +kernel
theorem dX2_burn_80 : decode cX2_burn 80 = .ok (.iconst 2, 1) := by decide +kernel
theorem dX2_burn_81 : decode cX2_burn 81 = .ok (.if_icmp .ne 7, 3) := by decide +kernel
theorem dX2_burn_84 : decode cX2_burn 84 = .ok (.iconst 0, 1) := by decide +kernel
theorem dX2_burn_85 : decode cX2_burn 85 = .ok (.goto 10, 3) := by decide +kernel
theorem dX2_burn_88 : decode cX2_burn 88 = .ok (.iload 10, 2) := by decide +kernel
theorem dX2_burn_90 : decode cX2_burn 90 = .ok (.iload 6, 2) := by decide +kernel
theorem dX2_burn_92 : decode cX2_burn 92 = .ok (.invokestatic 85, 3) := by decide +kernel
theorem dX2_burn_95 : decode cX2_burn 95 = .ok (.istore 11, 2) := by decide +kernel
theorem dX2_burn_97 : decode cX2_burn 97 = .ok (.iload 6, 2) := by decide +kernel
theorem dX2_burn_99 : decode cX2_burn 99 = .ok (.iload 11, 2) := by decide +kernel
theorem dX2_burn_101 : decode cX2_burn 101 = .ok (.isub, 1) := by decide +kernel
theorem dX2_burn_102 : decode cX2_burn 102 = .ok (.istore 6, 2) := by decide +kernel
theorem dX2_burn_104 : decode cX2_burn 104 = .ok (.aload_n 0, 1) := by decide +kernel
theorem dX2_burn_105 : decode cX2_burn 105 = .ok (.dup, 1) := by decide +kernel
theorem dX2_burn_106 : decode cX2_burn 106 = .ok (.getfield 44, 3) := by decide +kernel
theorem dX2_burn_109 : decode cX2_burn 109 = .ok (.iload 11, 2) := by decide +kernel
theorem dX2_burn_111 : decode cX2_burn 111 = .ok (.iadd, 1) := by decide +kernel
theorem dX2_burn_112 : decode cX2_burn 112 = .ok (.putfield 44, 3) := by decide +kernel
theorem dX2_burn_115 : decode cX2_burn 115 = .ok (.aload_n 1, 1) := by decide +kernel
theorem dX2_burn_116 : decode cX2_burn 116 = .ok (.iload_n 3, 1) := by decide +kernel
theorem dX2_burn_117 : decode cX2_burn 117 = .ok (.bipush 6, 2) := by decide +kernel
theorem dX2_burn_119 : decode cX2_burn 119 = .ok (.invokevirtual 66, 3) := by decide +kernel
theorem dX2_burn_122 : decode cX2_burn 122 = .ok (.iload 6, 2) := by decide +kernel
theorem dX2_burn_124 : decode cX2_burn 124 = .ok (.imul, 1) := by decide +kernel
theorem dX2_burn_125 : decode cX2_burn 125 = .ok (.iload 7, 2) := by decide +kernel
theorem dX2_burn_127 : decode cX2_burn 127 = .ok (.invokestatic 85, 3) := by decide +kernel
theorem dX2_burn_130 : decode cX2_burn 130 = .ok (.istore 12, 2) := by decide +kernel
theorem dX2_burn_132 : decode cX2_burn 132 = .ok (.aload_n 0, 1) := by decide +kernel
theorem dX2_burn_133 : decode cX2_burn 133 = .ok (.getfield 11, 3) := by decide +kernel
theorem dX2_burn_136 : decode cX2_burn 136 = .ok (.aload_n 0, 1) := by decide +kernel
theorem dX2_burn_137 : decode cX2_burn 137 = .ok (.getfield 37, 3) := by decide +kernel
theorem dX2_burn_140 : decode cX2_burn 140 = .ok (.iload_n 3, 1) := by decide +kernel
theorem dX2_burn_141 : decode cX2_burn 141 = .ok (.invokestatic 90, 3) := by decide +kernel
theorem dX2_burn_144 : decode cX2_burn 144 = .ok (.aload_n 0, 1) := by decide +kernel
theorem dX2_burn_145 : decode cX2_burn 145 = .ok (.getfield 15, 3) := by decide +kernel
theorem dX2_burn_148 : decode cX2_burn 148 = .ok (.aload_n 0, 1) := by decide +kernel
theorem dX2_burn_149 : decode cX2_burn 149 = .ok (.getfield 37, 3) := by decide +kernel
theorem dX2_burn_152 : decode cX2_burn 152 = .ok (.iload 9, 2) := by decide +kernel
theorem dX2_burn_154 : decode cX2_burn 154 = .ok (.invokestatic 90, 3) := by decide +kernel
theorem dX2_burn_157 : decode cX2_burn 157 = .ok (.aload_n 0, 1) := by decide +kernel
theorem dX2_burn_158 : decode cX2_burn 158 = .ok (.getfield 18, 3) := by decide +kernel
theorem dX2_burn_161 : decode cX2_burn 161 = .ok (.aload_n 0, 1) := by decide +kernel
theorem dX2_burn_162 : decode cX2_burn 162 = .ok (.getfield 37, 3) := by decide +kernel
theorem dX2_burn_165 : decode cX2_burn 165 = .ok (.iload 8, 2) := by decide +kernel
theorem dX2_burn_167 : decode cX2_burn 167 = .ok (.invokestatic 90, 3) := by decide +kernel
theorem dX2_burn_170 : decode cX2_burn 170 = .ok (.aload_n 0, 1) := by decide +kernel
theorem dX2_burn_171 : decode cX2_burn 171 = .ok (.getfield 21, 3) := by decide +kernel
theorem dX2_burn_174 : decode cX2_burn 174 = .ok (.aload_n 0, 1) := by decide +kernel
theorem dX2_burn_175 : decode cX2_burn 175 = .ok (.getfield 37, 3) := by decide +kernel
theorem dX2_burn_178 : decode cX2_burn 178 = .ok (.iload 8, 2) := by decide +kernel
theorem dX2_burn_180 : decode cX2_burn 180 = .ok (.iload 12, 2) := by decide +kernel
theorem dX2_burn_182 : decode cX2_burn 182 = .ok (.isub, 1) := by decide +kernel
theorem dX2_burn_183 : decode cX2_burn 183 = .ok (.invokestatic 90, 3) := by decide +kernel
theorem dX2_burn_186 : decode cX2_burn 186 = .ok (.aload_n 0, 1) := by decide +kernel
theorem dX2_burn_187 : decode cX2_burn 187 = .ok (.getfield 24, 3) := by decide +kernel
theorem dX2_burn_190 : decode cX2_burn 190 = .ok (.aload_n 0, 1) := by decide +kernel
theorem dX2_burn_191 : decode cX2_burn 191 = .ok (.getfield 37, 3) := by decide +kernel
theorem dX2_burn_194 : decode cX2_burn 194 = .ok (.iload 6, 2) := by decide +kernel
theorem dX2_burn_196 : decode cX2_burn 196 = .ok (.invokestatic 90, 3) := by decide +kernel
theorem dX2_burn_199 : decode cX2_burn 199 = .ok (.aload_n 0, 1) := by decide +kernel
theorem dX2_burn_200 : decode cX2_burn 200 = .ok (.getfield 27, 3) := by decide +kernel
theorem dX2_burn_203 : decode cX2_burn 203 = .ok (.aload_n 0, 1) := by decide +kernel
theorem dX2_burn_204 : decode cX2_burn 204 = .ok (.getfield 37, 3) := by decide +kernel
theorem dX2_burn_207 : decode cX2_burn 207 = .ok (.aload_n 1, 1) := by decide +kernel
theorem dX2_burn_208 : decode cX2_burn 208 = .ok (.iload_n 3, 1) := by decide +kernel
theorem dX2_burn_209 : decode cX2_burn 209 = .ok (.iconst 5, 1) := by decide +kernel
theorem dX2_burn_210 : decode cX2_burn 210 = .ok (.invokevirtual 66, 3) := by decide +kernel
theorem dX2_burn_213 : decode cX2_burn 213 = .ok (.iload 6, 2) := by decide +kernel
theorem dX2_burn_215 : decode cX2_burn 215 = .ok (.imul, 1) := by decide +kernel
theorem dX2_burn_216 : decode cX2_burn 216 = .ok (.iload 8, 2) := by decide +kernel
theorem dX2_burn_218 : decode cX2_burn 218 = .ok (.invokestatic 94, 3) := by decide +kernel
theorem dX2_burn_221 : decode cX2_burn 221 = .ok (.invokestatic 90, 3) := by decide +kernel
theorem dX2_burn_224 : decode cX2_burn 224 = .ok (.aload_n 0, 1) := by decide +kernel
theorem dX2_burn_225 : decode cX2_burn 225 = .ok (.dup, 1) := by decide +kernel
theorem dX2_burn_226 : decode cX2_burn 226 = .ok (.getfield 37, 3) := by decide +kernel
theorem dX2_burn_229 : decode cX2_burn 229 = .ok (.iconst 1, 1) := by decide +kernel
theorem dX2_burn_230 : decode cX2_burn 230 = .ok (.iadd, 1) := by decide +kernel
theorem dX2_burn_231 : decode cX2_burn 231 = .ok (.putfield 37, 3) := by decide +kernel
theorem dX2_burn_234 : decode cX2_burn 234 = .ok (.iload 7, 2) := by decide +kernel
theorem dX2_burn_236 : decode cX2_burn 236 = .ok (.iload 12, 2) := by decide +kernel
theorem dX2_burn_238 : decode cX2_burn 238 = .ok (.isub, 1) := by decide +kernel
theorem dX2_burn_239 : decode cX2_burn 239 = .ok (.istore 7, 2) := by decide +kernel
theorem dX2_burn_241 : decode cX2_burn 241 = .ok (.iload 8, 2) := by decide +kernel
theorem dX2_burn_243 : decode cX2_burn 243 = .ok (.iload 12, 2) := by decide +kernel
theorem dX2_burn_245 : decode cX2_burn 245 = .ok (.isub, 1) := by decide +kernel
theorem dX2_burn_246 : decode cX2_burn 246 = .ok (.istore 8, 2) := by decide +kernel
theorem dX2_burn_248 : decode cX2_burn 248 = .ok (.iinc 9 1, 3) := by decide +kernel
theorem dX2_burn_251 : decode cX2_burn 251 = .ok (.goto (-212), 3) := by decide +kernel
theorem dX2_burn_254 : decode cX2_burn 254 = .ok (.aload_n 0, 1) := by decide +kernel
theorem dX2_burn_255 : decode cX2_burn 255 = .ok (.dup, 1) := by decide +kernel
theorem dX2_burn_256 : decode cX2_burn 256 = .ok (.getfield 41, 3) := by decide +kernel
theorem dX2_burn_259 : decode cX2_burn 259 = .ok (.iload 7, 2) := by decide +kernel
theorem dX2_burn_261 : decode cX2_burn 261 = .ok (.iadd, 1) := by decide +kernel
theorem dX2_burn_262 : decode cX2_burn 262 = .ok (.putfield 41, 3) := by decide +kernel
theorem dX2_burn_265 : decode cX2_burn 265 = .ok (.aload_n 0, 1) := by decide +kernel
theorem dX2_burn_266 : decode cX2_burn 266 = .ok (.getfield 33, 3) := by decide +kernel
theorem dX2_burn_269 : decode cX2_burn 269 = .ok (.aload_n 2, 1) := by decide +kernel
theorem dX2_burn_270 : decode cX2_burn 270 = .ok (.getfield 79, 3) := by decide +kernel
theorem dX2_burn_273 : decode cX2_burn 273 = .ok (.iload_n 3, 1) := by decide +kernel
theorem dX2_burn_274 : decode cX2_burn 274 = .ok (.invokestatic 75, 3) := by decide +kernel
theorem dX2_burn_277 : decode cX2_burn 277 = .ok (.iload 5, 2) := by decide +kernel
theorem dX2_burn_279 : decode cX2_burn 279 = .ok (.invokevirtual 62, 3) := by decide +kernel
theorem dX2_burn_282 : decode cX2_burn 282 = .ok (.aload_n 0, 1) := by decide +kernel
theorem dX2_burn_283 : decode cX2_burn 283 = .ok (.getfield 33, 3) := by decide +kernel
theorem dX2_burn_286 : decode cX2_burn 286 = .ok (.iload 8, 2) := by decide +kernel
theorem dX2_burn_288 : decode cX2_burn 288 = .ok (.iload 5, 2) := by decide +kernel
theorem dX2_burn_290 : decode cX2_burn 290 = .ok (.ineg, 1) := by decide +kernel
theorem dX2_burn_291 : decode cX2_burn 291 = .ok (.invokevirtual 62, 3) := by decide +kernel
theorem dX2_burn_294 : decode cX2_burn 294 = .ok (.return_, 1) := by decide +kernel
theorem dX2_leastPush_0 : decode cX2_leastPush 0 = .ok (.aload_n 0, 1) := by decide +kernel
theorem dX2_leastPush_1 : decode cX2_leastPush 1 = .ok (.invokevirtual 97, 3) := by decide +kernel
theorem dX2_leastPush_4 : decode cX2_leastPush 4 = .ok (.istore_n 1, 1) := by decide +kernel
theorem dX2_leastPush_5 : decode cX2_leastPush 5 = .ok (.iload_n 1, 1) := by decide +kernel
theorem dX2_leastPush_6 : decode cX2_leastPush 6 = .ok (.iconst 1, 1) := by decide +kernel
theorem dX2_leastPush_7 : decode cX2_leastPush 7 = .ok (.if_icmp .ge 8, 3) := by decide +kernel
theorem dX2_leastPush_10 : decode cX2_leastPush 10 = .ok (.bipush (-2), 2) := by decide +kernel
theorem dX2_leastPush_12 : decode cX2_leastPush 12 = .ok (.goto 13, 3) := by decide +kernel
theorem dX2_leastPush_15 : decode cX2_leastPush 15 = .ok (.aload_n 0, 1) := by decide +kernel
theorem dX2_leastPush_16 : decode cX2_leastPush 16 = .ok (.getfield 27, 3) := by decide +kernel
theorem dX2_leastPush_19 : decode cX2_leastPush 19 = .ok (.iload_n 1, 1) := by decide +kernel
theorem dX2_leastPush_20 : decode cX2_leastPush 20 = .ok (.iconst 1, 1) := by decide +kernel
theorem dX2_leastPush_21 : decode cX2_leastPush 21 = .ok (.isub, 1) := by decide +kernel
theorem dX2_leastPush_22 : decode cX2_leastPush 22 = .ok (.invokestatic 75, 3) := by decide +kernel
theorem dX2_leastPush_25 : decode cX2_leastPush 25 = .ok (.ireturn, 1) := by decide +kernel
theorem dX2_firstOfLeastPush_0 : decode cX2_firstOfLeastPush 0 = .ok (.bipush (-2), 2) := by decide +kernel
theorem dX2_firstOfLeastPush_2 : decode cX2_firstOfLeastPush 2 = .ok (.istore_n 1, 1) := by decide +kernel
theorem dX2_firstOfLeastPush_3 : decode cX2_firstOfLeastPush 3 = .ok (.iconst 0, 1) := by decide +kernel
theorem dX2_firstOfLeastPush_4 : decode cX2_firstOfLeastPush 4 = .ok (.istore_n 2, 1) := by decide +kernel
theorem dX2_firstOfLeastPush_5 : decode cX2_firstOfLeastPush 5 = .ok (.iload_n 2, 1) := by decide +kernel
theorem dX2_firstOfLeastPush_6 : decode cX2_firstOfLeastPush 6 = .ok (.aload_n 0, 1) := by decide +kernel
theorem dX2_firstOfLeastPush_7 : decode cX2_firstOfLeastPush 7 = .ok (.getfield 37, 3) := by decide +kernel
theorem dX2_firstOfLeastPush_10 : decode cX2_firstOfLeastPush 10 = .ok (.if_icmp .ge 39, 3) := by decide +kernel
theorem dX2_firstOfLeastPush_13 : decode cX2_firstOfLeastPush 13 = .ok (.iload_n 1, 1) := by decide +kernel
theorem dX2_firstOfLeastPush_14 : decode cX2_firstOfLeastPush 14 = .ok (.iconst 1, 1) := by decide +kernel
theorem dX2_firstOfLeastPush_15 : decode cX2_firstOfLeastPush 15 = .ok (.if_icmp .lt 24, 3) := by decide +kernel
theorem dX2_firstOfLeastPush_18 : decode cX2_firstOfLeastPush 18 = .ok (.aload_n 0, 1) := by decide +kernel
theorem dX2_firstOfLeastPush_19 : decode cX2_firstOfLeastPush 19 = .ok (.getfield 27, 3) := by decide +kernel
theorem dX2_firstOfLeastPush_22 : decode cX2_firstOfLeastPush 22 = .ok (.iload_n 2, 1) := by decide +kernel
theorem dX2_firstOfLeastPush_23 : decode cX2_firstOfLeastPush 23 = .ok (.invokestatic 75, 3) := by decide +kernel
theorem dX2_firstOfLeastPush_26 : decode cX2_firstOfLeastPush 26 = .ok (.aload_n 0, 1) := by decide +kernel
theorem dX2_firstOfLeastPush_27 : decode cX2_firstOfLeastPush 27 = .ok (.getfield 27, 3) := by decide +kernel
theorem dX2_firstOfLeastPush_30 : decode cX2_firstOfLeastPush 30 = .ok (.iload_n 1, 1) := by decide +kernel
theorem dX2_firstOfLeastPush_31 : decode cX2_firstOfLeastPush 31 = .ok (.iconst 1, 1) := by decide +kernel
theorem dX2_firstOfLeastPush_32 : decode cX2_firstOfLeastPush 32 = .ok (.isub, 1) := by decide +kernel
theorem dX2_firstOfLeastPush_33 : decode cX2_firstOfLeastPush 33 = .ok (.invokestatic 75, 3) := by decide +kernel
theorem dX2_firstOfLeastPush_36 : decode cX2_firstOfLeastPush 36 = .ok (.if_icmp .ge 7, 3) := by decide +kernel
theorem dX2_firstOfLeastPush_39 : decode cX2_firstOfLeastPush 39 = .ok (.iload_n 2, 1) := by decide +kernel
theorem dX2_firstOfLeastPush_40 : decode cX2_firstOfLeastPush 40 = .ok (.iconst 1, 1) := by decide +kernel
theorem dX2_firstOfLeastPush_41 : decode cX2_firstOfLeastPush 41 = .ok (.iadd, 1) := by decide +kernel
theorem dX2_firstOfLeastPush_42 : decode cX2_firstOfLeastPush 42 = .ok (.istore_n 1, 1) := by decide +kernel
theorem dX2_firstOfLeastPush_43 : decode cX2_firstOfLeastPush 43 = .ok (.iinc 2 1, 3) := by decide +kernel
theorem dX2_firstOfLeastPush_46 : decode cX2_firstOfLeastPush 46 = .ok (.goto (-41), 3) := by decide +kernel
theorem dX2_firstOfLeastPush_49 : decode cX2_firstOfLeastPush 49 = .ok (.iload_n 1, 1) := by decide +kernel
theorem dX2_firstOfLeastPush_50 : decode cX2_firstOfLeastPush 50 = .ok (.ireturn, 1) := by decide +kernel
theorem dX3_init_0 : decode cX3_init 0 = .ok (.aload_n 0, 1) := by decide +kernel
theorem dX3_init_1 : decode cX3_init 1 = .ok (.invokespecial 3, 3) := by decide +kernel
theorem dX3_init_4 : decode cX3_init 4 = .ok (.aload_n 0, 1) := by decide +kernel
theorem dX3_init_5 : decode cX3_init 5 = .ok (.sipush 400, 3) := by decide +kernel
theorem dX3_init_8 : decode cX3_init 8 = .ok (.newarray .int, 2) := by decide +kernel
theorem dX3_init_10 : decode cX3_init 10 = .ok (.putfield 11, 3) := by decide +kernel
theorem dX3_init_13 : decode cX3_init 13 = .ok (.aload_n 0, 1) := by decide +kernel
theorem dX3_init_14 : decode cX3_init 14 = .ok (.sipush 400, 3) := by decide +kernel
theorem dX3_init_17 : decode cX3_init 17 = .ok (.newarray .int, 2) := by decide +kernel
theorem dX3_init_19 : decode cX3_init 19 = .ok (.putfield 15, 3) := by decide +kernel
theorem dX3_init_22 : decode cX3_init 22 = .ok (.aload_n 0, 1) := by decide +kernel
theorem dX3_init_23 : decode cX3_init 23 = .ok (.iconst 0, 1) := by decide +kernel
theorem dX3_init_24 : decode cX3_init 24 = .ok (.putfield 18, 3) := by decide +kernel
theorem dX3_init_27 : decode cX3_init 27 = .ok (.aload_n 0, 1) := by decide +kernel
theorem dX3_init_28 : decode cX3_init 28 = .ok (.iconst 0, 1) := by decide +kernel
theorem dX3_init_29 : decode cX3_init 29 = .ok (.putfield 22, 3) := by decide +kernel
theorem dX3_init_32 : decode cX3_init 32 = .ok (.aload_n 0, 1) := by decide +kernel
theorem dX3_init_33 : decode cX3_init 33 = .ok (.new 25, 3) := by decide +kernel
theorem dX3_init_36 : decode cX3_init 36 = .ok (.dup, 1) := by decide +kernel
theorem dX3_init_37 : decode cX3_init 37 = .ok (.invokespecial 27, 3) := by decide +kernel
theorem dX3_init_40 : decode cX3_init 40 = .ok (.putfield 28, 3) := by decide +kernel
theorem dX3_init_43 : decode cX3_init 43 = .ok (.aload_n 0, 1) := by decide +kernel
theorem dX3_init_44 : decode cX3_init 44 = .ok (.new 32, 3) := by decide +kernel
theorem dX3_init_47 : decode cX3_init 47 = .ok (.dup, 1) := by decide +kernel
theorem dX3_init_48 : decode cX3_init 48 = .ok (.invokespecial 34, 3) := by decide +kernel
theorem dX3_init_51 : decode cX3_init 51 = .ok (.putfield 35, 3) := by decide +kernel
theorem dX3_init_54 : decode cX3_init 54 = .ok (.aload_n 0, 1) := by decide +kernel
theorem dX3_init_55 : decode cX3_init 55 = .ok (.new 32, 3) := by decide +kernel
theorem dX3_init_58 : decode cX3_init 58 = .ok (.dup, 1) := by decide +kernel
theorem dX3_init_59 : decode cX3_init 59 = .ok (.invokespecial 34, 3) := by decide +kernel
theorem dX3_init_62 : decode cX3_init 62 = .ok (.putfield 39, 3) := by decide +kernel
theorem dX3_init_65 : decode cX3_init 65 = .ok (.aload_n 0, 1) := by decide +kernel
theorem dX3_init_66 : decode cX3_init 66 = .ok (.aload_n 1, 1) := by decide +kernel
theorem dX3_init_67 : decode cX3_init 67 = .ok (.putfield 42, 3) := by decide +kernel
theorem dX3_init_70 : decode cX3_init 70 = .ok (.aload_n 0, 1) := by decide +kernel
theorem dX3_init_71 : decode cX3_init 71 = .ok (.aload_n 2, 1) := by decide +kernel
theorem dX3_init_72 : decode cX3_init 72 = .ok (.putfield 46, 3) := by decide +kernel
theorem dX3_init_75 : decode cX3_init 75 = .ok (.return_, 1) := by decide +kernel
theorem dX3_draw_0 : decode cX3_draw 0 = .ok (.aload_n 0, 1) := by decide +kernel
theorem dX3_draw_1 : decode cX3_draw 1 = .ok (.getfield 22, 3) := by decide +kernel
theorem dX3_draw_4 : decode cX3_draw 4 = .ok (.iload_n 3, 1) := by decide +kernel
theorem dX3_draw_5 : decode cX3_draw 5 = .ok (.if_icmp .ne 4, 3) := by decide +kernel
theorem dX3_draw_8 : decode cX3_draw 8 = .ok (.return_, 1) := by decide +kernel
theorem dX3_draw_9 : decode cX3_draw 9 = .ok (.aload_n 0, 1) := by decide +kernel
theorem dX3_draw_10 : decode cX3_draw 10 = .ok (.iload_n 3, 1) := by decide +kernel
theorem dX3_draw_11 : decode cX3_draw 11 = .ok (.putfield 22, 3) := by decide +kernel
theorem dX3_draw_14 : decode cX3_draw 14 = .ok (.iconst 0, 1) := by decide +kernel
theorem dX3_draw_15 : decode cX3_draw 15 = .ok (.istore 4, 2) := by decide +kernel
theorem dX3_draw_17 : decode cX3_draw 17 = .ok (.iload 4, 2) := by decide +kernel
theorem dX3_draw_19 : decode cX3_draw 19 = .ok (.aload_n 0, 1) := by decide +kernel
theorem dX3_draw_20 : decode cX3_draw 20 = .ok (.getfield 11, 3) := by decide +kernel
theorem dX3_draw_23 : decode cX3_draw 23 = .ok (.arraylength, 1) := by decide +kernel
theorem dX3_draw_24 : decode cX3_draw 24 = .ok (.if_icmp .ge 17, 3) := by decide +kernel
theorem dX3_draw_27 : decode cX3_draw 27 = .ok (.aload_n 0, 1) := by decide +kernel
theorem dX3_draw_28 : decode cX3_draw 28 = .ok (.getfield 11, 3) := by decide +kernel
theorem dX3_draw_31 : decode cX3_draw 31 = .ok (.iload 4, 2) := by decide +kernel
theorem dX3_draw_33 : decode cX3_draw 33 = .ok (.iconst (-1), 1) := by decide +kernel
theorem dX3_draw_34 : decode cX3_draw 34 = .ok (.iastore, 1) := by decide +kernel
theorem dX3_draw_35 : decode cX3_draw 35 = .ok (.iinc 4 1, 3) := by decide +kernel
theorem dX3_draw_38 : decode cX3_draw 38 = .ok (.goto (-21), 3) := by decide +kernel
theorem dX3_draw_41 : decode cX3_draw 41 = .ok (.iconst 0, 1) := by decide +kernel
theorem dX3_draw_42 : decode cX3_draw 42 = .ok (.istore 4, 2) := by decide +kernel
theorem dX3_draw_44 : decode cX3_draw 44 = .ok (.iload 4, 2) := by decide +kernel
theorem dX3_draw_46 : decode cX3_draw 46 = .ok (.aload_n 0, 1) := by decide +kernel
theorem dX3_draw_47 : decode cX3_draw 47 = .ok (.getfield 42, 3) := by decide +kernel
theorem dX3_draw_50 : decode cX3_draw 50 = .ok (.invokevirtual 50, 3) := by decide +kernel
theorem dX3_draw_53 : decode cX3_draw 53 = .ok (.if_icmp .ge 72, 3) := by decide +kernel
theorem dX3_draw_56 : decode cX3_draw 56 = .ok (.aload_n 0, 1) := by decide +kernel
theorem dX3_draw_57 : decode cX3_draw 57 = .ok (.getfield 42, 3) := by decide +kernel
theorem dX3_draw_60 : decode cX3_draw 60 = .ok (.iload 4, 2) := by decide +kernel
theorem dX3_draw_62 : decode cX3_draw 62 = .ok (.invokevirtual 56, 3) := by decide +kernel
theorem dX3_draw_65 : decode cX3_draw 65 = .ok (.ifCond .eq 54, 3) := by decide +kernel
theorem dX3_draw_68 : decode cX3_draw 68 = .ok (.aload_n 0, 1) := by decide +kernel
theorem dX3_draw_69 : decode cX3_draw 69 = .ok (.getfield 42, 3) := by decide +kernel
theorem dX3_draw_72 : decode cX3_draw 72 = .ok (.iload 4, 2) := by decide +kernel
theorem dX3_draw_74 : decode cX3_draw 74 = .ok (.invokevirtual 60, 3) := by decide +kernel
theorem dX3_draw_77 : decode cX3_draw 77 = .ok (.istore 5, 2) := by decide +kernel
theorem dX3_draw_79 : decode cX3_draw 79 = .ok (.aload_n 0, 1) := by decide +kernel
theorem dX3_draw_80 : decode cX3_draw 80 = .ok (.getfield 11, 3) := by decide +kernel
theorem dX3_draw_83 : decode cX3_draw 83 = .ok (.iload 5, 2) := by decide +kernel
theorem dX3_draw_85 : decode cX3_draw 85 = .ok (.invokestatic 64, 3) := by decide +kernel
theorem dX3_draw_88 : decode cX3_draw 88 = .ok (.istore 6, 2) := by decide +kernel
theorem dX3_draw_90 : decode cX3_draw 90 = .ok (.iload 6, 2) := by decide +kernel
theorem dX3_draw_92 : decode cX3_draw 92 = .ok (.ifCond .lt 16, 3) := by decide +kernel
theorem dX3_draw_95 : decode cX3_draw 95 = .ok (.aload_n 0, 1) := by decide +kernel
theorem dX3_draw_96 : decode cX3_draw 96 = .ok (.aload_n 1, 1) := by decide +kernel
theorem dX3_draw_97 : decode cX3_draw 97 = .ok (.iload_n 2, 1) := by decide +kernel
theorem dX3_draw_98 : decode cX3_draw 98 = .ok (.iload 4, 2) := by decide +kernel
theorem dX3_draw_100 : decode cX3_draw 100 = .ok (.iload 6, 2) := by decide +kernel
theorem dX3_draw_102 : decode cX3_draw 102 = .ok (.invokevirtual 68, 3) := by decide +kernel
theorem dX3_draw_105 : decode cX3_draw 105 = .ok (.ifCond .eq 14, 3) := by decide +kernel
theorem dX3_draw_108 : decode cX3_draw 108 = .ok (.aload_n 0, 1) := by decide +kernel
theorem dX3_draw_109 : decode cX3_draw 109 = .ok (.getfield 11, 3) := by decide +kernel
theorem dX3_draw_112 : decode cX3_draw 112 = .ok (.iload 5, 2) := by decide +kernel
theorem dX3_draw_114 : decode cX3_draw 114 = .ok (.iload 4, 2) := by decide +kernel
theorem dX3_draw_116 : decode cX3_draw 116 = .ok (.invokestatic 72, 3) := by decide +kernel
theorem dX3_draw_119 : decode cX3_draw 119 = .ok (.iinc 4 1, 3) := by decide +kernel
theorem dX3_draw_122 : decode cX3_draw 122 = .ok (.goto (-78), 3) := by decide +kernel
theorem dX3_draw_125 : decode cX3_draw 125 = .ok (.aload_n 0, 1) := by decide +kernel
theorem dX3_draw_126 : decode cX3_draw 126 = .ok (.iconst 0, 1) := by decide +kernel
theorem dX3_draw_127 : decode cX3_draw 127 = .ok (.putfield 18, 3) := by decide +kernel
theorem dX3_draw_130 : decode cX3_draw 130 = .ok (.iconst 0, 1) := by decide +kernel
theorem dX3_draw_131 : decode cX3_draw 131 = .ok (.istore 4, 2) := by decide +kernel
theorem dX3_draw_133 : decode cX3_draw 133 = .ok (.iload 4, 2) := by decide +kernel
theorem dX3_draw_135 : decode cX3_draw 135 = .ok (.aload_n 0, 1) := by decide +kernel
theorem dX3_draw_136 : decode cX3_draw 136 = .ok (.getfield 11, 3) := by decide +kernel
theorem dX3_draw_139 : decode cX3_draw 139 = .ok (.arraylength, 1) := by decide +kernel
theorem dX3_draw_140 : decode cX3_draw 140 = .ok (.if_icmp .ge 77, 3) := by decide +kernel
theorem dX3_draw_143 : decode cX3_draw 143 = .ok (.aload_n 0, 1) := by decide +kernel
theorem dX3_draw_144 : decode cX3_draw 144 = .ok (.getfield 11, 3) := by decide +kernel
theorem dX3_draw_147 : decode cX3_draw 147 = .ok (.iload 4, 2) := by decide +kernel
theorem dX3_draw_149 : decode cX3_draw 149 = .ok (.iaload, 1) := by decide +kernel
theorem dX3_draw_150 : decode cX3_draw 150 = .ok (.istore 5, 2) := by decide +kernel
theorem dX3_draw_152 : decode cX3_draw 152 = .ok (.iload 5, 2) := by decide +kernel
theorem dX3_draw_154 : decode cX3_draw 154 = .ok (.ifCond .lt 57, 3) := by decide +kernel
theorem dX3_draw_157 : decode cX3_draw 157 = .ok (.aload_n 0, 1) := by decide +kernel
theorem dX3_draw_158 : decode cX3_draw 158 = .ok (.getfield 18, 3) := by decide +kernel
theorem dX3_draw_161 : decode cX3_draw 161 = .ok (.ifCond .eq 27, 3) := by decide +kernel
theorem dX3_draw_164 : decode cX3_draw 164 = .ok (.aload_n 0, 1) := by decide +kernel
theorem dX3_draw_165 : decode cX3_draw 165 = .ok (.aload_n 1, 1) := by decide +kernel
theorem dX3_draw_166 : decode cX3_draw 166 = .ok (.iload_n 2, 1) := by decide +kernel
theorem dX3_draw_167 : decode cX3_draw 167 = .ok (.iload 5, 2) := by decide +kernel
theorem dX3_draw_169 : decode cX3_draw 169 = .ok (.aload_n 0, 1) := by decide +kernel
theorem dX3_draw_170 : decode cX3_draw 170 = .ok (.getfield 15, 3) := by decide +kernel
theorem dX3_draw_173 : decode cX3_draw 173 = .ok (.aload_n 0, 1) := by decide +kernel
theorem dX3_draw_174 : decode cX3_draw 174 = .ok (.getfield 18, 3) := by decide +kernel
theorem dX3_draw_177 : decode cX3_draw 177 = .ok (.iconst 1, 1) := by decide +kernel
theorem dX3_draw_178 : decode cX3_draw 178 = .ok (.isub, 1) := by decide +kernel
theorem dX3_draw_179 : decode cX3_draw 179 = .ok (.invokestatic 64, 3) := by decide +kernel
theorem dX3_draw_182 : decode cX3_draw 182 = .ok (.invokevirtual 68, 3) := by decide +kernel
theorem dX3_draw_185 : decode cX3_draw 185 = .ok (.ifCond .eq 26, 3) := by decide +kernel
theorem dX3_draw_188 : decode cX3_draw 188 = .ok (.aload_n 0, 1) := by decide +kernel
theorem dX3_draw_189 : decode cX3_draw 189 = .ok (.getfield 15, 3) := by decide +kernel
theorem dX3_draw_192 : decode cX3_draw 192 = .ok (.aload_n 0, 1) := by decide +kernel
theorem dX3_draw_193 : decode cX3_draw 193 = .ok (.getfield 18, 3) := by decide +kernel
theorem dX3_draw_196 : decode cX3_draw 196 = .ok (.iload 5, 2) := by decide +kernel
theorem dX3_draw_198 : decode cX3_draw 198 = .ok (.invokestatic 72, 3) := by decide +kernel
theorem dX3_draw_201 : decode cX3_draw 201 = .ok (.aload_n 0, 1) := by decide +kernel
theorem dX3_draw_202 : decode cX3_draw 202 = .ok (.dup, 1) := by decide +kernel
theorem dX3_draw_203 : decode cX3_draw 203 = .ok (.getfield 18, 3) := by decide +kernel
theorem dX3_draw_206 : decode cX3_draw 206 = .ok (.iconst 1, 1) := by decide +kernel
theorem dX3_draw_207 : decode cX3_draw 207 = .ok (.iadd, 1) := by decide +kernel
theorem dX3_draw_208 : decode cX3_draw 208 = .ok (.putfield 18, 3) := by decide +kernel
theorem dX3_draw_211 : decode cX3_draw 211 = .ok (.iinc 4 1, 3) := by decide +kernel
theorem dX3_draw_214 : decode cX3_draw 214 = .ok (.goto (-81), 3) := by decide +kernel
theorem dX3_draw_217 : decode cX3_draw 217 = .ok (.return_, 1) := by decide +kernel
theorem dX3_isFaster_0 : decode cX3_isFaster 0 = .ok (.aload_n 0, 1) := by decide +kernel
theorem dX3_isFaster_1 : decode cX3_isFaster 1 = .ok (.getfield 42, 3) := by decide +kernel
theorem dX3_isFaster_4 : decode cX3_isFaster 4 = .ok (.iload_n 3, 1) := by decide +kernel
theorem dX3_isFaster_5 : decode cX3_isFaster 5 = .ok (.invokevirtual 76, 3) := by decide +kernel
theorem dX3_isFaster_8 : decode cX3_isFaster 8 = .ok (.aload_n 0, 1) := by decide +kernel
theorem dX3_isFaster_9 : decode cX3_isFaster 9 = .ok (.getfield 42, 3) := by decide +kernel
theorem dX3_isFaster_12 : decode cX3_isFaster 12 = .ok (.iload 4, 2) := by decide +kernel
theorem dX3_isFaster_14 : decode cX3_isFaster 14 = .ok (.invokevirtual 76, 3) := by decide +kernel
theorem dX3_isFaster_17 : decode cX3_isFaster 17 = .ok (.if_icmp .eq 29, 3) := by decide +kernel
theorem dX3_isFaster_20 : decode cX3_isFaster 20 = .ok (.aload_n 0, 1) := by decide +kernel
theorem dX3_isFaster_21 : decode cX3_isFaster 21 = .ok (.getfield 42, 3) := by decide +kernel
theorem dX3_isFaster_24 : decode cX3_isFaster 24 = .ok (.iload_n 3, 1) := by decide +kernel
theorem dX3_isFaster_25 : decode cX3_isFaster 25 = .ok (.invokevirtual 76, 3) := by decide +kernel
theorem dX3_isFaster_28 : decode cX3_isFaster 28 = .ok (.aload_n 0, 1) := by decide +kernel
theorem dX3_isFaster_29 : decode cX3_isFaster 29 = .ok (.getfield 42, 3) := by decide +kernel
theorem dX3_isFaster_32 : decode cX3_isFaster 32 = .ok (.iload 4, 2) := by decide +kernel
theorem dX3_isFaster_34 : decode cX3_isFaster 34 = .ok (.invokevirtual 76, 3) := by decide +kernel
theorem dX3_isFaster_37 : decode cX3_isFaster 37 = .ok (.if_icmp .le 7, 3) := by decide +kernel
theorem dX3_isFaster_40 : decode cX3_isFaster 40 = .ok (.iconst 1, 1) := by decide +kernel
theorem dX3_isFaster_41 : decode cX3_isFaster 41 = .ok (.goto 4, 3) := by decide +kernel
theorem dX3_isFaster_44 : decode cX3_isFaster 44 = .ok (.iconst 0, 1) := by decide +kernel
theorem dX3_isFaster_45 : decode cX3_isFaster 45 = .ok (.ireturn, 1) := by decide +kernel
theorem dX3_isFaster_46 : decode cX3_isFaster 46 = .ok (.aload_n 0, 1) := by decide +kernel
theorem dX3_isFaster_47 : decode cX3_isFaster 47 = .ok (.getfield 28, 3) := by decide +kernel
theorem dX3_isFaster_50 : decode cX3_isFaster 50 = .ok (.aload_n 1, 1) := by decide +kernel
theorem dX3_isFaster_51 : decode cX3_isFaster 51 = .ok (.iload_n 2, 1) := by decide +kernel
theorem dX3_isFaster_52 : decode cX3_isFaster 52 = .ok (.iload_n 3, 1) := by decide +kernel
theorem dX3_isFaster_53 : decode cX3_isFaster 53 = .ok (.invokevirtual 79, 3) := by decide +kernel
theorem dX3_isFaster_56 : decode cX3_isFaster 56 = .ok (.aload_n 0, 1) := by decide +kernel
theorem dX3_isFaster_57 : decode cX3_isFaster 57 = .ok (.getfield 28, 3) := by decide +kernel
theorem dX3_isFaster_60 : decode cX3_isFaster 60 = .ok (.aload_n 1, 1) := by decide +kernel
theorem dX3_isFaster_61 : decode cX3_isFaster 61 = .ok (.aload_n 0, 1) := by decide +kernel
theorem dX3_isFaster_62 : decode cX3_isFaster 62 = .ok (.getfield 35, 3) := by decide +kernel
theorem dX3_isFaster_65 : decode cX3_isFaster 65 = .ok (.invokevirtual 83, 3) := by decide +kernel
theorem dX3_isFaster_68 : decode cX3_isFaster 68 = .ok (.aload_n 0, 1) := by decide +kernel
theorem dX3_isFaster_69 : decode cX3_isFaster 69 = .ok (.getfield 28, 3) := by decide +kernel
theorem dX3_isFaster_72 : decode cX3_isFaster 72 = .ok (.aload_n 1, 1) := by decide +kernel
theorem dX3_isFaster_73 : decode cX3_isFaster 73 = .ok (.iload_n 2, 1) := by decide +kernel
theorem dX3_isFaster_74 : decode cX3_isFaster 74 = .ok (.iload 4, 2) := by decide +kernel
theorem dX3_isFaster_76 : decode cX3_isFaster 76 = .ok (.invokevirtual 79, 3) := by decide +kernel
theorem dX3_isFaster_79 : decode cX3_isFaster 79 = .ok (.aload_n 0, 1) := by decide +kernel
theorem dX3_isFaster_80 : decode cX3_isFaster 80 = .ok (.getfield 28, 3) := by decide +kernel
theorem dX3_isFaster_83 : decode cX3_isFaster 83 = .ok (.aload_n 1, 1) := by decide +kernel
theorem dX3_isFaster_84 : decode cX3_isFaster 84 = .ok (.aload_n 0, 1) := by decide +kernel
theorem dX3_isFaster_85 : decode cX3_isFaster 85 = .ok (.getfield 39, 3) := by decide +kernel
theorem dX3_isFaster_88 : decode cX3_isFaster 88 = .ok (.invokevirtual 83, 3) := by decide +kernel
theorem dX3_isFaster_91 : decode cX3_isFaster 91 = .ok (.aload_n 0, 1) := by decide +kernel
theorem dX3_isFaster_92 : decode cX3_isFaster 92 = .ok (.getfield 46, 3) := by decide +kernel
theorem dX3_isFaster_95 : decode cX3_isFaster 95 = .ok (.aload_n 0, 1) := by decide +kernel
theorem dX3_isFaster_96 : decode cX3_isFaster 96 = .ok (.getfield 35, 3) := by decide +kernel
theorem dX3_isFaster_99 : decode cX3_isFaster 99 = .ok (.aload_n 0, 1) := by decide +kernel
theorem dX3_isFaster_100 : decode cX3_isFaster 100 = .ok (.getfield 39, 3) := by decide +kernel
theorem dX3_isFaster_103 : decode cX3_isFaster 103 = .ok (.invokevirtual 87, 3) := by decide +kernel
theorem dX3_isFaster_106 : decode cX3_isFaster 106 = .ok (.ifCond .le 7, 3) := by decide +kernel
theorem dX3_isFaster_109 : decode cX3_isFaster 109 = .ok (.iconst 1, 1) := by decide +kernel
theorem dX3_isFaster_110 : decode cX3_isFaster 110 = .ok (.goto 4, 3) := by decide +kernel
theorem dX3_isFaster_113 : decode cX3_isFaster 113 = .ok (.iconst 0, 1) := by decide +kernel
theorem dX3_isFaster_114 : decode cX3_isFaster 114 = .ok (.ireturn, 1) := by decide +kernel
theorem dX4_init_0 : decode cX4_init 0 = .ok (.aload_n 0, 1) := by decide +kernel
theorem dX4_init_1 : decode cX4_init 1 = .ok (.invokespecial 3, 3) := by decide +kernel
theorem dX4_init_4 : decode cX4_init 4 = .ok (.aload_n 0, 1) := by decide +kernel
theorem dX4_init_5 : decode cX4_init 5 = .ok (.bipush 8, 2) := by decide +kernel
theorem dX4_init_7 : decode cX4_init 7 = .ok (.newarray .int, 2) := by decide +kernel
theorem dX4_init_9 : decode cX4_init 9 = .ok (.putfield 11, 3) := by decide +kernel
theorem dX4_init_12 : decode cX4_init 12 = .ok (.aload_n 0, 1) := by decide +kernel
theorem dX4_init_13 : decode cX4_init 13 = .ok (.bipush 8, 2) := by decide +kernel
theorem dX4_init_15 : decode cX4_init 15 = .ok (.newarray .int, 2) := by decide +kernel
theorem dX4_init_17 : decode cX4_init 17 = .ok (.putfield 15, 3) := by decide +kernel
theorem dX4_init_20 : decode cX4_init 20 = .ok (.aload_n 0, 1) := by decide +kernel
theorem dX4_init_21 : decode cX4_init 21 = .ok (.bipush 8, 2) := by decide +kernel
theorem dX4_init_23 : decode cX4_init 23 = .ok (.newarray .int, 2) := by decide +kernel
theorem dX4_init_25 : decode cX4_init 25 = .ok (.putfield 18, 3) := by decide +kernel
theorem dX4_init_28 : decode cX4_init 28 = .ok (.aload_n 0, 1) := by decide +kernel
theorem dX4_init_29 : decode cX4_init 29 = .ok (.iconst 0, 1) := by decide +kernel
theorem dX4_init_30 : decode cX4_init 30 = .ok (.putfield 21, 3) := by decide +kernel
theorem dX4_init_33 : decode cX4_init 33 = .ok (.return_, 1) := by decide +kernel
theorem dX4_clear_0 : decode cX4_clear 0 = .ok (.aload_n 0, 1) := by decide +kernel
theorem dX4_clear_1 : decode cX4_clear 1 = .ok (.iconst 0, 1) := by decide +kernel
theorem dX4_clear_2 : decode cX4_clear 2 = .ok (.putfield 21, 3) := by decide +kernel
theorem dX4_clear_5 : decode cX4_clear 5 = .ok (.return_, 1) := by decide +kernel
theorem dX4_multiply_0 : decode cX4_multiply 0 = .ok (.aload_n 0, 1) := by decide +kernel
theorem dX4_multiply_1 : decode cX4_multiply 1 = .ok (.getfield 11, 3) := by decide +kernel
theorem dX4_multiply_4 : decode cX4_multiply 4 = .ok (.aload_n 0, 1) := by decide +kernel
theorem dX4_multiply_5 : decode cX4_multiply 5 = .ok (.getfield 21, 3) := by decide +kernel
theorem dX4_multiply_8 : decode cX4_multiply 8 = .ok (.iload_n 1, 1) := by decide +kernel
theorem dX4_multiply_9 : decode cX4_multiply 9 = .ok (.invokestatic 25, 3) := by decide +kernel
theorem dX4_multiply_12 : decode cX4_multiply 12 = .ok (.aload_n 0, 1) := by decide +kernel
theorem dX4_multiply_13 : decode cX4_multiply 13 = .ok (.getfield 15, 3) := by decide +kernel
theorem dX4_multiply_16 : decode cX4_multiply 16 = .ok (.aload_n 0, 1) := by decide +kernel
theorem dX4_multiply_17 : decode cX4_multiply 17 = .ok (.getfield 21, 3) := by decide +kernel
theorem dX4_multiply_20 : decode cX4_multiply 20 = .ok (.iload_n 2, 1) := by decide +kernel
theorem dX4_multiply_21 : decode cX4_multiply 21 = .ok (.invokestatic 25, 3) := by decide +kernel
theorem dX4_multiply_24 : decode cX4_multiply 24 = .ok (.aload_n 0, 1) := by decide +kernel
theorem dX4_multiply_25 : decode cX4_multiply 25 = .ok (.dup, 1) := by decide +kernel
theorem dX4_multiply_26 : decode cX4_multiply 26 = .ok (.getfield 21, 3) := by decide +kernel
theorem dX4_multiply_29 : decode cX4_multiply 29 = .ok (.iconst 1, 1) := by decide +kernel
theorem dX4_multiply_30 : decode cX4_multiply 30 = .ok (.iadd, 1) := by decide +kernel
theorem dX4_multiply_31 : decode cX4_multiply 31 = .ok (.putfield 21, 3) := by decide +kernel
theorem dX4_multiply_34 : decode cX4_multiply 34 = .ok (.return_, 1) := by decide +kernel
theorem dX4_multiplyInto_0 : decode cX4_multiplyInto 0 = .ok (.iconst 0, 1) := by decide +kernel
theorem dX4_multiplyInto_1 : decode cX4_multiplyInto 1 = .ok (.istore_n 3, 1) := by decide +kernel
theorem dX4_multiplyInto_2 : decode cX4_multiplyInto 2 = .ok (.iload_n 3, 1) := by decide +kernel
theorem dX4_multiplyInto_3 : decode cX4_multiplyInto 3 = .ok (.aload_n 0, 1) := by decide +kernel
theorem dX4_multiplyInto_4 : decode cX4_multiplyInto 4 = .ok (.getfield 21, 3) := by decide +kernel
theorem dX4_multiplyInto_7 : decode cX4_multiplyInto 7 = .ok (.if_icmp .ge 66, 3) := by decide +kernel
theorem dX4_multiplyInto_10 : decode cX4_multiplyInto 10 = .ok (.aload_n 0, 1) := by decide +kernel
theorem dX4_multiplyInto_11 : decode cX4_multiplyInto 11 = .ok (.getfield 11, 3) := by decide +kernel
theorem dX4_multiplyInto_14 : decode cX4_multiplyInto 14 = .ok (.iload_n 3, 1) := by decide +kernel
theorem dX4_multiplyInto_15 : decode cX4_multiplyInto 15 = .ok (.invokestatic 29, 3) := by decide +kernel
theorem dX4_multiplyInto_18 : decode cX4_multiplyInto 18 = .ok (.istore 4, 2) := by decide +kernel
theorem dX4_multiplyInto_20 : decode cX4_multiplyInto 20 = .ok (.aload_n 0, 1) := by decide +kernel
theorem dX4_multiplyInto_21 : decode cX4_multiplyInto 21 = .ok (.getfield 15, 3) := by decide +kernel
theorem dX4_multiplyInto_24 : decode cX4_multiplyInto 24 = .ok (.iload_n 3, 1) := by decide +kernel
theorem dX4_multiplyInto_25 : decode cX4_multiplyInto 25 = .ok (.invokestatic 29, 3) := by decide +kernel
theorem dX4_multiplyInto_28 : decode cX4_multiplyInto 28 = .ok (.istore 5, 2) := by decide +kernel
theorem dX4_multiplyInto_30 : decode cX4_multiplyInto 30 = .ok (.iload 5, 2) := by decide +kernel
theorem dX4_multiplyInto_32 : decode cX4_multiplyInto 32 = .ok (.ifCond .le 7, 3) := by decide +kernel
theorem dX4_multiplyInto_35 : decode cX4_multiplyInto 35 = .ok (.aload_n 1, 1) := by decide +kernel
theorem dX4_multiplyInto_36 : decode cX4_multiplyInto 36 = .ok (.goto 4, 3) := by decide +kernel
theorem dX4_multiplyInto_39 : decode cX4_multiplyInto 39 = .ok (.aload_n 2, 1) := by decide +kernel
theorem dX4_multiplyInto_40 : decode cX4_multiplyInto 40 = .ok (.astore 6, 2) := by decide +kernel
theorem dX4_multiplyInto_42 : decode cX4_multiplyInto 42 = .ok (.iload 5, 2) := by decide +kernel
theorem dX4_multiplyInto_44 : decode cX4_multiplyInto 44 = .ok (.invokestatic 33, 3) := by decide +kernel
theorem dX4_multiplyInto_47 : decode cX4_multiplyInto 47 = .ok (.istore 7, 2) := by decide +kernel
theorem dX4_multiplyInto_49 : decode cX4_multiplyInto 49 = .ok (.iload 7, 2) := by decide +kernel
theorem dX4_multiplyInto_51 : decode cX4_multiplyInto 51 = .ok (.ifCond .le 16, 3) := by decide +kernel
theorem dX4_multiplyInto_54 : decode cX4_multiplyInto 54 = .ok (.aload 6, 2) := by decide +kernel
theorem dX4_multiplyInto_56 : decode cX4_multiplyInto 56 = .ok (.iload 4, 2) := by decide +kernel
theorem dX4_multiplyInto_58 : decode cX4_multiplyInto 58 = .ok (.invokevirtual 39, 3) := by decide +kernel
theorem dX4_multiplyInto_61 : decode cX4_multiplyInto 61 = .ok (.iinc 7 (-1), 3) := by decide +kernel
theorem dX4_multiplyInto_64 : decode cX4_multiplyInto 64 = .ok (.goto (-15), 3) := by decide +kernel
theorem dX4_multiplyInto_67 : decode cX4_multiplyInto 67 = .ok (.iinc 3 1, 3) := by decide +kernel
theorem dX4_multiplyInto_70 : decode cX4_multiplyInto 70 = .ok (.goto (-68), 3) := by decide +kernel
theorem dX4_multiplyInto_73 : decode cX4_multiplyInto 73 = .ok (.return_, 1) := by decide +kernel
theorem dX4_roughly_0 : decode cX4_roughly 0 = .ok (.dconst 1, 1) := by decide +kernel
theorem dX4_roughly_1 : decode cX4_roughly 1 = .ok (.dstore_n 1, 1) := by decide +kernel
theorem dX4_roughly_2 : decode cX4_roughly 2 = .ok (.iconst 0, 1) := by decide +kernel
theorem dX4_roughly_3 : decode cX4_roughly 3 = .ok (.istore_n 3, 1) := by decide +kernel
theorem dX4_roughly_4 : decode cX4_roughly 4 = .ok (.iload_n 3, 1) := by decide +kernel
theorem dX4_roughly_5 : decode cX4_roughly 5 = .ok (.aload_n 0, 1) := by decide +kernel
theorem dX4_roughly_6 : decode cX4_roughly 6 = .ok (.getfield 21, 3) := by decide +kernel
theorem dX4_roughly_9 : decode cX4_roughly 9 = .ok (.if_icmp .ge 72, 3) := by decide +kernel
theorem dX4_roughly_12 : decode cX4_roughly 12 = .ok (.aload_n 0, 1) := by decide +kernel
theorem dX4_roughly_13 : decode cX4_roughly 13 = .ok (.getfield 11, 3) := by decide +kernel
theorem dX4_roughly_16 : decode cX4_roughly 16 = .ok (.iload_n 3, 1) := by decide +kernel
theorem dX4_roughly_17 : decode cX4_roughly 17 = .ok (.invokestatic 29, 3) := by decide +kernel
theorem dX4_roughly_20 : decode cX4_roughly 20 = .ok (.i2d, 1) := by decide +kernel
theorem dX4_roughly_21 : decode cX4_roughly 21 = .ok (.dstore 4, 2) := by decide +kernel
theorem dX4_roughly_23 : decode cX4_roughly 23 = .ok (.aload_n 0, 1) := by decide +kernel
theorem dX4_roughly_24 : decode cX4_roughly 24 = .ok (.getfield 15, 3) := by decide +kernel
theorem dX4_roughly_27 : decode cX4_roughly 27 = .ok (.iload_n 3, 1) := by decide +kernel
theorem dX4_roughly_28 : decode cX4_roughly 28 = .ok (.invokestatic 29, 3) := by decide +kernel
theorem dX4_roughly_31 : decode cX4_roughly 31 = .ok (.istore 6, 2) := by decide +kernel
theorem dX4_roughly_33 : decode cX4_roughly 33 = .ok (.iload 6, 2) := by decide +kernel
theorem dX4_roughly_35 : decode cX4_roughly 35 = .ok (.invokestatic 33, 3) := by decide +kernel
theorem dX4_roughly_38 : decode cX4_roughly 38 = .ok (.istore 7, 2) := by decide +kernel
theorem dX4_roughly_40 : decode cX4_roughly 40 = .ok (.iload 7, 2) := by decide +kernel
theorem dX4_roughly_42 : decode cX4_roughly 42 = .ok (.ifCond .le 33, 3) := by decide +kernel
theorem dX4_roughly_45 : decode cX4_roughly 45 = .ok (.dload 4, 2) := by decide +kernel
theorem dX4_roughly_47 : decode cX4_roughly 47 = .ok (.dconst 0, 1) := by decide +kernel
theorem dX4_roughly_48 : decode cX4_roughly 48 = .ok (.dcmp .l, 1) := by decide +kernel
theorem dX4_roughly_49 : decode cX4_roughly 49 = .ok (.ifCond .le 26, 3) := by decide +kernel
theorem dX4_roughly_52 : decode cX4_roughly 52 = .ok (.iload 6, 2) := by decide +kernel
theorem dX4_roughly_54 : decode cX4_roughly 54 = .ok (.ifCond .le 10, 3) := by decide +kernel
theorem dX4_roughly_57 : decode cX4_roughly 57 = .ok (.dload_n 1, 1) := by decide +kernel
theorem dX4_roughly_58 : decode cX4_roughly 58 = .ok (.dload 4, 2) := by decide +kernel
theorem dX4_roughly_60 : decode cX4_roughly 60 = .ok (.dmul, 1) := by decide +kernel
theorem dX4_roughly_61 : decode cX4_roughly 61 = .ok (.goto 7, 3) := by decide +kernel
theorem dX4_roughly_64 : decode cX4_roughly 64 = .ok (.dload_n 1, 1) := by decide +kernel
theorem dX4_roughly_65 : decode cX4_roughly 65 = .ok (.dload 4, 2) := by decide +kernel
theorem dX4_roughly_67 : decode cX4_roughly 67 = .ok (.ddiv, 1) := by decide +kernel
theorem dX4_roughly_68 : decode cX4_roughly 68 = .ok (.dstore_n 1, 1) := by decide +kernel
theorem dX4_roughly_69 : decode cX4_roughly 69 = .ok (.iinc 7 (-1), 3) := by decide +kernel
theorem dX4_roughly_72 : decode cX4_roughly 72 = .ok (.goto (-32), 3) := by decide +kernel
theorem dX4_roughly_75 : decode cX4_roughly 75 = .ok (.iinc 3 1, 3) := by decide +kernel
theorem dX4_roughly_78 : decode cX4_roughly 78 = .ok (.goto (-74), 3) := by decide +kernel
theorem dX4_roughly_81 : decode cX4_roughly 81 = .ok (.dload_n 1, 1) := by decide +kernel
theorem dX4_roughly_82 : decode cX4_roughly 82 = .ok (.dreturn, 1) := by decide +kernel
theorem dX4_lowest_0 : decode cX4_lowest 0 = .ok (.iconst 0, 1) := by decide +kernel
theorem dX4_lowest_1 : decode cX4_lowest 1 = .ok (.istore_n 2, 1) := by decide +kernel
theorem dX4_lowest_2 : decode cX4_lowest 2 = .ok (.iload_n 2, 1) := by decide +kernel
theorem dX4_lowest_3 : decode cX4_lowest 3 = .ok (.aload_n 0, 1) := by decide +kernel
theorem dX4_lowest_4 : decode cX4_lowest 4 = .ok (.getfield 21, 3) := by decide +kernel
theorem dX4_lowest_7 : decode cX4_lowest 7 = .ok (.if_icmp .ge 25, 3) := by decide +kernel
theorem dX4_lowest_10 : decode cX4_lowest 10 = .ok (.aload_n 0, 1) := by decide +kernel
theorem dX4_lowest_11 : decode cX4_lowest 11 = .ok (.getfield 18, 3) := by decide +kernel
theorem dX4_lowest_14 : decode cX4_lowest 14 = .ok (.iload_n 2, 1) := by decide +kernel
theorem dX4_lowest_15 : decode cX4_lowest 15 = .ok (.aload_n 0, 1) := by decide +kernel
theorem dX4_lowest_16 : decode cX4_lowest 16 = .ok (.getfield 11, 3) := by decide +kernel
theorem dX4_lowest_19 : decode cX4_lowest 19 = .ok (.iload_n 2, 1) := by decide +kernel
theorem dX4_lowest_20 : decode cX4_lowest 20 = .ok (.invokestatic 29, 3) := by decide +kernel
theorem dX4_lowest_23 : decode cX4_lowest 23 = .ok (.invokestatic 25, 3) := by decide +kernel
theorem dX4_lowest_26 : decode cX4_lowest 26 = .ok (.iinc 2 1, 3) := by decide +kernel
theorem dX4_lowest_29 : decode cX4_lowest 29 = .ok (.goto (-27), 3) := by decide +kernel
theorem dX4_lowest_32 : decode cX4_lowest 32 = .ok (.lconst 1, 1) := by decide +kernel
theorem dX4_lowest_33 : decode cX4_lowest 33 = .ok (.lstore_n 2, 1) := by decide +kernel
theorem dX4_lowest_34 : decode cX4_lowest 34 = .ok (.iconst 2, 1) := by decide +kernel
theorem dX4_lowest_35 : decode cX4_lowest 35 = .ok (.istore 4, 2) := by decide +kernel
theorem dX4_lowest_37 : decode cX4_lowest 37 = .ok (.iload 4, 2) := by decide +kernel
theorem dX4_lowest_39 : decode cX4_lowest 39 = .ok (.sipush 400, 3) := by decide +kernel
theorem dX4_lowest_42 : decode cX4_lowest 42 = .ok (.if_icmp .gt 57, 3) := by decide +kernel
theorem dX4_lowest_45 : decode cX4_lowest 45 = .ok (.aload_n 0, 1) := by decide +kernel
theorem dX4_lowest_46 : decode cX4_lowest 46 = .ok (.iload 4, 2) := by decide +kernel
theorem dX4_lowest_48 : decode cX4_lowest 48 = .ok (.invokevirtual 45, 3) := by decide +kernel
theorem dX4_lowest_51 : decode cX4_lowest 51 = .ok (.istore 5, 2) := by decide +kernel
theorem dX4_lowest_53 : decode cX4_lowest 53 = .ok (.iload_n 1, 1) := by decide +kernel
theorem dX4_lowest_54 : decode cX4_lowest 54 = .ok (.ifCond .eq 8, 3) := by decide +kernel
theorem dX4_lowest_57 : decode cX4_lowest 57 = .ok (.iload 5, 2) := by decide +kernel
theorem dX4_lowest_59 : decode cX4_lowest 59 = .ok (.goto 6, 3) := by decide +kernel
theorem dX4_lowest_62 : decode cX4_lowest 62 = .ok (.iload 5, 2) := by decide +kernel
theorem dX4_lowest_64 : decode cX4_lowest 64 = .ok (.ineg, 1) := by decide +kernel
theorem dX4_lowest_65 : decode cX4_lowest 65 = .ok (.istore 6, 2) := by decide +kernel
theorem dX4_lowest_67 : decode cX4_lowest 67 = .ok (.iconst 0, 1) := by decide +kernel
theorem dX4_lowest_68 : decode cX4_lowest 68 = .ok (.istore 7, 2) := by decide +kernel
theorem dX4_lowest_70 : decode cX4_lowest 70 = .ok (.iload 7, 2) := by decide +kernel
theorem dX4_lowest_72 : decode cX4_lowest 72 = .ok (.iload 6, 2) := by decide +kernel
theorem dX4_lowest_74 : decode cX4_lowest 74 = .ok (.if_icmp .ge 19, 3) := by decide +kernel
theorem dX4_lowest_77 : decode cX4_lowest 77 = .ok (.lload_n 2, 1) := by decide +kernel
theorem dX4_lowest_78 : decode cX4_lowest 78 = .ok (.iload 4, 2) := by decide +kernel
theorem dX4_lowest_80 : decode cX4_lowest 80 = .ok (.i2l, 1) := by decide +kernel
theorem dX4_lowest_81 : decode cX4_lowest 81 = .ok (.lmul, 1) := by decide +kernel
theorem dX4_lowest_82 : decode cX4_lowest 82 = .ok (.ldc2_w 48, 3) := by decide +kernel
theorem dX4_lowest_85 : decode cX4_lowest 85 = .ok (.lrem, 1) := by decide +kernel
theorem dX4_lowest_86 : decode cX4_lowest 86 = .ok (.lstore_n 2, 1) := by decide +kernel
theorem dX4_lowest_87 : decode cX4_lowest 87 = .ok (.iinc 7 1, 3) := by decide +kernel
theorem dX4_lowest_90 : decode cX4_lowest 90 = .ok (.goto (-20), 3) := by decide +kernel
theorem dX4_lowest_93 : decode cX4_lowest 93 = .ok (.iinc 4 1, 3) := by decide +kernel
theorem dX4_lowest_96 : decode cX4_lowest 96 = .ok (.goto (-59), 3) := by decide +kernel
theorem dX4_lowest_99 : decode cX4_lowest 99 = .ok (.lload_n 2, 1) := by decide +kernel
theorem dX4_lowest_100 : decode cX4_lowest 100 = .ok (.l2i, 1) := by decide +kernel
theorem dX4_lowest_101 : decode cX4_lowest 101 = .ok (.ireturn, 1) := by decide +kernel
theorem dX4_takeOut_0 : decode cX4_takeOut 0 = .ok (.iconst 0, 1) := by decide +kernel
theorem dX4_takeOut_1 : decode cX4_takeOut 1 = .ok (.istore_n 2, 1) := by decide +kernel
theorem dX4_takeOut_2 : decode cX4_takeOut 2 = .ok (.iconst 0, 1) := by decide +kernel
theorem dX4_takeOut_3 : decode cX4_takeOut 3 = .ok (.istore_n 3, 1) := by decide +kernel
theorem dX4_takeOut_4 : decode cX4_takeOut 4 = .ok (.iload_n 3, 1) := by decide +kernel
theorem dX4_takeOut_5 : decode cX4_takeOut 5 = .ok (.aload_n 0, 1) := by decide +kernel
theorem dX4_takeOut_6 : decode cX4_takeOut 6 = .ok (.getfield 21, 3) := by decide +kernel
theorem dX4_takeOut_9 : decode cX4_takeOut 9 = .ok (.if_icmp .ge 67, 3) := by decide +kernel
theorem dX4_takeOut_12 : decode cX4_takeOut 12 = .ok (.aload_n 0, 1) := by decide +kernel
theorem dX4_takeOut_13 : decode cX4_takeOut 13 = .ok (.getfield 18, 3) := by decide +kernel
theorem dX4_takeOut_16 : decode cX4_takeOut 16 = .ok (.iload_n 3, 1) := by decide +kernel
theorem dX4_takeOut_17 : decode cX4_takeOut 17 = .ok (.invokestatic 29, 3) := by decide +kernel
theorem dX4_takeOut_20 : decode cX4_takeOut 20 = .ok (.istore 4, 2) := by decide +kernel
theorem dX4_takeOut_22 : decode cX4_takeOut 22 = .ok (.iload 4, 2) := by decide +kernel
theorem dX4_takeOut_24 : decode cX4_takeOut 24 = .ok (.iconst 1, 1) := by decide +kernel
theorem dX4_takeOut_25 : decode cX4_takeOut 25 = .ok (.if_icmp .le 35, 3) := by decide +kernel
theorem dX4_takeOut_28 : decode cX4_takeOut 28 = .ok (.iload_n 1, 1) := by decide +kernel
theorem dX4_takeOut_29 : decode cX4_takeOut 29 = .ok (.iconst 1, 1) := by decide +kernel
theorem dX4_takeOut_30 : decode cX4_takeOut 30 = .ok (.if_icmp .le 30, 3) := by decide +kernel
theorem dX4_takeOut_33 : decode cX4_takeOut 33 = .ok (.iload 4, 2) := by decide +kernel
theorem dX4_takeOut_35 : decode cX4_takeOut 35 = .ok (.iload_n 1, 1) := by decide +kernel
theorem dX4_takeOut_36 : decode cX4_takeOut 36 = .ok (.irem, 1) := by decide +kernel
theorem dX4_takeOut_37 : decode cX4_takeOut 37 = .ok (.ifCond .ne 23, 3) := by decide +kernel
theorem dX4_takeOut_40 : decode cX4_takeOut 40 = .ok (.iload 4, 2) := by decide +kernel
theorem dX4_takeOut_42 : decode cX4_takeOut 42 = .ok (.iload_n 1, 1) := by decide +kernel
theorem dX4_takeOut_43 : decode cX4_takeOut 43 = .ok (.idiv, 1) := by decide +kernel
theorem dX4_takeOut_44 : decode cX4_takeOut 44 = .ok (.istore 4, 2) := by decide +kernel
theorem dX4_takeOut_46 : decode cX4_takeOut 46 = .ok (.iload_n 2, 1) := by decide +kernel
theorem dX4_takeOut_47 : decode cX4_takeOut 47 = .ok (.aload_n 0, 1) := by decide +kernel
theorem dX4_takeOut_48 : decode cX4_takeOut 48 = .ok (.getfield 15, 3) := by decide +kernel
theorem dX4_takeOut_51 : decode cX4_takeOut 51 = .ok (.iload_n 3, 1) := by decide +kernel
theorem dX4_takeOut_52 : decode cX4_takeOut 52 = .ok (.invokestatic 29, 3) := by decide +kernel
theorem dX4_takeOut_55 : decode cX4_takeOut 55 = .ok (.iadd, 1) := by decide +kernel
theorem dX4_takeOut_56 : decode cX4_takeOut 56 = .ok (.istore_n 2, 1) := by decide +kernel
theorem dX4_takeOut_57 : decode cX4_takeOut 57 = .ok (.goto (-35), 3) := by decide +kernel
theorem dX4_takeOut_60 : decode cX4_takeOut 60 = .ok (.aload_n 0, 1) := by decide +kernel
theorem dX4_takeOut_61 : decode cX4_takeOut 61 = .ok (.getfield 18, 3) := by decide +kernel
theorem dX4_takeOut_64 : decode cX4_takeOut 64 = .ok (.iload_n 3, 1) := by decide +kernel
theorem dX4_takeOut_65 : decode cX4_takeOut 65 = .ok (.iload 4, 2) := by decide +kernel
theorem dX4_takeOut_67 : decode cX4_takeOut 67 = .ok (.invokestatic 25, 3) := by decide +kernel
theorem dX4_takeOut_70 : decode cX4_takeOut 70 = .ok (.iinc 3 1, 3) := by decide +kernel
theorem dX4_takeOut_73 : decode cX4_takeOut 73 = .ok (.goto (-69), 3) := by decide +kernel
theorem dX4_takeOut_76 : decode cX4_takeOut 76 = .ok (.iload_n 2, 1) := by decide +kernel
theorem dX4_takeOut_77 : decode cX4_takeOut 77 = .ok (.ireturn, 1) := by decide +kernel
theorem dX5_init_0 : decode cX5_init 0 = .ok (.aload_n 0, 1) := by decide +kernel
theorem dX5_init_1 : decode cX5_init 1 = .ok (.invokespecial 3, 3) := by decide +kernel
theorem dX5_init_4 : decode cX5_init 4 = .ok (.aload_n 0, 1) := by decide +kernel
theorem dX5_init_5 : decode cX5_init 5 = .ok (.iconst 3, 1) := by decide +kernel
theorem dX5_init_6 : decode cX5_init 6 = .ok (.newarray .long, 2) := by decide +kernel
theorem dX5_init_8 : decode cX5_init 8 = .ok (.putfield 9, 3) := by decide +kernel
theorem dX5_init_11 : decode cX5_init 11 = .ok (.aload_n 0, 1) := by decide +kernel
theorem dX5_init_12 : decode cX5_init 12 = .ok (.ldc 15, 2) := by decide +kernel
theorem dX5_init_14 : decode cX5_init 14 = .ok (.invokestatic 17, 3) := by decide +kernel
theorem dX5_init_17 : decode cX5_init 17 = .ok (.putfield 23, 3) := by decide +kernel
theorem dX5_init_20 : decode cX5_init 20 = .ok (.aload_n 0, 1) := by decide +kernel
theorem dX5_init_21 : decode cX5_init 21 = .ok (.ldc 27, 2) := by decide +kernel
theorem dX5_init_23 : decode cX5_init 23 = .ok (.invokestatic 17, 3) := by decide +kernel
theorem dX5_init_26 : decode cX5_init 26 = .ok (.putfield 29, 3) := by decide +kernel
theorem dX5_init_29 : decode cX5_init 29 = .ok (.aload_n 0, 1) := by decide +kernel
theorem dX5_init_30 : decode cX5_init 30 = .ok (.ldc 32, 2) := by decide +kernel
theorem dX5_init_32 : decode cX5_init 32 = .ok (.invokestatic 17, 3) := by decide +kernel
theorem dX5_init_35 : decode cX5_init 35 = .ok (.putfield 34, 3) := by decide +kernel
theorem dX5_init_38 : decode cX5_init 38 = .ok (.aload_n 0, 1) := by decide +kernel
theorem dX5_init_39 : decode cX5_init 39 = .ok (.ldc 37, 2) := by decide +kernel
theorem dX5_init_41 : decode cX5_init 41 = .ok (.invokestatic 17, 3) := by decide +kernel
theorem dX5_init_44 : decode cX5_init 44 = .ok (.putfield 39, 3) := by decide +kernel
theorem dX5_init_47 : decode cX5_init 47 = .ok (.aload_n 0, 1) := by decide +kernel
theorem dX5_init_48 : decode cX5_init 48 = .ok (.ldc 42, 2) := by decide +kernel
theorem dX5_init_50 : decode cX5_init 50 = .ok (.invokestatic 17, 3) := by decide +kernel
theorem dX5_init_53 : decode cX5_init 53 = .ok (.putfield 44, 3) := by decide +kernel
theorem dX5_init_56 : decode cX5_init 56 = .ok (.aload_n 0, 1) := by decide +kernel
theorem dX5_init_57 : decode cX5_init 57 = .ok (.ldc 47, 2) := by decide +kernel
theorem dX5_init_59 : decode cX5_init 59 = .ok (.invokestatic 17, 3) := by decide +kernel
theorem dX5_init_62 : decode cX5_init 62 = .ok (.putfield 49, 3) := by decide +kernel
theorem dX5_init_65 : decode cX5_init 65 = .ok (.aload_n 0, 1) := by decide +kernel
theorem dX5_init_66 : decode cX5_init 66 = .ok (.iconst 0, 1) := by decide +kernel
theorem dX5_init_67 : decode cX5_init 67 = .ok (.putfield 52, 3) := by decide +kernel
theorem dX5_init_70 : decode cX5_init 70 = .ok (.aload_n 0, 1) := by decide +kernel
theorem dX5_init_71 : decode cX5_init 71 = .ok (.iconst 0, 1) := by decide +kernel
theorem dX5_init_72 : decode cX5_init 72 = .ok (.putfield 56, 3) := by decide +kernel
theorem dX5_init_75 : decode cX5_init 75 = .ok (.aload_n 0, 1) := by decide +kernel
theorem dX5_init_76 : decode cX5_init 76 = .ok (.iconst 0, 1) := by decide +kernel
theorem dX5_init_77 : decode cX5_init 77 = .ok (.putfield 60, 3) := by decide +kernel
theorem dX5_init_80 : decode cX5_init 80 = .ok (.aload_n 0, 1) := by decide +kernel
theorem dX5_init_81 : decode cX5_init 81 = .ok (.iconst 0, 1) := by decide +kernel
theorem dX5_init_82 : decode cX5_init 82 = .ok (.putfield 63, 3) := by decide +kernel
theorem dX5_init_85 : decode cX5_init 85 = .ok (.aload_n 0, 1) := by decide +kernel
theorem dX5_init_86 : decode cX5_init 86 = .ok (.aload_n 1, 1) := by decide +kernel
theorem dX5_init_87 : decode cX5_init 87 = .ok (.putfield 66, 3) := by decide +kernel
theorem dX5_init_90 : decode cX5_init 90 = .ok (.return_, 1) := by decide +kernel
theorem dX5_read_0 : decode cX5_read 0 = .ok (.aload_n 0, 1) := by decide +kernel
theorem dX5_read_1 : decode cX5_read 1 = .ok (.iconst 0, 1) := by decide +kernel
theorem dX5_read_2 : decode cX5_read 2 = .ok (.putfield 60, 3) := by decide +kernel
theorem dX5_read_5 : decode cX5_read 5 = .ok (.aload_n 0, 1) := by decide +kernel
theorem dX5_read_6 : decode cX5_read 6 = .ok (.iconst 0, 1) := by decide +kernel
theorem dX5_read_7 : decode cX5_read 7 = .ok (.putfield 63, 3) := by decide +kernel
theorem dX5_read_10 : decode cX5_read 10 = .ok (.aload_n 0, 1) := by decide +kernel
theorem dX5_read_11 : decode cX5_read 11 = .ok (.iconst 0, 1) := by decide +kernel
theorem dX5_read_12 : decode cX5_read 12 = .ok (.putfield 52, 3) := by decide +kernel
theorem dX5_read_15 : decode cX5_read 15 = .ok (.aload_n 2, 1) := by decide +kernel
theorem dX5_read_16 : decode cX5_read 16 = .ok (.invokevirtual 70, 3) := by decide +kernel
theorem dX5_read_19 : decode cX5_read 19 = .ok (.aload_n 0, 1) := by decide +kernel
theorem dX5_read_20 : decode cX5_read 20 = .ok (.getfield 66, 3) := by decide +kernel
theorem dX5_read_23 : decode cX5_read 23 = .ok (.iload_n 1, 1) := by decide +kernel
theorem dX5_read_24 : decode cX5_read 24 = .ok (.invokevirtual 75, 3) := by decide +kernel
theorem dX5_read_27 : decode cX5_read 27 = .ok (.iconst 1, 1) := by decide +kernel
theorem dX5_read_28 : decode cX5_read 28 = .ok (.istore_n 3, 1) := by decide +kernel
theorem dX5_read_29 : decode cX5_read 29 = .ok (.iconst 0, 1) := by decide +kernel
theorem dX5_read_30 : decode cX5_read 30 = .ok (.istore 4, 2) := by decide +kernel
theorem dX5_read_32 : decode cX5_read 32 = .ok (.iload_n 3, 1) := by decide +kernel
theorem dX5_read_33 : decode cX5_read 33 = .ok (.ifCond .eq 75, 3) := by decide +kernel
theorem dX5_read_36 : decode cX5_read 36 = .ok (.iload 4, 2) := by decide +kernel
theorem dX5_read_38 : decode cX5_read 38 = .ok (.sipush 700, 3) := by decide +kernel
theorem dX5_read_41 : decode cX5_read 41 = .ok (.if_icmp .gt 67, 3) := by decide +kernel
theorem dX5_read_44 : decode cX5_read 44 = .ok (.aload_n 0, 1) := by decide +kernel
theorem dX5_read_45 : decode cX5_read 45 = .ok (.aload_n 2, 1) := by decide +kernel
theorem dX5_read_46 : decode cX5_read 46 = .ok (.invokevirtual 79, 3) := by decide +kernel
theorem dX5_read_49 : decode cX5_read 49 = .ok (.ifCond .ne 5, 3) := by decide +kernel
theorem dX5_read_52 : decode cX5_read 52 = .ok (.iconst 0, 1) := by decide +kernel
theorem dX5_read_53 : decode cX5_read 53 = .ok (.ireturn, 1) := by decide +kernel
theorem dX5_read_54 : decode cX5_read 54 = .ok (.aload_n 0, 1) := by decide +kernel
theorem dX5_read_55 : decode cX5_read 55 = .ok (.getfield 66, 3) := by decide +kernel
theorem dX5_read_58 : decode cX5_read 58 = .ok (.getfield 83, 3) := by decide +kernel
theorem dX5_read_61 : decode cX5_read 61 = .ok (.ifCond .eq 7, 3) := by decide +kernel
theorem dX5_read_64 : decode cX5_read 64 = .ok (.iconst 1, 1) := by decide +kernel
theorem dX5_read_65 : decode cX5_read 65 = .ok (.goto 4, 3) := by decide +kernel
theorem dX5_read_68 : decode cX5_read 68 = .ok (.iconst 0, 1) := by decide +kernel
theorem dX5_read_69 : decode cX5_read 69 = .ok (.istore_n 3, 1) := by decide +kernel
theorem dX5_read_70 : decode cX5_read 70 = .ok (.iload_n 3, 1) := by decide +kernel
theorem dX5_read_71 : decode cX5_read 71 = .ok (.ifCond .eq 20, 3) := by decide +kernel
theorem dX5_read_74 : decode cX5_read 74 = .ok (.aload_n 0, 1) := by decide +kernel
theorem dX5_read_75 : decode cX5_read 75 = .ok (.getfield 66, 3) := by decide +kernel
theorem dX5_read_78 : decode cX5_read 78 = .ok (.getfield 83, 3) := by decide +kernel
theorem dX5_read_81 : decode cX5_read 81 = .ok (.iconst 3, 1) := by decide +kernel
theorem dX5_read_82 : decode cX5_read 82 = .ok (.if_icmp .eq 9, 3) := by decide +kernel
theorem dX5_read_85 : decode cX5_read 85 = .ok (.aload_n 0, 1) := by decide +kernel
theorem dX5_read_86 : decode cX5_read 86 = .ok (.iconst 1, 1) := by decide +kernel
theorem dX5_read_87 : decode cX5_read 87 = .ok (.invokevirtual 86, 3) := by decide +kernel
theorem dX5_read_90 : decode cX5_read 90 = .ok (.ireturn, 1) := by decide +kernel
theorem dX5_read_91 : decode cX5_read 91 = .ok (.iload_n 3, 1) := by decide +kernel
theorem dX5_read_92 : decode cX5_read 92 = .ok (.ifCond .eq 10, 3) := by decide +kernel
theorem dX5_read_95 : decode cX5_read 95 = .ok (.aload_n 0, 1) := by decide +kernel
theorem dX5_read_96 : decode cX5_read 96 = .ok (.getfield 66, 3) := by decide +kernel
theorem dX5_read_99 : decode cX5_read 99 = .ok (.invokevirtual 90, 3) := by decide +kernel
theorem dX5_read_102 : decode cX5_read 102 = .ok (.iinc 4 1, 3) := by decide +kernel
theorem dX5_read_105 : decode cX5_read 105 = .ok (.goto (-73), 3) := by decide +kernel
theorem dX5_read_108 : decode cX5_read 108 = .ok (.aload_n 2, 1) := by decide +kernel
theorem dX5_read_109 : decode cX5_read 109 = .ok (.getfield 93, 3) := by decide +kernel
theorem dX5_read_112 : decode cX5_read 112 = .ok (.ifCond .gt 12, 3) := by decide +kernel
theorem dX5_read_115 : decode cX5_read 115 = .ok (.aload_n 0, 1) := by decide +kernel
theorem dX5_read_116 : decode cX5_read 116 = .ok (.bipush 6, 2) := by decide +kernel
theorem dX5_read_118 : decode cX5_read 118 = .ok (.invokevirtual 86, 3) := by decide +kernel
theorem dX5_read_121 : decode cX5_read 121 = .ok (.ifCond .eq 7, 3) := by decide +kernel
theorem dX5_read_124 : decode cX5_read 124 = .ok (.iconst 1, 1) := by decide +kernel
theorem dX5_read_125 : decode cX5_read 125 = .ok (.goto 4, 3) := by decide +kernel
theorem dX5_read_128 : decode cX5_read 128 = .ok (.iconst 0, 1) := by decide +kernel
theorem dX5_read_129 : decode cX5_read 129 = .ok (.ireturn, 1) := by decide +kernel
theorem dX5_stop_0 : decode cX5_stop 0 = .ok (.aload_n 0, 1) := by decide +kernel
theorem dX5_stop_1 : decode cX5_stop 1 = .ok (.iload_n 1, 1) := by decide +kernel
theorem dX5_stop_2 : decode cX5_stop 2 = .ok (.putfield 60, 3) := by decide +kernel
theorem dX5_stop_5 : decode cX5_stop 5 = .ok (.aload_n 0, 1) := by decide +kernel
theorem dX5_stop_6 : decode cX5_stop 6 = .ok (.aload_n 0, 1) := by decide +kernel
theorem dX5_stop_7 : decode cX5_stop 7 = .ok (.getfield 66, 3) := by decide +kernel
theorem dX5_stop_10 : decode cX5_stop 10 = .ok (.getfield 96, 3) := by decide +kernel
theorem dX5_stop_13 : decode cX5_stop 13 = .ok (.putfield 63, 3) := by decide +kernel
theorem dX5_stop_16 : decode cX5_stop 16 = .ok (.iconst 0, 1) := by decide +kernel
theorem dX5_stop_17 : decode cX5_stop 17 = .ok (.ireturn, 1) := by decide +kernel
theorem dX5_readLine_0 : decode cX5_readLine 0 = .ok (.aload_n 0, 1) := by decide +kernel
theorem dX5_readLine_1 : decode cX5_readLine 1 = .ok (.getfield 66, 3) := by decide +kernel
theorem dX5_readLine_4 : decode cX5_readLine 4 = .ok (.getfield 83, 3) := by decide +kernel
theorem dX5_readLine_7 : decode cX5_readLine 7 = .ok (.iconst 1, 1) := by decide +kernel
theorem dX5_readLine_8 : decode cX5_readLine 8 = .ok (.if_icmp .eq 9, 3) := by decide +kernel
theorem dX5_readLine_11 : decode cX5_readLine 11 = .ok (.aload_n 0, 1) := by decide +kernel
theorem dX5_readLine_12 : decode cX5_readLine 12 = .ok (.iconst 1, 1) := by decide +kernel
theorem dX5_readLine_13 : decode cX5_readLine 13 = .ok (.invokevirtual 86, 3) := by decide +kernel
theorem dX5_readLine_16 : decode cX5_readLine 16 = .ok (.ireturn, 1) := by decide +kernel
theorem dX5_readLine_17 : decode cX5_readLine 17 = .ok (.aload_n 0, 1) := by decide +kernel
theorem dX5_readLine_18 : decode cX5_readLine 18 = .ok (.getfield 66, 3) := by decide +kernel
theorem dX5_readLine_21 : decode cX5_readLine 21 = .ok (.getfield 97, 3) := by decide +kernel
theorem dX5_readLine_24 : decode cX5_readLine 24 = .ok (.aload_n 0, 1) := by decide +kernel
theorem dX5_readLine_25 : decode cX5_readLine 25 = .ok (.getfield 23, 3) := by decide +kernel
theorem dX5_readLine_28 : decode cX5_readLine 28 = .ok (.lcmp, 1) := by decide +kernel
theorem dX5_readLine_29 : decode cX5_readLine 29 = .ok (.ifCond .ne 24, 3) := by decide +kernel
theorem dX5_readLine_32 : decode cX5_readLine 32 = .ok (.aload_n 0, 1) := by decide +kernel
theorem dX5_readLine_33 : decode cX5_readLine 33 = .ok (.getfield 52, 3) := by decide +kernel
theorem dX5_readLine_36 : decode cX5_readLine 36 = .ok (.ifCond .eq 11, 3) := by decide +kernel
theorem dX5_readLine_39 : decode cX5_readLine 39 = .ok (.aload_n 0, 1) := by decide +kernel
theorem dX5_readLine_40 : decode cX5_readLine 40 = .ok (.iconst 3, 1) := by decide +kernel
theorem dX5_readLine_41 : decode cX5_readLine 41 = .ok (.invokevirtual 86, 3) := by decide +kernel
theorem dX5_readLine_44 : decode cX5_readLine 44 = .ok (.goto 8, 3) := by decide +kernel
theorem dX5_readLine_47 : decode cX5_readLine 47 = .ok (.aload_n 0, 1) := by decide +kernel
theorem dX5_readLine_48 : decode cX5_readLine 48 = .ok (.aload_n 1, 1) := by decide +kernel
theorem dX5_readLine_49 : decode cX5_readLine 49 = .ok (.invokevirtual 100, 3) := by decide +kernel
theorem dX5_readLine_52 : decode cX5_readLine 52 = .ok (.ireturn, 1) := by decide +kernel
theorem dX5_readLine_53 : decode cX5_readLine 53 = .ok (.aload_n 0, 1) := by decide +kernel
theorem dX5_readLine_54 : decode cX5_readLine 54 = .ok (.getfield 66, 3) := by decide +kernel
theorem dX5_readLine_57 : decode cX5_readLine 57 = .ok (.getfield 97, 3) := by decide +kernel
theorem dX5_readLine_60 : decode cX5_readLine 60 = .ok (.aload_n 0, 1) := by decide +kernel
theorem dX5_readLine_61 : decode cX5_readLine 61 = .ok (.getfield 29, 3) := by decide +kernel
theorem dX5_readLine_64 : decode cX5_readLine 64 = .ok (.lcmp, 1) := by decide +kernel
theorem dX5_readLine_65 : decode cX5_readLine 65 = .ok (.ifCond .ne 29, 3) := by decide +kernel
theorem dX5_readLine_68 : decode cX5_readLine 68 = .ok (.aload_n 0, 1) := by decide +kernel
theorem dX5_readLine_69 : decode cX5_readLine 69 = .ok (.aload_n 1, 1) := by decide +kernel
theorem dX5_readLine_70 : decode cX5_readLine 70 = .ok (.getfield 93, 3) := by decide +kernel
theorem dX5_readLine_73 : decode cX5_readLine 73 = .ok (.iconst 3, 1) := by decide +kernel
theorem dX5_readLine_74 : decode cX5_readLine 74 = .ok (.invokevirtual 103, 3) := by decide +kernel
theorem dX5_readLine_77 : decode cX5_readLine 77 = .ok (.ifCond .eq 15, 3) := by decide +kernel
theorem dX5_readLine_80 : decode cX5_readLine 80 = .ok (.aload_n 0, 1) := by decide +kernel
theorem dX5_readLine_81 : decode cX5_readLine 81 = .ok (.aload_n 1, 1) := by decide +kernel
theorem dX5_readLine_82 : decode cX5_readLine 82 = .ok (.invokevirtual 107, 3) := by decide +kernel
theorem dX5_readLine_85 : decode cX5_readLine 85 = .ok (.ifCond .eq 7, 3) := by decide +kernel
theorem dX5_readLine_88 : decode cX5_readLine 88 = .ok (.iconst 1, 1) := by decide +kernel
theorem dX5_readLine_89 : decode cX5_readLine 89 = .ok (.goto 4, 3) := by decide +kernel
theorem dX5_readLine_92 : decode cX5_readLine 92 = .ok (.iconst 0, 1) := by decide +kernel
theorem dX5_readLine_93 : decode cX5_readLine 93 = .ok (.ireturn, 1) := by decide +kernel
theorem dX5_readLine_94 : decode cX5_readLine 94 = .ok (.aload_n 0, 1) := by decide +kernel
theorem dX5_readLine_95 : decode cX5_readLine 95 = .ok (.getfield 66, 3) := by decide +kernel
theorem dX5_readLine_98 : decode cX5_readLine 98 = .ok (.getfield 97, 3) := by decide +kernel
theorem dX5_readLine_101 : decode cX5_readLine 101 = .ok (.aload_n 0, 1) := by decide +kernel
theorem dX5_readLine_102 : decode cX5_readLine 102 = .ok (.getfield 34, 3) := by decide +kernel
theorem dX5_readLine_105 : decode cX5_readLine 105 = .ok (.lcmp, 1) := by decide +kernel
theorem dX5_readLine_106 : decode cX5_readLine 106 = .ok (.ifCond .ne 30, 3) := by decide +kernel
theorem dX5_readLine_109 : decode cX5_readLine 109 = .ok (.aload_n 0, 1) := by decide +kernel
theorem dX5_readLine_110 : decode cX5_readLine 110 = .ok (.aload_n 1, 1) := by decide +kernel
theorem dX5_readLine_111 : decode cX5_readLine 111 = .ok (.getfield 110, 3) := by decide +kernel
theorem dX5_readLine_114 : decode cX5_readLine 114 = .ok (.bipush 6, 2) := by decide +kernel
theorem dX5_readLine_116 : decode cX5_readLine 116 = .ok (.invokevirtual 103, 3) := by decide +kernel
theorem dX5_readLine_119 : decode cX5_readLine 119 = .ok (.ifCond .eq 15, 3) := by decide +kernel
theorem dX5_readLine_122 : decode cX5_readLine 122 = .ok (.aload_n 0, 1) := by decide +kernel
theorem dX5_readLine_123 : decode cX5_readLine 123 = .ok (.aload_n 1, 1) := by decide +kernel
theorem dX5_readLine_124 : decode cX5_readLine 124 = .ok (.invokevirtual 113, 3) := by decide +kernel
theorem dX5_readLine_127 : decode cX5_readLine 127 = .ok (.ifCond .eq 7, 3) := by decide +kernel
theorem dX5_readLine_130 : decode cX5_readLine 130 = .ok (.iconst 1, 1) := by decide +kernel
theorem dX5_readLine_131 : decode cX5_readLine 131 = .ok (.goto 4, 3) := by decide +kernel
theorem dX5_readLine_134 : decode cX5_readLine 134 = .ok (.iconst 0, 1) := by decide +kernel
theorem dX5_readLine_135 : decode cX5_readLine 135 = .ok (.ireturn, 1) := by decide +kernel
theorem dX5_readLine_136 : decode cX5_readLine 136 = .ok (.aload_n 0, 1) := by decide +kernel
theorem dX5_readLine_137 : decode cX5_readLine 137 = .ok (.iconst 1, 1) := by decide +kernel
theorem dX5_readLine_138 : decode cX5_readLine 138 = .ok (.invokevirtual 86, 3) := by decide +kernel
theorem dX5_readLine_141 : decode cX5_readLine 141 = .ok (.ireturn, 1) := by decide +kernel
theorem dX5_hasRoomFor_0 : decode cX5_hasRoomFor 0 = .ok (.aload_n 0, 1) := by decide +kernel
theorem dX5_hasRoomFor_1 : decode cX5_hasRoomFor 1 = .ok (.getfield 52, 3) := by decide +kernel
theorem dX5_hasRoomFor_4 : decode cX5_hasRoomFor 4 = .ok (.ifCond .ne 10, 3) := by decide +kernel
theorem dX5_hasRoomFor_7 : decode cX5_hasRoomFor 7 = .ok (.aload_n 0, 1) := by decide +kernel
theorem dX5_hasRoomFor_8 : decode cX5_hasRoomFor 8 = .ok (.bipush 6, 2) := by decide +kernel
theorem dX5_hasRoomFor_10 : decode cX5_hasRoomFor 10 = .ok (.invokevirtual 86, 3) := by decide +kernel
theorem dX5_hasRoomFor_13 : decode cX5_hasRoomFor 13 = .ok (.ireturn, 1) := by decide +kernel
theorem dX5_hasRoomFor_14 : decode cX5_hasRoomFor 14 = .ok (.iload_n 1, 1) := by decide +kernel
theorem dX5_hasRoomFor_15 : decode cX5_hasRoomFor 15 = .ok (.iload_n 2, 1) := by decide +kernel
theorem dX5_hasRoomFor_16 : decode cX5_hasRoomFor 16 = .ok (.if_icmp .lt 11, 3) := by decide +kernel
theorem dX5_hasRoomFor_19 : decode cX5_hasRoomFor 19 = .ok (.aload_n 0, 1) := by decide +kernel
theorem dX5_hasRoomFor_20 : decode cX5_hasRoomFor 20 = .ok (.iconst 5, 1) := by decide +kernel
theorem dX5_hasRoomFor_21 : decode cX5_hasRoomFor 21 = .ok (.invokevirtual 86, 3) := by decide +kernel
theorem dX5_hasRoomFor_24 : decode cX5_hasRoomFor 24 = .ok (.ifCond .eq 7, 3) := by decide +kernel
theorem dX5_hasRoomFor_27 : decode cX5_hasRoomFor 27 = .ok (.iconst 1, 1) := by decide +kernel
theorem dX5_hasRoomFor_28 : decode cX5_hasRoomFor 28 = .ok (.goto 4, 3) := by decide +kernel
theorem dX5_hasRoomFor_31 : decode cX5_hasRoomFor 31 = .ok (.iconst 0, 1) := by decide +kernel
theorem dX5_hasRoomFor_32 : decode cX5_hasRoomFor 32 = .ok (.ireturn, 1) := by decide +kernel
theorem dX5_readRocket_0 : decode cX5_readRocket 0 = .ok (.aload_n 0, 1) := by decide +kernel
theorem dX5_readRocket_1 : decode cX5_readRocket 1 = .ok (.iconst 1, 1) := by decide +kernel
theorem dX5_readRocket_2 : decode cX5_readRocket 2 = .ok (.putfield 52, 3) := by decide +kernel
theorem dX5_readRocket_5 : decode cX5_readRocket 5 = .ok (.aload_n 0, 1) := by decide +kernel
theorem dX5_readRocket_6 : decode cX5_readRocket 6 = .ok (.getfield 66, 3) := by decide +kernel
theorem dX5_readRocket_9 : decode cX5_readRocket 9 = .ok (.invokevirtual 90, 3) := by decide +kernel
theorem dX5_readRocket_12 : decode cX5_readRocket 12 = .ok (.aload_n 0, 1) := by decide +kernel
theorem dX5_readRocket_13 : decode cX5_readRocket 13 = .ok (.ldc 116, 2) := by decide +kernel
theorem dX5_readRocket_15 : decode cX5_readRocket 15 = .ok (.invokevirtual 118, 3) := by decide +kernel
theorem dX5_readRocket_18 : decode cX5_readRocket 18 = .ok (.ifCond .eq 13, 3) := by decide +kernel
theorem dX5_readRocket_21 : decode cX5_readRocket 21 = .ok (.aload_n 0, 1) := by decide +kernel
theorem dX5_readRocket_22 : decode cX5_readRocket 22 = .ok (.iconst 1, 1) := by decide +kernel
theorem dX5_readRocket_23 : decode cX5_readRocket 23 = .ok (.bipush 40, 2) := by decide +kernel
theorem dX5_readRocket_25 : decode cX5_readRocket 25 = .ok (.invokevirtual 122, 3) := by decide +kernel
theorem dX5_readRocket_28 : decode cX5_readRocket 28 = .ok (.ifCond .ne 5, 3) := by decide +kernel
theorem dX5_readRocket_31 : decode cX5_readRocket 31 = .ok (.iconst 0, 1) := by decide +kernel
theorem dX5_readRocket_32 : decode cX5_readRocket 32 = .ok (.ireturn, 1) := by decide +kernel
theorem dX5_readRocket_33 : decode cX5_readRocket 33 = .ok (.aload_n 1, 1) := by decide +kernel
theorem dX5_readRocket_34 : decode cX5_readRocket 34 = .ok (.aload_n 0, 1) := by decide +kernel
theorem dX5_readRocket_35 : decode cX5_readRocket 35 = .ok (.getfield 56, 3) := by decide +kernel
theorem dX5_readRocket_38 : decode cX5_readRocket 38 = .ok (.putfield 125, 3) := by decide +kernel
theorem dX5_readRocket_41 : decode cX5_readRocket 41 = .ok (.aload_n 0, 1) := by decide +kernel
theorem dX5_readRocket_42 : decode cX5_readRocket 42 = .ok (.ldc 128, 2) := by decide +kernel
theorem dX5_readRocket_44 : decode cX5_readRocket 44 = .ok (.invokevirtual 118, 3) := by decide +kernel
theorem dX5_readRocket_47 : decode cX5_readRocket 47 = .ok (.ifCond .eq 13, 3) := by decide +kernel
theorem dX5_readRocket_50 : decode cX5_readRocket 50 = .ok (.aload_n 0, 1) := by decide +kernel
theorem dX5_readRocket_51 : decode cX5_readRocket 51 = .ok (.iconst 2, 1) := by decide +kernel
theorem dX5_readRocket_52 : decode cX5_readRocket 52 = .ok (.bipush 99, 2) := by decide +kernel
theorem dX5_readRocket_54 : decode cX5_readRocket 54 = .ok (.invokevirtual 122, 3) := by decide +kernel
theorem dX5_readRocket_57 : decode cX5_readRocket 57 = .ok (.ifCond .ne 5, 3) := by decide +kernel
theorem dX5_readRocket_60 : decode cX5_readRocket 60 = .ok (.iconst 0, 1) := by decide +kernel
theorem dX5_readRocket_61 : decode cX5_readRocket 61 = .ok (.ireturn, 1) := by decide +kernel
theorem dX5_readRocket_62 : decode cX5_readRocket 62 = .ok (.aload_n 1, 1) := by decide +kernel
theorem dX5_readRocket_63 : decode cX5_readRocket 63 = .ok (.aload_n 0, 1) := by decide +kernel
theorem dX5_readRocket_64 : decode cX5_readRocket 64 = .ok (.getfield 56, 3) := by decide +kernel
theorem dX5_readRocket_67 : decode cX5_readRocket 67 = .ok (.putfield 130, 3) := by decide +kernel
theorem dX5_readRocket_70 : decode cX5_readRocket 70 = .ok (.aload_n 0, 1) := by decide +kernel
theorem dX5_readRocket_71 : decode cX5_readRocket 71 = .ok (.ldc 133, 2) := by decide +kernel
theorem dX5_readRocket_73 : decode cX5_readRocket 73 = .ok (.invokevirtual 118, 3) := by decide +kernel
theorem dX5_readRocket_76 : decode cX5_readRocket 76 = .ok (.ifCond .eq 17, 3) := by decide +kernel
theorem dX5_readRocket_79 : decode cX5_readRocket 79 = .ok (.aload_n 0, 1) := by decide +kernel
theorem dX5_readRocket_80 : decode cX5_readRocket 80 = .ok (.iconst 1, 1) := by decide +kernel
theorem dX5_readRocket_81 : decode cX5_readRocket 81 = .ok (.aload_n 1, 1) := by decide +kernel
theorem dX5_readRocket_82 : decode cX5_readRocket 82 = .ok (.getfield 130, 3) := by decide +kernel
theorem dX5_readRocket_85 : decode cX5_readRocket 85 = .ok (.iconst 1, 1) := by decide +kernel
theorem dX5_readRocket_86 : decode cX5_readRocket 86 = .ok (.isub, 1) := by decide +kernel
theorem dX5_readRocket_87 : decode cX5_readRocket 87 = .ok (.invokevirtual 122, 3) := by decide +kernel
theorem dX5_readRocket_90 : decode cX5_readRocket 90 = .ok (.ifCond .ne 5, 3) := by decide +kernel
theorem dX5_readRocket_93 : decode cX5_readRocket 93 = .ok (.iconst 0, 1) := by decide +kernel
theorem dX5_readRocket_94 : decode cX5_readRocket 94 = .ok (.ireturn, 1) := by decide +kernel
theorem dX5_readRocket_95 : decode cX5_readRocket 95 = .ok (.aload_n 1, 1) := by decide +kernel
theorem dX5_readRocket_96 : decode cX5_readRocket 96 = .ok (.aload_n 0, 1) := by decide +kernel
theorem dX5_readRocket_97 : decode cX5_readRocket 97 = .ok (.getfield 56, 3) := by decide +kernel
theorem dX5_readRocket_100 : decode cX5_readRocket 100 = .ok (.putfield 135, 3) := by decide +kernel
theorem dX5_readRocket_103 : decode cX5_readRocket 103 = .ok (.aload_n 0, 1) := by decide +kernel
theorem dX5_readRocket_104 : decode cX5_readRocket 104 = .ok (.ldc 138, 2) := by decide +kernel
theorem dX5_readRocket_106 : decode cX5_readRocket 106 = .ok (.invokevirtual 118, 3) := by decide +kernel
theorem dX5_readRocket_109 : decode cX5_readRocket 109 = .ok (.ifCond .eq 13, 3) := by decide +kernel
theorem dX5_readRocket_112 : decode cX5_readRocket 112 = .ok (.aload_n 0, 1) := by decide +kernel
theorem dX5_readRocket_113 : decode cX5_readRocket 113 = .ok (.iconst 1, 1) := by decide +kernel
theorem dX5_readRocket_114 : decode cX5_readRocket 114 = .ok (.bipush 12, 2) := by decide +kernel
theorem dX5_readRocket_116 : decode cX5_readRocket 116 = .ok (.invokevirtual 122, 3) := by decide +kernel
theorem dX5_readRocket_119 : decode cX5_readRocket 119 = .ok (.ifCond .ne 5, 3) := by decide +kernel
theorem dX5_readRocket_122 : decode cX5_readRocket 122 = .ok (.iconst 0, 1) := by decide +kernel
theorem dX5_readRocket_123 : decode cX5_readRocket 123 = .ok (.ireturn, 1) := by decide +kernel
theorem dX5_readRocket_124 : decode cX5_readRocket 124 = .ok (.aload_n 1, 1) := by decide +kernel
theorem dX5_readRocket_125 : decode cX5_readRocket 125 = .ok (.aload_n 0, 1) := by decide +kernel
theorem dX5_readRocket_126 : decode cX5_readRocket 126 = .ok (.getfield 56, 3) := by decide +kernel
theorem dX5_readRocket_129 : decode cX5_readRocket 129 = .ok (.putfield 140, 3) := by decide +kernel
theorem dX5_readRocket_132 : decode cX5_readRocket 132 = .ok (.aload_n 0, 1) := by decide +kernel
theorem dX5_readRocket_133 : decode cX5_readRocket 133 = .ok (.ldc 143, 2) := by decide +kernel
theorem dX5_readRocket_135 : decode cX5_readRocket 135 = .ok (.invokevirtual 118, 3) := by decide +kernel
theorem dX5_readRocket_138 : decode cX5_readRocket 138 = .ok (.ifCond .eq 13, 3) := by decide +kernel
theorem dX5_readRocket_141 : decode cX5_readRocket 141 = .ok (.aload_n 0, 1) := by decide +kernel
theorem dX5_readRocket_142 : decode cX5_readRocket 142 = .ok (.iconst 0, 1) := by decide +kernel
theorem dX5_readRocket_143 : decode cX5_readRocket 143 = .ok (.bipush 99, 2) := by decide +kernel
theorem dX5_readRocket_145 : decode cX5_readRocket 145 = .ok (.invokevirtual 122, 3) := by decide +kernel
theorem dX5_readRocket_148 : decode cX5_readRocket 148 = .ok (.ifCond .ne 5, 3) := by decide +kernel
theorem dX5_readRocket_151 : decode cX5_readRocket 151 = .ok (.iconst 0, 1) := by decide +kernel
theorem dX5_readRocket_152 : decode cX5_readRocket 152 = .ok (.ireturn, 1) := by decide +kernel
theorem dX5_readRocket_153 : decode cX5_readRocket 153 = .ok (.aload_n 1, 1) := by decide +kernel
theorem dX5_readRocket_154 : decode cX5_readRocket 154 = .ok (.aload_n 0, 1) := by decide +kernel
theorem dX5_readRocket_155 : decode cX5_readRocket 155 = .ok (.getfield 56, 3) := by decide +kernel
theorem dX5_readRocket_158 : decode cX5_readRocket 158 = .ok (.putfield 145, 3) := by decide +kernel
theorem dX5_readRocket_161 : decode cX5_readRocket 161 = .ok (.iconst 1, 1) := by decide +kernel
theorem dX5_readRocket_162 : decode cX5_readRocket 162 = .ok (.ireturn, 1) := by decide +kernel
theorem dX5_readStage_0 : decode cX5_readStage 0 = .ok (.aload_n 1, 1) := by decide +kernel
theorem dX5_readStage_1 : decode cX5_readStage 1 = .ok (.getfield 93, 3) := by decide +kernel
theorem dX5_readStage_4 : decode cX5_readStage 4 = .ok (.istore_n 2, 1) := by decide +kernel
theorem dX5_readStage_5 : decode cX5_readStage 5 = .ok (.aload_n 0, 1) := by decide +kernel
theorem dX5_readStage_6 : decode cX5_readStage 6 = .ok (.getfield 66, 3) := by decide +kernel
theorem dX5_readStage_9 : decode cX5_readStage 9 = .ok (.invokevirtual 90, 3) := by decide +kernel
theorem dX5_readStage_12 : decode cX5_readStage 12 = .ok (.aload_n 0, 1) := by decide +kernel
theorem dX5_readStage_13 : decode cX5_readStage 13 = .ok (.iload_n 2, 1) := by decide +kernel
theorem dX5_readStage_14 : decode cX5_readStage 14 = .ok (.invokevirtual 147, 3) := by decide +kernel
theorem dX5_readStage_17 : decode cX5_readStage 17 = .ok (.ifCond .eq 12, 3) := by decide +kernel
theorem dX5_readStage_20 : decode cX5_readStage 20 = .ok (.aload_n 0, 1) := by decide +kernel
theorem dX5_readStage_21 : decode cX5_readStage 21 = .ok (.aload_n 1, 1) := by decide +kernel
theorem dX5_readStage_22 : decode cX5_readStage 22 = .ok (.iload_n 2, 1) := by decide +kernel
theorem dX5_readStage_23 : decode cX5_readStage 23 = .ok (.invokevirtual 150, 3) := by decide +kernel
theorem dX5_readStage_26 : decode cX5_readStage 26 = .ok (.ifCond .ne 5, 3) := by decide +kernel
theorem dX5_readStage_29 : decode cX5_readStage 29 = .ok (.iconst 0, 1) := by decide +kernel
theorem dX5_readStage_30 : decode cX5_readStage 30 = .ok (.ireturn, 1) := by decide +kernel
theorem dX5_readStage_31 : decode cX5_readStage 31 = .ok (.iconst 1, 1) := by decide +kernel
theorem dX5_readStage_32 : decode cX5_readStage 32 = .ok (.istore_n 3, 1) := by decide +kernel
theorem dX5_readStage_33 : decode cX5_readStage 33 = .ok (.iload_n 3, 1) := by decide +kernel
theorem dX5_readStage_34 : decode cX5_readStage 34 = .ok (.bipush 8, 2) := by decide +kernel
theorem dX5_readStage_36 : decode cX5_readStage 36 = .ok (.if_icmp .gt 68, 3) := by decide +kernel
theorem dX5_readStage_39 : decode cX5_readStage 39 = .ok (.iload_n 3, 1) := by decide +kernel
theorem dX5_readStage_40 : decode cX5_readStage 40 = .ok (.bipush 8, 2) := by decide +kernel
theorem dX5_readStage_42 : decode cX5_readStage 42 = .ok (.if_icmp .ne 14, 3) := by decide +kernel
theorem dX5_readStage_45 : decode cX5_readStage 45 = .ok (.aload_n 1, 1) := by decide +kernel
theorem dX5_readStage_46 : decode cX5_readStage 46 = .ok (.iload_n 2, 1) := by decide +kernel
theorem dX5_readStage_47 : decode cX5_readStage 47 = .ok (.iconst 4, 1) := by decide +kernel
theorem dX5_readStage_48 : decode cX5_readStage 48 = .ok (.invokevirtual 154, 3) := by decide +kernel
theorem dX5_readStage_51 : decode cX5_readStage 51 = .ok (.iconst 1, 1) := by decide +kernel
theorem dX5_readStage_52 : decode cX5_readStage 52 = .ok (.isub, 1) := by decide +kernel
theorem dX5_readStage_53 : decode cX5_readStage 53 = .ok (.goto 7, 3) := by decide +kernel
theorem dX5_readStage_56 : decode cX5_readStage 56 = .ok (.iload_n 3, 1) := by decide +kernel
theorem dX5_readStage_57 : decode cX5_readStage 57 = .ok (.invokestatic 158, 3) := by decide +kernel
theorem dX5_readStage_60 : decode cX5_readStage 60 = .ok (.istore 4, 2) := by decide +kernel
theorem dX5_readStage_62 : decode cX5_readStage 62 = .ok (.aload_n 0, 1) := by decide +kernel
theorem dX5_readStage_63 : decode cX5_readStage 63 = .ok (.iload_n 3, 1) := by decide +kernel
theorem dX5_readStage_64 : decode cX5_readStage 64 = .ok (.invokestatic 162, 3) := by decide +kernel
theorem dX5_readStage_67 : decode cX5_readStage 67 = .ok (.invokevirtual 118, 3) := by decide +kernel
theorem dX5_readStage_70 : decode cX5_readStage 70 = .ok (.ifCond .eq 16, 3) := by decide +kernel
theorem dX5_readStage_73 : decode cX5_readStage 73 = .ok (.aload_n 0, 1) := by decide +kernel
theorem dX5_readStage_74 : decode cX5_readStage 74 = .ok (.iload_n 3, 1) := by decide +kernel
theorem dX5_readStage_75 : decode cX5_readStage 75 = .ok (.invokestatic 166, 3) := by decide +kernel
theorem dX5_readStage_78 : decode cX5_readStage 78 = .ok (.iload 4, 2) := by decide +kernel
theorem dX5_readStage_80 : decode cX5_readStage 80 = .ok (.invokevirtual 122, 3) := by decide +kernel
theorem dX5_readStage_83 : decode cX5_readStage 83 = .ok (.ifCond .ne 5, 3) := by decide +kernel
theorem dX5_readStage_86 : decode cX5_readStage 86 = .ok (.iconst 0, 1) := by decide +kernel
theorem dX5_readStage_87 : decode cX5_readStage 87 = .ok (.ireturn, 1) := by decide +kernel
theorem dX5_readStage_88 : decode cX5_readStage 88 = .ok (.aload_n 1, 1) := by decide +kernel
theorem dX5_readStage_89 : decode cX5_readStage 89 = .ok (.iload_n 2, 1) := by decide +kernel
theorem dX5_readStage_90 : decode cX5_readStage 90 = .ok (.iload_n 3, 1) := by decide +kernel
theorem dX5_readStage_91 : decode cX5_readStage 91 = .ok (.aload_n 0, 1) := by decide +kernel
theorem dX5_readStage_92 : decode cX5_readStage 92 = .ok (.getfield 56, 3) := by decide +kernel
theorem dX5_readStage_95 : decode cX5_readStage 95 = .ok (.invokevirtual 169, 3) := by decide +kernel
theorem dX5_readStage_98 : decode cX5_readStage 98 = .ok (.iinc 3 1, 3) := by decide +kernel
theorem dX5_readStage_101 : decode cX5_readStage 101 = .ok (.goto (-68), 3) := by decide +kernel
theorem dX5_readStage_104 : decode cX5_readStage 104 = .ok (.aload_n 1, 1) := by decide +kernel
theorem dX5_readStage_105 : decode cX5_readStage 105 = .ok (.dup, 1) := by decide +kernel
theorem dX5_readStage_106 : decode cX5_readStage 106 = .ok (.getfield 93, 3) := by decide +kernel
theorem dX5_readStage_109 : decode cX5_readStage 109 = .ok (.iconst 1, 1) := by decide +kernel
theorem dX5_readStage_110 : decode cX5_readStage 110 = .ok (.iadd, 1) := by decide +kernel
theorem dX5_readStage_111 : decode cX5_readStage 111 = .ok (.putfield 93, 3) := by decide +kernel
theorem dX5_readStage_114 : decode cX5_readStage 114 = .ok (.iconst 1, 1) := by decide +kernel
theorem dX5_readStage_115 : decode cX5_readStage 115 = .ok (.ireturn, 1) := by decide +kernel
theorem dX5_readFail_0 : decode cX5_readFail 0 = .ok (.aload_n 0, 1) := by decide +kernel
theorem dX5_readFail_1 : decode cX5_readFail 1 = .ok (.getfield 66, 3) := by decide +kernel
theorem dX5_readFail_4 : decode cX5_readFail 4 = .ok (.invokevirtual 90, 3) := by decide +kernel
theorem dX5_readFail_7 : decode cX5_readFail 7 = .ok (.aload_n 0, 1) := by decide +kernel
theorem dX5_readFail_8 : decode cX5_readFail 8 = .ok (.invokevirtual 173, 3) := by decide +kernel
theorem dX5_readFail_11 : decode cX5_readFail 11 = .ok (.ifCond .ne 9, 3) := by decide +kernel
theorem dX5_readFail_14 : decode cX5_readFail 14 = .ok (.aload_n 0, 1) := by decide +kernel
theorem dX5_readFail_15 : decode cX5_readFail 15 = .ok (.iconst 1, 1) := by decide +kernel
theorem dX5_readFail_16 : decode cX5_readFail 16 = .ok (.invokevirtual 86, 3) := by decide +kernel
theorem dX5_readFail_19 : decode cX5_readFail 19 = .ok (.ireturn, 1) := by decide +kernel
theorem dX5_readFail_20 : decode cX5_readFail 20 = .ok (.aload_n 0, 1) := by decide +kernel
theorem dX5_readFail_21 : decode cX5_readFail 21 = .ok (.aload_n 0, 1) := by decide +kernel
theorem dX5_readFail_22 : decode cX5_readFail 22 = .ok (.getfield 66, 3) := by decide +kernel
theorem dX5_readFail_25 : decode cX5_readFail 25 = .ok (.getfield 97, 3) := by decide +kernel
theorem dX5_readFail_28 : decode cX5_readFail 28 = .ok (.aload_n 1, 1) := by decide +kernel
theorem dX5_readFail_29 : decode cX5_readFail 29 = .ok (.getfield 93, 3) := by decide +kernel
theorem dX5_readFail_32 : decode cX5_readFail 32 = .ok (.invokevirtual 177, 3) := by decide +kernel
theorem dX5_readFail_35 : decode cX5_readFail 35 = .ok (.istore_n 2, 1) := by decide +kernel
theorem dX5_readFail_36 : decode cX5_readFail 36 = .ok (.iload_n 2, 1) := by decide +kernel
theorem dX5_readFail_37 : decode cX5_readFail 37 = .ok (.ifCond .ge 9, 3) := by decide +kernel
theorem dX5_readFail_40 : decode cX5_readFail 40 = .ok (.aload_n 0, 1) := by decide +kernel
theorem dX5_readFail_41 : decode cX5_readFail 41 = .ok (.iconst 2, 1) := by decide +kernel
theorem dX5_readFail_42 : decode cX5_readFail 42 = .ok (.invokevirtual 86, 3) := by decide +kernel
theorem dX5_readFail_45 : decode cX5_readFail 45 = .ok (.ireturn, 1) := by decide +kernel
theorem dX5_readFail_46 : decode cX5_readFail 46 = .ok (.aload_n 0, 1) := by decide +kernel
theorem dX5_readFail_47 : decode cX5_readFail 47 = .ok (.getfield 66, 3) := by decide +kernel
theorem dX5_readFail_50 : decode cX5_readFail 50 = .ok (.invokevirtual 90, 3) := by decide +kernel
theorem dX5_readFail_53 : decode cX5_readFail 53 = .ok (.aload_n 0, 1) := by decide +kernel
theorem dX5_readFail_54 : decode cX5_readFail 54 = .ok (.aload_n 1, 1) := by decide +kernel
theorem dX5_readFail_55 : decode cX5_readFail 55 = .ok (.iload_n 2, 1) := by decide +kernel
theorem dX5_readFail_56 : decode cX5_readFail 56 = .ok (.invokevirtual 181, 3) := by decide +kernel
theorem dX5_readFail_59 : decode cX5_readFail 59 = .ok (.iconst 1, 1) := by decide +kernel
theorem dX5_readFail_60 : decode cX5_readFail 60 = .ok (.iadd, 1) := by decide +kernel
theorem dX5_readFail_61 : decode cX5_readFail 61 = .ok (.bipush 99, 2) := by decide +kernel
theorem dX5_readFail_63 : decode cX5_readFail 63 = .ok (.invokevirtual 122, 3) := by decide +kernel
theorem dX5_readFail_66 : decode cX5_readFail 66 = .ok (.ifCond .ne 5, 3) := by decide +kernel
theorem dX5_readFail_69 : decode cX5_readFail 69 = .ok (.iconst 0, 1) := by decide +kernel
theorem dX5_readFail_70 : decode cX5_readFail 70 = .ok (.ireturn, 1) := by decide +kernel
theorem dX5_readFail_71 : decode cX5_readFail 71 = .ok (.aload_n 0, 1) := by decide +kernel
theorem dX5_readFail_72 : decode cX5_readFail 72 = .ok (.getfield 56, 3) := by decide +kernel
theorem dX5_readFail_75 : decode cX5_readFail 75 = .ok (.istore_n 3, 1) := by decide +kernel
theorem dX5_readFail_76 : decode cX5_readFail 76 = .ok (.aload_n 0, 1) := by decide +kernel
theorem dX5_readFail_77 : decode cX5_readFail 77 = .ok (.iconst 1, 1) := by decide +kernel
theorem dX5_readFail_78 : decode cX5_readFail 78 = .ok (.bipush 9, 2) := by decide +kernel
theorem dX5_readFail_80 : decode cX5_readFail 80 = .ok (.invokevirtual 122, 3) := by decide +kernel
theorem dX5_readFail_83 : decode cX5_readFail 83 = .ok (.ifCond .ne 5, 3) := by decide +kernel
theorem dX5_readFail_86 : decode cX5_readFail 86 = .ok (.iconst 0, 1) := by decide +kernel
theorem dX5_readFail_87 : decode cX5_readFail 87 = .ok (.ireturn, 1) := by decide +kernel
theorem dX5_readFail_88 : decode cX5_readFail 88 = .ok (.aload_n 1, 1) := by decide +kernel
theorem dX5_readFail_89 : decode cX5_readFail 89 = .ok (.iload_n 2, 1) := by decide +kernel
theorem dX5_readFail_90 : decode cX5_readFail 90 = .ok (.iload_n 3, 1) := by decide +kernel
theorem dX5_readFail_91 : decode cX5_readFail 91 = .ok (.aload_n 0, 1) := by decide +kernel
theorem dX5_readFail_92 : decode cX5_readFail 92 = .ok (.getfield 56, 3) := by decide +kernel
theorem dX5_readFail_95 : decode cX5_readFail 95 = .ok (.invokevirtual 184, 3) := by decide +kernel
theorem dX5_readFail_98 : decode cX5_readFail 98 = .ok (.iconst 1, 1) := by decide +kernel
theorem dX5_readFail_99 : decode cX5_readFail 99 = .ok (.ireturn, 1) := by decide +kernel
theorem dX5_isName_0 : decode cX5_isName 0 = .ok (.aload_n 0, 1) := by decide +kernel
theorem dX5_isName_1 : decode cX5_isName 1 = .ok (.getfield 66, 3) := by decide +kernel
theorem dX5_isName_4 : decode cX5_isName 4 = .ok (.getfield 83, 3) := by decide +kernel
theorem dX5_isName_7 : decode cX5_isName 7 = .ok (.iconst 1, 1) := by decide +kernel
theorem dX5_isName_8 : decode cX5_isName 8 = .ok (.if_icmp .ne 52, 3) := by decide +kernel
theorem dX5_isName_11 : decode cX5_isName 11 = .ok (.aload_n 0, 1) := by decide +kernel
theorem dX5_isName_12 : decode cX5_isName 12 = .ok (.getfield 66, 3) := by decide +kernel
theorem dX5_isName_15 : decode cX5_isName 15 = .ok (.getfield 97, 3) := by decide +kernel
theorem dX5_isName_18 : decode cX5_isName 18 = .ok (.aload_n 0, 1) := by decide +kernel
theorem dX5_isName_19 : decode cX5_isName 19 = .ok (.getfield 23, 3) := by decide +kernel
theorem dX5_isName_22 : decode cX5_isName 22 = .ok (.lcmp, 1) := by decide +kernel
theorem dX5_isName_23 : decode cX5_isName 23 = .ok (.ifCond .eq 37, 3) := by decide +kernel
theorem dX5_isName_26 : decode cX5_isName 26 = .ok (.aload_n 0, 1) := by decide +kernel
theorem dX5_isName_27 : decode cX5_isName 27 = .ok (.getfield 66, 3) := by decide +kernel
theorem dX5_isName_30 : decode cX5_isName 30 = .ok (.getfield 97, 3) := by decide +kernel
theorem dX5_isName_33 : decode cX5_isName 33 = .ok (.aload_n 0, 1) := by decide +kernel
theorem dX5_isName_34 : decode cX5_isName 34 = .ok (.getfield 29, 3) := by decide +kernel
theorem dX5_isName_37 : decode cX5_isName 37 = .ok (.lcmp, 1) := by decide +kernel
theorem dX5_isName_38 : decode cX5_isName 38 = .ok (.ifCond .eq 22, 3) := by decide +kernel
theorem dX5_isName_41 : decode cX5_isName 41 = .ok (.aload_n 0, 1) := by decide +kernel
theorem dX5_isName_42 : decode cX5_isName 42 = .ok (.getfield 66, 3) := by decide +kernel
theorem dX5_isName_45 : decode cX5_isName 45 = .ok (.getfield 97, 3) := by decide +kernel
theorem dX5_isName_48 : decode cX5_isName 48 = .ok (.aload_n 0, 1) := by decide +kernel
theorem dX5_isName_49 : decode cX5_isName 49 = .ok (.getfield 34, 3) := by decide +kernel
theorem dX5_isName_52 : decode cX5_isName 52 = .ok (.lcmp, 1) := by decide +kernel
theorem dX5_isName_53 : decode cX5_isName 53 = .ok (.ifCond .eq 7, 3) := by decide +kernel
theorem dX5_isName_56 : decode cX5_isName 56 = .ok (.iconst 1, 1) := by decide +kernel
theorem dX5_isName_57 : decode cX5_isName 57 = .ok (.goto 4, 3) := by decide +kernel
theorem dX5_isName_60 : decode cX5_isName 60 = .ok (.iconst 0, 1) := by decide +kernel
theorem dX5_isName_61 : decode cX5_isName 61 = .ok (.ireturn, 1) := by decide +kernel
theorem dX5_nameAt_0 : decode cX5_nameAt 0 = .ok (.iconst 0, 1) := by decide +kernel
theorem dX5_nameAt_1 : decode cX5_nameAt 1 = .ok (.istore 4, 2) := by decide +kernel
theorem dX5_nameAt_3 : decode cX5_nameAt 3 = .ok (.iload 4, 2) := by decide +kernel
theorem dX5_nameAt_5 : decode cX5_nameAt 5 = .ok (.iload_n 3, 1) := by decide +kernel
theorem dX5_nameAt_6 : decode cX5_nameAt 6 = .ok (.if_icmp .ge 34, 3) := by decide +kernel
theorem dX5_nameAt_9 : decode cX5_nameAt 9 = .ok (.iload 4, 2) := by decide +kernel
theorem dX5_nameAt_11 : decode cX5_nameAt 11 = .ok (.aload_n 0, 1) := by decide +kernel
theorem dX5_nameAt_12 : decode cX5_nameAt 12 = .ok (.getfield 9, 3) := by decide +kernel
theorem dX5_nameAt_15 : decode cX5_nameAt 15 = .ok (.arraylength, 1) := by decide +kernel
theorem dX5_nameAt_16 : decode cX5_nameAt 16 = .ok (.if_icmp .ge 24, 3) := by decide +kernel
theorem dX5_nameAt_19 : decode cX5_nameAt 19 = .ok (.aload_n 0, 1) := by decide +kernel
theorem dX5_nameAt_20 : decode cX5_nameAt 20 = .ok (.getfield 9, 3) := by decide +kernel
theorem dX5_nameAt_23 : decode cX5_nameAt 23 = .ok (.iload 4, 2) := by decide +kernel
theorem dX5_nameAt_25 : decode cX5_nameAt 25 = .ok (.laload, 1) := by decide +kernel
theorem dX5_nameAt_26 : decode cX5_nameAt 26 = .ok (.lload_n 1, 1) := by decide +kernel
theorem dX5_nameAt_27 : decode cX5_nameAt 27 = .ok (.lcmp, 1) := by decide +kernel
theorem dX5_nameAt_28 : decode cX5_nameAt 28 = .ok (.ifCond .ne 6, 3) := by decide +kernel
theorem dX5_nameAt_31 : decode cX5_nameAt 31 = .ok (.iload 4, 2) := by decide +kernel
theorem dX5_nameAt_33 : decode cX5_nameAt 33 = .ok (.ireturn, 1) := by decide +kernel
theorem dX5_nameAt_34 : decode cX5_nameAt 34 = .ok (.iinc 4 1, 3) := by decide +kernel
theorem dX5_nameAt_37 : decode cX5_nameAt 37 = .ok (.goto (-34), 3) := by decide +kernel
theorem dX5_nameAt_40 : decode cX5_nameAt 40 = .ok (.iconst (-1), 1) := by decide +kernel
theorem dX5_nameAt_41 : decode cX5_nameAt 41 = .ok (.ireturn, 1) := by decide +kernel
theorem dX5_takeNewName_0 : decode cX5_takeNewName 0 = .ok (.aload_n 0, 1) := by decide +kernel
theorem dX5_takeNewName_1 : decode cX5_takeNewName 1 = .ok (.invokevirtual 173, 3) := by decide +kernel
theorem dX5_takeNewName_4 : decode cX5_takeNewName 4 = .ok (.ifCond .ne 9, 3) := by decide +kernel
theorem dX5_takeNewName_7 : decode cX5_takeNewName 7 = .ok (.aload_n 0, 1) := by decide +kernel
theorem dX5_takeNewName_8 : decode cX5_takeNewName 8 = .ok (.iconst 1, 1) := by decide +kernel
theorem dX5_takeNewName_9 : decode cX5_takeNewName 9 = .ok (.invokevirtual 86, 3) := by decide +kernel
theorem dX5_takeNewName_12 : decode cX5_takeNewName 12 = .ok (.ireturn, 1) := by decide +kernel
theorem dX5_takeNewName_13 : decode cX5_takeNewName 13 = .ok (.aload_n 0, 1) := by decide +kernel
theorem dX5_takeNewName_14 : decode cX5_takeNewName 14 = .ok (.aload_n 0, 1) := by decide +kernel
theorem dX5_takeNewName_15 : decode cX5_takeNewName 15 = .ok (.getfield 66, 3) := by decide +kernel
theorem dX5_takeNewName_18 : decode cX5_takeNewName 18 = .ok (.getfield 97, 3) := by decide +kernel
theorem dX5_takeNewName_21 : decode cX5_takeNewName 21 = .ok (.iload_n 1, 1) := by decide +kernel
theorem dX5_takeNewName_22 : decode cX5_takeNewName 22 = .ok (.invokevirtual 177, 3) := by decide +kernel
theorem dX5_takeNewName_25 : decode cX5_takeNewName 25 = .ok (.ifCond .lt 9, 3) := by decide +kernel
theorem dX5_takeNewName_28 : decode cX5_takeNewName 28 = .ok (.aload_n 0, 1) := by decide +kernel
theorem dX5_takeNewName_29 : decode cX5_takeNewName 29 = .ok (.iconst 3, 1) := by decide +kernel
theorem dX5_takeNewName_30 : decode cX5_takeNewName 30 = .ok (.invokevirtual 86, 3) := by decide +kernel
theorem dX5_takeNewName_33 : decode cX5_takeNewName 33 = .ok (.ireturn, 1) := by decide +kernel
theorem dX5_takeNewName_34 : decode cX5_takeNewName 34 = .ok (.iload_n 1, 1) := by decide +kernel
theorem dX5_takeNewName_35 : decode cX5_takeNewName 35 = .ok (.ifCond .lt 25, 3) := by decide +kernel
theorem dX5_takeNewName_38 : decode cX5_takeNewName 38 = .ok (.iload_n 1, 1) := by decide +kernel
theorem dX5_takeNewName_39 : decode cX5_takeNewName 39 = .ok (.aload_n 0, 1) := by decide +kernel
theorem dX5_takeNewName_40 : decode cX5_takeNewName 40 = .ok (.getfield 9, 3) := by decide +kernel
theorem dX5_takeNewName_43 : decode cX5_takeNewName 43 = .ok (.arraylength, 1) := by decide +kernel
theorem dX5_takeNewName_44 : decode cX5_takeNewName 44 = .ok (.if_icmp .ge 16, 3) := by decide +kernel
theorem dX5_takeNewName_47 : decode cX5_takeNewName 47 = .ok (.aload_n 0, 1) := by decide +kernel
theorem dX5_takeNewName_48 : decode cX5_takeNewName 48 = .ok (.getfield 9, 3) := by decide +kernel
theorem dX5_takeNewName_51 : decode cX5_takeNewName 51 = .ok (.iload_n 1, 1) := by decide +kernel
theorem dX5_takeNewName_52 : decode cX5_takeNewName 52 = .ok (.aload_n 0, 1) := by decide +kernel
theorem dX5_takeNewName_53 : decode cX5_takeNewName 53 = .ok (.getfield 66, 3) := by decide +kernel
theorem dX5_takeNewName_56 : decode cX5_takeNewName 56 = .ok (.getfield 97, 3) := by decide +kernel
theorem dX5_takeNewName_59 : decode cX5_takeNewName 59 = .ok (.lastore, 1) := by decide +kernel
theorem dX5_takeNewName_60 : decode cX5_takeNewName 60 = .ok (.aload_n 0, 1) := by decide +kernel
theorem dX5_takeNewName_61 : decode cX5_takeNewName 61 = .ok (.getfield 66, 3) := by decide +kernel
theorem dX5_takeNewName_64 : decode cX5_takeNewName 64 = .ok (.invokevirtual 90, 3) := by decide +kernel
theorem dX5_takeNewName_67 : decode cX5_takeNewName 67 = .ok (.iconst 1, 1) := by decide +kernel
theorem dX5_takeNewName_68 : decode cX5_takeNewName 68 = .ok (.ireturn, 1) := by decide +kernel
theorem dX5_takeKind_0 : decode cX5_takeKind 0 = .ok (.aload_n 0, 1) := by decide +kernel
theorem dX5_takeKind_1 : decode cX5_takeKind 1 = .ok (.getfield 66, 3) := by decide +kernel
theorem dX5_takeKind_4 : decode cX5_takeKind 4 = .ok (.getfield 83, 3) := by decide +kernel
theorem dX5_takeKind_7 : decode cX5_takeKind 7 = .ok (.iconst 1, 1) := by decide +kernel
theorem dX5_takeKind_8 : decode cX5_takeKind 8 = .ok (.if_icmp .ne 17, 3) := by decide +kernel
theorem dX5_takeKind_11 : decode cX5_takeKind 11 = .ok (.aload_n 0, 1) := by decide +kernel
theorem dX5_takeKind_12 : decode cX5_takeKind 12 = .ok (.aload_n 0, 1) := by decide +kernel
theorem dX5_takeKind_13 : decode cX5_takeKind 13 = .ok (.getfield 66, 3) := by decide +kernel
theorem dX5_takeKind_16 : decode cX5_takeKind 16 = .ok (.getfield 97, 3) := by decide +kernel
theorem dX5_takeKind_19 : decode cX5_takeKind 19 = .ok (.invokevirtual 187, 3) := by decide +kernel
theorem dX5_takeKind_22 : decode cX5_takeKind 22 = .ok (.goto 4, 3) := by decide +kernel
theorem dX5_takeKind_25 : decode cX5_takeKind 25 = .ok (.iconst 0, 1) := by decide +kernel
theorem dX5_takeKind_26 : decode cX5_takeKind 26 = .ok (.istore_n 3, 1) := by decide +kernel
theorem dX5_takeKind_27 : decode cX5_takeKind 27 = .ok (.iload_n 3, 1) := by decide +kernel
theorem dX5_takeKind_28 : decode cX5_takeKind 28 = .ok (.ifCond .ne 9, 3) := by decide +kernel
theorem dX5_takeKind_31 : decode cX5_takeKind 31 = .ok (.aload_n 0, 1) := by decide +kernel
theorem dX5_takeKind_32 : decode cX5_takeKind 32 = .ok (.iconst 1, 1) := by decide +kernel
theorem dX5_takeKind_33 : decode cX5_takeKind 33 = .ok (.invokevirtual 86, 3) := by decide +kernel
theorem dX5_takeKind_36 : decode cX5_takeKind 36 = .ok (.ireturn, 1) := by decide +kernel
theorem dX5_takeKind_37 : decode cX5_takeKind 37 = .ok (.aload_n 1, 1) := by decide +kernel
theorem dX5_takeKind_38 : decode cX5_takeKind 38 = .ok (.iload_n 2, 1) := by decide +kernel
theorem dX5_takeKind_39 : decode cX5_takeKind 39 = .ok (.iconst 0, 1) := by decide +kernel
theorem dX5_takeKind_40 : decode cX5_takeKind 40 = .ok (.iload_n 3, 1) := by decide +kernel
theorem dX5_takeKind_41 : decode cX5_takeKind 41 = .ok (.invokevirtual 169, 3) := by decide +kernel
theorem dX5_takeKind_44 : decode cX5_takeKind 44 = .ok (.aload_n 0, 1) := by decide +kernel
theorem dX5_takeKind_45 : decode cX5_takeKind 45 = .ok (.getfield 66, 3) := by decide +kernel
theorem dX5_takeKind_48 : decode cX5_takeKind 48 = .ok (.invokevirtual 90, 3) := by decide +kernel
theorem dX5_takeKind_51 : decode cX5_takeKind 51 = .ok (.iconst 1, 1) := by decide +kernel
theorem dX5_takeKind_52 : decode cX5_takeKind 52 = .ok (.ireturn, 1) := by decide +kernel
theorem dX5_gradeOf_0 : decode cX5_gradeOf 0 = .ok (.lload_n 1, 1) := by decide +kernel
theorem dX5_gradeOf_1 : decode cX5_gradeOf 1 = .ok (.aload_n 0, 1) := by decide +kernel
theorem dX5_gradeOf_2 : decode cX5_gradeOf 2 = .ok (.getfield 39, 3) := by decide +kernel
theorem dX5_gradeOf_5 : decode cX5_gradeOf 5 = .ok (.lcmp, 1) := by decide +kernel
theorem dX5_gradeOf_6 : decode cX5_gradeOf 6 = .ok (.ifCond .ne 5, 3) := by decide +kernel
theorem dX5_gradeOf_9 : decode cX5_gradeOf 9 = .ok (.iconst 2, 1) := by decide +kernel
theorem dX5_gradeOf_10 : decode cX5_gradeOf 10 = .ok (.ireturn, 1) := by decide +kernel
theorem dX5_gradeOf_11 : decode cX5_gradeOf 11 = .ok (.lload_n 1, 1) := by decide +kernel
theorem dX5_gradeOf_12 : decode cX5_gradeOf 12 = .ok (.aload_n 0, 1) := by decide +kernel
theorem dX5_gradeOf_13 : decode cX5_gradeOf 13 = .ok (.getfield 44, 3) := by decide +kernel
theorem dX5_gradeOf_16 : decode cX5_gradeOf 16 = .ok (.lcmp, 1) := by decide +kernel
theorem dX5_gradeOf_17 : decode cX5_gradeOf 17 = .ok (.ifCond .ne 5, 3) := by decide +kernel
theorem dX5_gradeOf_20 : decode cX5_gradeOf 20 = .ok (.iconst 3, 1) := by decide +kernel
theorem dX5_gradeOf_21 : decode cX5_gradeOf 21 = .ok (.ireturn, 1) := by decide +kernel
theorem dX5_gradeOf_22 : decode cX5_gradeOf 22 = .ok (.lload_n 1, 1) := by decide +kernel
theorem dX5_gradeOf_23 : decode cX5_gradeOf 23 = .ok (.aload_n 0, 1) := by decide +kernel
theorem dX5_gradeOf_24 : decode cX5_gradeOf 24 = .ok (.getfield 49, 3) := by decide +kernel
theorem dX5_gradeOf_27 : decode cX5_gradeOf 27 = .ok (.lcmp, 1) := by decide +kernel
theorem dX5_gradeOf_28 : decode cX5_gradeOf 28 = .ok (.ifCond .ne 7, 3) := by decide +kernel
theorem dX5_gradeOf_31 : decode cX5_gradeOf 31 = .ok (.iconst 4, 1) := by decide +kernel
theorem dX5_gradeOf_32 : decode cX5_gradeOf 32 = .ok (.goto 4, 3) := by decide +kernel
theorem dX5_gradeOf_35 : decode cX5_gradeOf 35 = .ok (.iconst 0, 1) := by decide +kernel
theorem dX5_gradeOf_36 : decode cX5_gradeOf 36 = .ok (.ireturn, 1) := by decide +kernel
theorem dX5_takeWord_0 : decode cX5_takeWord 0 = .ok (.aload_n 0, 1) := by decide +kernel
theorem dX5_takeWord_1 : decode cX5_takeWord 1 = .ok (.getfield 66, 3) := by decide +kernel
theorem dX5_takeWord_4 : decode cX5_takeWord 4 = .ok (.getfield 83, 3) := by decide +kernel
theorem dX5_takeWord_7 : decode cX5_takeWord 7 = .ok (.iconst 1, 1) := by decide +kernel
theorem dX5_takeWord_8 : decode cX5_takeWord 8 = .ok (.if_icmp .ne 18, 3) := by decide +kernel
theorem dX5_takeWord_11 : decode cX5_takeWord 11 = .ok (.aload_n 0, 1) := by decide +kernel
theorem dX5_takeWord_12 : decode cX5_takeWord 12 = .ok (.getfield 66, 3) := by decide +kernel
theorem dX5_takeWord_15 : decode cX5_takeWord 15 = .ok (.getfield 97, 3) := by decide +kernel
theorem dX5_takeWord_18 : decode cX5_takeWord 18 = .ok (.aload_n 1, 1) := by decide +kernel
theorem dX5_takeWord_19 : decode cX5_takeWord 19 = .ok (.invokestatic 17, 3) := by decide +kernel
theorem dX5_takeWord_22 : decode cX5_takeWord 22 = .ok (.lcmp, 1) := by decide +kernel
theorem dX5_takeWord_23 : decode cX5_takeWord 23 = .ok (.ifCond .eq 9, 3) := by decide +kernel
theorem dX5_takeWord_26 : decode cX5_takeWord 26 = .ok (.aload_n 0, 1) := by decide +kernel
theorem dX5_takeWord_27 : decode cX5_takeWord 27 = .ok (.iconst 1, 1) := by decide +kernel
theorem dX5_takeWord_28 : decode cX5_takeWord 28 = .ok (.invokevirtual 86, 3) := by decide +kernel
theorem dX5_takeWord_31 : decode cX5_takeWord 31 = .ok (.ireturn, 1) := by decide +kernel
theorem dX5_takeWord_32 : decode cX5_takeWord 32 = .ok (.aload_n 0, 1) := by decide +kernel
theorem dX5_takeWord_33 : decode cX5_takeWord 33 = .ok (.getfield 66, 3) := by decide +kernel
theorem dX5_takeWord_36 : decode cX5_takeWord 36 = .ok (.invokevirtual 90, 3) := by decide +kernel
theorem dX5_takeWord_39 : decode cX5_takeWord 39 = .ok (.iconst 1, 1) := by decide +kernel
theorem dX5_takeWord_40 : decode cX5_takeWord 40 = .ok (.ireturn, 1) := by decide +kernel
theorem dX5_takeWhole_0 : decode cX5_takeWhole 0 = .ok (.aload_n 0, 1) := by decide +kernel
theorem dX5_takeWhole_1 : decode cX5_takeWhole 1 = .ok (.getfield 66, 3) := by decide +kernel
theorem dX5_takeWhole_4 : decode cX5_takeWhole 4 = .ok (.getfield 83, 3) := by decide +kernel
theorem dX5_takeWhole_7 : decode cX5_takeWhole 7 = .ok (.iconst 2, 1) := by decide +kernel
theorem dX5_takeWhole_8 : decode cX5_takeWhole 8 = .ok (.if_icmp .eq 9, 3) := by decide +kernel
theorem dX5_takeWhole_11 : decode cX5_takeWhole 11 = .ok (.aload_n 0, 1) := by decide +kernel
theorem dX5_takeWhole_12 : decode cX5_takeWhole 12 = .ok (.iconst 1, 1) := by decide +kernel
theorem dX5_takeWhole_13 : decode cX5_takeWhole 13 = .ok (.invokevirtual 86, 3) := by decide +kernel
theorem dX5_takeWhole_16 : decode cX5_takeWhole 16 = .ok (.ireturn, 1) := by decide +kernel
theorem dX5_takeWhole_17 : decode cX5_takeWhole 17 = .ok (.aload_n 0, 1) := by decide +kernel
theorem dX5_takeWhole_18 : decode cX5_takeWhole 18 = .ok (.getfield 66, 3) := by decide +kernel
theorem dX5_takeWhole_21 : decode cX5_takeWhole 21 = .ok (.getfield 97, 3) := by decide +kernel
theorem dX5_takeWhole_24 : decode cX5_takeWhole 24 = .ok (.iload_n 1, 1) := by decide +kernel
theorem dX5_takeWhole_25 : decode cX5_takeWhole 25 = .ok (.i2l, 1) := by decide +kernel
theorem dX5_takeWhole_26 : decode cX5_takeWhole 26 = .ok (.lcmp, 1) := by decide +kernel
theorem dX5_takeWhole_27 : decode cX5_takeWhole 27 = .ok (.ifCond .lt 16, 3) := by decide +kernel
theorem dX5_takeWhole_30 : decode cX5_takeWhole 30 = .ok (.aload_n 0, 1) := by decide +kernel
theorem dX5_takeWhole_31 : decode cX5_takeWhole 31 = .ok (.getfield 66, 3) := by decide +kernel
theorem dX5_takeWhole_34 : decode cX5_takeWhole 34 = .ok (.getfield 97, 3) := by decide +kernel
theorem dX5_takeWhole_37 : decode cX5_takeWhole 37 = .ok (.iload_n 2, 1) := by decide +kernel
theorem dX5_takeWhole_38 : decode cX5_takeWhole 38 = .ok (.i2l, 1) := by decide +kernel
theorem dX5_takeWhole_39 : decode cX5_takeWhole 39 = .ok (.lcmp, 1) := by decide +kernel
theorem dX5_takeWhole_40 : decode cX5_takeWhole 40 = .ok (.ifCond .le 9, 3) := by decide +kernel
theorem dX5_takeWhole_43 : decode cX5_takeWhole 43 = .ok (.aload_n 0, 1) := by decide +kernel
theorem dX5_takeWhole_44 : decode cX5_takeWhole 44 = .ok (.iconst 4, 1) := by decide +kernel
theorem dX5_takeWhole_45 : decode cX5_takeWhole 45 = .ok (.invokevirtual 86, 3) := by decide +kernel
theorem dX5_takeWhole_48 : decode cX5_takeWhole 48 = .ok (.ireturn, 1) := by decide +kernel
theorem dX5_takeWhole_49 : decode cX5_takeWhole 49 = .ok (.aload_n 0, 1) := by decide +kernel
theorem dX5_takeWhole_50 : decode cX5_takeWhole 50 = .ok (.aload_n 0, 1) := by decide +kernel
theorem dX5_takeWhole_51 : decode cX5_takeWhole 51 = .ok (.getfield 66, 3) := by decide +kernel
theorem dX5_takeWhole_54 : decode cX5_takeWhole 54 = .ok (.getfield 97, 3) := by decide +kernel
theorem dX5_takeWhole_57 : decode cX5_takeWhole 57 = .ok (.l2i, 1) := by decide +kernel
theorem dX5_takeWhole_58 : decode cX5_takeWhole 58 = .ok (.putfield 56, 3) := by decide +kernel
theorem dX5_takeWhole_61 : decode cX5_takeWhole 61 = .ok (.aload_n 0, 1) := by decide +kernel
theorem dX5_takeWhole_62 : decode cX5_takeWhole 62 = .ok (.getfield 66, 3) := by decide +kernel
theorem dX5_takeWhole_65 : decode cX5_takeWhole 65 = .ok (.invokevirtual 90, 3) := by decide +kernel
theorem dX5_takeWhole_68 : decode cX5_takeWhole 68 = .ok (.iconst 1, 1) := by decide +kernel
theorem dX5_takeWhole_69 : decode cX5_takeWhole 69 = .ok (.ireturn, 1) := by decide +kernel
theorem dX6_init_0 : decode cX6_init 0 = .ok (.aload_n 0, 1) := by decide +kernel
theorem dX6_init_1 : decode cX6_init 1 = .ok (.invokespecial 3, 3) := by decide +kernel
theorem dX6_init_4 : decode cX6_init 4 = .ok (.aload_n 0, 1) := by decide +kernel
theorem dX6_init_5 : decode cX6_init 5 = .ok (.iconst 1, 1) := by decide +kernel
theorem dX6_init_6 : decode cX6_init 6 = .ok (.putfield 9, 3) := by decide +kernel
theorem dX6_init_9 : decode cX6_init 9 = .ok (.aload_n 0, 1) := by decide +kernel
theorem dX6_init_10 : decode cX6_init 10 = .ok (.iconst 1, 1) := by decide +kernel
theorem dX6_init_11 : decode cX6_init 11 = .ok (.putfield 15, 3) := by decide +kernel
theorem dX6_init_14 : decode cX6_init 14 = .ok (.aload_n 0, 1) := by decide +kernel
theorem dX6_init_15 : decode cX6_init 15 = .ok (.iconst 2, 1) := by decide +kernel
theorem dX6_init_16 : decode cX6_init 16 = .ok (.putfield 18, 3) := by decide +kernel
theorem dX6_init_19 : decode cX6_init 19 = .ok (.aload_n 0, 1) := by decide +kernel
theorem dX6_init_20 : decode cX6_init 20 = .ok (.iconst 1, 1) := by decide +kernel
theorem dX6_init_21 : decode cX6_init 21 = .ok (.putfield 21, 3) := by decide +kernel
theorem dX6_init_24 : decode cX6_init 24 = .ok (.aload_n 0, 1) := by decide +kernel
theorem dX6_init_25 : decode cX6_init 25 = .ok (.iconst 0, 1) := by decide +kernel
theorem dX6_init_26 : decode cX6_init 26 = .ok (.putfield 24, 3) := by decide +kernel
theorem dX6_init_29 : decode cX6_init 29 = .ok (.aload_n 0, 1) := by decide +kernel
theorem dX6_init_30 : decode cX6_init 30 = .ok (.iconst 0, 1) := by decide +kernel
theorem dX6_init_31 : decode cX6_init 31 = .ok (.putfield 27, 3) := by decide +kernel
theorem dX6_init_34 : decode cX6_init 34 = .ok (.aload_n 0, 1) := by decide +kernel
theorem dX6_init_35 : decode cX6_init 35 = .ok (.iconst 0, 1) := by decide +kernel
theorem dX6_init_36 : decode cX6_init 36 = .ok (.putfield 30, 3) := by decide +kernel
theorem dX6_init_39 : decode cX6_init 39 = .ok (.aload_n 0, 1) := by decide +kernel
theorem dX6_init_40 : decode cX6_init 40 = .ok (.bipush 27, 2) := by decide +kernel
theorem dX6_init_42 : decode cX6_init 42 = .ok (.newarray .int, 2) := by decide +kernel
theorem dX6_init_44 : decode cX6_init 44 = .ok (.putfield 33, 3) := by decide +kernel
theorem dX6_init_47 : decode cX6_init 47 = .ok (.aload_n 0, 1) := by decide +kernel
theorem dX6_init_48 : decode cX6_init 48 = .ok (.bipush 6, 2) := by decide +kernel
theorem dX6_init_50 : decode cX6_init 50 = .ok (.newarray .int, 2) := by decide +kernel
theorem dX6_init_52 : decode cX6_init 52 = .ok (.putfield 37, 3) := by decide +kernel
theorem dX6_init_55 : decode cX6_init 55 = .ok (.aload_n 0, 1) := by decide +kernel
theorem dX6_init_56 : decode cX6_init 56 = .ok (.bipush 6, 2) := by decide +kernel
theorem dX6_init_58 : decode cX6_init 58 = .ok (.newarray .int, 2) := by decide +kernel
theorem dX6_init_60 : decode cX6_init 60 = .ok (.putfield 40, 3) := by decide +kernel
theorem dX6_init_63 : decode cX6_init 63 = .ok (.aload_n 0, 1) := by decide +kernel
theorem dX6_init_64 : decode cX6_init 64 = .ok (.bipush 6, 2) := by decide +kernel
theorem dX6_init_66 : decode cX6_init 66 = .ok (.newarray .int, 2) := by decide +kernel
theorem dX6_init_68 : decode cX6_init 68 = .ok (.putfield 43, 3) := by decide +kernel
theorem dX6_init_71 : decode cX6_init 71 = .ok (.return_, 1) := by decide +kernel
theorem dX6_clear_0 : decode cX6_clear 0 = .ok (.aload_n 0, 1) := by decide +kernel
theorem dX6_clear_1 : decode cX6_clear 1 = .ok (.iconst 0, 1) := by decide +kernel
theorem dX6_clear_2 : decode cX6_clear 2 = .ok (.putfield 27, 3) := by decide +kernel
theorem dX6_clear_5 : decode cX6_clear 5 = .ok (.aload_n 0, 1) := by decide +kernel
theorem dX6_clear_6 : decode cX6_clear 6 = .ok (.iconst 0, 1) := by decide +kernel
theorem dX6_clear_7 : decode cX6_clear 7 = .ok (.putfield 30, 3) := by decide +kernel
theorem dX6_clear_10 : decode cX6_clear 10 = .ok (.return_, 1) := by decide +kernel
theorem dX6_wordOf_0 : decode cX6_wordOf 0 = .ok (.iload_n 0, 1) := by decide +kernel
theorem dX6_wordOf_1 : decode cX6_wordOf 1 = .ok (.tableswitch 64 1 7 #[43, 46, 49, 52, 55, 58, 61], 43) := by decide +kernel
theorem dX6_wordOf_44 : decode cX6_wordOf 44 = .ok (.ldc 46, 2) := by decide +kernel
theorem dX6_wordOf_46 : decode cX6_wordOf 46 = .ok (.areturn, 1) := by decide +kernel
theorem dX6_wordOf_47 : decode cX6_wordOf 47 = .ok (.ldc 48, 2) := by decide +kernel
theorem dX6_wordOf_49 : decode cX6_wordOf 49 = .ok (.areturn, 1) := by decide +kernel
theorem dX6_wordOf_50 : decode cX6_wordOf 50 = .ok (.ldc 50, 2) := by decide +kernel
theorem dX6_wordOf_52 : decode cX6_wordOf 52 = .ok (.areturn, 1) := by decide +kernel
theorem dX6_wordOf_53 : decode cX6_wordOf 53 = .ok (.ldc 52, 2) := by decide +kernel
theorem dX6_wordOf_55 : decode cX6_wordOf 55 = .ok (.areturn, 1) := by decide +kernel
theorem dX6_wordOf_56 : decode cX6_wordOf 56 = .ok (.ldc 54, 2) := by decide +kernel
theorem dX6_wordOf_58 : decode cX6_wordOf 58 = .ok (.areturn, 1) := by decide +kernel
theorem dX6_wordOf_59 : decode cX6_wordOf 59 = .ok (.ldc 56, 2) := by decide +kernel
theorem dX6_wordOf_61 : decode cX6_wordOf 61 = .ok (.areturn, 1) := by decide +kernel
theorem dX6_wordOf_62 : decode cX6_wordOf 62 = .ok (.ldc 58, 2) := by decide +kernel
theorem dX6_wordOf_64 : decode cX6_wordOf 64 = .ok (.areturn, 1) := by decide +kernel
theorem dX6_wordOf_65 : decode cX6_wordOf 65 = .ok (.ldc 60, 2) := by decide +kernel
theorem dX6_wordOf_67 : decode cX6_wordOf 67 = .ok (.areturn, 1) := by decide +kernel
theorem dX6_lowBoundOf_0 : decode cX6_lowBoundOf 0 = .ok (.iload_n 0, 1) := by decide +kernel
theorem dX6_lowBoundOf_1 : decode cX6_lowBoundOf 1 = .ok (.iconst 2, 1) := by decide +kernel
theorem dX6_lowBoundOf_2 : decode cX6_lowBoundOf 2 = .ok (.if_icmp .eq 15, 3) := by decide +kernel
theorem dX6_lowBoundOf_5 : decode cX6_lowBoundOf 5 = .ok (.iload_n 0, 1) := by decide +kernel
theorem dX6_lowBoundOf_6 : decode cX6_lowBoundOf 6 = .ok (.bipush 7, 2) := by decide +kernel
theorem dX6_lowBoundOf_8 : decode cX6_lowBoundOf 8 = .ok (.if_icmp .eq 9, 3) := by decide +kernel
theorem dX6_lowBoundOf_11 : decode cX6_lowBoundOf 11 = .ok (.iload_n 0, 1) := by decide +kernel
theorem dX6_lowBoundOf_12 : decode cX6_lowBoundOf 12 = .ok (.bipush 8, 2) := by decide +kernel
theorem dX6_lowBoundOf_14 : decode cX6_lowBoundOf 14 = .ok (.if_icmp .ne 7, 3) := by decide +kernel
theorem dX6_lowBoundOf_17 : decode cX6_lowBoundOf 17 = .ok (.iconst 0, 1) := by decide +kernel
theorem dX6_lowBoundOf_18 : decode cX6_lowBoundOf 18 = .ok (.goto 4, 3) := by decide +kernel
theorem dX6_lowBoundOf_21 : decode cX6_lowBoundOf 21 = .ok (.iconst 1, 1) := by decide +kernel
theorem dX6_lowBoundOf_22 : decode cX6_lowBoundOf 22 = .ok (.ireturn, 1) := by decide +kernel
theorem dX6_highBoundOf_0 : decode cX6_highBoundOf 0 = .ok (.iload_n 0, 1) := by decide +kernel
theorem dX6_highBoundOf_1 : decode cX6_highBoundOf 1 = .ok (.tableswitch 60 1 7 #[43, 46, 49, 60, 52, 60, 56], 43) := by decide +kernel
theorem dX6_highBoundOf_44 : decode cX6_highBoundOf 44 = .ok (.bipush 50, 2) := by decide +kernel
theorem dX6_highBoundOf_46 : decode cX6_highBoundOf 46 = .ok (.ireturn, 1) := by decide +kernel
theorem dX6_highBoundOf_47 : decode cX6_highBoundOf 47 = .ok (.bipush 90, 2) := by decide +kernel
theorem dX6_highBoundOf_49 : decode cX6_highBoundOf 49 = .ok (.ireturn, 1) := by decide +kernel
theorem dX6_highBoundOf_50 : decode cX6_highBoundOf 50 = .ok (.bipush 16, 2) := by decide +kernel
theorem dX6_highBoundOf_52 : decode cX6_highBoundOf 52 = .ok (.ireturn, 1) := by decide +kernel
theorem dX6_highBoundOf_53 : decode cX6_highBoundOf 53 = .ok (.sipush 999, 3) := by decide +kernel
theorem dX6_highBoundOf_56 : decode cX6_highBoundOf 56 = .ok (.ireturn, 1) := by decide +kernel
theorem dX6_highBoundOf_57 : decode cX6_highBoundOf 57 = .ok (.sipush 400, 3) := by decide +kernel
theorem dX6_highBoundOf_60 : decode cX6_highBoundOf 60 = .ok (.ireturn, 1) := by decide +kernel
theorem dX6_highBoundOf_61 : decode cX6_highBoundOf 61 = .ok (.bipush 9, 2) := by decide +kernel
theorem dX6_highBoundOf_63 : decode cX6_highBoundOf 63 = .ok (.ireturn, 1) := by decide +kernel
theorem dX6_fact_0 : decode cX6_fact 0 = .ok (.iload_n 1, 1) := by decide +kernel
theorem dX6_fact_1 : decode cX6_fact 1 = .ok (.bipush 9, 2) := by decide +kernel
theorem dX6_fact_3 : decode cX6_fact 3 = .ok (.imul, 1) := by decide +kernel
theorem dX6_fact_4 : decode cX6_fact 4 = .ok (.iload_n 2, 1) := by decide +kernel
theorem dX6_fact_5 : decode cX6_fact 5 = .ok (.iadd, 1) := by decide +kernel
theorem dX6_fact_6 : decode cX6_fact 6 = .ok (.istore_n 3, 1) := by decide +kernel
theorem dX6_fact_7 : decode cX6_fact 7 = .ok (.iload_n 3, 1) := by decide +kernel
theorem dX6_fact_8 : decode cX6_fact 8 = .ok (.ifCond .lt 21, 3) := by decide +kernel
theorem dX6_fact_11 : decode cX6_fact 11 = .ok (.iload_n 3, 1) := by decide +kernel
theorem dX6_fact_12 : decode cX6_fact 12 = .ok (.aload_n 0, 1) := by decide +kernel
theorem dX6_fact_13 : decode cX6_fact 13 = .ok (.getfield 33, 3) := by decide +kernel
theorem dX6_fact_16 : decode cX6_fact 16 = .ok (.arraylength, 1) := by decide +kernel
theorem dX6_fact_17 : decode cX6_fact 17 = .ok (.if_icmp .ge 12, 3) := by decide +kernel
theorem dX6_fact_20 : decode cX6_fact 20 = .ok (.aload_n 0, 1) := by decide +kernel
theorem dX6_fact_21 : decode cX6_fact 21 = .ok (.getfield 33, 3) := by decide +kernel
theorem dX6_fact_24 : decode cX6_fact 24 = .ok (.iload_n 3, 1) := by decide +kernel
theorem dX6_fact_25 : decode cX6_fact 25 = .ok (.iaload, 1) := by decide +kernel
theorem dX6_fact_26 : decode cX6_fact 26 = .ok (.goto 4, 3) := by decide +kernel
theorem dX6_fact_29 : decode cX6_fact 29 = .ok (.iconst 0, 1) := by decide +kernel
theorem dX6_fact_30 : decode cX6_fact 30 = .ok (.ireturn, 1) := by decide +kernel
theorem dX6_setFact_0 : decode cX6_setFact 0 = .ok (.aload_n 0, 1) := by decide +kernel
theorem dX6_setFact_1 : decode cX6_setFact 1 = .ok (.getfield 33, 3) := by decide +kernel
theorem dX6_setFact_4 : decode cX6_setFact 4 = .ok (.iload_n 1, 1) := by decide +kernel
theorem dX6_setFact_5 : decode cX6_setFact 5 = .ok (.bipush 9, 2) := by decide +kernel
theorem dX6_setFact_7 : decode cX6_setFact 7 = .ok (.imul, 1) := by decide +kernel
theorem dX6_setFact_8 : decode cX6_setFact 8 = .ok (.iload_n 2, 1) := by decide +kernel
theorem dX6_setFact_9 : decode cX6_setFact 9 = .ok (.iadd, 1) := by decide +kernel
theorem dX6_setFact_10 : decode cX6_setFact 10 = .ok (.iload_n 3, 1) := by decide +kernel
theorem dX6_setFact_11 : decode cX6_setFact 11 = .ok (.invokestatic 62, 3) := by decide +kernel
theorem dX6_setFact_14 : decode cX6_setFact 14 = .ok (.return_, 1) := by decide +kernel
theorem dX6_addFail_0 : decode cX6_addFail 0 = .ok (.aload_n 0, 1) := by decide +kernel
theorem dX6_addFail_1 : decode cX6_addFail 1 = .ok (.getfield 37, 3) := by decide +kernel
theorem dX6_addFail_4 : decode cX6_addFail 4 = .ok (.aload_n 0, 1) := by decide +kernel
theorem dX6_addFail_5 : decode cX6_addFail 5 = .ok (.getfield 30, 3) := by decide +kernel
theorem dX6_addFail_8 : decode cX6_addFail 8 = .ok (.iload_n 1, 1) := by decide +kernel
theorem dX6_addFail_9 : decode cX6_addFail 9 = .ok (.invokestatic 62, 3) := by decide +kernel
theorem dX6_addFail_12 : decode cX6_addFail 12 = .ok (.aload_n 0, 1) := by decide +kernel
theorem dX6_addFail_13 : decode cX6_addFail 13 = .ok (.getfield 40, 3) := by decide +kernel
theorem dX6_addFail_16 : decode cX6_addFail 16 = .ok (.aload_n 0, 1) := by decide +kernel
theorem dX6_addFail_17 : decode cX6_addFail 17 = .ok (.getfield 30, 3) := by decide +kernel
theorem dX6_addFail_20 : decode cX6_addFail 20 = .ok (.iload_n 2, 1) := by decide +kernel
theorem dX6_addFail_21 : decode cX6_addFail 21 = .ok (.invokestatic 62, 3) := by decide +kernel
theorem dX6_addFail_24 : decode cX6_addFail 24 = .ok (.aload_n 0, 1) := by decide +kernel
theorem dX6_addFail_25 : decode cX6_addFail 25 = .ok (.getfield 43, 3) := by decide +kernel
theorem dX6_addFail_28 : decode cX6_addFail 28 = .ok (.aload_n 0, 1) := by decide +kernel
theorem dX6_addFail_29 : decode cX6_addFail 29 = .ok (.getfield 30, 3) := by decide +kernel
theorem dX6_addFail_32 : decode cX6_addFail 32 = .ok (.iload_n 3, 1) := by decide +kernel
theorem dX6_addFail_33 : decode cX6_addFail 33 = .ok (.invokestatic 62, 3) := by decide +kernel
theorem dX6_addFail_36 : decode cX6_addFail 36 = .ok (.aload_n 0, 1) := by decide +kernel
theorem dX6_addFail_37 : decode cX6_addFail 37 = .ok (.dup, 1) := by decide +kernel
theorem dX6_addFail_38 : decode cX6_addFail 38 = .ok (.getfield 30, 3) := by decide +kernel
theorem dX6_addFail_41 : decode cX6_addFail 41 = .ok (.iconst 1, 1) := by decide +kernel
theorem dX6_addFail_42 : decode cX6_addFail 42 = .ok (.iadd, 1) := by decide +kernel
theorem dX6_addFail_43 : decode cX6_addFail 43 = .ok (.putfield 30, 3) := by decide +kernel
theorem dX6_addFail_46 : decode cX6_addFail 46 = .ok (.return_, 1) := by decide +kernel
theorem dX6_lastFailOf_0 : decode cX6_lastFailOf 0 = .ok (.iconst 0, 1) := by decide +kernel
theorem dX6_lastFailOf_1 : decode cX6_lastFailOf 1 = .ok (.istore_n 2, 1) := by decide +kernel
theorem dX6_lastFailOf_2 : decode cX6_lastFailOf 2 = .ok (.iconst 0, 1) := by decide +kernel
theorem dX6_lastFailOf_3 : decode cX6_lastFailOf 3 = .ok (.istore_n 3, 1) := by decide +kernel
theorem dX6_lastFailOf_4 : decode cX6_lastFailOf 4 = .ok (.iload_n 3, 1) := by decide +kernel
theorem dX6_lastFailOf_5 : decode cX6_lastFailOf 5 = .ok (.aload_n 0, 1) := by decide +kernel
theorem dX6_lastFailOf_6 : decode cX6_lastFailOf 6 = .ok (.getfield 30, 3) := by decide +kernel
theorem dX6_lastFailOf_9 : decode cX6_lastFailOf 9 = .ok (.if_icmp .ge 30, 3) := by decide +kernel
theorem dX6_lastFailOf_12 : decode cX6_lastFailOf 12 = .ok (.aload_n 0, 1) := by decide +kernel
theorem dX6_lastFailOf_13 : decode cX6_lastFailOf 13 = .ok (.getfield 37, 3) := by decide +kernel
theorem dX6_lastFailOf_16 : decode cX6_lastFailOf 16 = .ok (.iload_n 3, 1) := by decide +kernel
theorem dX6_lastFailOf_17 : decode cX6_lastFailOf 17 = .ok (.invokestatic 66, 3) := by decide +kernel
theorem dX6_lastFailOf_20 : decode cX6_lastFailOf 20 = .ok (.iload_n 1, 1) := by decide +kernel
theorem dX6_lastFailOf_21 : decode cX6_lastFailOf 21 = .ok (.if_icmp .ne 12, 3) := by decide +kernel
theorem dX6_lastFailOf_24 : decode cX6_lastFailOf 24 = .ok (.aload_n 0, 1) := by decide +kernel
theorem dX6_lastFailOf_25 : decode cX6_lastFailOf 25 = .ok (.getfield 40, 3) := by decide +kernel
theorem dX6_lastFailOf_28 : decode cX6_lastFailOf 28 = .ok (.iload_n 3, 1) := by decide +kernel
theorem dX6_lastFailOf_29 : decode cX6_lastFailOf 29 = .ok (.invokestatic 66, 3) := by decide +kernel
theorem dX6_lastFailOf_32 : decode cX6_lastFailOf 32 = .ok (.istore_n 2, 1) := by decide +kernel
theorem dX6_lastFailOf_33 : decode cX6_lastFailOf 33 = .ok (.iinc 3 1, 3) := by decide +kernel
theorem dX6_lastFailOf_36 : decode cX6_lastFailOf 36 = .ok (.goto (-32), 3) := by decide +kernel
theorem dX6_lastFailOf_39 : decode cX6_lastFailOf 39 = .ok (.iload_n 2, 1) := by decide +kernel
theorem dX6_lastFailOf_40 : decode cX6_lastFailOf 40 = .ok (.ireturn, 1) := by decide +kernel
theorem dX6_failing_0 : decode cX6_failing 0 = .ok (.iconst 0, 1) := by decide +kernel
theorem dX6_failing_1 : decode cX6_failing 1 = .ok (.istore_n 3, 1) := by decide +kernel
theorem dX6_failing_2 : decode cX6_failing 2 = .ok (.iconst 0, 1) := by decide +kernel
theorem dX6_failing_3 : decode cX6_failing 3 = .ok (.istore 4, 2) := by decide +kernel
theorem dX6_failing_5 : decode cX6_failing 5 = .ok (.iload 4, 2) := by decide +kernel
theorem dX6_failing_7 : decode cX6_failing 7 = .ok (.aload_n 0, 1) := by decide +kernel
theorem dX6_failing_8 : decode cX6_failing 8 = .ok (.getfield 30, 3) := by decide +kernel
theorem dX6_failing_11 : decode cX6_failing 11 = .ok (.if_icmp .ge 47, 3) := by decide +kernel
theorem dX6_failing_14 : decode cX6_failing 14 = .ok (.aload_n 0, 1) := by decide +kernel
theorem dX6_failing_15 : decode cX6_failing 15 = .ok (.getfield 37, 3) := by decide +kernel
theorem dX6_failing_18 : decode cX6_failing 18 = .ok (.iload 4, 2) := by decide +kernel
theorem dX6_failing_20 : decode cX6_failing 20 = .ok (.invokestatic 66, 3) := by decide +kernel
theorem dX6_failing_23 : decode cX6_failing 23 = .ok (.iload_n 1, 1) := by decide +kernel
theorem dX6_failing_24 : decode cX6_failing 24 = .ok (.if_icmp .ne 28, 3) := by decide +kernel
theorem dX6_failing_27 : decode cX6_failing 27 = .ok (.aload_n 0, 1) := by decide +kernel
theorem dX6_failing_28 : decode cX6_failing 28 = .ok (.getfield 40, 3) := by decide +kernel
theorem dX6_failing_31 : decode cX6_failing 31 = .ok (.iload 4, 2) := by decide +kernel
theorem dX6_failing_33 : decode cX6_failing 33 = .ok (.invokestatic 66, 3) := by decide +kernel
theorem dX6_failing_36 : decode cX6_failing 36 = .ok (.iload_n 2, 1) := by decide +kernel
theorem dX6_failing_37 : decode cX6_failing 37 = .ok (.if_icmp .ne 15, 3) := by decide +kernel
theorem dX6_failing_40 : decode cX6_failing 40 = .ok (.iload_n 3, 1) := by decide +kernel
theorem dX6_failing_41 : decode cX6_failing 41 = .ok (.aload_n 0, 1) := by decide +kernel
theorem dX6_failing_42 : decode cX6_failing 42 = .ok (.getfield 43, 3) := by decide +kernel
theorem dX6_failing_45 : decode cX6_failing 45 = .ok (.iload 4, 2) := by decide +kernel
theorem dX6_failing_47 : decode cX6_failing 47 = .ok (.invokestatic 66, 3) := by decide +kernel
theorem dX6_failing_50 : decode cX6_failing 50 = .ok (.iadd, 1) := by decide +kernel
theorem dX6_failing_51 : decode cX6_failing 51 = .ok (.istore_n 3, 1) := by decide +kernel
theorem dX6_failing_52 : decode cX6_failing 52 = .ok (.iinc 4 1, 3) := by decide +kernel
theorem dX6_failing_55 : decode cX6_failing 55 = .ok (.goto (-50), 3) := by decide +kernel
theorem dX6_failing_58 : decode cX6_failing 58 = .ok (.iload_n 3, 1) := by decide +kernel
theorem dX6_failing_59 : decode cX6_failing 59 = .ok (.ireturn, 1) := by decide +kernel
theorem dX6_shell_0 : decode cX6_shell 0 = .ok (.iload_n 2, 1) := by decide +kernel
theorem dX6_shell_1 : decode cX6_shell 1 = .ok (.aload_n 0, 1) := by decide +kernel
theorem dX6_shell_2 : decode cX6_shell 2 = .ok (.iload_n 1, 1) := by decide +kernel
theorem dX6_shell_3 : decode cX6_shell 3 = .ok (.iconst 2, 1) := by decide +kernel
theorem dX6_shell_4 : decode cX6_shell 4 = .ok (.invokevirtual 70, 3) := by decide +kernel
theorem dX6_shell_7 : decode cX6_shell 7 = .ok (.imul, 1) := by decide +kernel
theorem dX6_shell_8 : decode cX6_shell 8 = .ok (.bipush 99, 2) := by decide +kernel
theorem dX6_shell_10 : decode cX6_shell 10 = .ok (.iadd, 1) := by decide +kernel
theorem dX6_shell_11 : decode cX6_shell 11 = .ok (.bipush 100, 2) := by decide +kernel
theorem dX6_shell_13 : decode cX6_shell 13 = .ok (.idiv, 1) := by decide +kernel
theorem dX6_shell_14 : decode cX6_shell 14 = .ok (.istore_n 3, 1) := by decide +kernel
theorem dX6_shell_15 : decode cX6_shell 15 = .ok (.aload_n 0, 1) := by decide +kernel
theorem dX6_shell_16 : decode cX6_shell 16 = .ok (.iload_n 1, 1) := by decide +kernel
theorem dX6_shell_17 : decode cX6_shell 17 = .ok (.iconst 0, 1) := by decide +kernel
theorem dX6_shell_18 : decode cX6_shell 18 = .ok (.invokevirtual 70, 3) := by decide +kernel
theorem dX6_shell_21 : decode cX6_shell 21 = .ok (.iconst 4, 1) := by decide +kernel
theorem dX6_shell_22 : decode cX6_shell 22 = .ok (.if_icmp .ne 14, 3) := by decide +kernel
theorem dX6_shell_25 : decode cX6_shell 25 = .ok (.aload_n 0, 1) := by decide +kernel
theorem dX6_shell_26 : decode cX6_shell 26 = .ok (.iload_n 1, 1) := by decide +kernel
theorem dX6_shell_27 : decode cX6_shell 27 = .ok (.iconst 1, 1) := by decide +kernel
theorem dX6_shell_28 : decode cX6_shell 28 = .ok (.invokevirtual 70, 3) := by decide +kernel
theorem dX6_shell_31 : decode cX6_shell 31 = .ok (.iconst 2, 1) := by decide +kernel
theorem dX6_shell_32 : decode cX6_shell 32 = .ok (.idiv, 1) := by decide +kernel
theorem dX6_shell_33 : decode cX6_shell 33 = .ok (.goto 4, 3) := by decide +kernel
theorem dX6_shell_36 : decode cX6_shell 36 = .ok (.iconst 0, 1) := by decide +kernel
theorem dX6_shell_37 : decode cX6_shell 37 = .ok (.istore 4, 2) := by decide +kernel
theorem dX6_shell_39 : decode cX6_shell 39 = .ok (.aload_n 0, 1) := by decide +kernel
theorem dX6_shell_40 : decode cX6_shell 40 = .ok (.iload_n 1, 1) := by decide +kernel
theorem dX6_shell_41 : decode cX6_shell 41 = .ok (.iconst 1, 1) := by decide +kernel
theorem dX6_shell_42 : decode cX6_shell 42 = .ok (.invokevirtual 70, 3) := by decide +kernel
theorem dX6_shell_45 : decode cX6_shell 45 = .ok (.iload_n 3, 1) := by decide +kernel
theorem dX6_shell_46 : decode cX6_shell 46 = .ok (.iadd, 1) := by decide +kernel
theorem dX6_shell_47 : decode cX6_shell 47 = .ok (.iload 4, 2) := by decide +kernel
theorem dX6_shell_49 : decode cX6_shell 49 = .ok (.iadd, 1) := by decide +kernel
theorem dX6_shell_50 : decode cX6_shell 50 = .ok (.ireturn, 1) := by decide +kernel
theorem dX7_init_0 : decode cX7_init 0 = .ok (.aload_n 0, 1) := by decide +kernel
theorem dX7_init_1 : decode cX7_init 1 = .ok (.invokespecial 3, 3) := by decide +kernel
theorem dX7_init_4 : decode cX7_init 4 = .ok (.aload_n 0, 1) := by decide +kernel
theorem dX7_init_5 : decode cX7_init 5 = .ok (.new 9, 3) := by decide +kernel
theorem dX7_init_8 : decode cX7_init 8 = .ok (.dup, 1) := by decide +kernel
theorem dX7_init_9 : decode cX7_init 9 = .ok (.invokespecial 11, 3) := by decide +kernel
theorem dX7_init_12 : decode cX7_init 12 = .ok (.putfield 12, 3) := by decide +kernel
theorem dX7_init_15 : decode cX7_init 15 = .ok (.aload_n 0, 1) := by decide +kernel
theorem dX7_init_16 : decode cX7_init 16 = .ok (.new 9, 3) := by decide +kernel
theorem dX7_init_19 : decode cX7_init 19 = .ok (.dup, 1) := by decide +kernel
theorem dX7_init_20 : decode cX7_init 20 = .ok (.invokespecial 11, 3) := by decide +kernel
theorem dX7_init_23 : decode cX7_init 23 = .ok (.putfield 18, 3) := by decide +kernel
theorem dX7_init_26 : decode cX7_init 26 = .ok (.return_, 1) := by decide +kernel
theorem dX7_compare_0 : decode cX7_compare 0 = .ok (.aload_n 1, 1) := by decide +kernel
theorem dX7_compare_1 : decode cX7_compare 1 = .ok (.invokevirtual 21, 3) := by decide +kernel
theorem dX7_compare_4 : decode cX7_compare 4 = .ok (.dstore_n 3, 1) := by decide +kernel
theorem dX7_compare_5 : decode cX7_compare 5 = .ok (.aload_n 2, 1) := by decide +kernel
theorem dX7_compare_6 : decode cX7_compare 6 = .ok (.invokevirtual 21, 3) := by decide +kernel
theorem dX7_compare_9 : decode cX7_compare 9 = .ok (.dstore 5, 2) := by decide +kernel
theorem dX7_compare_11 : decode cX7_compare 11 = .ok (.dload_n 3, 1) := by decide +kernel
theorem dX7_compare_12 : decode cX7_compare 12 = .ok (.dload 5, 2) := by decide +kernel
theorem dX7_compare_14 : decode cX7_compare 14 = .ok (.dload 5, 2) := by decide +kernel
theorem dX7_compare_16 : decode cX7_compare 16 = .ok (.ldc2_w 27, 3) := by decide +kernel
theorem dX7_compare_19 : decode cX7_compare 19 = .ok (.dmul, 1) := by decide +kernel
theorem dX7_compare_20 : decode cX7_compare 20 = .ok (.dadd, 1) := by decide +kernel
theorem dX7_compare_21 : decode cX7_compare 21 = .ok (.dcmp .l, 1) := by decide +kernel
theorem dX7_compare_22 : decode cX7_compare 22 = .ok (.ifCond .le 5, 3) := by decide +kernel
theorem dX7_compare_25 : decode cX7_compare 25 = .ok (.iconst 1, 1) := by decide +kernel
theorem dX7_compare_26 : decode cX7_compare 26 = .ok (.ireturn, 1) := by decide +kernel
theorem dX7_compare_27 : decode cX7_compare 27 = .ok (.dload_n 3, 1) := by decide +kernel
theorem dX7_compare_28 : decode cX7_compare 28 = .ok (.dload 5, 2) := by decide +kernel
theorem dX7_compare_30 : decode cX7_compare 30 = .ok (.dload 5, 2) := by decide +kernel
theorem dX7_compare_32 : decode cX7_compare 32 = .ok (.ldc2_w 27, 3) := by decide +kernel
theorem dX7_compare_35 : decode cX7_compare 35 = .ok (.dmul, 1) := by decide +kernel
theorem dX7_compare_36 : decode cX7_compare 36 = .ok (.dsub, 1) := by decide +kernel
theorem dX7_compare_37 : decode cX7_compare 37 = .ok (.dcmp .g, 1) := by decide +kernel
theorem dX7_compare_38 : decode cX7_compare 38 = .ok (.ifCond .ge 5, 3) := by decide +kernel
theorem dX7_compare_41 : decode cX7_compare 41 = .ok (.iconst (-1), 1) := by decide +kernel
theorem dX7_compare_42 : decode cX7_compare 42 = .ok (.ireturn, 1) := by decide +kernel
theorem dX7_compare_43 : decode cX7_compare 43 = .ok (.aload_n 0, 1) := by decide +kernel
theorem dX7_compare_44 : decode cX7_compare 44 = .ok (.getfield 12, 3) := by decide +kernel
theorem dX7_compare_47 : decode cX7_compare 47 = .ok (.invokevirtual 29, 3) := by decide +kernel
theorem dX7_compare_50 : decode cX7_compare 50 = .ok (.aload_n 0, 1) := by decide +kernel
theorem dX7_compare_51 : decode cX7_compare 51 = .ok (.getfield 18, 3) := by decide +kernel
theorem dX7_compare_54 : decode cX7_compare 54 = .ok (.invokevirtual 29, 3) := by decide +kernel
theorem dX7_compare_57 : decode cX7_compare 57 = .ok (.aload_n 1, 1) := by decide +kernel
theorem dX7_compare_58 : decode cX7_compare 58 = .ok (.aload_n 0, 1) := by decide +kernel
theorem dX7_compare_59 : decode cX7_compare 59 = .ok (.getfield 12, 3) := by decide +kernel
theorem dX7_compare_62 : decode cX7_compare 62 = .ok (.aload_n 0, 1) := by decide +kernel
theorem dX7_compare_63 : decode cX7_compare 63 = .ok (.getfield 18, 3) := by decide +kernel
theorem dX7_compare_66 : decode cX7_compare 66 = .ok (.invokevirtual 32, 3) := by decide +kernel
theorem dX7_compare_69 : decode cX7_compare 69 = .ok (.aload_n 2, 1) := by decide +kernel
theorem dX7_compare_70 : decode cX7_compare 70 = .ok (.aload_n 0, 1) := by decide +kernel
theorem dX7_compare_71 : decode cX7_compare 71 = .ok (.getfield 18, 3) := by decide +kernel
theorem dX7_compare_74 : decode cX7_compare 74 = .ok (.aload_n 0, 1) := by decide +kernel
theorem dX7_compare_75 : decode cX7_compare 75 = .ok (.getfield 12, 3) := by decide +kernel
theorem dX7_compare_78 : decode cX7_compare 78 = .ok (.invokevirtual 32, 3) := by decide +kernel
theorem dX7_compare_81 : decode cX7_compare 81 = .ok (.aload_n 0, 1) := by decide +kernel
theorem dX7_compare_82 : decode cX7_compare 82 = .ok (.getfield 12, 3) := by decide +kernel
theorem dX7_compare_85 : decode cX7_compare 85 = .ok (.aload_n 0, 1) := by decide +kernel
theorem dX7_compare_86 : decode cX7_compare 86 = .ok (.getfield 18, 3) := by decide +kernel
theorem dX7_compare_89 : decode cX7_compare 89 = .ok (.invokevirtual 36, 3) := by decide +kernel
theorem dX7_compare_92 : decode cX7_compare 92 = .ok (.ireturn, 1) := by decide +kernel
theorem dX7_powerOf_0 : decode cX7_powerOf 0 = .ok (.aload_n 1, 1) := by decide +kernel
theorem dX7_powerOf_1 : decode cX7_powerOf 1 = .ok (.invokevirtual 21, 3) := by decide +kernel
theorem dX7_powerOf_4 : decode cX7_powerOf 4 = .ok (.dstore 4, 2) := by decide +kernel
theorem dX7_powerOf_6 : decode cX7_powerOf 6 = .ok (.iload_n 3, 1) := by decide +kernel
theorem dX7_powerOf_7 : decode cX7_powerOf 7 = .ok (.ifCond .le 11, 3) := by decide +kernel
theorem dX7_powerOf_10 : decode cX7_powerOf 10 = .ok (.iload_n 2, 1) := by decide +kernel
theorem dX7_powerOf_11 : decode cX7_powerOf 11 = .ok (.i2d, 1) := by decide +kernel
theorem dX7_powerOf_12 : decode cX7_powerOf 12 = .ok (.iload_n 3, 1) := by decide +kernel
theorem dX7_powerOf_13 : decode cX7_powerOf 13 = .ok (.i2d, 1) := by decide +kernel
theorem dX7_powerOf_14 : decode cX7_powerOf 14 = .ok (.ddiv, 1) := by decide +kernel
theorem dX7_powerOf_15 : decode cX7_powerOf 15 = .ok (.goto 4, 3) := by decide +kernel
theorem dX7_powerOf_18 : decode cX7_powerOf 18 = .ok (.dconst 1, 1) := by decide +kernel
theorem dX7_powerOf_19 : decode cX7_powerOf 19 = .ok (.dstore 6, 2) := by decide +kernel
theorem dX7_powerOf_21 : decode cX7_powerOf 21 = .ok (.dconst 1, 1) := by decide +kernel
theorem dX7_powerOf_22 : decode cX7_powerOf 22 = .ok (.dstore 8, 2) := by decide +kernel
theorem dX7_powerOf_24 : decode cX7_powerOf 24 = .ok (.bipush (-2), 2) := by decide +kernel
theorem dX7_powerOf_26 : decode cX7_powerOf 26 = .ok (.istore 10, 2) := by decide +kernel
theorem dX7_powerOf_28 : decode cX7_powerOf 28 = .ok (.iconst 0, 1) := by decide +kernel
theorem dX7_powerOf_29 : decode cX7_powerOf 29 = .ok (.istore 11, 2) := by decide +kernel
theorem dX7_powerOf_31 : decode cX7_powerOf 31 = .ok (.iload 11, 2) := by decide +kernel
theorem dX7_powerOf_33 : decode cX7_powerOf 33 = .ok (.bipush 40, 2) := by decide +kernel
theorem dX7_powerOf_35 : decode cX7_powerOf 35 = .ok (.if_icmp .gt 68, 3) := by decide +kernel
theorem dX7_powerOf_38 : decode cX7_powerOf 38 = .ok (.dload 4, 2) := by decide +kernel
theorem dX7_powerOf_40 : decode cX7_powerOf 40 = .ok (.dload 8, 2) := by decide +kernel
theorem dX7_powerOf_42 : decode cX7_powerOf 42 = .ok (.dload 8, 2) := by decide +kernel
theorem dX7_powerOf_44 : decode cX7_powerOf 44 = .ok (.ldc2_w 27, 3) := by decide +kernel
theorem dX7_powerOf_47 : decode cX7_powerOf 47 = .ok (.dmul, 1) := by decide +kernel
theorem dX7_powerOf_48 : decode cX7_powerOf 48 = .ok (.dsub, 1) := by decide +kernel
theorem dX7_powerOf_49 : decode cX7_powerOf 49 = .ok (.dcmp .g, 1) := by decide +kernel
theorem dX7_powerOf_50 : decode cX7_powerOf 50 = .ok (.ifCond .ge 6, 3) := by decide +kernel
theorem dX7_powerOf_53 : decode cX7_powerOf 53 = .ok (.iload 10, 2) := by decide +kernel
theorem dX7_powerOf_55 : decode cX7_powerOf 55 = .ok (.ireturn, 1) := by decide +kernel
theorem dX7_powerOf_56 : decode cX7_powerOf 56 = .ok (.dload 4, 2) := by decide +kernel
theorem dX7_powerOf_58 : decode cX7_powerOf 58 = .ok (.dload 8, 2) := by decide +kernel
theorem dX7_powerOf_60 : decode cX7_powerOf 60 = .ok (.dload 8, 2) := by decide +kernel
theorem dX7_powerOf_62 : decode cX7_powerOf 62 = .ok (.ldc2_w 27, 3) := by decide +kernel
theorem dX7_powerOf_65 : decode cX7_powerOf 65 = .ok (.dmul, 1) := by decide +kernel
theorem dX7_powerOf_66 : decode cX7_powerOf 66 = .ok (.dadd, 1) := by decide +kernel
theorem dX7_powerOf_67 : decode cX7_powerOf 67 = .ok (.dcmp .g, 1) := by decide +kernel
theorem dX7_powerOf_68 : decode cX7_powerOf 68 = .ok (.ifCond .gt 18, 3) := by decide +kernel
theorem dX7_powerOf_71 : decode cX7_powerOf 71 = .ok (.aload_n 0, 1) := by decide +kernel
theorem dX7_powerOf_72 : decode cX7_powerOf 72 = .ok (.aload_n 1, 1) := by decide +kernel
theorem dX7_powerOf_73 : decode cX7_powerOf 73 = .ok (.iload_n 2, 1) := by decide +kernel
theorem dX7_powerOf_74 : decode cX7_powerOf 74 = .ok (.iload_n 3, 1) := by decide +kernel
theorem dX7_powerOf_75 : decode cX7_powerOf 75 = .ok (.iload 11, 2) := by decide +kernel
theorem dX7_powerOf_77 : decode cX7_powerOf 77 = .ok (.invokevirtual 40, 3) := by decide +kernel
theorem dX7_powerOf_80 : decode cX7_powerOf 80 = .ok (.ifCond .ne 6, 3) := by decide +kernel
theorem dX7_powerOf_83 : decode cX7_powerOf 83 = .ok (.iload 10, 2) := by decide +kernel
theorem dX7_powerOf_85 : decode cX7_powerOf 85 = .ok (.ireturn, 1) := by decide +kernel
theorem dX7_powerOf_86 : decode cX7_powerOf 86 = .ok (.iload 11, 2) := by decide +kernel
theorem dX7_powerOf_88 : decode cX7_powerOf 88 = .ok (.istore 10, 2) := by decide +kernel
theorem dX7_powerOf_90 : decode cX7_powerOf 90 = .ok (.dload 8, 2) := by decide +kernel
theorem dX7_powerOf_92 : decode cX7_powerOf 92 = .ok (.dload 6, 2) := by decide +kernel
theorem dX7_powerOf_94 : decode cX7_powerOf 94 = .ok (.dmul, 1) := by decide +kernel
theorem dX7_powerOf_95 : decode cX7_powerOf 95 = .ok (.dstore 8, 2) := by decide +kernel
theorem dX7_powerOf_97 : decode cX7_powerOf 97 = .ok (.iinc 11 1, 3) := by decide +kernel
theorem dX7_powerOf_100 : decode cX7_powerOf 100 = .ok (.goto (-69), 3) := by decide +kernel
theorem dX7_powerOf_103 : decode cX7_powerOf 103 = .ok (.iload 10, 2) := by decide +kernel
theorem dX7_powerOf_105 : decode cX7_powerOf 105 = .ok (.ireturn, 1) := by decide +kernel
theorem dX7_isNoLess_0 : decode cX7_isNoLess 0 = .ok (.aload_n 0, 1) := by decide +kernel
theorem dX7_isNoLess_1 : decode cX7_isNoLess 1 = .ok (.getfield 12, 3) := by decide +kernel
theorem dX7_isNoLess_4 : decode cX7_isNoLess 4 = .ok (.invokevirtual 29, 3) := by decide +kernel
theorem dX7_isNoLess_7 : decode cX7_isNoLess 7 = .ok (.aload_n 0, 1) := by decide +kernel
theorem dX7_isNoLess_8 : decode cX7_isNoLess 8 = .ok (.getfield 18, 3) := by decide +kernel
theorem dX7_isNoLess_11 : decode cX7_isNoLess 11 = .ok (.invokevirtual 29, 3) := by decide +kernel
theorem dX7_isNoLess_14 : decode cX7_isNoLess 14 = .ok (.aload_n 1, 1) := by decide +kernel
theorem dX7_isNoLess_15 : decode cX7_isNoLess 15 = .ok (.aload_n 0, 1) := by decide +kernel
theorem dX7_isNoLess_16 : decode cX7_isNoLess 16 = .ok (.getfield 12, 3) := by decide +kernel
theorem dX7_isNoLess_19 : decode cX7_isNoLess 19 = .ok (.aload_n 0, 1) := by decide +kernel
theorem dX7_isNoLess_20 : decode cX7_isNoLess 20 = .ok (.getfield 18, 3) := by decide +kernel
theorem dX7_isNoLess_23 : decode cX7_isNoLess 23 = .ok (.invokevirtual 32, 3) := by decide +kernel
theorem dX7_isNoLess_26 : decode cX7_isNoLess 26 = .ok (.iconst 0, 1) := by decide +kernel
theorem dX7_isNoLess_27 : decode cX7_isNoLess 27 = .ok (.istore 5, 2) := by decide +kernel
theorem dX7_isNoLess_29 : decode cX7_isNoLess 29 = .ok (.iload 5, 2) := by decide +kernel
theorem dX7_isNoLess_31 : decode cX7_isNoLess 31 = .ok (.iload 4, 2) := by decide +kernel
theorem dX7_isNoLess_33 : decode cX7_isNoLess 33 = .ok (.if_icmp .ge 25, 3) := by decide +kernel
theorem dX7_isNoLess_36 : decode cX7_isNoLess 36 = .ok (.aload_n 0, 1) := by decide +kernel
theorem dX7_isNoLess_37 : decode cX7_isNoLess 37 = .ok (.getfield 12, 3) := by decide +kernel
theorem dX7_isNoLess_40 : decode cX7_isNoLess 40 = .ok (.iload_n 3, 1) := by decide +kernel
theorem dX7_isNoLess_41 : decode cX7_isNoLess 41 = .ok (.invokevirtual 44, 3) := by decide +kernel
theorem dX7_isNoLess_44 : decode cX7_isNoLess 44 = .ok (.aload_n 0, 1) := by decide +kernel
theorem dX7_isNoLess_45 : decode cX7_isNoLess 45 = .ok (.getfield 18, 3) := by decide +kernel
theorem dX7_isNoLess_48 : decode cX7_isNoLess 48 = .ok (.iload_n 2, 1) := by decide +kernel
theorem dX7_isNoLess_49 : decode cX7_isNoLess 49 = .ok (.invokevirtual 44, 3) := by decide +kernel
theorem dX7_isNoLess_52 : decode cX7_isNoLess 52 = .ok (.iinc 5 1, 3) := by decide +kernel
theorem dX7_isNoLess_55 : decode cX7_isNoLess 55 = .ok (.goto (-26), 3) := by decide +kernel
theorem dX7_isNoLess_58 : decode cX7_isNoLess 58 = .ok (.aload_n 0, 1) := by decide +kernel
theorem dX7_isNoLess_59 : decode cX7_isNoLess 59 = .ok (.getfield 12, 3) := by decide +kernel
theorem dX7_isNoLess_62 : decode cX7_isNoLess 62 = .ok (.aload_n 0, 1) := by decide +kernel
theorem dX7_isNoLess_63 : decode cX7_isNoLess 63 = .ok (.getfield 18, 3) := by decide +kernel
theorem dX7_isNoLess_66 : decode cX7_isNoLess 66 = .ok (.invokevirtual 36, 3) := by decide +kernel
theorem dX7_isNoLess_69 : decode cX7_isNoLess 69 = .ok (.ifCond .lt 7, 3) := by decide +kernel
theorem dX7_isNoLess_72 : decode cX7_isNoLess 72 = .ok (.iconst 1, 1) := by decide +kernel
theorem dX7_isNoLess_73 : decode cX7_isNoLess 73 = .ok (.goto 4, 3) := by decide +kernel
theorem dX7_isNoLess_76 : decode cX7_isNoLess 76 = .ok (.iconst 0, 1) := by decide +kernel
theorem dX7_isNoLess_77 : decode cX7_isNoLess 77 = .ok (.ireturn, 1) := by decide +kernel
theorem dX8_init_0 : decode cX8_init 0 = .ok (.aload_n 0, 1) := by decide +kernel
theorem dX8_init_1 : decode cX8_init 1 = .ok (.invokespecial 1, 3) := by decide +kernel
theorem dX8_init_4 : decode cX8_init 4 = .ok (.aload_n 0, 1) := by decide +kernel
theorem dX8_init_5 : decode cX8_init 5 = .ok (.sipush 700, 3) := by decide +kernel
theorem dX8_init_8 : decode cX8_init 8 = .ok (.newarray .int, 2) := by decide +kernel
theorem dX8_init_10 : decode cX8_init 10 = .ok (.putfield 9, 3) := by decide +kernel
theorem dX8_init_13 : decode cX8_init 13 = .ok (.aload_n 0, 1) := by decide +kernel
theorem dX8_init_14 : decode cX8_init 14 = .ok (.iconst 0, 1) := by decide +kernel
theorem dX8_init_15 : decode cX8_init 15 = .ok (.putfield 13, 3) := by decide +kernel
theorem dX8_init_18 : decode cX8_init 18 = .ok (.aload_n 0, 1) := by decide +kernel
theorem dX8_init_19 : decode cX8_init 19 = .ok (.iconst 0, 1) := by decide +kernel
theorem dX8_init_20 : decode cX8_init 20 = .ok (.putfield 17, 3) := by decide +kernel
theorem dX8_init_23 : decode cX8_init 23 = .ok (.aload_n 0, 1) := by decide +kernel
theorem dX8_init_24 : decode cX8_init 24 = .ok (.iconst 0, 1) := by decide +kernel
theorem dX8_init_25 : decode cX8_init 25 = .ok (.putfield 20, 3) := by decide +kernel
theorem dX8_init_28 : decode cX8_init 28 = .ok (.aload_n 0, 1) := by decide +kernel
theorem dX8_init_29 : decode cX8_init 29 = .ok (.lconst 0, 1) := by decide +kernel
theorem dX8_init_30 : decode cX8_init 30 = .ok (.putfield 23, 3) := by decide +kernel
theorem dX8_init_33 : decode cX8_init 33 = .ok (.aload_n 0, 1) := by decide +kernel
theorem dX8_init_34 : decode cX8_init 34 = .ok (.iconst 0, 1) := by decide +kernel
theorem dX8_init_35 : decode cX8_init 35 = .ok (.putfield 27, 3) := by decide +kernel
theorem dX8_init_38 : decode cX8_init 38 = .ok (.aload_n 0, 1) := by decide +kernel
theorem dX8_init_39 : decode cX8_init 39 = .ok (.iconst 0, 1) := by decide +kernel
theorem dX8_init_40 : decode cX8_init 40 = .ok (.putfield 30, 3) := by decide +kernel
theorem dX8_init_43 : decode cX8_init 43 = .ok (.return_, 1) := by decide +kernel
theorem dX8_hasRoom_0 : decode cX8_hasRoom 0 = .ok (.aload_n 0, 1) := by decide +kernel
theorem dX8_hasRoom_1 : decode cX8_hasRoom 1 = .ok (.getfield 13, 3) := by decide +kernel
theorem dX8_hasRoom_4 : decode cX8_hasRoom 4 = .ok (.iload_n 1, 1) := by decide +kernel
theorem dX8_hasRoom_5 : decode cX8_hasRoom 5 = .ok (.iadd, 1) := by decide +kernel
theorem dX8_hasRoom_6 : decode cX8_hasRoom 6 = .ok (.sipush 700, 3) := by decide +kernel
theorem dX8_hasRoom_9 : decode cX8_hasRoom 9 = .ok (.if_icmp .gt 7, 3) := by decide +kernel
theorem dX8_hasRoom_12 : decode cX8_hasRoom 12 = .ok (.iconst 1, 1) := by decide +kernel
theorem dX8_hasRoom_13 : decode cX8_hasRoom 13 = .ok (.goto 4, 3) := by decide +kernel
theorem dX8_hasRoom_16 : decode cX8_hasRoom 16 = .ok (.iconst 0, 1) := by decide +kernel
theorem dX8_hasRoom_17 : decode cX8_hasRoom 17 = .ok (.ireturn, 1) := by decide +kernel
theorem dX8_append_0 : decode cX8_append 0 = .ok (.bipush 24, 2) := by decide +kernel
theorem dX8_append_2 : decode cX8_append 2 = .ok (.istore_n 2, 1) := by decide +kernel
theorem dX8_append_3 : decode cX8_append 3 = .ok (.iload_n 2, 1) := by decide +kernel
theorem dX8_append_4 : decode cX8_append 4 = .ok (.ifCond .lt 37, 3) := by decide +kernel
theorem dX8_append_7 : decode cX8_append 7 = .ok (.aload_n 0, 1) := by decide +kernel
theorem dX8_append_8 : decode cX8_append 8 = .ok (.getfield 9, 3) := by decide +kernel
theorem dX8_append_11 : decode cX8_append 11 = .ok (.aload_n 0, 1) := by decide +kernel
theorem dX8_append_12 : decode cX8_append 12 = .ok (.getfield 13, 3) := by decide +kernel
theorem dX8_append_15 : decode cX8_append 15 = .ok (.iload_n 1, 1) := by decide +kernel
theorem dX8_append_16 : decode cX8_append 16 = .ok (.iload_n 2, 1) := by decide +kernel
theorem dX8_append_17 : decode cX8_append 17 = .ok (.iushr, 1) := by decide +kernel
theorem dX8_append_18 : decode cX8_append 18 = .ok (.sipush 255, 3) := by decide +kernel
theorem dX8_append_21 : decode cX8_append 21 = .ok (.iand, 1) := by decide +kernel
theorem dX8_append_22 : decode cX8_append 22 = .ok (.invokestatic 33, 3) := by decide +kernel
theorem dX8_append_25 : decode cX8_append 25 = .ok (.aload_n 0, 1) := by decide +kernel
theorem dX8_append_26 : decode cX8_append 26 = .ok (.dup, 1) := by decide +kernel
theorem dX8_append_27 : decode cX8_append 27 = .ok (.getfield 13, 3) := by decide +kernel
theorem dX8_append_30 : decode cX8_append 30 = .ok (.iconst 1, 1) := by decide +kernel
theorem dX8_append_31 : decode cX8_append 31 = .ok (.iadd, 1) := by decide +kernel
theorem dX8_append_32 : decode cX8_append 32 = .ok (.putfield 13, 3) := by decide +kernel
theorem dX8_append_35 : decode cX8_append 35 = .ok (.iinc 2 (-8), 3) := by decide +kernel
theorem dX8_append_38 : decode cX8_append 38 = .ok (.goto (-35), 3) := by decide +kernel
theorem dX8_append_41 : decode cX8_append 41 = .ok (.return_, 1) := by decide +kernel
theorem dX8_clear_0 : decode cX8_clear 0 = .ok (.aload_n 0, 1) := by decide +kernel
theorem dX8_clear_1 : decode cX8_clear 1 = .ok (.iconst 0, 1) := by decide +kernel
theorem dX8_clear_2 : decode cX8_clear 2 = .ok (.putfield 13, 3) := by decide +kernel
theorem dX8_clear_5 : decode cX8_clear 5 = .ok (.return_, 1) := by decide +kernel
theorem dX8_begin_0 : decode cX8_begin 0 = .ok (.aload_n 0, 1) := by decide +kernel
theorem dX8_begin_1 : decode cX8_begin 1 = .ok (.iload_n 1, 1) := by decide +kernel
theorem dX8_begin_2 : decode cX8_begin 2 = .ok (.putfield 27, 3) := by decide +kernel
theorem dX8_begin_5 : decode cX8_begin 5 = .ok (.aload_n 0, 1) := by decide +kernel
theorem dX8_begin_6 : decode cX8_begin 6 = .ok (.iconst 0, 1) := by decide +kernel
theorem dX8_begin_7 : decode cX8_begin 7 = .ok (.putfield 30, 3) := by decide +kernel
theorem dX8_begin_10 : decode cX8_begin 10 = .ok (.aload_n 0, 1) := by decide +kernel
theorem dX8_begin_11 : decode cX8_begin 11 = .ok (.invokevirtual 39, 3) := by decide +kernel
theorem dX8_begin_14 : decode cX8_begin 14 = .ok (.return_, 1) := by decide +kernel
theorem dX8_step_0 : decode cX8_step 0 = .ok (.aload_n 0, 1) := by decide +kernel
theorem dX8_step_1 : decode cX8_step 1 = .ok (.getfield 30, 3) := by decide +kernel
theorem dX8_step_4 : decode cX8_step 4 = .ok (.aload_n 0, 1) := by decide +kernel
theorem dX8_step_5 : decode cX8_step 5 = .ok (.getfield 27, 3) := by decide +kernel
theorem dX8_step_8 : decode cX8_step 8 = .ok (.if_icmp .ge 29, 3) := by decide +kernel
theorem dX8_step_11 : decode cX8_step 11 = .ok (.aload_n 0, 1) := by decide +kernel
theorem dX8_step_12 : decode cX8_step 12 = .ok (.aload_n 0, 1) := by decide +kernel
theorem dX8_step_13 : decode cX8_step 13 = .ok (.getfield 30, 3) := by decide +kernel
theorem dX8_step_16 : decode cX8_step 16 = .ok (.invokevirtual 42, 3) := by decide +kernel
theorem dX8_step_19 : decode cX8_step 19 = .ok (.bipush 32, 2) := by decide +kernel
theorem dX8_step_21 : decode cX8_step 21 = .ok (.if_icmp .ne 16, 3) := by decide +kernel
theorem dX8_step_24 : decode cX8_step 24 = .ok (.aload_n 0, 1) := by decide +kernel
theorem dX8_step_25 : decode cX8_step 25 = .ok (.dup, 1) := by decide +kernel
theorem dX8_step_26 : decode cX8_step 26 = .ok (.getfield 30, 3) := by decide +kernel
theorem dX8_step_29 : decode cX8_step 29 = .ok (.iconst 1, 1) := by decide +kernel
theorem dX8_step_30 : decode cX8_step 30 = .ok (.iadd, 1) := by decide +kernel
theorem dX8_step_31 : decode cX8_step 31 = .ok (.putfield 30, 3) := by decide +kernel
theorem dX8_step_34 : decode cX8_step 34 = .ok (.goto (-34), 3) := by decide +kernel
theorem dX8_step_37 : decode cX8_step 37 = .ok (.aload_n 0, 1) := by decide +kernel
theorem dX8_step_38 : decode cX8_step 38 = .ok (.aload_n 0, 1) := by decide +kernel
theorem dX8_step_39 : decode cX8_step 39 = .ok (.getfield 30, 3) := by decide +kernel
theorem dX8_step_42 : decode cX8_step 42 = .ok (.putfield 20, 3) := by decide +kernel
theorem dX8_step_45 : decode cX8_step 45 = .ok (.aload_n 0, 1) := by decide +kernel
theorem dX8_step_46 : decode cX8_step 46 = .ok (.lconst 0, 1) := by decide +kernel
theorem dX8_step_47 : decode cX8_step 47 = .ok (.putfield 23, 3) := by decide +kernel
theorem dX8_step_50 : decode cX8_step 50 = .ok (.aload_n 0, 1) := by decide +kernel
theorem dX8_step_51 : decode cX8_step 51 = .ok (.aload_n 0, 1) := by decide +kernel
theorem dX8_step_52 : decode cX8_step 52 = .ok (.getfield 30, 3) := by decide +kernel
theorem dX8_step_55 : decode cX8_step 55 = .ok (.aload_n 0, 1) := by decide +kernel
theorem dX8_step_56 : decode cX8_step 56 = .ok (.getfield 27, 3) := by decide +kernel
theorem dX8_step_59 : decode cX8_step 59 = .ok (.if_icmp .ge 17, 3) := by decide +kernel
theorem dX8_step_62 : decode cX8_step 62 = .ok (.aload_n 0, 1) := by decide +kernel
theorem dX8_step_63 : decode cX8_step 63 = .ok (.aload_n 0, 1) := by decide +kernel
theorem dX8_step_64 : decode cX8_step 64 = .ok (.getfield 30, 3) := by decide +kernel
theorem dX8_step_67 : decode cX8_step 67 = .ok (.invokevirtual 42, 3) := by decide +kernel
theorem dX8_step_70 : decode cX8_step 70 = .ok (.invokestatic 46, 3) := by decide +kernel
theorem dX8_step_73 : decode cX8_step 73 = .ok (.goto 4, 3) := by decide +kernel
theorem dX8_step_76 : decode cX8_step 76 = .ok (.iconst 0, 1) := by decide +kernel
theorem dX8_step_77 : decode cX8_step 77 = .ok (.putfield 17, 3) := by decide +kernel
theorem dX8_step_80 : decode cX8_step 80 = .ok (.aload_n 0, 1) := by decide +kernel
theorem dX8_step_81 : decode cX8_step 81 = .ok (.getfield 17, 3) := by decide +kernel
theorem dX8_step_84 : decode cX8_step 84 = .ok (.iconst 1, 1) := by decide +kernel
theorem dX8_step_85 : decode cX8_step 85 = .ok (.if_icmp .ne 7, 3) := by decide +kernel
theorem dX8_step_88 : decode cX8_step 88 = .ok (.iconst 1, 1) := by decide +kernel
theorem dX8_step_89 : decode cX8_step 89 = .ok (.goto 4, 3) := by decide +kernel
theorem dX8_step_92 : decode cX8_step 92 = .ok (.iconst 0, 1) := by decide +kernel
theorem dX8_step_93 : decode cX8_step 93 = .ok (.istore_n 1, 1) := by decide +kernel
theorem dX8_step_94 : decode cX8_step 94 = .ok (.iload_n 1, 1) := by decide +kernel
theorem dX8_step_95 : decode cX8_step 95 = .ok (.ifCond .ne 33, 3) := by decide +kernel
theorem dX8_step_98 : decode cX8_step 98 = .ok (.aload_n 0, 1) := by decide +kernel
theorem dX8_step_99 : decode cX8_step 99 = .ok (.getfield 17, 3) := by decide +kernel
theorem dX8_step_102 : decode cX8_step 102 = .ok (.iconst 2, 1) := by decide +kernel
theorem dX8_step_103 : decode cX8_step 103 = .ok (.if_icmp .eq 25, 3) := by decide +kernel
theorem dX8_step_106 : decode cX8_step 106 = .ok (.aload_n 0, 1) := by decide +kernel
theorem dX8_step_107 : decode cX8_step 107 = .ok (.dup, 1) := by decide +kernel
theorem dX8_step_108 : decode cX8_step 108 = .ok (.getfield 30, 3) := by decide +kernel
theorem dX8_step_111 : decode cX8_step 111 = .ok (.aload_n 0, 1) := by decide +kernel
theorem dX8_step_112 : decode cX8_step 112 = .ok (.getfield 17, 3) := by decide +kernel
theorem dX8_step_115 : decode cX8_step 115 = .ok (.ifCond .ne 7, 3) := by decide +kernel
theorem dX8_step_118 : decode cX8_step 118 = .ok (.iconst 0, 1) := by decide +kernel
theorem dX8_step_119 : decode cX8_step 119 = .ok (.goto 4, 3) := by decide +kernel
theorem dX8_step_122 : decode cX8_step 122 = .ok (.iconst 1, 1) := by decide +kernel
theorem dX8_step_123 : decode cX8_step 123 = .ok (.iadd, 1) := by decide +kernel
theorem dX8_step_124 : decode cX8_step 124 = .ok (.putfield 30, 3) := by decide +kernel
theorem dX8_step_127 : decode cX8_step 127 = .ok (.return_, 1) := by decide +kernel
theorem dX8_step_128 : decode cX8_step 128 = .ok (.aload_n 0, 1) := by decide +kernel
theorem dX8_step_129 : decode cX8_step 129 = .ok (.getfield 30, 3) := by decide +kernel
theorem dX8_step_132 : decode cX8_step 132 = .ok (.aload_n 0, 1) := by decide +kernel
theorem dX8_step_133 : decode cX8_step 133 = .ok (.getfield 27, 3) := by decide +kernel
theorem dX8_step_136 : decode cX8_step 136 = .ok (.if_icmp .ge 82, 3) := by decide +kernel
theorem dX8_step_139 : decode cX8_step 139 = .ok (.aload_n 0, 1) := by decide +kernel
theorem dX8_step_140 : decode cX8_step 140 = .ok (.aload_n 0, 1) := by decide +kernel
theorem dX8_step_141 : decode cX8_step 141 = .ok (.getfield 30, 3) := by decide +kernel
theorem dX8_step_144 : decode cX8_step 144 = .ok (.invokevirtual 42, 3) := by decide +kernel
theorem dX8_step_147 : decode cX8_step 147 = .ok (.invokestatic 46, 3) := by decide +kernel
theorem dX8_step_150 : decode cX8_step 150 = .ok (.aload_n 0, 1) := by decide +kernel
theorem dX8_step_151 : decode cX8_step 151 = .ok (.getfield 17, 3) := by decide +kernel
theorem dX8_step_154 : decode cX8_step 154 = .ok (.if_icmp .ne 64, 3) := by decide +kernel
theorem dX8_step_157 : decode cX8_step 157 = .ok (.aload_n 0, 1) := by decide +kernel
theorem dX8_step_158 : decode cX8_step 158 = .ok (.iload_n 1, 1) := by decide +kernel
theorem dX8_step_159 : decode cX8_step 159 = .ok (.ifCond .eq 21, 3) := by decide +kernel
theorem dX8_step_162 : decode cX8_step 162 = .ok (.aload_n 0, 1) := by decide +kernel
theorem dX8_step_163 : decode cX8_step 163 = .ok (.getfield 23, 3) := by decide +kernel
theorem dX8_step_166 : decode cX8_step 166 = .ok (.aload_n 0, 1) := by decide +kernel
theorem dX8_step_167 : decode cX8_step 167 = .ok (.aload_n 0, 1) := by decide +kernel
theorem dX8_step_168 : decode cX8_step 168 = .ok (.getfield 30, 3) := by decide +kernel
theorem dX8_step_171 : decode cX8_step 171 = .ok (.invokevirtual 42, 3) := by decide +kernel
theorem dX8_step_174 : decode cX8_step 174 = .ok (.invokestatic 49, 3) := by decide +kernel
theorem dX8_step_177 : decode cX8_step 177 = .ok (.goto 25, 3) := by decide +kernel
theorem dX8_step_180 : decode cX8_step 180 = .ok (.aload_n 0, 1) := by decide +kernel
theorem dX8_step_181 : decode cX8_step 181 = .ok (.getfield 23, 3) := by decide +kernel
theorem dX8_step_184 : decode cX8_step 184 = .ok (.ldc2_w 53, 3) := by decide +kernel
theorem dX8_step_187 : decode cX8_step 187 = .ok (.lmul, 1) := by decide +kernel
theorem dX8_step_188 : decode cX8_step 188 = .ok (.aload_n 0, 1) := by decide +kernel
theorem dX8_step_189 : decode cX8_step 189 = .ok (.aload_n 0, 1) := by decide +kernel
theorem dX8_step_190 : decode cX8_step 190 = .ok (.getfield 30, 3) := by decide +kernel
theorem dX8_step_193 : decode cX8_step 193 = .ok (.invokevirtual 42, 3) := by decide +kernel
theorem dX8_step_196 : decode cX8_step 196 = .ok (.i2l, 1) := by decide +kernel
theorem dX8_step_197 : decode cX8_step 197 = .ok (.ladd, 1) := by decide +kernel
theorem dX8_step_198 : decode cX8_step 198 = .ok (.ldc2_w 55, 3) := by decide +kernel
theorem dX8_step_201 : decode cX8_step 201 = .ok (.lsub, 1) := by decide +kernel
theorem dX8_step_202 : decode cX8_step 202 = .ok (.putfield 23, 3) := by decide +kernel
theorem dX8_step_205 : decode cX8_step 205 = .ok (.aload_n 0, 1) := by decide +kernel
theorem dX8_step_206 : decode cX8_step 206 = .ok (.dup, 1) := by decide +kernel
theorem dX8_step_207 : decode cX8_step 207 = .ok (.getfield 30, 3) := by decide +kernel
theorem dX8_step_210 : decode cX8_step 210 = .ok (.iconst 1, 1) := by decide +kernel
theorem dX8_step_211 : decode cX8_step 211 = .ok (.iadd, 1) := by decide +kernel
theorem dX8_step_212 : decode cX8_step 212 = .ok (.putfield 30, 3) := by decide +kernel
theorem dX8_step_215 : decode cX8_step 215 = .ok (.goto (-87), 3) := by decide +kernel
theorem dX8_step_218 : decode cX8_step 218 = .ok (.aload_n 0, 1) := by decide +kernel
theorem dX8_step_219 : decode cX8_step 219 = .ok (.getfield 30, 3) := by decide +kernel
theorem dX8_step_222 : decode cX8_step 222 = .ok (.aload_n 0, 1) := by decide +kernel
theorem dX8_step_223 : decode cX8_step 223 = .ok (.getfield 20, 3) := by decide +kernel
theorem dX8_step_226 : decode cX8_step 226 = .ok (.isub, 1) := by decide +kernel
theorem dX8_step_227 : decode cX8_step 227 = .ok (.iload_n 1, 1) := by decide +kernel
theorem dX8_step_228 : decode cX8_step 228 = .ok (.ifCond .eq 8, 3) := by decide +kernel
theorem dX8_step_231 : decode cX8_step 231 = .ok (.bipush 7, 2) := by decide +kernel
theorem dX8_step_233 : decode cX8_step 233 = .ok (.goto 4, 3) := by decide +kernel
theorem dX8_step_236 : decode cX8_step 236 = .ok (.iconst 3, 1) := by decide +kernel
theorem dX8_step_237 : decode cX8_step 237 = .ok (.if_icmp .le 8, 3) := by decide +kernel
theorem dX8_step_240 : decode cX8_step 240 = .ok (.aload_n 0, 1) := by decide +kernel
theorem dX8_step_241 : decode cX8_step 241 = .ok (.iconst 4, 1) := by decide +kernel
theorem dX8_step_242 : decode cX8_step 242 = .ok (.putfield 17, 3) := by decide +kernel
theorem dX8_step_245 : decode cX8_step 245 = .ok (.return_, 1) := by decide +kernel
theorem dX8_byteAt_0 : decode cX8_byteAt 0 = .ok (.iload_n 1, 1) := by decide +kernel
theorem dX8_byteAt_1 : decode cX8_byteAt 1 = .ok (.ifCond .lt 21, 3) := by decide +kernel
theorem dX8_byteAt_4 : decode cX8_byteAt 4 = .ok (.iload_n 1, 1) := by decide +kernel
theorem dX8_byteAt_5 : decode cX8_byteAt 5 = .ok (.aload_n 0, 1) := by decide +kernel
theorem dX8_byteAt_6 : decode cX8_byteAt 6 = .ok (.getfield 9, 3) := by decide +kernel
theorem dX8_byteAt_9 : decode cX8_byteAt 9 = .ok (.arraylength, 1) := by decide +kernel
theorem dX8_byteAt_10 : decode cX8_byteAt 10 = .ok (.if_icmp .ge 12, 3) := by decide +kernel
theorem dX8_byteAt_13 : decode cX8_byteAt 13 = .ok (.aload_n 0, 1) := by decide +kernel
theorem dX8_byteAt_14 : decode cX8_byteAt 14 = .ok (.getfield 9, 3) := by decide +kernel
theorem dX8_byteAt_17 : decode cX8_byteAt 17 = .ok (.iload_n 1, 1) := by decide +kernel
theorem dX8_byteAt_18 : decode cX8_byteAt 18 = .ok (.iaload, 1) := by decide +kernel
theorem dX8_byteAt_19 : decode cX8_byteAt 19 = .ok (.goto 4, 3) := by decide +kernel
theorem dX8_byteAt_22 : decode cX8_byteAt 22 = .ok (.iconst 0, 1) := by decide +kernel
theorem dX8_byteAt_23 : decode cX8_byteAt 23 = .ok (.ireturn, 1) := by decide +kernel
theorem dX8_kindOf_0 : decode cX8_kindOf 0 = .ok (.iload_n 0, 1) := by decide +kernel
theorem dX8_kindOf_1 : decode cX8_kindOf 1 = .ok (.bipush 97, 2) := by decide +kernel
theorem dX8_kindOf_3 : decode cX8_kindOf 3 = .ok (.if_icmp .lt 11, 3) := by decide +kernel
theorem dX8_kindOf_6 : decode cX8_kindOf 6 = .ok (.iload_n 0, 1) := by decide +kernel
theorem dX8_kindOf_7 : decode cX8_kindOf 7 = .ok (.bipush 122, 2) := by decide +kernel
theorem dX8_kindOf_9 : decode cX8_kindOf 9 = .ok (.if_icmp .gt 5, 3) := by decide +kernel
theorem dX8_kindOf_12 : decode cX8_kindOf 12 = .ok (.iconst 1, 1) := by decide +kernel
theorem dX8_kindOf_13 : decode cX8_kindOf 13 = .ok (.ireturn, 1) := by decide +kernel
theorem dX8_kindOf_14 : decode cX8_kindOf 14 = .ok (.iload_n 0, 1) := by decide +kernel
theorem dX8_kindOf_15 : decode cX8_kindOf 15 = .ok (.bipush 48, 2) := by decide +kernel
theorem dX8_kindOf_17 : decode cX8_kindOf 17 = .ok (.if_icmp .lt 11, 3) := by decide +kernel
theorem dX8_kindOf_20 : decode cX8_kindOf 20 = .ok (.iload_n 0, 1) := by decide +kernel
theorem dX8_kindOf_21 : decode cX8_kindOf 21 = .ok (.bipush 57, 2) := by decide +kernel
theorem dX8_kindOf_23 : decode cX8_kindOf 23 = .ok (.if_icmp .gt 5, 3) := by decide +kernel
theorem dX8_kindOf_26 : decode cX8_kindOf 26 = .ok (.iconst 2, 1) := by decide +kernel
theorem dX8_kindOf_27 : decode cX8_kindOf 27 = .ok (.ireturn, 1) := by decide +kernel
theorem dX8_kindOf_28 : decode cX8_kindOf 28 = .ok (.iload_n 0, 1) := by decide +kernel
theorem dX8_kindOf_29 : decode cX8_kindOf 29 = .ok (.bipush 59, 2) := by decide +kernel
theorem dX8_kindOf_31 : decode cX8_kindOf 31 = .ok (.if_icmp .ne 7, 3) := by decide +kernel
theorem dX8_kindOf_34 : decode cX8_kindOf 34 = .ok (.iconst 3, 1) := by decide +kernel
theorem dX8_kindOf_35 : decode cX8_kindOf 35 = .ok (.goto 4, 3) := by decide +kernel
theorem dX8_kindOf_38 : decode cX8_kindOf 38 = .ok (.iconst 4, 1) := by decide +kernel
theorem dX8_kindOf_39 : decode cX8_kindOf 39 = .ok (.ireturn, 1) := by decide +kernel
theorem dX8_numberOf_0 : decode cX8_numberOf 0 = .ok (.lconst 0, 1) := by decide +kernel
theorem dX8_numberOf_1 : decode cX8_numberOf 1 = .ok (.lstore_n 1, 1) := by decide +kernel
theorem dX8_numberOf_2 : decode cX8_numberOf 2 = .ok (.iconst 0, 1) := by decide +kernel
theorem dX8_numberOf_3 : decode cX8_numberOf 3 = .ok (.istore_n 3, 1) := by decide +kernel
theorem dX8_numberOf_4 : decode cX8_numberOf 4 = .ok (.iload_n 3, 1) := by decide +kernel
theorem dX8_numberOf_5 : decode cX8_numberOf 5 = .ok (.aload_n 0, 1) := by decide +kernel
theorem dX8_numberOf_6 : decode cX8_numberOf 6 = .ok (.invokevirtual 57, 3) := by decide +kernel
theorem dX8_numberOf_9 : decode cX8_numberOf 9 = .ok (.if_icmp .ge 19, 3) := by decide +kernel
theorem dX8_numberOf_12 : decode cX8_numberOf 12 = .ok (.lload_n 1, 1) := by decide +kernel
theorem dX8_numberOf_13 : decode cX8_numberOf 13 = .ok (.aload_n 0, 1) := by decide +kernel
theorem dX8_numberOf_14 : decode cX8_numberOf 14 = .ok (.iload_n 3, 1) := by decide +kernel
theorem dX8_numberOf_15 : decode cX8_numberOf 15 = .ok (.invokevirtual 63, 3) := by decide +kernel
theorem dX8_numberOf_18 : decode cX8_numberOf 18 = .ok (.invokestatic 49, 3) := by decide +kernel
theorem dX8_numberOf_21 : decode cX8_numberOf 21 = .ok (.lstore_n 1, 1) := by decide +kernel
theorem dX8_numberOf_22 : decode cX8_numberOf 22 = .ok (.iinc 3 1, 3) := by decide +kernel
theorem dX8_numberOf_25 : decode cX8_numberOf 25 = .ok (.goto (-21), 3) := by decide +kernel
theorem dX8_numberOf_28 : decode cX8_numberOf 28 = .ok (.lload_n 1, 1) := by decide +kernel
theorem dX8_numberOf_29 : decode cX8_numberOf 29 = .ok (.lreturn, 1) := by decide +kernel
theorem dX8_withLetter_0 : decode cX8_withLetter 0 = .ok (.lload_n 0, 1) := by decide +kernel
theorem dX8_withLetter_1 : decode cX8_withLetter 1 = .ok (.ldc2_w 67, 3) := by decide +kernel
theorem dX8_withLetter_4 : decode cX8_withLetter 4 = .ok (.lmul, 1) := by decide +kernel
theorem dX8_withLetter_5 : decode cX8_withLetter 5 = .ok (.iload_n 2, 1) := by decide +kernel
theorem dX8_withLetter_6 : decode cX8_withLetter 6 = .ok (.bipush 97, 2) := by decide +kernel
theorem dX8_withLetter_8 : decode cX8_withLetter 8 = .ok (.isub, 1) := by decide +kernel
theorem dX8_withLetter_9 : decode cX8_withLetter 9 = .ok (.iconst 1, 1) := by decide +kernel
theorem dX8_withLetter_10 : decode cX8_withLetter 10 = .ok (.iadd, 1) := by decide +kernel
theorem dX8_withLetter_11 : decode cX8_withLetter 11 = .ok (.i2l, 1) := by decide +kernel
theorem dX8_withLetter_12 : decode cX8_withLetter 12 = .ok (.ladd, 1) := by decide +kernel
theorem dX8_withLetter_13 : decode cX8_withLetter 13 = .ok (.lreturn, 1) := by decide +kernel
theorem dX9_init_0 : decode cX9_init 0 = .ok (.aload_n 0, 1) := by decide +kernel
theorem dX9_init_1 : decode cX9_init 1 = .ok (.invokespecial 3, 3) := by decide +kernel
theorem dX9_init_4 : decode cX9_init 4 = .ok (.aload_n 0, 1) := by decide +kernel
theorem dX9_init_5 : decode cX9_init 5 = .ok (.iconst 3, 1) := by decide +kernel
theorem dX9_init_6 : decode cX9_init 6 = .ok (.newarray .int, 2) := by decide +kernel
theorem dX9_init_8 : decode cX9_init 8 = .ok (.putfield 9, 3) := by decide +kernel
theorem dX9_init_11 : decode cX9_init 11 = .ok (.aload_n 0, 1) := by decide +kernel
theorem dX9_init_12 : decode cX9_init 12 = .ok (.iconst 3, 1) := by decide +kernel
theorem dX9_init_13 : decode cX9_init 13 = .ok (.newarray .int, 2) := by decide +kernel
theorem dX9_init_15 : decode cX9_init 15 = .ok (.putfield 15, 3) := by decide +kernel
theorem dX9_init_18 : decode cX9_init 18 = .ok (.aload_n 0, 1) := by decide +kernel
theorem dX9_init_19 : decode cX9_init 19 = .ok (.iconst 3, 1) := by decide +kernel
theorem dX9_init_20 : decode cX9_init 20 = .ok (.newarray .int, 2) := by decide +kernel
theorem dX9_init_22 : decode cX9_init 22 = .ok (.putfield 18, 3) := by decide +kernel
theorem dX9_init_25 : decode cX9_init 25 = .ok (.aload_n 0, 1) := by decide +kernel
theorem dX9_init_26 : decode cX9_init 26 = .ok (.iconst 0, 1) := by decide +kernel
theorem dX9_init_27 : decode cX9_init 27 = .ok (.putfield 21, 3) := by decide +kernel
theorem dX9_init_30 : decode cX9_init 30 = .ok (.return_, 1) := by decide +kernel
theorem dX9_weigh_0 : decode cX9_weigh 0 = .ok (.iload_n 2, 1) := by decide +kernel
theorem dX9_weigh_1 : decode cX9_weigh 1 = .ok (.istore_n 3, 1) := by decide +kernel
theorem dX9_weigh_2 : decode cX9_weigh 2 = .ok (.aload_n 1, 1) := by decide +kernel
theorem dX9_weigh_3 : decode cX9_weigh 3 = .ok (.getfield 25, 3) := by decide +kernel
theorem dX9_weigh_6 : decode cX9_weigh 6 = .ok (.iconst 1, 1) := by decide +kernel
theorem dX9_weigh_7 : decode cX9_weigh 7 = .ok (.isub, 1) := by decide +kernel
theorem dX9_weigh_8 : decode cX9_weigh 8 = .ok (.istore 4, 2) := by decide +kernel
theorem dX9_weigh_10 : decode cX9_weigh 10 = .ok (.iload 4, 2) := by decide +kernel
theorem dX9_weigh_12 : decode cX9_weigh 12 = .ok (.ifCond .lt 62, 3) := by decide +kernel
theorem dX9_weigh_15 : decode cX9_weigh 15 = .ok (.iload_n 3, 1) := by decide +kernel
theorem dX9_weigh_16 : decode cX9_weigh 16 = .ok (.aload_n 1, 1) := by decide +kernel
theorem dX9_weigh_17 : decode cX9_weigh 17 = .ok (.iload 4, 2) := by decide +kernel
theorem dX9_weigh_19 : decode cX9_weigh 19 = .ok (.aload_n 0, 1) := by decide +kernel
theorem dX9_weigh_20 : decode cX9_weigh 20 = .ok (.getfield 9, 3) := by decide +kernel
theorem dX9_weigh_23 : decode cX9_weigh 23 = .ok (.iload 4, 2) := by decide +kernel
theorem dX9_weigh_25 : decode cX9_weigh 25 = .ok (.invokestatic 30, 3) := by decide +kernel
theorem dX9_weigh_28 : decode cX9_weigh 28 = .ok (.invokevirtual 34, 3) := by decide +kernel
theorem dX9_weigh_31 : decode cX9_weigh 31 = .ok (.iadd, 1) := by decide +kernel
theorem dX9_weigh_32 : decode cX9_weigh 32 = .ok (.istore 5, 2) := by decide +kernel
theorem dX9_weigh_34 : decode cX9_weigh 34 = .ok (.iload 5, 2) := by decide +kernel
theorem dX9_weigh_36 : decode cX9_weigh 36 = .ok (.aload_n 0, 1) := by decide +kernel
theorem dX9_weigh_37 : decode cX9_weigh 37 = .ok (.getfield 9, 3) := by decide +kernel
theorem dX9_weigh_40 : decode cX9_weigh 40 = .ok (.iload 4, 2) := by decide +kernel
theorem dX9_weigh_42 : decode cX9_weigh 42 = .ok (.invokestatic 30, 3) := by decide +kernel
theorem dX9_weigh_45 : decode cX9_weigh 45 = .ok (.iadd, 1) := by decide +kernel
theorem dX9_weigh_46 : decode cX9_weigh 46 = .ok (.istore_n 3, 1) := by decide +kernel
theorem dX9_weigh_47 : decode cX9_weigh 47 = .ok (.aload_n 0, 1) := by decide +kernel
theorem dX9_weigh_48 : decode cX9_weigh 48 = .ok (.getfield 18, 3) := by decide +kernel
theorem dX9_weigh_51 : decode cX9_weigh 51 = .ok (.iload 4, 2) := by decide +kernel
theorem dX9_weigh_53 : decode cX9_weigh 53 = .ok (.iload 5, 2) := by decide +kernel
theorem dX9_weigh_55 : decode cX9_weigh 55 = .ok (.invokestatic 38, 3) := by decide +kernel
theorem dX9_weigh_58 : decode cX9_weigh 58 = .ok (.aload_n 0, 1) := by decide +kernel
theorem dX9_weigh_59 : decode cX9_weigh 59 = .ok (.getfield 15, 3) := by decide +kernel
theorem dX9_weigh_62 : decode cX9_weigh 62 = .ok (.iload 4, 2) := by decide +kernel
theorem dX9_weigh_64 : decode cX9_weigh 64 = .ok (.iload_n 3, 1) := by decide +kernel
theorem dX9_weigh_65 : decode cX9_weigh 65 = .ok (.invokestatic 38, 3) := by decide +kernel
theorem dX9_weigh_68 : decode cX9_weigh 68 = .ok (.iinc 4 (-1), 3) := by decide +kernel
theorem dX9_weigh_71 : decode cX9_weigh 71 = .ok (.goto (-61), 3) := by decide +kernel
theorem dX9_weigh_74 : decode cX9_weigh 74 = .ok (.aload_n 0, 1) := by decide +kernel
theorem dX9_weigh_75 : decode cX9_weigh 75 = .ok (.iload_n 3, 1) := by decide +kernel
theorem dX9_weigh_76 : decode cX9_weigh 76 = .ok (.putfield 21, 3) := by decide +kernel
theorem dX9_weigh_79 : decode cX9_weigh 79 = .ok (.return_, 1) := by decide +kernel
theorem dX9_layCode_0 : decode cX9_layCode 0 = .ok (.iconst 0, 1) := by decide +kernel
theorem dX9_layCode_1 : decode cX9_layCode 1 = .ok (.istore_n 2, 1) := by decide +kernel
theorem dX9_layCode_2 : decode cX9_layCode 2 = .ok (.iload_n 2, 1) := by decide +kernel
theorem dX9_layCode_3 : decode cX9_layCode 3 = .ok (.iconst 3, 1) := by decide +kernel
theorem dX9_layCode_4 : decode cX9_layCode 4 = .ok (.if_icmp .ge 22, 3) := by decide +kernel
theorem dX9_layCode_7 : decode cX9_layCode 7 = .ok (.aload_n 0, 1) := by decide +kernel
theorem dX9_layCode_8 : decode cX9_layCode 8 = .ok (.getfield 9, 3) := by decide +kernel
theorem dX9_layCode_11 : decode cX9_layCode 11 = .ok (.iload_n 2, 1) := by decide +kernel
theorem dX9_layCode_12 : decode cX9_layCode 12 = .ok (.iload_n 1, 1) := by decide +kernel
theorem dX9_layCode_13 : decode cX9_layCode 13 = .ok (.iload_n 2, 1) := by decide +kernel
theorem dX9_layCode_14 : decode cX9_layCode 14 = .ok (.invokestatic 42, 3) := by decide +kernel
theorem dX9_layCode_17 : decode cX9_layCode 17 = .ok (.invokestatic 38, 3) := by decide +kernel
theorem dX9_layCode_20 : decode cX9_layCode 20 = .ok (.iinc 2 1, 3) := by decide +kernel
theorem dX9_layCode_23 : decode cX9_layCode 23 = .ok (.goto (-21), 3) := by decide +kernel
theorem dX9_layCode_26 : decode cX9_layCode 26 = .ok (.return_, 1) := by decide +kernel
theorem dX9_weighCode_0 : decode cX9_weighCode 0 = .ok (.aload_n 0, 1) := by decide +kernel
theorem dX9_weighCode_1 : decode cX9_weighCode 1 = .ok (.iload_n 3, 1) := by decide +kernel
theorem dX9_weighCode_2 : decode cX9_weighCode 2 = .ok (.invokevirtual 47, 3) := by decide +kernel
theorem dX9_weighCode_5 : decode cX9_weighCode 5 = .ok (.aload_n 0, 1) := by decide +kernel
theorem dX9_weighCode_6 : decode cX9_weighCode 6 = .ok (.aload_n 1, 1) := by decide +kernel
theorem dX9_weighCode_7 : decode cX9_weighCode 7 = .ok (.iload_n 2, 1) := by decide +kernel
theorem dX9_weighCode_8 : decode cX9_weighCode 8 = .ok (.invokevirtual 51, 3) := by decide +kernel
theorem dX9_weighCode_11 : decode cX9_weighCode 11 = .ok (.return_, 1) := by decide +kernel
theorem dX9_pushWithout_0 : decode cX9_pushWithout 0 = .ok (.aload_n 1, 1) := by decide +kernel
theorem dX9_pushWithout_1 : decode cX9_pushWithout 1 = .ok (.iload_n 2, 1) := by decide +kernel
theorem dX9_pushWithout_2 : decode cX9_pushWithout 2 = .ok (.iconst 5, 1) := by decide +kernel
theorem dX9_pushWithout_3 : decode cX9_pushWithout 3 = .ok (.invokevirtual 55, 3) := by decide +kernel
theorem dX9_pushWithout_6 : decode cX9_pushWithout 6 = .ok (.aload_n 1, 1) := by decide +kernel
theorem dX9_pushWithout_7 : decode cX9_pushWithout 7 = .ok (.iload_n 2, 1) := by decide +kernel
theorem dX9_pushWithout_8 : decode cX9_pushWithout 8 = .ok (.iconst 4, 1) := by decide +kernel
theorem dX9_pushWithout_9 : decode cX9_pushWithout 9 = .ok (.invokevirtual 55, 3) := by decide +kernel
theorem dX9_pushWithout_12 : decode cX9_pushWithout 12 = .ok (.iload_n 3, 1) := by decide +kernel
theorem dX9_pushWithout_13 : decode cX9_pushWithout 13 = .ok (.isub, 1) := by decide +kernel
theorem dX9_pushWithout_14 : decode cX9_pushWithout 14 = .ok (.imul, 1) := by decide +kernel
theorem dX9_pushWithout_15 : decode cX9_pushWithout 15 = .ok (.istore 4, 2) := by decide +kernel
theorem dX9_pushWithout_17 : decode cX9_pushWithout 17 = .ok (.iload 4, 2) := by decide +kernel
theorem dX9_pushWithout_19 : decode cX9_pushWithout 19 = .ok (.aload_n 0, 1) := by decide +kernel
theorem dX9_pushWithout_20 : decode cX9_pushWithout 20 = .ok (.getfield 15, 3) := by decide +kernel
theorem dX9_pushWithout_23 : decode cX9_pushWithout 23 = .ok (.iload_n 2, 1) := by decide +kernel
theorem dX9_pushWithout_24 : decode cX9_pushWithout 24 = .ok (.invokestatic 30, 3) := by decide +kernel
theorem dX9_pushWithout_27 : decode cX9_pushWithout 27 = .ok (.invokestatic 58, 3) := by decide +kernel
theorem dX9_pushWithout_30 : decode cX9_pushWithout 30 = .ok (.ireturn, 1) := by decide +kernel
theorem dX9_holdsAt_0 : decode cX9_holdsAt 0 = .ok (.aload_n 0, 1) := by decide +kernel
theorem dX9_holdsAt_1 : decode cX9_holdsAt 1 = .ok (.aload_n 1, 1) := by decide +kernel
theorem dX9_holdsAt_2 : decode cX9_holdsAt 2 = .ok (.iload_n 2, 1) := by decide +kernel
theorem dX9_holdsAt_3 : decode cX9_holdsAt 3 = .ok (.aload_n 1, 1) := by decide +kernel
theorem dX9_holdsAt_4 : decode cX9_holdsAt 4 = .ok (.iload_n 2, 1) := by decide +kernel
theorem dX9_holdsAt_5 : decode cX9_holdsAt 5 = .ok (.bipush 8, 2) := by decide +kernel
theorem dX9_holdsAt_7 : decode cX9_holdsAt 7 = .ok (.invokevirtual 55, 3) := by decide +kernel
theorem dX9_holdsAt_10 : decode cX9_holdsAt 10 = .ok (.invokevirtual 61, 3) := by decide +kernel
theorem dX9_holdsAt_13 : decode cX9_holdsAt 13 = .ok (.aload_n 1, 1) := by decide +kernel
theorem dX9_holdsAt_14 : decode cX9_holdsAt 14 = .ok (.iload_n 2, 1) := by decide +kernel
theorem dX9_holdsAt_15 : decode cX9_holdsAt 15 = .ok (.bipush 7, 2) := by decide +kernel
theorem dX9_holdsAt_17 : decode cX9_holdsAt 17 = .ok (.invokevirtual 55, 3) := by decide +kernel
theorem dX9_holdsAt_20 : decode cX9_holdsAt 20 = .ok (.if_icmp .lt 7, 3) := by decide +kernel
theorem dX9_holdsAt_23 : decode cX9_holdsAt 23 = .ok (.iconst 1, 1) := by decide +kernel
theorem dX9_holdsAt_24 : decode cX9_holdsAt 24 = .ok (.goto 4, 3) := by decide +kernel
theorem dX9_holdsAt_27 : decode cX9_holdsAt 27 = .ok (.iconst 0, 1) := by decide +kernel
theorem dX9_holdsAt_28 : decode cX9_holdsAt 28 = .ok (.ireturn, 1) := by decide +kernel
theorem dX9_holdsAll_0 : decode cX9_holdsAll 0 = .ok (.iconst 0, 1) := by decide +kernel
theorem dX9_holdsAll_1 : decode cX9_holdsAll 1 = .ok (.istore_n 2, 1) := by decide +kernel
theorem dX9_holdsAll_2 : decode cX9_holdsAll 2 = .ok (.iload_n 2, 1) := by decide +kernel
theorem dX9_holdsAll_3 : decode cX9_holdsAll 3 = .ok (.aload_n 1, 1) := by decide +kernel
theorem dX9_holdsAll_4 : decode cX9_holdsAll 4 = .ok (.getfield 25, 3) := by decide +kernel
theorem dX9_holdsAll_7 : decode cX9_holdsAll 7 = .ok (.if_icmp .ge 20, 3) := by decide +kernel
theorem dX9_holdsAll_10 : decode cX9_holdsAll 10 = .ok (.aload_n 0, 1) := by decide +kernel
theorem dX9_holdsAll_11 : decode cX9_holdsAll 11 = .ok (.aload_n 1, 1) := by decide +kernel
theorem dX9_holdsAll_12 : decode cX9_holdsAll 12 = .ok (.iload_n 2, 1) := by decide +kernel
theorem dX9_holdsAll_13 : decode cX9_holdsAll 13 = .ok (.invokevirtual 65, 3) := by decide +kernel
theorem dX9_holdsAll_16 : decode cX9_holdsAll 16 = .ok (.ifCond .ne 5, 3) := by decide +kernel
theorem dX9_holdsAll_19 : decode cX9_holdsAll 19 = .ok (.iconst 0, 1) := by decide +kernel
theorem dX9_holdsAll_20 : decode cX9_holdsAll 20 = .ok (.ireturn, 1) := by decide +kernel
theorem dX9_holdsAll_21 : decode cX9_holdsAll 21 = .ok (.iinc 2 1, 3) := by decide +kernel
theorem dX9_holdsAll_24 : decode cX9_holdsAll 24 = .ok (.goto (-22), 3) := by decide +kernel
theorem dX9_holdsAll_27 : decode cX9_holdsAll 27 = .ok (.iconst 1, 1) := by decide +kernel
theorem dX9_holdsAll_28 : decode cX9_holdsAll 28 = .ok (.ireturn, 1) := by decide +kernel
theorem dX9_speedInto_0 : decode cX9_speedInto 0 = .ok (.aload_n 2, 1) := by decide +kernel
theorem dX9_speedInto_1 : decode cX9_speedInto 1 = .ok (.invokevirtual 69, 3) := by decide +kernel
theorem dX9_speedInto_4 : decode cX9_speedInto 4 = .ok (.iconst 0, 1) := by decide +kernel
theorem dX9_speedInto_5 : decode cX9_speedInto 5 = .ok (.istore_n 3, 1) := by decide +kernel
theorem dX9_speedInto_6 : decode cX9_speedInto 6 = .ok (.iload_n 3, 1) := by decide +kernel
theorem dX9_speedInto_7 : decode cX9_speedInto 7 = .ok (.aload_n 1, 1) := by decide +kernel
theorem dX9_speedInto_8 : decode cX9_speedInto 8 = .ok (.getfield 25, 3) := by decide +kernel
theorem dX9_speedInto_11 : decode cX9_speedInto 11 = .ok (.if_icmp .ge 46, 3) := by decide +kernel
theorem dX9_speedInto_14 : decode cX9_speedInto 14 = .ok (.aload_n 2, 1) := by decide +kernel
theorem dX9_speedInto_15 : decode cX9_speedInto 15 = .ok (.aload_n 0, 1) := by decide +kernel
theorem dX9_speedInto_16 : decode cX9_speedInto 16 = .ok (.getfield 15, 3) := by decide +kernel
theorem dX9_speedInto_19 : decode cX9_speedInto 19 = .ok (.iload_n 3, 1) := by decide +kernel
theorem dX9_speedInto_20 : decode cX9_speedInto 20 = .ok (.invokestatic 30, 3) := by decide +kernel
theorem dX9_speedInto_23 : decode cX9_speedInto 23 = .ok (.aload_n 1, 1) := by decide +kernel
theorem dX9_speedInto_24 : decode cX9_speedInto 24 = .ok (.iload_n 3, 1) := by decide +kernel
theorem dX9_speedInto_25 : decode cX9_speedInto 25 = .ok (.iconst 0, 1) := by decide +kernel
theorem dX9_speedInto_26 : decode cX9_speedInto 26 = .ok (.invokevirtual 55, 3) := by decide +kernel
theorem dX9_speedInto_29 : decode cX9_speedInto 29 = .ok (.invokevirtual 74, 3) := by decide +kernel
theorem dX9_speedInto_32 : decode cX9_speedInto 32 = .ok (.aload_n 2, 1) := by decide +kernel
theorem dX9_speedInto_33 : decode cX9_speedInto 33 = .ok (.aload_n 0, 1) := by decide +kernel
theorem dX9_speedInto_34 : decode cX9_speedInto 34 = .ok (.getfield 18, 3) := by decide +kernel
theorem dX9_speedInto_37 : decode cX9_speedInto 37 = .ok (.iload_n 3, 1) := by decide +kernel
theorem dX9_speedInto_38 : decode cX9_speedInto 38 = .ok (.invokestatic 30, 3) := by decide +kernel
theorem dX9_speedInto_41 : decode cX9_speedInto 41 = .ok (.aload_n 1, 1) := by decide +kernel
theorem dX9_speedInto_42 : decode cX9_speedInto 42 = .ok (.iload_n 3, 1) := by decide +kernel
theorem dX9_speedInto_43 : decode cX9_speedInto 43 = .ok (.iconst 0, 1) := by decide +kernel
theorem dX9_speedInto_44 : decode cX9_speedInto 44 = .ok (.invokevirtual 55, 3) := by decide +kernel
theorem dX9_speedInto_47 : decode cX9_speedInto 47 = .ok (.ineg, 1) := by decide +kernel
theorem dX9_speedInto_48 : decode cX9_speedInto 48 = .ok (.invokevirtual 74, 3) := by decide +kernel
theorem dX9_speedInto_51 : decode cX9_speedInto 51 = .ok (.iinc 3 1, 3) := by decide +kernel
theorem dX9_speedInto_54 : decode cX9_speedInto 54 = .ok (.goto (-48), 3) := by decide +kernel
theorem dX9_speedInto_57 : decode cX9_speedInto 57 = .ok (.return_, 1) := by decide +kernel
theorem dX9_hundredfold_0 : decode cX9_hundredfold 0 = .ok (.iload_n 1, 1) := by decide +kernel
theorem dX9_hundredfold_1 : decode cX9_hundredfold 1 = .ok (.ifCond .le 12, 3) := by decide +kernel
theorem dX9_hundredfold_4 : decode cX9_hundredfold 4 = .ok (.bipush 100, 2) := by decide +kernel
theorem dX9_hundredfold_6 : decode cX9_hundredfold 6 = .ok (.iload_n 0, 1) := by decide +kernel
theorem dX9_hundredfold_7 : decode cX9_hundredfold 7 = .ok (.imul, 1) := by decide +kernel
theorem dX9_hundredfold_8 : decode cX9_hundredfold 8 = .ok (.iload_n 1, 1) := by decide +kernel
theorem dX9_hundredfold_9 : decode cX9_hundredfold 9 = .ok (.idiv, 1) := by decide +kernel
theorem dX9_hundredfold_10 : decode cX9_hundredfold 10 = .ok (.goto 4, 3) := by decide +kernel
theorem dX9_hundredfold_13 : decode cX9_hundredfold 13 = .ok (.iconst 0, 1) := by decide +kernel
theorem dX9_hundredfold_14 : decode cX9_hundredfold 14 = .ok (.ireturn, 1) := by decide +kernel
theorem dJ9_abs_0f7a4_0 : decode cJ9_abs_0f7a4 0 = .ok (.iload_n 0, 1) := by decide +kernel
theorem dJ9_abs_0f7a4_1 : decode cJ9_abs_0f7a4 1 = .ok (.ifCond .ge 8, 3) := by decide +kernel
theorem dJ9_abs_0f7a4_4 : decode cJ9_abs_0f7a4 4 = .ok (.iload_n 0, 1) := by decide +kernel
theorem dJ9_abs_0f7a4_5 : decode cJ9_abs_0f7a4 5 = .ok (.ineg, 1) := by decide +kernel
theorem dJ9_abs_0f7a4_6 : decode cJ9_abs_0f7a4 6 = .ok (.goto 4, 3) := by decide +kernel
theorem dJ9_abs_0f7a4_9 : decode cJ9_abs_0f7a4 9 = .ok (.iload_n 0, 1) := by decide +kernel
theorem dJ9_abs_0f7a4_10 : decode cJ9_abs_0f7a4 10 = .ok (.ireturn, 1) := by decide +kernel
theorem dJ9_max_7cf53_0 : decode cJ9_max_7cf53 0 = .ok (.iload_n 0, 1) := by decide +kernel
theorem dJ9_max_7cf53_1 : decode cJ9_max_7cf53 1 = .ok (.iload_n 1, 1) := by decide +kernel
theorem dJ9_max_7cf53_2 : decode cJ9_max_7cf53 2 = .ok (.if_icmp .lt 7, 3) := by decide +kernel
theorem dJ9_max_7cf53_5 : decode cJ9_max_7cf53 5 = .ok (.iload_n 0, 1) := by decide +kernel
theorem dJ9_max_7cf53_6 : decode cJ9_max_7cf53 6 = .ok (.goto 4, 3) := by decide +kernel
theorem dJ9_max_7cf53_9 : decode cJ9_max_7cf53 9 = .ok (.iload_n 1, 1) := by decide +kernel
theorem dJ9_max_7cf53_10 : decode cJ9_max_7cf53 10 = .ok (.ireturn, 1) := by decide +kernel
theorem dJ9_min_7cf53_0 : decode cJ9_min_7cf53 0 = .ok (.iload_n 0, 1) := by decide +kernel
theorem dJ9_min_7cf53_1 : decode cJ9_min_7cf53 1 = .ok (.iload_n 1, 1) := by decide +kernel
theorem dJ9_min_7cf53_2 : decode cJ9_min_7cf53 2 = .ok (.if_icmp .gt 7, 3) := by decide +kernel
theorem dJ9_min_7cf53_5 : decode cJ9_min_7cf53 5 = .ok (.iload_n 0, 1) := by decide +kernel
theorem dJ9_min_7cf53_6 : decode cJ9_min_7cf53 6 = .ok (.goto 4, 3) := by decide +kernel
theorem dJ9_min_7cf53_9 : decode cJ9_min_7cf53 9 = .ok (.iload_n 1, 1) := by decide +kernel
theorem dJ9_min_7cf53_10 : decode cJ9_min_7cf53 10 = .ok (.ireturn, 1) := by decide +kernel
theorem dJ0_length_8abf5_0 : decode cJ0_length_8abf5 0 = .ok (.aload_n 0, 1) := by decide +kernel
theorem dJ0_length_8abf5_1 : decode cJ0_length_8abf5 1 = .ok (.getfield 9, 3) := by decide +kernel
theorem dJ0_length_8abf5_4 : decode cJ0_length_8abf5 4 = .ok (.arraylength, 1) := by decide +kernel
theorem dJ0_length_8abf5_5 : decode cJ0_length_8abf5 5 = .ok (.aload_n 0, 1) := by decide +kernel
theorem dJ0_length_8abf5_6 : decode cJ0_length_8abf5 6 = .ok (.invokevirtual 335, 3) := by decide +kernel
theorem dJ0_length_8abf5_9 : decode cJ0_length_8abf5 9 = .ok (.ishr, 1) := by decide +kernel
theorem dJ0_length_8abf5_10 : decode cJ0_length_8abf5 10 = .ok (.ireturn, 1) := by decide +kernel
theorem dJ0_charAt_5068e_0 : decode cJ0_charAt_5068e 0 = .ok (.aload_n 0, 1) := by decide +kernel
theorem dJ0_charAt_5068e_1 : decode cJ0_charAt_5068e 1 = .ok (.invokevirtual 492, 3) := by decide +kernel
theorem dJ0_charAt_5068e_4 : decode cJ0_charAt_5068e 4 = .ok (.ifCond .eq 12, 3) := by decide +kernel
theorem dJ0_charAt_5068e_7 : decode cJ0_charAt_5068e 7 = .ok (.aload_n 0, 1) := by decide +kernel
theorem dJ0_charAt_5068e_8 : decode cJ0_charAt_5068e 8 = .ok (.getfield 9, 3) := by decide +kernel
theorem dJ0_charAt_5068e_11 : decode cJ0_charAt_5068e 11 = .ok (.iload_n 1, 1) := by decide +kernel
theorem dJ0_charAt_5068e_12 : decode cJ0_charAt_5068e 12 = .ok (.invokestatic 495, 3) := by decide +kernel
theorem dJ0_charAt_5068e_15 : decode cJ0_charAt_5068e 15 = .ok (.ireturn, 1) := by decide +kernel
theorem dJ0_charAt_5068e_16 : decode cJ0_charAt_5068e 16 = .ok (.aload_n 0, 1) := by decide +kernel
theorem dJ0_charAt_5068e_17 : decode cJ0_charAt_5068e 17 = .ok (.getfield 9, 3) := by decide +kernel
theorem dJ0_charAt_5068e_20 : decode cJ0_charAt_5068e 20 = .ok (.iload_n 1, 1) := by decide +kernel
theorem dJ0_charAt_5068e_21 : decode cJ0_charAt_5068e 21 = .ok (.invokestatic 498, 3) := by decide +kernel
theorem dJ0_charAt_5068e_24 : decode cJ0_charAt_5068e 24 = .ok (.ireturn, 1) := by decide +kernel
theorem dJ0_coder_7d493_0 : decode cJ0_coder_7d493 0 = .ok (.getstatic 38, 3) := by decide +kernel
theorem dJ0_coder_7d493_3 : decode cJ0_coder_7d493 3 = .ok (.ifCond .eq 10, 3) := by decide +kernel
theorem dJ0_coder_7d493_6 : decode cJ0_coder_7d493 6 = .ok (.aload_n 0, 1) := by decide +kernel
theorem dJ0_coder_7d493_7 : decode cJ0_coder_7d493 7 = .ok (.getfield 15, 3) := by decide +kernel
theorem dJ0_coder_7d493_10 : decode cJ0_coder_7d493 10 = .ok (.goto 4, 3) := by decide +kernel
theorem dJ0_coder_7d493_13 : decode cJ0_coder_7d493 13 = .ok (.iconst 1, 1) := by decide +kernel
theorem dJ0_coder_7d493_14 : decode cJ0_coder_7d493 14 = .ok (.ireturn, 1) := by decide +kernel
theorem dJ0_isLatin1_aae02_0 : decode cJ0_isLatin1_aae02 0 = .ok (.getstatic 38, 3) := by decide +kernel
theorem dJ0_isLatin1_aae02_3 : decode cJ0_isLatin1_aae02 3 = .ok (.ifCond .eq 14, 3) := by decide +kernel
theorem dJ0_isLatin1_aae02_6 : decode cJ0_isLatin1_aae02 6 = .ok (.aload_n 0, 1) := by decide +kernel
theorem dJ0_isLatin1_aae02_7 : decode cJ0_isLatin1_aae02 7 = .ok (.getfield 15, 3) := by decide +kernel
theorem dJ0_isLatin1_aae02_10 : decode cJ0_isLatin1_aae02 10 = .ok (.ifCond .ne 7, 3) := by decide +kernel
theorem dJ0_isLatin1_aae02_13 : decode cJ0_isLatin1_aae02 13 = .ok (.iconst 1, 1) := by decide +kernel
theorem dJ0_isLatin1_aae02_14 : decode cJ0_isLatin1_aae02 14 = .ok (.goto 4, 3) := by decide +kernel
theorem dJ0_isLatin1_aae02_17 : decode cJ0_isLatin1_aae02 17 = .ok (.iconst 0, 1) := by decide +kernel
theorem dJ0_isLatin1_aae02_18 : decode cJ0_isLatin1_aae02 18 = .ok (.ireturn, 1) := by decide +kernel
theorem dJ0_checkIndex_df160_0 : decode cJ0_checkIndex_df160 0 = .ok (.iload_n 0, 1) := by decide +kernel
theorem dJ0_checkIndex_df160_1 : decode cJ0_checkIndex_df160 1 = .ok (.iload_n 1, 1) := by decide +kernel
theorem dJ0_checkIndex_df160_2 : decode cJ0_checkIndex_df160 2 = .ok (.getstatic 1053, 3) := by decide +kernel
theorem dJ0_checkIndex_df160_5 : decode cJ0_checkIndex_df160 5 = .ok (.invokestatic 1059, 3) := by decide +kernel
theorem dJ0_checkIndex_df160_8 : decode cJ0_checkIndex_df160 8 = .ok (.pop, 1) := by decide +kernel
theorem dJ0_checkIndex_df160_9 : decode cJ0_checkIndex_df160 9 = .ok (.return_, 1) := by decide +kernel
theorem dJ1_charAt_3b067_0 : decode cJ1_charAt_3b067 0 = .ok (.iload_n 1, 1) := by decide +kernel
theorem dJ1_charAt_3b067_1 : decode cJ1_charAt_3b067 1 = .ok (.aload_n 0, 1) := by decide +kernel
theorem dJ1_charAt_3b067_2 : decode cJ1_charAt_3b067 2 = .ok (.arraylength, 1) := by decide +kernel
theorem dJ1_charAt_3b067_3 : decode cJ1_charAt_3b067 3 = .ok (.invokestatic 9, 3) := by decide +kernel
theorem dJ1_charAt_3b067_6 : decode cJ1_charAt_3b067 6 = .ok (.aload_n 0, 1) := by decide +kernel
theorem dJ1_charAt_3b067_7 : decode cJ1_charAt_3b067 7 = .ok (.iload_n 1, 1) := by decide +kernel
theorem dJ1_charAt_3b067_8 : decode cJ1_charAt_3b067 8 = .ok (.baload, 1) := by decide +kernel
theorem dJ1_charAt_3b067_9 : decode cJ1_charAt_3b067 9 = .ok (.sipush 255, 3) := by decide +kernel
theorem dJ1_charAt_3b067_12 : decode cJ1_charAt_3b067 12 = .ok (.iand, 1) := by decide +kernel
theorem dJ1_charAt_3b067_13 : decode cJ1_charAt_3b067 13 = .ok (.i2c, 1) := by decide +kernel
theorem dJ1_charAt_3b067_14 : decode cJ1_charAt_3b067 14 = .ok (.ireturn, 1) := by decide +kernel
theorem dJ2_getChar_3b067_0 : decode cJ2_getChar_3b067 0 = .ok (.getstatic 44, 3) := by decide +kernel
theorem dJ2_getChar_3b067_3 : decode cJ2_getChar_3b067 3 = .ok (.ifCond .ne 25, 3) := by decide +kernel
theorem dJ2_getChar_3b067_6 : decode cJ2_getChar_3b067 6 = .ok (.iload_n 1, 1) := by decide +kernel
theorem dJ2_getChar_3b067_7 : decode cJ2_getChar_3b067 7 = .ok (.ifCond .lt 11, 3) := by decide +kernel
theorem dJ2_getChar_3b067_10 : decode cJ2_getChar_3b067 10 = .ok (.iload_n 1, 1) := by decide +kernel
theorem dJ2_getChar_3b067_11 : decode cJ2_getChar_3b067 11 = .ok (.aload_n 0, 1) := by decide +kernel
theorem dJ2_getChar_3b067_12 : decode cJ2_getChar_3b067 12 = .ok (.invokestatic 48, 3) := by decide +kernel
theorem dJ2_getChar_3b067_15 : decode cJ2_getChar_3b067 15 = .ok (.if_icmp .lt 13, 3) := by decide +kernel
theorem dJ2_getChar_3b067_18 : decode cJ2_getChar_3b067 18 = .ok (.new 52, 3) := by decide +kernel
theorem dJ2_getChar_3b067_21 : decode cJ2_getChar_3b067 21 = .ok (.dup, 1) := by decide +kernel
theorem dJ2_getChar_3b067_22 : decode cJ2_getChar_3b067 22 = .ok (.ldc 54, 2) := by decide +kernel
theorem dJ2_getChar_3b067_24 : decode cJ2_getChar_3b067 24 = .ok (.invokespecial 56, 3) := by decide +kernel
theorem dJ2_getChar_3b067_27 : decode cJ2_getChar_3b067 27 = .ok (.athrow, 1) := by decide +kernel
theorem dJ2_getChar_3b067_28 : decode cJ2_getChar_3b067 28 = .ok (.iload_n 1, 1) := by decide +kernel
theorem dJ2_getChar_3b067_29 : decode cJ2_getChar_3b067 29 = .ok (.iconst 1, 1) := by decide +kernel
theorem dJ2_getChar_3b067_30 : decode cJ2_getChar_3b067 30 = .ok (.ishl, 1) := by decide +kernel
theorem dJ2_getChar_3b067_31 : decode cJ2_getChar_3b067 31 = .ok (.istore_n 1, 1) := by decide +kernel
theorem dJ2_getChar_3b067_32 : decode cJ2_getChar_3b067 32 = .ok (.aload_n 0, 1) := by decide +kernel
theorem dJ2_getChar_3b067_33 : decode cJ2_getChar_3b067 33 = .ok (.iload_n 1, 1) := by decide +kernel
theorem dJ2_getChar_3b067_34 : decode cJ2_getChar_3b067 34 = .ok (.iinc 1 1, 3) := by decide +kernel
theorem dJ2_getChar_3b067_37 : decode cJ2_getChar_3b067 37 = .ok (.baload, 1) := by decide +kernel
theorem dJ2_getChar_3b067_38 : decode cJ2_getChar_3b067 38 = .ok (.sipush 255, 3) := by decide +kernel
theorem dJ2_getChar_3b067_41 : decode cJ2_getChar_3b067 41 = .ok (.iand, 1) := by decide +kernel
theorem dJ2_getChar_3b067_42 : decode cJ2_getChar_3b067 42 = .ok (.getstatic 59, 3) := by decide +kernel
theorem dJ2_getChar_3b067_45 : decode cJ2_getChar_3b067 45 = .ok (.ishl, 1) := by decide +kernel
theorem dJ2_getChar_3b067_46 : decode cJ2_getChar_3b067 46 = .ok (.aload_n 0, 1) := by decide +kernel
theorem dJ2_getChar_3b067_47 : decode cJ2_getChar_3b067 47 = .ok (.iload_n 1, 1) := by decide +kernel
theorem dJ2_getChar_3b067_48 : decode cJ2_getChar_3b067 48 = .ok (.baload, 1) := by decide +kernel
theorem dJ2_getChar_3b067_49 : decode cJ2_getChar_3b067 49 = .ok (.sipush 255, 3) := by decide +kernel
theorem dJ2_getChar_3b067_52 : decode cJ2_getChar_3b067 52 = .ok (.iand, 1) := by decide +kernel
theorem dJ2_getChar_3b067_53 : decode cJ2_getChar_3b067 53 = .ok (.getstatic 63, 3) := by decide +kernel
theorem dJ2_getChar_3b067_56 : decode cJ2_getChar_3b067 56 = .ok (.ishl, 1) := by decide +kernel
theorem dJ2_getChar_3b067_57 : decode cJ2_getChar_3b067 57 = .ok (.ior, 1) := by decide +kernel
theorem dJ2_getChar_3b067_58 : decode cJ2_getChar_3b067 58 = .ok (.i2c, 1) := by decide +kernel
theorem dJ2_getChar_3b067_59 : decode cJ2_getChar_3b067 59 = .ok (.ireturn, 1) := by decide +kernel
theorem dJ2_length_9d52b_0 : decode cJ2_length_9d52b 0 = .ok (.aload_n 0, 1) := by decide +kernel
theorem dJ2_length_9d52b_1 : decode cJ2_length_9d52b 1 = .ok (.arraylength, 1) := by decide +kernel
theorem dJ2_length_9d52b_2 : decode cJ2_length_9d52b 2 = .ok (.iconst 1, 1) := by decide +kernel
theorem dJ2_length_9d52b_3 : decode cJ2_length_9d52b 3 = .ok (.ishr, 1) := by decide +kernel
theorem dJ2_length_9d52b_4 : decode cJ2_length_9d52b 4 = .ok (.ireturn, 1) := by decide +kernel
theorem dJ2_charAt_3b067_0 : decode cJ2_charAt_3b067 0 = .ok (.iload_n 1, 1) := by decide +kernel
theorem dJ2_charAt_3b067_1 : decode cJ2_charAt_3b067 1 = .ok (.aload_n 0, 1) := by decide +kernel
theorem dJ2_charAt_3b067_2 : decode cJ2_charAt_3b067 2 = .ok (.invokestatic 67, 3) := by decide +kernel
theorem dJ2_charAt_3b067_5 : decode cJ2_charAt_3b067 5 = .ok (.aload_n 0, 1) := by decide +kernel
theorem dJ2_charAt_3b067_6 : decode cJ2_charAt_3b067 6 = .ok (.iload_n 1, 1) := by decide +kernel
theorem dJ2_charAt_3b067_7 : decode cJ2_charAt_3b067 7 = .ok (.invokestatic 71, 3) := by decide +kernel
theorem dJ2_charAt_3b067_10 : decode cJ2_charAt_3b067 10 = .ok (.ireturn, 1) := by decide +kernel
theorem dJ2_checkIndex_2214a_0 : decode cJ2_checkIndex_2214a 0 = .ok (.iload_n 0, 1) := by decide +kernel
theorem dJ2_checkIndex_2214a_1 : decode cJ2_checkIndex_2214a 1 = .ok (.aload_n 1, 1) := by decide +kernel
theorem dJ2_checkIndex_2214a_2 : decode cJ2_checkIndex_2214a 2 = .ok (.invokestatic 48, 3) := by decide +kernel
theorem dJ2_checkIndex_2214a_5 : decode cJ2_checkIndex_2214a 5 = .ok (.invokestatic 414, 3) := by decide +kernel
theorem dJ2_checkIndex_2214a_8 : decode cJ2_checkIndex_2214a 8 = .ok (.return_, 1) := by decide +kernel
theorem dJ3_checkIndex_8e157_0 : decode cJ3_checkIndex_8e157 0 = .ok (.iload_n 0, 1) := by decide +kernel
theorem dJ3_checkIndex_8e157_1 : decode cJ3_checkIndex_8e157 1 = .ok (.ifCond .lt 8, 3) := by decide +kernel
theorem dJ3_checkIndex_8e157_4 : decode cJ3_checkIndex_8e157 4 = .ok (.iload_n 0, 1) := by decide +kernel
theorem dJ3_checkIndex_8e157_5 : decode cJ3_checkIndex_8e157 5 = .ok (.iload_n 1, 1) := by decide +kernel
theorem dJ3_checkIndex_8e157_6 : decode cJ3_checkIndex_8e157 6 = .ok (.if_icmp .lt 10, 3) := by decide +kernel
theorem dJ3_checkIndex_8e157_9 : decode cJ3_checkIndex_8e157 9 = .ok (.aload_n 2, 1) := by decide +kernel
theorem dJ3_checkIndex_8e157_10 : decode cJ3_checkIndex_8e157 10 = .ok (.iload_n 0, 1) := by decide +kernel
theorem dJ3_checkIndex_8e157_11 : decode cJ3_checkIndex_8e157 11 = .ok (.iload_n 1, 1) := by decide +kernel
theorem dJ3_checkIndex_8e157_12 : decode cJ3_checkIndex_8e157 12 = .ok (.invokestatic 95, 3) := by decide +kernel
theorem dJ3_checkIndex_8e157_15 : decode cJ3_checkIndex_8e157 15 = .ok (.athrow, 1) := by decide +kernel
theorem dJ3_checkIndex_8e157_16 : decode cJ3_checkIndex_8e157 16 = .ok (.iload_n 0, 1) := by decide +kernel
theorem dJ3_checkIndex_8e157_17 : decode cJ3_checkIndex_8e157 17 = .ok (.ireturn, 1) := by decide +kernel
