theorem dX0_init_0 : decode cX0_init 0 = .ok (.aload_n 0, 1) := by decide +kernel
theorem dX0_init_1 : decode cX0_init 1 = .ok (.invokespecial 3, 3) := by decide +kernel
theorem dX0_init_4 : decode cX0_init 4 = .ok (.aload_n 0, 1) := by decide +kernel
theorem dX0_init_5 : decode cX0_init 5 = .ok (.bipush 36, 2) := by decide +kernel
theorem dX0_init_7 : decode cX0_init 7 = .ok (.newarray .int, 2) := by decide +kernel
theorem dX0_init_9 : decode cX0_init 9 = .ok (.putfield 9, 3) := by decide +kernel
theorem dX0_init_12 : decode cX0_init 12 = .ok (.iconst 0, 1) := by decide +kernel
theorem dX0_init_13 : decode cX0_init 13 = .ok (.istore_n 1, 1) := by decide +kernel
theorem dX0_init_14 : decode cX0_init 14 = .ok (.iload_n 1, 1) := by decide +kernel
theorem dX0_init_15 : decode cX0_init 15 = .ok (.bipush 36, 2) := by decide +kernel
theorem dX0_init_17 : decode cX0_init 17 = .ok (.if_icmp .ge 16, 3) := by decide +kernel
theorem dX0_init_20 : decode cX0_init 20 = .ok (.aload_n 0, 1) := by decide +kernel
theorem dX0_init_21 : decode cX0_init 21 = .ok (.getfield 9, 3) := by decide +kernel
theorem dX0_init_24 : decode cX0_init 24 = .ok (.iload_n 1, 1) := by decide +kernel
theorem dX0_init_25 : decode cX0_init 25 = .ok (.iconst 1, 1) := by decide +kernel
theorem dX0_init_26 : decode cX0_init 26 = .ok (.iastore, 1) := by decide +kernel
theorem dX0_init_27 : decode cX0_init 27 = .ok (.iinc 1 1, 3) := by decide +kernel
theorem dX0_init_30 : decode cX0_init 30 = .ok (.goto (-16), 3) := by decide +kernel
theorem dX0_init_33 : decode cX0_init 33 = .ok (.return_, 1) := by decide +kernel
theorem dX0_setHouses_0 : decode cX0_setHouses 0 = .ok (.iload_n 1, 1) := by decide +kernel
theorem dX0_setHouses_1 : decode cX0_setHouses 1 = .ok (.iconst 0, 1) := by decide +kernel
theorem dX0_setHouses_2 : decode cX0_setHouses 2 = .ok (.bipush 35, 2) := by decide +kernel
theorem dX0_setHouses_4 : decode cX0_setHouses 4 = .ok (.invokestatic 15, 3) := by decide +kernel
theorem dX0_setHouses_7 : decode cX0_setHouses 7 = .ok (.ifCond .eq 13, 3) := by decide +kernel
theorem dX0_setHouses_10 : decode cX0_setHouses 10 = .ok (.iload_n 2, 1) := by decide +kernel
theorem dX0_setHouses_11 : decode cX0_setHouses 11 = .ok (.iconst 0, 1) := by decide +kernel
theorem dX0_setHouses_12 : decode cX0_setHouses 12 = .ok (.bipush 8, 2) := by decide +kernel
theorem dX0_setHouses_14 : decode cX0_setHouses 14 = .ok (.invokestatic 15, 3) := by decide +kernel
theorem dX0_setHouses_17 : decode cX0_setHouses 17 = .ok (.ifCond .ne 5, 3) := by decide +kernel
theorem dX0_setHouses_20 : decode cX0_setHouses 20 = .ok (.iconst 0, 1) := by decide +kernel
theorem dX0_setHouses_21 : decode cX0_setHouses 21 = .ok (.ireturn, 1) := by decide +kernel
theorem dX0_setHouses_22 : decode cX0_setHouses 22 = .ok (.aload_n 0, 1) := by decide +kernel
theorem dX0_setHouses_23 : decode cX0_setHouses 23 = .ok (.getfield 9, 3) := by decide +kernel
theorem dX0_setHouses_26 : decode cX0_setHouses 26 = .ok (.iload_n 1, 1) := by decide +kernel
theorem dX0_setHouses_27 : decode cX0_setHouses 27 = .ok (.iload_n 2, 1) := by decide +kernel
theorem dX0_setHouses_28 : decode cX0_setHouses 28 = .ok (.iastore, 1) := by decide +kernel
theorem dX0_setHouses_29 : decode cX0_setHouses 29 = .ok (.iconst 1, 1) := by decide +kernel
theorem dX0_setHouses_30 : decode cX0_setHouses 30 = .ok (.ireturn, 1) := by decide +kernel
theorem dX0_plan_0 : decode cX0_plan 0 = .ok (.aload_n 1, 1) := by decide +kernel
theorem dX0_plan_1 : decode cX0_plan 1 = .ok (.aload_n 2, 1) := by decide +kernel
theorem dX0_plan_2 : decode cX0_plan 2 = .ok (.invokevirtual 19, 3) := by decide +kernel
theorem dX0_plan_5 : decode cX0_plan 5 = .ok (.iload_n 3, 1) := by decide +kernel
theorem dX0_plan_6 : decode cX0_plan 6 = .ok (.iconst 0, 1) := by decide +kernel
theorem dX0_plan_7 : decode cX0_plan 7 = .ok (.invokestatic 25, 3) := by decide +kernel
theorem dX0_plan_10 : decode cX0_plan 10 = .ok (.istore 4, 2) := by decide +kernel
theorem dX0_plan_12 : decode cX0_plan 12 = .ok (.iload 4, 2) := by decide +kernel
theorem dX0_plan_14 : decode cX0_plan 14 = .ok (.bipush 36, 2) := by decide +kernel
theorem dX0_plan_16 : decode cX0_plan 16 = .ok (.if_icmp .ge 51, 3) := by decide +kernel
theorem dX0_plan_19 : decode cX0_plan 19 = .ok (.iconst 0, 1) := by decide +kernel
theorem dX0_plan_20 : decode cX0_plan 20 = .ok (.istore 5, 2) := by decide +kernel
theorem dX0_plan_22 : decode cX0_plan 22 = .ok (.iload 5, 2) := by decide +kernel
theorem dX0_plan_24 : decode cX0_plan 24 = .ok (.aload_n 0, 1) := by decide +kernel
theorem dX0_plan_25 : decode cX0_plan 25 = .ok (.getfield 9, 3) := by decide +kernel
theorem dX0_plan_28 : decode cX0_plan 28 = .ok (.iload 4, 2) := by decide +kernel
theorem dX0_plan_30 : decode cX0_plan 30 = .ok (.iaload, 1) := by decide +kernel
theorem dX0_plan_31 : decode cX0_plan 31 = .ok (.if_icmp .ge 30, 3) := by decide +kernel
theorem dX0_plan_34 : decode cX0_plan 34 = .ok (.aload_n 1, 1) := by decide +kernel
theorem dX0_plan_35 : decode cX0_plan 35 = .ok (.invokevirtual 31, 3) := by decide +kernel
theorem dX0_plan_38 : decode cX0_plan 38 = .ok (.istore 6, 2) := by decide +kernel
theorem dX0_plan_40 : decode cX0_plan 40 = .ok (.iload 6, 2) := by decide +kernel
theorem dX0_plan_42 : decode cX0_plan 42 = .ok (.iconst (-1), 1) := by decide +kernel
theorem dX0_plan_43 : decode cX0_plan 43 = .ok (.if_icmp .ne 4, 3) := by decide +kernel
theorem dX0_plan_46 : decode cX0_plan 46 = .ok (.return_, 1) := by decide +kernel
theorem dX0_plan_47 : decode cX0_plan 47 = .ok (.aload_n 1, 1) := by decide +kernel
theorem dX0_plan_48 : decode cX0_plan 48 = .ok (.iload 6, 2) := by decide +kernel
theorem dX0_plan_50 : decode cX0_plan 50 = .ok (.iload 4, 2) := by decide +kernel
theorem dX0_plan_52 : decode cX0_plan 52 = .ok (.invokevirtual 35, 3) := by decide +kernel
theorem dX0_plan_55 : decode cX0_plan 55 = .ok (.iinc 5 1, 3) := by decide +kernel
theorem dX0_plan_58 : decode cX0_plan 58 = .ok (.goto (-36), 3) := by decide +kernel
theorem dX0_plan_61 : decode cX0_plan 61 = .ok (.iinc 4 1, 3) := by decide +kernel
theorem dX0_plan_64 : decode cX0_plan 64 = .ok (.goto (-52), 3) := by decide +kernel
theorem dX0_plan_67 : decode cX0_plan 67 = .ok (.return_, 1) := by decide +kernel
theorem dX1_isNumber_0 : decode cX1_isNumber 0 = .ok (.iload_n 0, 1) := by decide +kernel
theorem dX1_isNumber_1 : decode cX1_isNumber 1 = .ok (.ifCond .lt 7, 3) := by decide +kernel
theorem dX1_isNumber_4 : decode cX1_isNumber 4 = .ok (.iconst 1, 1) := by decide +kernel
theorem dX1_isNumber_5 : decode cX1_isNumber 5 = .ok (.goto 4, 3) := by decide +kernel
theorem dX1_isNumber_8 : decode cX1_isNumber 8 = .ok (.iconst 0, 1) := by decide +kernel
theorem dX1_isNumber_9 : decode cX1_isNumber 9 = .ok (.ireturn, 1) := by decide +kernel
theorem dX1_isFact_0 : decode cX1_isFact 0 = .ok (.iload_n 0, 1) := by decide +kernel
theorem dX1_isFact_1 : decode cX1_isFact 1 = .ok (.bipush (-4), 2) := by decide +kernel
theorem dX1_isFact_3 : decode cX1_isFact 3 = .ok (.iconst (-1), 1) := by decide +kernel
theorem dX1_isFact_4 : decode cX1_isFact 4 = .ok (.invokestatic 9, 3) := by decide +kernel
theorem dX1_isFact_7 : decode cX1_isFact 7 = .ok (.ireturn, 1) := by decide +kernel
theorem dX1_isComparison_0 : decode cX1_isComparison 0 = .ok (.iload_n 0, 1) := by decide +kernel
theorem dX1_isComparison_1 : decode cX1_isComparison 1 = .ok (.bipush (-11), 2) := by decide +kernel
theorem dX1_isComparison_3 : decode cX1_isComparison 3 = .ok (.bipush (-9), 2) := by decide +kernel
theorem dX1_isComparison_5 : decode cX1_isComparison 5 = .ok (.invokestatic 9, 3) := by decide +kernel
theorem dX1_isComparison_8 : decode cX1_isComparison 8 = .ok (.ireturn, 1) := by decide +kernel
theorem dX1_strength_0 : decode cX1_strength 0 = .ok (.iload_n 0, 1) := by decide +kernel
theorem dX1_strength_1 : decode cX1_strength 1 = .ok (.tableswitch 35 (-8) (-5) #[33, 33, 31, 31], 31) := by decide +kernel
theorem dX1_strength_32 : decode cX1_strength 32 = .ok (.iconst 1, 1) := by decide +kernel
theorem dX1_strength_33 : decode cX1_strength 33 = .ok (.ireturn, 1) := by decide +kernel
theorem dX1_strength_34 : decode cX1_strength 34 = .ok (.iconst 2, 1) := by decide +kernel
theorem dX1_strength_35 : decode cX1_strength 35 = .ok (.ireturn, 1) := by decide +kernel
theorem dX1_strength_36 : decode cX1_strength 36 = .ok (.iconst 0, 1) := by decide +kernel
theorem dX1_strength_37 : decode cX1_strength 37 = .ok (.ireturn, 1) := by decide +kernel
theorem dX1_ofSign_0 : decode cX1_ofSign 0 = .ok (.iload_n 0, 1) := by decide +kernel
theorem dX1_ofSign_1 : decode cX1_ofSign 1 = .ok (.tableswitch 137 40 62 #[122, 125, 116, 110, 137, 113, 137, 119, 137, 137, 137, 137, 137, 137, 137, 137, 137, 137, 137, 107, 128, 131, 134], 107) := by decide +kernel
theorem dX1_ofSign_108 : decode cX1_ofSign 108 = .ok (.bipush (-15), 2) := by decide +kernel
theorem dX1_ofSign_110 : decode cX1_ofSign 110 = .ok (.ireturn, 1) := by decide +kernel
theorem dX1_ofSign_111 : decode cX1_ofSign 111 = .ok (.bipush (-5), 2) := by decide +kernel
theorem dX1_ofSign_113 : decode cX1_ofSign 113 = .ok (.ireturn, 1) := by decide +kernel
theorem dX1_ofSign_114 : decode cX1_ofSign 114 = .ok (.bipush (-6), 2) := by decide +kernel
theorem dX1_ofSign_116 : decode cX1_ofSign 116 = .ok (.ireturn, 1) := by decide +kernel
theorem dX1_ofSign_117 : decode cX1_ofSign 117 = .ok (.bipush (-7), 2) := by decide +kernel
theorem dX1_ofSign_119 : decode cX1_ofSign 119 = .ok (.ireturn, 1) := by decide +kernel
theorem dX1_ofSign_120 : decode cX1_ofSign 120 = .ok (.bipush (-8), 2) := by decide +kernel
theorem dX1_ofSign_122 : decode cX1_ofSign 122 = .ok (.ireturn, 1) := by decide +kernel
theorem dX1_ofSign_123 : decode cX1_ofSign 123 = .ok (.bipush (-16), 2) := by decide +kernel
theorem dX1_ofSign_125 : decode cX1_ofSign 125 = .ok (.ireturn, 1) := by decide +kernel
theorem dX1_ofSign_126 : decode cX1_ofSign 126 = .ok (.bipush (-17), 2) := by decide +kernel
theorem dX1_ofSign_128 : decode cX1_ofSign 128 = .ok (.ireturn, 1) := by decide +kernel
theorem dX1_ofSign_129 : decode cX1_ofSign 129 = .ok (.bipush (-9), 2) := by decide +kernel
theorem dX1_ofSign_131 : decode cX1_ofSign 131 = .ok (.ireturn, 1) := by decide +kernel
theorem dX1_ofSign_132 : decode cX1_ofSign 132 = .ok (.bipush (-10), 2) := by decide +kernel
theorem dX1_ofSign_134 : decode cX1_ofSign 134 = .ok (.ireturn, 1) := by decide +kernel
theorem dX1_ofSign_135 : decode cX1_ofSign 135 = .ok (.bipush (-11), 2) := by decide +kernel
theorem dX1_ofSign_137 : decode cX1_ofSign 137 = .ok (.ireturn, 1) := by decide +kernel
theorem dX1_ofSign_138 : decode cX1_ofSign 138 = .ok (.bipush (-18), 2) := by decide +kernel
theorem dX1_ofSign_140 : decode cX1_ofSign 140 = .ok (.ireturn, 1) := by decide +kernel
theorem dX1_ofWord_0 : decode cX1_ofWord 0 = .ok (.aload_n 0, 1) := by decide +kernel
theorem dX1_ofWord_1 : decode cX1_ofWord 1 = .ok (.ldc 15, 2) := by decide +kernel
theorem dX1_ofWord_3 : decode cX1_ofWord 3 = .ok (.iload_n 1, 1) := by decide +kernel
theorem dX1_ofWord_4 : decode cX1_ofWord 4 = .ok (.iload_n 2, 1) := by decide +kernel
theorem dX1_ofWord_5 : decode cX1_ofWord 5 = .ok (.invokevirtual 17, 3) := by decide +kernel
theorem dX1_ofWord_8 : decode cX1_ofWord 8 = .ok (.ifCond .eq 6, 3) := by decide +kernel
theorem dX1_ofWord_11 : decode cX1_ofWord 11 = .ok (.bipush (-13), 2) := by decide +kernel
theorem dX1_ofWord_13 : decode cX1_ofWord 13 = .ok (.ireturn, 1) := by decide +kernel
theorem dX1_ofWord_14 : decode cX1_ofWord 14 = .ok (.aload_n 0, 1) := by decide +kernel
theorem dX1_ofWord_15 : decode cX1_ofWord 15 = .ok (.ldc 23, 2) := by decide +kernel
theorem dX1_ofWord_17 : decode cX1_ofWord 17 = .ok (.iload_n 1, 1) := by decide +kernel
theorem dX1_ofWord_18 : decode cX1_ofWord 18 = .ok (.iload_n 2, 1) := by decide +kernel
theorem dX1_ofWord_19 : decode cX1_ofWord 19 = .ok (.invokevirtual 17, 3) := by decide +kernel
theorem dX1_ofWord_22 : decode cX1_ofWord 22 = .ok (.ifCond .eq 6, 3) := by decide +kernel
theorem dX1_ofWord_25 : decode cX1_ofWord 25 = .ok (.bipush (-14), 2) := by decide +kernel
theorem dX1_ofWord_27 : decode cX1_ofWord 27 = .ok (.ireturn, 1) := by decide +kernel
theorem dX1_ofWord_28 : decode cX1_ofWord 28 = .ok (.aload_n 0, 1) := by decide +kernel
theorem dX1_ofWord_29 : decode cX1_ofWord 29 = .ok (.ldc 25, 2) := by decide +kernel
theorem dX1_ofWord_31 : decode cX1_ofWord 31 = .ok (.iload_n 1, 1) := by decide +kernel
theorem dX1_ofWord_32 : decode cX1_ofWord 32 = .ok (.iload_n 2, 1) := by decide +kernel
theorem dX1_ofWord_33 : decode cX1_ofWord 33 = .ok (.invokevirtual 17, 3) := by decide +kernel
theorem dX1_ofWord_36 : decode cX1_ofWord 36 = .ok (.ifCond .eq 6, 3) := by decide +kernel
theorem dX1_ofWord_39 : decode cX1_ofWord 39 = .ok (.bipush (-12), 2) := by decide +kernel
theorem dX1_ofWord_41 : decode cX1_ofWord 41 = .ok (.ireturn, 1) := by decide +kernel
theorem dX1_ofWord_42 : decode cX1_ofWord 42 = .ok (.aload_n 0, 1) := by decide +kernel
theorem dX1_ofWord_43 : decode cX1_ofWord 43 = .ok (.ldc 27, 2) := by decide +kernel
theorem dX1_ofWord_45 : decode cX1_ofWord 45 = .ok (.iload_n 1, 1) := by decide +kernel
theorem dX1_ofWord_46 : decode cX1_ofWord 46 = .ok (.iload_n 2, 1) := by decide +kernel
theorem dX1_ofWord_47 : decode cX1_ofWord 47 = .ok (.invokevirtual 17, 3) := by decide +kernel
theorem dX1_ofWord_50 : decode cX1_ofWord 50 = .ok (.ifCond .eq 5, 3) := by decide +kernel
theorem dX1_ofWord_53 : decode cX1_ofWord 53 = .ok (.iconst (-1), 1) := by decide +kernel
theorem dX1_ofWord_54 : decode cX1_ofWord 54 = .ok (.ireturn, 1) := by decide +kernel
theorem dX1_ofWord_55 : decode cX1_ofWord 55 = .ok (.aload_n 0, 1) := by decide +kernel
theorem dX1_ofWord_56 : decode cX1_ofWord 56 = .ok (.ldc 29, 2) := by decide +kernel
theorem dX1_ofWord_58 : decode cX1_ofWord 58 = .ok (.iload_n 1, 1) := by decide +kernel
theorem dX1_ofWord_59 : decode cX1_ofWord 59 = .ok (.iload_n 2, 1) := by decide +kernel
theorem dX1_ofWord_60 : decode cX1_ofWord 60 = .ok (.invokevirtual 17, 3) := by decide +kernel
theorem dX1_ofWord_63 : decode cX1_ofWord 63 = .ok (.ifCond .eq 6, 3) := by decide +kernel
theorem dX1_ofWord_66 : decode cX1_ofWord 66 = .ok (.bipush (-2), 2) := by decide +kernel
theorem dX1_ofWord_68 : decode cX1_ofWord 68 = .ok (.ireturn, 1) := by decide +kernel
theorem dX1_ofWord_69 : decode cX1_ofWord 69 = .ok (.aload_n 0, 1) := by decide +kernel
theorem dX1_ofWord_70 : decode cX1_ofWord 70 = .ok (.ldc 31, 2) := by decide +kernel
theorem dX1_ofWord_72 : decode cX1_ofWord 72 = .ok (.iload_n 1, 1) := by decide +kernel
theorem dX1_ofWord_73 : decode cX1_ofWord 73 = .ok (.iload_n 2, 1) := by decide +kernel
theorem dX1_ofWord_74 : decode cX1_ofWord 74 = .ok (.invokevirtual 17, 3) := by decide +kernel
theorem dX1_ofWord_77 : decode cX1_ofWord 77 = .ok (.ifCond .eq 6, 3) := by decide +kernel
theorem dX1_ofWord_80 : decode cX1_ofWord 80 = .ok (.bipush (-3), 2) := by decide +kernel
theorem dX1_ofWord_82 : decode cX1_ofWord 82 = .ok (.ireturn, 1) := by decide +kernel
theorem dX1_ofWord_83 : decode cX1_ofWord 83 = .ok (.aload_n 0, 1) := by decide +kernel
theorem dX1_ofWord_84 : decode cX1_ofWord 84 = .ok (.ldc 33, 2) := by decide +kernel
theorem dX1_ofWord_86 : decode cX1_ofWord 86 = .ok (.iload_n 1, 1) := by decide +kernel
theorem dX1_ofWord_87 : decode cX1_ofWord 87 = .ok (.iload_n 2, 1) := by decide +kernel
theorem dX1_ofWord_88 : decode cX1_ofWord 88 = .ok (.invokevirtual 17, 3) := by decide +kernel
theorem dX1_ofWord_91 : decode cX1_ofWord 91 = .ok (.ifCond .eq 8, 3) := by decide +kernel
theorem dX1_ofWord_94 : decode cX1_ofWord 94 = .ok (.bipush (-4), 2) := by decide +kernel
theorem dX1_ofWord_96 : decode cX1_ofWord 96 = .ok (.goto 5, 3) := by decide +kernel
theorem dX1_ofWord_99 : decode cX1_ofWord 99 = .ok (.bipush (-18), 2) := by decide +kernel
theorem dX1_ofWord_101 : decode cX1_ofWord 101 = .ok (.ireturn, 1) := by decide +kernel
theorem dX2_init_0 : decode cX2_init 0 = .ok (.aload_n 0, 1) := by decide +kernel
theorem dX2_init_1 : decode cX2_init 1 = .ok (.invokespecial 3, 3) := by decide +kernel
theorem dX2_init_4 : decode cX2_init 4 = .ok (.aload_n 0, 1) := by decide +kernel
theorem dX2_init_5 : decode cX2_init 5 = .ok (.iconst 0, 1) := by decide +kernel
theorem dX2_init_6 : decode cX2_init 6 = .ok (.putfield 9, 3) := by decide +kernel
theorem dX2_init_9 : decode cX2_init 9 = .ok (.aload_n 0, 1) := by decide +kernel
theorem dX2_init_10 : decode cX2_init 10 = .ok (.bipush 10, 2) := by decide +kernel
theorem dX2_init_12 : decode cX2_init 12 = .ok (.newarray .int, 2) := by decide +kernel
theorem dX2_init_14 : decode cX2_init 14 = .ok (.putfield 15, 3) := by decide +kernel
theorem dX2_init_17 : decode cX2_init 17 = .ok (.return_, 1) := by decide +kernel
theorem dX2_isFull_0 : decode cX2_isFull 0 = .ok (.aload_n 0, 1) := by decide +kernel
theorem dX2_isFull_1 : decode cX2_isFull 1 = .ok (.getfield 9, 3) := by decide +kernel
theorem dX2_isFull_4 : decode cX2_isFull 4 = .ok (.bipush 10, 2) := by decide +kernel
theorem dX2_isFull_6 : decode cX2_isFull 6 = .ok (.if_icmp .lt 7, 3) := by decide +kernel
theorem dX2_isFull_9 : decode cX2_isFull 9 = .ok (.iconst 1, 1) := by decide +kernel
theorem dX2_isFull_10 : decode cX2_isFull 10 = .ok (.goto 4, 3) := by decide +kernel
theorem dX2_isFull_13 : decode cX2_isFull 13 = .ok (.iconst 0, 1) := by decide +kernel
theorem dX2_isFull_14 : decode cX2_isFull 14 = .ok (.ireturn, 1) := by decide +kernel
theorem dX2_add_0 : decode cX2_add 0 = .ok (.aload_n 0, 1) := by decide +kernel
theorem dX2_add_1 : decode cX2_add 1 = .ok (.invokevirtual 19, 3) := by decide +kernel
theorem dX2_add_4 : decode cX2_add 4 = .ok (.ifCond .eq 5, 3) := by decide +kernel
theorem dX2_add_7 : decode cX2_add 7 = .ok (.iconst (-1), 1) := by decide +kernel
theorem dX2_add_8 : decode cX2_add 8 = .ok (.ireturn, 1) := by decide +kernel
theorem dX2_add_9 : decode cX2_add 9 = .ok (.aload_n 0, 1) := by decide +kernel
theorem dX2_add_10 : decode cX2_add 10 = .ok (.getfield 15, 3) := by decide +kernel
theorem dX2_add_13 : decode cX2_add 13 = .ok (.aload_n 0, 1) := by decide +kernel
theorem dX2_add_14 : decode cX2_add 14 = .ok (.getfield 9, 3) := by decide +kernel
theorem dX2_add_17 : decode cX2_add 17 = .ok (.iload_n 1, 1) := by decide +kernel
theorem dX2_add_18 : decode cX2_add 18 = .ok (.iastore, 1) := by decide +kernel
theorem dX2_add_19 : decode cX2_add 19 = .ok (.aload_n 0, 1) := by decide +kernel
theorem dX2_add_20 : decode cX2_add 20 = .ok (.dup, 1) := by decide +kernel
theorem dX2_add_21 : decode cX2_add 21 = .ok (.getfield 9, 3) := by decide +kernel
theorem dX2_add_24 : decode cX2_add 24 = .ok (.iconst 1, 1) := by decide +kernel
theorem dX2_add_25 : decode cX2_add 25 = .ok (.iadd, 1) := by decide +kernel
theorem dX2_add_26 : decode cX2_add 26 = .ok (.putfield 9, 3) := by decide +kernel
theorem dX2_add_29 : decode cX2_add 29 = .ok (.aload_n 0, 1) := by decide +kernel
theorem dX2_add_30 : decode cX2_add 30 = .ok (.getfield 9, 3) := by decide +kernel
theorem dX2_add_33 : decode cX2_add 33 = .ok (.iconst 1, 1) := by decide +kernel
theorem dX2_add_34 : decode cX2_add 34 = .ok (.isub, 1) := by decide +kernel
theorem dX2_add_35 : decode cX2_add 35 = .ok (.ireturn, 1) := by decide +kernel
theorem dX3_init_0 : decode cX3_init 0 = .ok (.aload_n 0, 1) := by decide +kernel
theorem dX3_init_1 : decode cX3_init 1 = .ok (.invokespecial 3, 3) := by decide +kernel
theorem dX3_init_4 : decode cX3_init 4 = .ok (.aload_n 0, 1) := by decide +kernel
theorem dX3_init_5 : decode cX3_init 5 = .ok (.bipush 36, 2) := by decide +kernel
theorem dX3_init_7 : decode cX3_init 7 = .ok (.newarray .int, 2) := by decide +kernel
theorem dX3_init_9 : decode cX3_init 9 = .ok (.putfield 9, 3) := by decide +kernel
theorem dX3_init_12 : decode cX3_init 12 = .ok (.aload_n 0, 1) := by decide +kernel
theorem dX3_init_13 : decode cX3_init 13 = .ok (.iconst 4, 1) := by decide +kernel
theorem dX3_init_14 : decode cX3_init 14 = .ok (.newarray .int, 2) := by decide +kernel
theorem dX3_init_16 : decode cX3_init 16 = .ok (.putfield 15, 3) := by decide +kernel
theorem dX3_init_19 : decode cX3_init 19 = .ok (.iconst 0, 1) := by decide +kernel
theorem dX3_init_20 : decode cX3_init 20 = .ok (.istore_n 1, 1) := by decide +kernel
theorem dX3_init_21 : decode cX3_init 21 = .ok (.iload_n 1, 1) := by decide +kernel
theorem dX3_init_22 : decode cX3_init 22 = .ok (.iconst 4, 1) := by decide +kernel
theorem dX3_init_23 : decode cX3_init 23 = .ok (.if_icmp .ge 17, 3) := by decide +kernel
theorem dX3_init_26 : decode cX3_init 26 = .ok (.aload_n 0, 1) := by decide +kernel
theorem dX3_init_27 : decode cX3_init 27 = .ok (.getfield 15, 3) := by decide +kernel
theorem dX3_init_30 : decode cX3_init 30 = .ok (.iload_n 1, 1) := by decide +kernel
theorem dX3_init_31 : decode cX3_init 31 = .ok (.bipush 50, 2) := by decide +kernel
theorem dX3_init_33 : decode cX3_init 33 = .ok (.iastore, 1) := by decide +kernel
theorem dX3_init_34 : decode cX3_init 34 = .ok (.iinc 1 1, 3) := by decide +kernel
theorem dX3_init_37 : decode cX3_init 37 = .ok (.goto (-16), 3) := by decide +kernel
theorem dX3_init_40 : decode cX3_init 40 = .ok (.return_, 1) := by decide +kernel
theorem dX3_setLevel_0 : decode cX3_setLevel 0 = .ok (.iload_n 1, 1) := by decide +kernel
theorem dX3_setLevel_1 : decode cX3_setLevel 1 = .ok (.iconst 0, 1) := by decide +kernel
theorem dX3_setLevel_2 : decode cX3_setLevel 2 = .ok (.bipush 35, 2) := by decide +kernel
theorem dX3_setLevel_4 : decode cX3_setLevel 4 = .ok (.invokestatic 18, 3) := by decide +kernel
theorem dX3_setLevel_7 : decode cX3_setLevel 7 = .ok (.ifCond .eq 13, 3) := by decide +kernel
theorem dX3_setLevel_10 : decode cX3_setLevel 10 = .ok (.iload_n 2, 1) := by decide +kernel
theorem dX3_setLevel_11 : decode cX3_setLevel 11 = .ok (.iconst 0, 1) := by decide +kernel
theorem dX3_setLevel_12 : decode cX3_setLevel 12 = .ok (.bipush 99, 2) := by decide +kernel
theorem dX3_setLevel_14 : decode cX3_setLevel 14 = .ok (.invokestatic 18, 3) := by decide +kernel
theorem dX3_setLevel_17 : decode cX3_setLevel 17 = .ok (.ifCond .ne 5, 3) := by decide +kernel
theorem dX3_setLevel_20 : decode cX3_setLevel 20 = .ok (.iconst 0, 1) := by decide +kernel
theorem dX3_setLevel_21 : decode cX3_setLevel 21 = .ok (.ireturn, 1) := by decide +kernel
theorem dX3_setLevel_22 : decode cX3_setLevel 22 = .ok (.aload_n 0, 1) := by decide +kernel
theorem dX3_setLevel_23 : decode cX3_setLevel 23 = .ok (.getfield 9, 3) := by decide +kernel
theorem dX3_setLevel_26 : decode cX3_setLevel 26 = .ok (.iload_n 1, 1) := by decide +kernel
theorem dX3_setLevel_27 : decode cX3_setLevel 27 = .ok (.iload_n 2, 1) := by decide +kernel
theorem dX3_setLevel_28 : decode cX3_setLevel 28 = .ok (.iastore, 1) := by decide +kernel
theorem dX3_setLevel_29 : decode cX3_setLevel 29 = .ok (.iconst 1, 1) := by decide +kernel
theorem dX3_setLevel_30 : decode cX3_setLevel 30 = .ok (.ireturn, 1) := by decide +kernel
theorem dX3_setHeight_0 : decode cX3_setHeight 0 = .ok (.iload_n 1, 1) := by decide +kernel
theorem dX3_setHeight_1 : decode cX3_setHeight 1 = .ok (.iconst 0, 1) := by decide +kernel
theorem dX3_setHeight_2 : decode cX3_setHeight 2 = .ok (.iconst 3, 1) := by decide +kernel
theorem dX3_setHeight_3 : decode cX3_setHeight 3 = .ok (.invokestatic 18, 3) := by decide +kernel
theorem dX3_setHeight_6 : decode cX3_setHeight 6 = .ok (.ifCond .eq 13, 3) := by decide +kernel
theorem dX3_setHeight_9 : decode cX3_setHeight 9 = .ok (.iload_n 2, 1) := by decide +kernel
theorem dX3_setHeight_10 : decode cX3_setHeight 10 = .ok (.iconst 0, 1) := by decide +kernel
theorem dX3_setHeight_11 : decode cX3_setHeight 11 = .ok (.bipush 99, 2) := by decide +kernel
theorem dX3_setHeight_13 : decode cX3_setHeight 13 = .ok (.invokestatic 18, 3) := by decide +kernel
theorem dX3_setHeight_16 : decode cX3_setHeight 16 = .ok (.ifCond .ne 5, 3) := by decide +kernel
theorem dX3_setHeight_19 : decode cX3_setHeight 19 = .ok (.iconst 0, 1) := by decide +kernel
theorem dX3_setHeight_20 : decode cX3_setHeight 20 = .ok (.ireturn, 1) := by decide +kernel
theorem dX3_setHeight_21 : decode cX3_setHeight 21 = .ok (.aload_n 0, 1) := by decide +kernel
theorem dX3_setHeight_22 : decode cX3_setHeight 22 = .ok (.getfield 15, 3) := by decide +kernel
theorem dX3_setHeight_25 : decode cX3_setHeight 25 = .ok (.iload_n 1, 1) := by decide +kernel
theorem dX3_setHeight_26 : decode cX3_setHeight 26 = .ok (.iload_n 2, 1) := by decide +kernel
theorem dX3_setHeight_27 : decode cX3_setHeight 27 = .ok (.iastore, 1) := by decide +kernel
theorem dX3_setHeight_28 : decode cX3_setHeight 28 = .ok (.iconst 1, 1) := by decide +kernel
theorem dX3_setHeight_29 : decode cX3_setHeight 29 = .ok (.ireturn, 1) := by decide +kernel
theorem dX3_monthOf_0 : decode cX3_monthOf 0 = .ok (.iload_n 1, 1) := by decide +kernel
theorem dX3_monthOf_1 : decode cX3_monthOf 1 = .ok (.iconst 0, 1) := by decide +kernel
theorem dX3_monthOf_2 : decode cX3_monthOf 2 = .ok (.iconst 3, 1) := by decide +kernel
theorem dX3_monthOf_3 : decode cX3_monthOf 3 = .ok (.invokestatic 18, 3) := by decide +kernel
theorem dX3_monthOf_6 : decode cX3_monthOf 6 = .ok (.ifCond .ne 5, 3) := by decide +kernel
theorem dX3_monthOf_9 : decode cX3_monthOf 9 = .ok (.iconst (-1), 1) := by decide +kernel
theorem dX3_monthOf_10 : decode cX3_monthOf 10 = .ok (.ireturn, 1) := by decide +kernel
theorem dX3_monthOf_11 : decode cX3_monthOf 11 = .ok (.iconst 0, 1) := by decide +kernel
theorem dX3_monthOf_12 : decode cX3_monthOf 12 = .ok (.istore_n 2, 1) := by decide +kernel
theorem dX3_monthOf_13 : decode cX3_monthOf 13 = .ok (.iload_n 2, 1) := by decide +kernel
theorem dX3_monthOf_14 : decode cX3_monthOf 14 = .ok (.bipush 36, 2) := by decide +kernel
theorem dX3_monthOf_16 : decode cX3_monthOf 16 = .ok (.if_icmp .ge 26, 3) := by decide +kernel
theorem dX3_monthOf_19 : decode cX3_monthOf 19 = .ok (.aload_n 0, 1) := by decide +kernel
theorem dX3_monthOf_20 : decode cX3_monthOf 20 = .ok (.getfield 9, 3) := by decide +kernel
theorem dX3_monthOf_23 : decode cX3_monthOf 23 = .ok (.iload_n 2, 1) := by decide +kernel
theorem dX3_monthOf_24 : decode cX3_monthOf 24 = .ok (.iaload, 1) := by decide +kernel
theorem dX3_monthOf_25 : decode cX3_monthOf 25 = .ok (.aload_n 0, 1) := by decide +kernel
theorem dX3_monthOf_26 : decode cX3_monthOf 26 = .ok (.getfield 15, 3) := by decide +kernel
theorem dX3_monthOf_29 : decode cX3_monthOf 29 = .ok (.iload_n 1, 1) := by decide +kernel
theorem dX3_monthOf_30 : decode cX3_monthOf 30 = .ok (.iaload, 1) := by decide +kernel
theorem dX3_monthOf_31 : decode cX3_monthOf 31 = .ok (.if_icmp .lt 5, 3) := by decide +kernel
theorem dX3_monthOf_34 : decode cX3_monthOf 34 = .ok (.iload_n 2, 1) := by decide +kernel
theorem dX3_monthOf_35 : decode cX3_monthOf 35 = .ok (.ireturn, 1) := by decide +kernel
theorem dX3_monthOf_36 : decode cX3_monthOf 36 = .ok (.iinc 2 1, 3) := by decide +kernel
theorem dX3_monthOf_39 : decode cX3_monthOf 39 = .ok (.goto (-26), 3) := by decide +kernel
theorem dX3_monthOf_42 : decode cX3_monthOf 42 = .ok (.bipush 36, 2) := by decide +kernel
theorem dX3_monthOf_44 : decode cX3_monthOf 44 = .ok (.ireturn, 1) := by decide +kernel
theorem dX4_init_0 : decode cX4_init 0 = .ok (.aload_n 0, 1) := by decide +kernel
theorem dX4_init_1 : decode cX4_init 1 = .ok (.invokespecial 3, 3) := by decide +kernel
theorem dX4_init_4 : decode cX4_init 4 = .ok (.aload_n 0, 1) := by decide +kernel
theorem dX4_init_5 : decode cX4_init 5 = .ok (.iconst 0, 1) := by decide +kernel
theorem dX4_init_6 : decode cX4_init 6 = .ok (.putfield 9, 3) := by decide +kernel
theorem dX4_init_9 : decode cX4_init 9 = .ok (.aload_n 0, 1) := by decide +kernel
theorem dX4_init_10 : decode cX4_init 10 = .ok (.bipush 8, 2) := by decide +kernel
theorem dX4_init_12 : decode cX4_init 12 = .ok (.newarray .int, 2) := by decide +kernel
theorem dX4_init_14 : decode cX4_init 14 = .ok (.putfield 15, 3) := by decide +kernel
theorem dX4_init_17 : decode cX4_init 17 = .ok (.aload_n 0, 1) := by decide +kernel
theorem dX4_init_18 : decode cX4_init 18 = .ok (.bipush 8, 2) := by decide +kernel
theorem dX4_init_20 : decode cX4_init 20 = .ok (.newarray .int, 2) := by decide +kernel
theorem dX4_init_22 : decode cX4_init 22 = .ok (.putfield 19, 3) := by decide +kernel
theorem dX4_init_25 : decode cX4_init 25 = .ok (.aload_n 0, 1) := by decide +kernel
theorem dX4_init_26 : decode cX4_init 26 = .ok (.bipush 8, 2) := by decide +kernel
theorem dX4_init_28 : decode cX4_init 28 = .ok (.newarray .int, 2) := by decide +kernel
theorem dX4_init_30 : decode cX4_init 30 = .ok (.putfield 22, 3) := by decide +kernel
theorem dX4_init_33 : decode cX4_init 33 = .ok (.aload_n 0, 1) := by decide +kernel
theorem dX4_init_34 : decode cX4_init 34 = .ok (.bipush 8, 2) := by decide +kernel
theorem dX4_init_36 : decode cX4_init 36 = .ok (.newarray .int, 2) := by decide +kernel
theorem dX4_init_38 : decode cX4_init 38 = .ok (.putfield 25, 3) := by decide +kernel
theorem dX4_init_41 : decode cX4_init 41 = .ok (.aload_n 0, 1) := by decide +kernel
theorem dX4_init_42 : decode cX4_init 42 = .ok (.bipush 8, 2) := by decide +kernel
theorem dX4_init_44 : decode cX4_init 44 = .ok (.newarray .int, 2) := by decide +kernel
theorem dX4_init_46 : decode cX4_init 46 = .ok (.putfield 28, 3) := by decide +kernel
theorem dX4_init_49 : decode cX4_init 49 = .ok (.aload_n 0, 1) := by decide +kernel
theorem dX4_init_50 : decode cX4_init 50 = .ok (.bipush 8, 2) := by decide +kernel
theorem dX4_init_52 : decode cX4_init 52 = .ok (.newarray .int, 2) := by decide +kernel
theorem dX4_init_54 : decode cX4_init 54 = .ok (.putfield 31, 3) := by decide +kernel
theorem dX4_init_57 : decode cX4_init 57 = .ok (.aload_n 0, 1) := by decide +kernel
theorem dX4_init_58 : decode cX4_init 58 = .ok (.bipush 8, 2) := by decide +kernel
theorem dX4_init_60 : decode cX4_init 60 = .ok (.newarray .boolean, 2) := by decide +kernel
theorem dX4_init_62 : decode cX4_init 62 = .ok (.putfield 34, 3) := by decide +kernel
theorem dX4_init_65 : decode cX4_init 65 = .ok (.aload_n 0, 1) := by decide +kernel
theorem dX4_init_66 : decode cX4_init 66 = .ok (.bipush 8, 2) := by decide +kernel
theorem dX4_init_68 : decode cX4_init 68 = .ok (.newarray .int, 2) := by decide +kernel
theorem dX4_init_70 : decode cX4_init 70 = .ok (.putfield 38, 3) := by decide +kernel
theorem dX4_init_73 : decode cX4_init 73 = .ok (.aload_n 0, 1) := by decide +kernel
theorem dX4_init_74 : decode cX4_init 74 = .ok (.iconst 4, 1) := by decide +kernel
theorem dX4_init_75 : decode cX4_init 75 = .ok (.newarray .int, 2) := by decide +kernel
theorem dX4_init_77 : decode cX4_init 77 = .ok (.putfield 43, 3) := by decide +kernel
theorem dX4_init_80 : decode cX4_init 80 = .ok (.return_, 1) := by decide +kernel
theorem dX4_has_0 : decode cX4_has 0 = .ok (.iload_n 1, 1) := by decide +kernel
theorem dX4_has_1 : decode cX4_has 1 = .ok (.ifCond .lt 15, 3) := by decide +kernel
theorem dX4_has_4 : decode cX4_has 4 = .ok (.iload_n 1, 1) := by decide +kernel
theorem dX4_has_5 : decode cX4_has 5 = .ok (.aload_n 0, 1) := by decide +kernel
theorem dX4_has_6 : decode cX4_has 6 = .ok (.getfield 9, 3) := by decide +kernel
theorem dX4_has_9 : decode cX4_has 9 = .ok (.if_icmp .ge 7, 3) := by decide +kernel
theorem dX4_has_12 : decode cX4_has 12 = .ok (.iconst 1, 1) := by decide +kernel
theorem dX4_has_13 : decode cX4_has 13 = .ok (.goto 4, 3) := by decide +kernel
theorem dX4_has_16 : decode cX4_has 16 = .ok (.iconst 0, 1) := by decide +kernel
theorem dX4_has_17 : decode cX4_has 17 = .ok (.ireturn, 1) := by decide +kernel
theorem dX4_isFull_0 : decode cX4_isFull 0 = .ok (.aload_n 0, 1) := by decide +kernel
theorem dX4_isFull_1 : decode cX4_isFull 1 = .ok (.getfield 9, 3) := by decide +kernel
theorem dX4_isFull_4 : decode cX4_isFull 4 = .ok (.bipush 8, 2) := by decide +kernel
theorem dX4_isFull_6 : decode cX4_isFull 6 = .ok (.if_icmp .lt 7, 3) := by decide +kernel
theorem dX4_isFull_9 : decode cX4_isFull 9 = .ok (.iconst 1, 1) := by decide +kernel
theorem dX4_isFull_10 : decode cX4_isFull 10 = .ok (.goto 4, 3) := by decide +kernel
theorem dX4_isFull_13 : decode cX4_isFull 13 = .ok (.iconst 0, 1) := by decide +kernel
theorem dX4_isFull_14 : decode cX4_isFull 14 = .ok (.ireturn, 1) := by decide +kernel
theorem dX4_add_0 : decode cX4_add 0 = .ok (.aload_n 0, 1) := by decide +kernel
theorem dX4_add_1 : decode cX4_add 1 = .ok (.invokevirtual 46, 3) := by decide +kernel
theorem dX4_add_4 : decode cX4_add 4 = .ok (.ifCond .eq 5, 3) := by decide +kernel
theorem dX4_add_7 : decode cX4_add 7 = .ok (.iconst (-1), 1) := by decide +kernel
theorem dX4_add_8 : decode cX4_add 8 = .ok (.ireturn, 1) := by decide +kernel
theorem dX4_add_9 : decode cX4_add 9 = .ok (.aload_n 0, 1) := by decide +kernel
theorem dX4_add_10 : decode cX4_add 10 = .ok (.getfield 15, 3) := by decide +kernel
theorem dX4_add_13 : decode cX4_add 13 = .ok (.aload_n 0, 1) := by decide +kernel
theorem dX4_add_14 : decode cX4_add 14 = .ok (.getfield 9, 3) := by decide +kernel
theorem dX4_add_17 : decode cX4_add 17 = .ok (.iload_n 1, 1) := by decide +kernel
theorem dX4_add_18 : decode cX4_add 18 = .ok (.iastore, 1) := by decide +kernel
theorem dX4_add_19 : decode cX4_add 19 = .ok (.aload_n 0, 1) := by decide +kernel
theorem dX4_add_20 : decode cX4_add 20 = .ok (.getfield 19, 3) := by decide +kernel
theorem dX4_add_23 : decode cX4_add 23 = .ok (.aload_n 0, 1) := by decide +kernel
theorem dX4_add_24 : decode cX4_add 24 = .ok (.getfield 9, 3) := by decide +kernel
theorem dX4_add_27 : decode cX4_add 27 = .ok (.iload_n 2, 1) := by decide +kernel
theorem dX4_add_28 : decode cX4_add 28 = .ok (.iastore, 1) := by decide +kernel
theorem dX4_add_29 : decode cX4_add 29 = .ok (.aload_n 0, 1) := by decide +kernel
theorem dX4_add_30 : decode cX4_add 30 = .ok (.getfield 22, 3) := by decide +kernel
theorem dX4_add_33 : decode cX4_add 33 = .ok (.aload_n 0, 1) := by decide +kernel
theorem dX4_add_34 : decode cX4_add 34 = .ok (.getfield 9, 3) := by decide +kernel
theorem dX4_add_37 : decode cX4_add 37 = .ok (.iload_n 3, 1) := by decide +kernel
theorem dX4_add_38 : decode cX4_add 38 = .ok (.iastore, 1) := by decide +kernel
theorem dX4_add_39 : decode cX4_add 39 = .ok (.aload_n 0, 1) := by decide +kernel
theorem dX4_add_40 : decode cX4_add 40 = .ok (.getfield 25, 3) := by decide +kernel
theorem dX4_add_43 : decode cX4_add 43 = .ok (.aload_n 0, 1) := by decide +kernel
theorem dX4_add_44 : decode cX4_add 44 = .ok (.getfield 9, 3) := by decide +kernel
theorem dX4_add_47 : decode cX4_add 47 = .ok (.iload 4, 2) := by decide +kernel
theorem dX4_add_49 : decode cX4_add 49 = .ok (.iastore, 1) := by decide +kernel
theorem dX4_add_50 : decode cX4_add 50 = .ok (.aload_n 0, 1) := by decide +kernel
theorem dX4_add_51 : decode cX4_add 51 = .ok (.getfield 28, 3) := by decide +kernel
theorem dX4_add_54 : decode cX4_add 54 = .ok (.aload_n 0, 1) := by decide +kernel
theorem dX4_add_55 : decode cX4_add 55 = .ok (.getfield 9, 3) := by decide +kernel
theorem dX4_add_58 : decode cX4_add 58 = .ok (.iload 5, 2) := by decide +kernel
theorem dX4_add_60 : decode cX4_add 60 = .ok (.ifCond .eq 7, 3) := by decide +kernel
theorem dX4_add_63 : decode cX4_add 63 = .ok (.iconst 1, 1) := by decide +kernel
theorem dX4_add_64 : decode cX4_add 64 = .ok (.goto 4, 3) := by decide +kernel
theorem dX4_add_67 : decode cX4_add 67 = .ok (.iconst 0, 1) := by decide +kernel
theorem dX4_add_68 : decode cX4_add 68 = .ok (.iastore, 1) := by decide +kernel
theorem dX4_add_69 : decode cX4_add 69 = .ok (.aload_n 0, 1) := by decide +kernel
theorem dX4_add_70 : decode cX4_add 70 = .ok (.getfield 31, 3) := by decide +kernel
theorem dX4_add_73 : decode cX4_add 73 = .ok (.aload_n 0, 1) := by decide +kernel
theorem dX4_add_74 : decode cX4_add 74 = .ok (.getfield 9, 3) := by decide +kernel
theorem dX4_add_77 : decode cX4_add 77 = .ok (.iconst (-1), 1) := by decide +kernel
theorem dX4_add_78 : decode cX4_add 78 = .ok (.iastore, 1) := by decide +kernel
theorem dX4_add_79 : decode cX4_add 79 = .ok (.aload_n 0, 1) := by decide +kernel
theorem dX4_add_80 : decode cX4_add 80 = .ok (.dup, 1) := by decide +kernel
theorem dX4_add_81 : decode cX4_add 81 = .ok (.getfield 9, 3) := by decide +kernel
theorem dX4_add_84 : decode cX4_add 84 = .ok (.iconst 1, 1) := by decide +kernel
theorem dX4_add_85 : decode cX4_add 85 = .ok (.iadd, 1) := by decide +kernel
theorem dX4_add_86 : decode cX4_add 86 = .ok (.putfield 9, 3) := by decide +kernel
theorem dX4_add_89 : decode cX4_add 89 = .ok (.aload_n 0, 1) := by decide +kernel
theorem dX4_add_90 : decode cX4_add 90 = .ok (.getfield 9, 3) := by decide +kernel
theorem dX4_add_93 : decode cX4_add 93 = .ok (.iconst 1, 1) := by decide +kernel
theorem dX4_add_94 : decode cX4_add 94 = .ok (.isub, 1) := by decide +kernel
theorem dX4_add_95 : decode cX4_add 95 = .ok (.ireturn, 1) := by decide +kernel
theorem dX4_givePapers_0 : decode cX4_givePapers 0 = .ok (.aload_n 0, 1) := by decide +kernel
theorem dX4_givePapers_1 : decode cX4_givePapers 1 = .ok (.iload_n 1, 1) := by decide +kernel
theorem dX4_givePapers_2 : decode cX4_givePapers 2 = .ok (.invokevirtual 50, 3) := by decide +kernel
theorem dX4_givePapers_5 : decode cX4_givePapers 5 = .ok (.ifCond .eq 13, 3) := by decide +kernel
theorem dX4_givePapers_8 : decode cX4_givePapers 8 = .ok (.aload_n 0, 1) := by decide +kernel
theorem dX4_givePapers_9 : decode cX4_givePapers 9 = .ok (.getfield 28, 3) := by decide +kernel
theorem dX4_givePapers_12 : decode cX4_givePapers 12 = .ok (.iload_n 1, 1) := by decide +kernel
theorem dX4_givePapers_13 : decode cX4_givePapers 13 = .ok (.iaload, 1) := by decide +kernel
theorem dX4_givePapers_14 : decode cX4_givePapers 14 = .ok (.iconst 1, 1) := by decide +kernel
theorem dX4_givePapers_15 : decode cX4_givePapers 15 = .ok (.if_icmp .ne 5, 3) := by decide +kernel
theorem dX4_givePapers_18 : decode cX4_givePapers 18 = .ok (.iconst 0, 1) := by decide +kernel
theorem dX4_givePapers_19 : decode cX4_givePapers 19 = .ok (.ireturn, 1) := by decide +kernel
theorem dX4_givePapers_20 : decode cX4_givePapers 20 = .ok (.aload_n 0, 1) := by decide +kernel
theorem dX4_givePapers_21 : decode cX4_givePapers 21 = .ok (.getfield 28, 3) := by decide +kernel
theorem dX4_givePapers_24 : decode cX4_givePapers 24 = .ok (.iload_n 1, 1) := by decide +kernel
theorem dX4_givePapers_25 : decode cX4_givePapers 25 = .ok (.iconst 1, 1) := by decide +kernel
theorem dX4_givePapers_26 : decode cX4_givePapers 26 = .ok (.iastore, 1) := by decide +kernel
theorem dX4_givePapers_27 : decode cX4_givePapers 27 = .ok (.iconst 1, 1) := by decide +kernel
theorem dX4_givePapers_28 : decode cX4_givePapers 28 = .ok (.ireturn, 1) := by decide +kernel
theorem dX4_factsOf_0 : decode cX4_factsOf 0 = .ok (.aload_n 0, 1) := by decide +kernel
theorem dX4_factsOf_1 : decode cX4_factsOf 1 = .ok (.iload_n 1, 1) := by decide +kernel
theorem dX4_factsOf_2 : decode cX4_factsOf 2 = .ok (.invokevirtual 50, 3) := by decide +kernel
theorem dX4_factsOf_5 : decode cX4_factsOf 5 = .ok (.ifCond .eq 66, 3) := by decide +kernel
theorem dX4_factsOf_8 : decode cX4_factsOf 8 = .ok (.aload_n 0, 1) := by decide +kernel
theorem dX4_factsOf_9 : decode cX4_factsOf 9 = .ok (.getfield 43, 3) := by decide +kernel
theorem dX4_factsOf_12 : decode cX4_factsOf 12 = .ok (.iconst (-1), 1) := by decide +kernel
theorem dX4_factsOf_13 : decode cX4_factsOf 13 = .ok (.invokestatic 56, 3) := by decide +kernel
theorem dX4_factsOf_16 : decode cX4_factsOf 16 = .ok (.aload_n 0, 1) := by decide +kernel
theorem dX4_factsOf_17 : decode cX4_factsOf 17 = .ok (.getfield 19, 3) := by decide +kernel
theorem dX4_factsOf_20 : decode cX4_factsOf 20 = .ok (.iload_n 1, 1) := by decide +kernel
theorem dX4_factsOf_21 : decode cX4_factsOf 21 = .ok (.iaload, 1) := by decide +kernel
theorem dX4_factsOf_22 : decode cX4_factsOf 22 = .ok (.iastore, 1) := by decide +kernel
theorem dX4_factsOf_23 : decode cX4_factsOf 23 = .ok (.aload_n 0, 1) := by decide +kernel
theorem dX4_factsOf_24 : decode cX4_factsOf 24 = .ok (.getfield 43, 3) := by decide +kernel
theorem dX4_factsOf_27 : decode cX4_factsOf 27 = .ok (.bipush (-2), 2) := by decide +kernel
theorem dX4_factsOf_29 : decode cX4_factsOf 29 = .ok (.invokestatic 56, 3) := by decide +kernel
theorem dX4_factsOf_32 : decode cX4_factsOf 32 = .ok (.aload_n 0, 1) := by decide +kernel
theorem dX4_factsOf_33 : decode cX4_factsOf 33 = .ok (.getfield 22, 3) := by decide +kernel
theorem dX4_factsOf_36 : decode cX4_factsOf 36 = .ok (.iload_n 1, 1) := by decide +kernel
theorem dX4_factsOf_37 : decode cX4_factsOf 37 = .ok (.iaload, 1) := by decide +kernel
theorem dX4_factsOf_38 : decode cX4_factsOf 38 = .ok (.iastore, 1) := by decide +kernel
theorem dX4_factsOf_39 : decode cX4_factsOf 39 = .ok (.aload_n 0, 1) := by decide +kernel
theorem dX4_factsOf_40 : decode cX4_factsOf 40 = .ok (.getfield 43, 3) := by decide +kernel
theorem dX4_factsOf_43 : decode cX4_factsOf 43 = .ok (.bipush (-3), 2) := by decide +kernel
theorem dX4_factsOf_45 : decode cX4_factsOf 45 = .ok (.invokestatic 56, 3) := by decide +kernel
theorem dX4_factsOf_48 : decode cX4_factsOf 48 = .ok (.aload_n 0, 1) := by decide +kernel
theorem dX4_factsOf_49 : decode cX4_factsOf 49 = .ok (.getfield 25, 3) := by decide +kernel
theorem dX4_factsOf_52 : decode cX4_factsOf 52 = .ok (.iload_n 1, 1) := by decide +kernel
theorem dX4_factsOf_53 : decode cX4_factsOf 53 = .ok (.iaload, 1) := by decide +kernel
theorem dX4_factsOf_54 : decode cX4_factsOf 54 = .ok (.iastore, 1) := by decide +kernel
theorem dX4_factsOf_55 : decode cX4_factsOf 55 = .ok (.aload_n 0, 1) := by decide +kernel
theorem dX4_factsOf_56 : decode cX4_factsOf 56 = .ok (.getfield 43, 3) := by decide +kernel
theorem dX4_factsOf_59 : decode cX4_factsOf 59 = .ok (.bipush (-4), 2) := by decide +kernel
theorem dX4_factsOf_61 : decode cX4_factsOf 61 = .ok (.invokestatic 56, 3) := by decide +kernel
theorem dX4_factsOf_64 : decode cX4_factsOf 64 = .ok (.aload_n 0, 1) := by decide +kernel
theorem dX4_factsOf_65 : decode cX4_factsOf 65 = .ok (.getfield 28, 3) := by decide +kernel
theorem dX4_factsOf_68 : decode cX4_factsOf 68 = .ok (.iload_n 1, 1) := by decide +kernel
theorem dX4_factsOf_69 : decode cX4_factsOf 69 = .ok (.iaload, 1) := by decide +kernel
theorem dX4_factsOf_70 : decode cX4_factsOf 70 = .ok (.iastore, 1) := by decide +kernel
theorem dX4_factsOf_71 : decode cX4_factsOf 71 = .ok (.aload_n 0, 1) := by decide +kernel
theorem dX4_factsOf_72 : decode cX4_factsOf 72 = .ok (.getfield 43, 3) := by decide +kernel
theorem dX4_factsOf_75 : decode cX4_factsOf 75 = .ok (.areturn, 1) := by decide +kernel
theorem dX4_beginPlan_0 : decode cX4_beginPlan 0 = .ok (.iconst 0, 1) := by decide +kernel
theorem dX4_beginPlan_1 : decode cX4_beginPlan 1 = .ok (.istore_n 2, 1) := by decide +kernel
theorem dX4_beginPlan_2 : decode cX4_beginPlan 2 = .ok (.iload_n 2, 1) := by decide +kernel
theorem dX4_beginPlan_3 : decode cX4_beginPlan 3 = .ok (.aload_n 0, 1) := by decide +kernel
theorem dX4_beginPlan_4 : decode cX4_beginPlan 4 = .ok (.getfield 9, 3) := by decide +kernel
theorem dX4_beginPlan_7 : decode cX4_beginPlan 7 = .ok (.if_icmp .ge 41, 3) := by decide +kernel
theorem dX4_beginPlan_10 : decode cX4_beginPlan 10 = .ok (.aload_n 0, 1) := by decide +kernel
theorem dX4_beginPlan_11 : decode cX4_beginPlan 11 = .ok (.getfield 38, 3) := by decide +kernel
theorem dX4_beginPlan_14 : decode cX4_beginPlan 14 = .ok (.iload_n 2, 1) := by decide +kernel
theorem dX4_beginPlan_15 : decode cX4_beginPlan 15 = .ok (.aload_n 1, 1) := by decide +kernel
theorem dX4_beginPlan_16 : decode cX4_beginPlan 16 = .ok (.aload_n 0, 1) := by decide +kernel
theorem dX4_beginPlan_17 : decode cX4_beginPlan 17 = .ok (.getfield 15, 3) := by decide +kernel
theorem dX4_beginPlan_20 : decode cX4_beginPlan 20 = .ok (.iload_n 2, 1) := by decide +kernel
theorem dX4_beginPlan_21 : decode cX4_beginPlan 21 = .ok (.iaload, 1) := by decide +kernel
theorem dX4_beginPlan_22 : decode cX4_beginPlan 22 = .ok (.invokevirtual 60, 3) := by decide +kernel
theorem dX4_beginPlan_25 : decode cX4_beginPlan 25 = .ok (.iastore, 1) := by decide +kernel
theorem dX4_beginPlan_26 : decode cX4_beginPlan 26 = .ok (.aload_n 0, 1) := by decide +kernel
theorem dX4_beginPlan_27 : decode cX4_beginPlan 27 = .ok (.getfield 34, 3) := by decide +kernel
theorem dX4_beginPlan_30 : decode cX4_beginPlan 30 = .ok (.iload_n 2, 1) := by decide +kernel
theorem dX4_beginPlan_31 : decode cX4_beginPlan 31 = .ok (.baload, 1) := by decide +kernel
theorem dX4_beginPlan_32 : decode cX4_beginPlan 32 = .ok (.ifCond .ne 10, 3) := by decide +kernel
theorem dX4_beginPlan_35 : decode cX4_beginPlan 35 = .ok (.aload_n 0, 1) := by decide +kernel
theorem dX4_beginPlan_36 : decode cX4_beginPlan 36 = .ok (.getfield 31, 3) := by decide +kernel
theorem dX4_beginPlan_39 : decode cX4_beginPlan 39 = .ok (.iload_n 2, 1) := by decide +kernel
theorem dX4_beginPlan_40 : decode cX4_beginPlan 40 = .ok (.iconst (-1), 1) := by decide +kernel
theorem dX4_beginPlan_41 : decode cX4_beginPlan 41 = .ok (.iastore, 1) := by decide +kernel
theorem dX4_beginPlan_42 : decode cX4_beginPlan 42 = .ok (.iinc 2 1, 3) := by decide +kernel
theorem dX4_beginPlan_45 : decode cX4_beginPlan 45 = .ok (.goto (-43), 3) := by decide +kernel
theorem dX4_beginPlan_48 : decode cX4_beginPlan 48 = .ok (.return_, 1) := by decide +kernel
theorem dX4_nextInLine_0 : decode cX4_nextInLine 0 = .ok (.iconst (-1), 1) := by decide +kernel
theorem dX4_nextInLine_1 : decode cX4_nextInLine 1 = .ok (.istore_n 1, 1) := by decide +kernel
theorem dX4_nextInLine_2 : decode cX4_nextInLine 2 = .ok (.iconst 0, 1) := by decide +kernel
theorem dX4_nextInLine_3 : decode cX4_nextInLine 3 = .ok (.istore_n 2, 1) := by decide +kernel
theorem dX4_nextInLine_4 : decode cX4_nextInLine 4 = .ok (.iload_n 2, 1) := by decide +kernel
theorem dX4_nextInLine_5 : decode cX4_nextInLine 5 = .ok (.aload_n 0, 1) := by decide +kernel
theorem dX4_nextInLine_6 : decode cX4_nextInLine 6 = .ok (.getfield 9, 3) := by decide +kernel
theorem dX4_nextInLine_9 : decode cX4_nextInLine 9 = .ok (.if_icmp .ge 41, 3) := by decide +kernel
theorem dX4_nextInLine_12 : decode cX4_nextInLine 12 = .ok (.aload_n 0, 1) := by decide +kernel
theorem dX4_nextInLine_13 : decode cX4_nextInLine 13 = .ok (.getfield 31, 3) := by decide +kernel
theorem dX4_nextInLine_16 : decode cX4_nextInLine 16 = .ok (.iload_n 2, 1) := by decide +kernel
theorem dX4_nextInLine_17 : decode cX4_nextInLine 17 = .ok (.iaload, 1) := by decide +kernel
theorem dX4_nextInLine_18 : decode cX4_nextInLine 18 = .ok (.iconst (-1), 1) := by decide +kernel
theorem dX4_nextInLine_19 : decode cX4_nextInLine 19 = .ok (.if_icmp .ne 25, 3) := by decide +kernel
theorem dX4_nextInLine_22 : decode cX4_nextInLine 22 = .ok (.iload_n 1, 1) := by decide +kernel
theorem dX4_nextInLine_23 : decode cX4_nextInLine 23 = .ok (.iconst (-1), 1) := by decide +kernel
theorem dX4_nextInLine_24 : decode cX4_nextInLine 24 = .ok (.if_icmp .eq 18, 3) := by decide +kernel
theorem dX4_nextInLine_27 : decode cX4_nextInLine 27 = .ok (.aload_n 0, 1) := by decide +kernel
theorem dX4_nextInLine_28 : decode cX4_nextInLine 28 = .ok (.getfield 38, 3) := by decide +kernel
theorem dX4_nextInLine_31 : decode cX4_nextInLine 31 = .ok (.iload_n 2, 1) := by decide +kernel
theorem dX4_nextInLine_32 : decode cX4_nextInLine 32 = .ok (.iaload, 1) := by decide +kernel
theorem dX4_nextInLine_33 : decode cX4_nextInLine 33 = .ok (.aload_n 0, 1) := by decide +kernel
theorem dX4_nextInLine_34 : decode cX4_nextInLine 34 = .ok (.getfield 38, 3) := by decide +kernel
theorem dX4_nextInLine_37 : decode cX4_nextInLine 37 = .ok (.iload_n 1, 1) := by decide +kernel
theorem dX4_nextInLine_38 : decode cX4_nextInLine 38 = .ok (.iaload, 1) := by decide +kernel
theorem dX4_nextInLine_39 : decode cX4_nextInLine 39 = .ok (.if_icmp .ge 5, 3) := by decide +kernel
theorem dX4_nextInLine_42 : decode cX4_nextInLine 42 = .ok (.iload_n 2, 1) := by decide +kernel
theorem dX4_nextInLine_43 : decode cX4_nextInLine 43 = .ok (.istore_n 1, 1) := by decide +kernel
theorem dX4_nextInLine_44 : decode cX4_nextInLine 44 = .ok (.iinc 2 1, 3) := by decide +kernel
theorem dX4_nextInLine_47 : decode cX4_nextInLine 47 = .ok (.goto (-43), 3) := by decide +kernel
theorem dX4_nextInLine_50 : decode cX4_nextInLine 50 = .ok (.iload_n 1, 1) := by decide +kernel
theorem dX4_nextInLine_51 : decode cX4_nextInLine 51 = .ok (.ireturn, 1) := by decide +kernel
theorem dX4_planHouse_0 : decode cX4_planHouse 0 = .ok (.aload_n 0, 1) := by decide +kernel
theorem dX4_planHouse_1 : decode cX4_planHouse 1 = .ok (.iload_n 1, 1) := by decide +kernel
theorem dX4_planHouse_2 : decode cX4_planHouse 2 = .ok (.invokevirtual 50, 3) := by decide +kernel
theorem dX4_planHouse_5 : decode cX4_planHouse 5 = .ok (.ifCond .eq 10, 3) := by decide +kernel
theorem dX4_planHouse_8 : decode cX4_planHouse 8 = .ok (.aload_n 0, 1) := by decide +kernel
theorem dX4_planHouse_9 : decode cX4_planHouse 9 = .ok (.getfield 31, 3) := by decide +kernel
theorem dX4_planHouse_12 : decode cX4_planHouse 12 = .ok (.iload_n 1, 1) := by decide +kernel
theorem dX4_planHouse_13 : decode cX4_planHouse 13 = .ok (.iload_n 2, 1) := by decide +kernel
theorem dX4_planHouse_14 : decode cX4_planHouse 14 = .ok (.iastore, 1) := by decide +kernel
theorem dX4_planHouse_15 : decode cX4_planHouse 15 = .ok (.return_, 1) := by decide +kernel
theorem dX4_finishHousesBefore_0 : decode cX4_finishHousesBefore 0 = .ok (.iconst 0, 1) := by decide +kernel
theorem dX4_finishHousesBefore_1 : decode cX4_finishHousesBefore 1 = .ok (.istore_n 2, 1) := by decide +kernel
theorem dX4_finishHousesBefore_2 : decode cX4_finishHousesBefore 2 = .ok (.iload_n 2, 1) := by decide +kernel
theorem dX4_finishHousesBefore_3 : decode cX4_finishHousesBefore 3 = .ok (.aload_n 0, 1) := by decide +kernel
theorem dX4_finishHousesBefore_4 : decode cX4_finishHousesBefore 4 = .ok (.getfield 9, 3) := by decide +kernel
theorem dX4_finishHousesBefore_7 : decode cX4_finishHousesBefore 7 = .ok (.if_icmp .ge 36, 3) := by decide +kernel
theorem dX4_finishHousesBefore_10 : decode cX4_finishHousesBefore 10 = .ok (.aload_n 0, 1) := by decide +kernel
theorem dX4_finishHousesBefore_11 : decode cX4_finishHousesBefore 11 = .ok (.getfield 31, 3) := by decide +kernel
theorem dX4_finishHousesBefore_14 : decode cX4_finishHousesBefore 14 = .ok (.iload_n 2, 1) := by decide +kernel
theorem dX4_finishHousesBefore_15 : decode cX4_finishHousesBefore 15 = .ok (.iaload, 1) := by decide +kernel
theorem dX4_finishHousesBefore_16 : decode cX4_finishHousesBefore 16 = .ok (.iconst (-1), 1) := by decide +kernel
theorem dX4_finishHousesBefore_17 : decode cX4_finishHousesBefore 17 = .ok (.if_icmp .eq 20, 3) := by decide +kernel
theorem dX4_finishHousesBefore_20 : decode cX4_finishHousesBefore 20 = .ok (.aload_n 0, 1) := by decide +kernel
theorem dX4_finishHousesBefore_21 : decode cX4_finishHousesBefore 21 = .ok (.getfield 31, 3) := by decide +kernel
theorem dX4_finishHousesBefore_24 : decode cX4_finishHousesBefore 24 = .ok (.iload_n 2, 1) := by decide +kernel
theorem dX4_finishHousesBefore_25 : decode cX4_finishHousesBefore 25 = .ok (.iaload, 1) := by decide +kernel
theorem dX4_finishHousesBefore_26 : decode cX4_finishHousesBefore 26 = .ok (.iload_n 1, 1) := by decide +kernel
theorem dX4_finishHousesBefore_27 : decode cX4_finishHousesBefore 27 = .ok (.if_icmp .ge 10, 3) := by decide +kernel
theorem dX4_finishHousesBefore_30 : decode cX4_finishHousesBefore 30 = .ok (.aload_n 0, 1) := by decide +kernel
theorem dX4_finishHousesBefore_31 : decode cX4_finishHousesBefore 31 = .ok (.getfield 34, 3) := by decide +kernel
theorem dX4_finishHousesBefore_34 : decode cX4_finishHousesBefore 34 = .ok (.iload_n 2, 1) := by decide +kernel
theorem dX4_finishHousesBefore_35 : decode cX4_finishHousesBefore 35 = .ok (.iconst 1, 1) := by decide +kernel
theorem dX4_finishHousesBefore_36 : decode cX4_finishHousesBefore 36 = .ok (.bastore, 1) := by decide +kernel
theorem dX4_finishHousesBefore_37 : decode cX4_finishHousesBefore 37 = .ok (.iinc 2 1, 3) := by decide +kernel
theorem dX4_finishHousesBefore_40 : decode cX4_finishHousesBefore 40 = .ok (.goto (-38), 3) := by decide +kernel
theorem dX4_finishHousesBefore_43 : decode cX4_finishHousesBefore 43 = .ok (.return_, 1) := by decide +kernel
theorem dX4_isLate_0 : decode cX4_isLate 0 = .ok (.aload_n 0, 1) := by decide +kernel
theorem dX4_isLate_1 : decode cX4_isLate 1 = .ok (.iload_n 1, 1) := by decide +kernel
theorem dX4_isLate_2 : decode cX4_isLate 2 = .ok (.invokevirtual 50, 3) := by decide +kernel
theorem dX4_isLate_5 : decode cX4_isLate 5 = .ok (.ifCond .eq 14, 3) := by decide +kernel
theorem dX4_isLate_8 : decode cX4_isLate 8 = .ok (.aload_n 0, 1) := by decide +kernel
theorem dX4_isLate_9 : decode cX4_isLate 9 = .ok (.getfield 38, 3) := by decide +kernel
theorem dX4_isLate_12 : decode cX4_isLate 12 = .ok (.iload_n 1, 1) := by decide +kernel
theorem dX4_isLate_13 : decode cX4_isLate 13 = .ok (.iaload, 1) := by decide +kernel
theorem dX4_isLate_14 : decode cX4_isLate 14 = .ok (.bipush 36, 2) := by decide +kernel
theorem dX4_isLate_16 : decode cX4_isLate 16 = .ok (.if_icmp .lt 5, 3) := by decide +kernel
theorem dX4_isLate_19 : decode cX4_isLate 19 = .ok (.iconst 0, 1) := by decide +kernel
theorem dX4_isLate_20 : decode cX4_isLate 20 = .ok (.ireturn, 1) := by decide +kernel
theorem dX4_isLate_21 : decode cX4_isLate 21 = .ok (.aload_n 0, 1) := by decide +kernel
theorem dX4_isLate_22 : decode cX4_isLate 22 = .ok (.getfield 31, 3) := by decide +kernel
theorem dX4_isLate_25 : decode cX4_isLate 25 = .ok (.iload_n 1, 1) := by decide +kernel
theorem dX4_isLate_26 : decode cX4_isLate 26 = .ok (.iaload, 1) := by decide +kernel
theorem dX4_isLate_27 : decode cX4_isLate 27 = .ok (.iconst (-1), 1) := by decide +kernel
theorem dX4_isLate_28 : decode cX4_isLate 28 = .ok (.if_icmp .eq 18, 3) := by decide +kernel
theorem dX4_isLate_31 : decode cX4_isLate 31 = .ok (.aload_n 0, 1) := by decide +kernel
theorem dX4_isLate_32 : decode cX4_isLate 32 = .ok (.getfield 31, 3) := by decide +kernel
theorem dX4_isLate_35 : decode cX4_isLate 35 = .ok (.iload_n 1, 1) := by decide +kernel
theorem dX4_isLate_36 : decode cX4_isLate 36 = .ok (.iaload, 1) := by decide +kernel
theorem dX4_isLate_37 : decode cX4_isLate 37 = .ok (.aload_n 0, 1) := by decide +kernel
theorem dX4_isLate_38 : decode cX4_isLate 38 = .ok (.getfield 38, 3) := by decide +kernel
theorem dX4_isLate_41 : decode cX4_isLate 41 = .ok (.iload_n 1, 1) := by decide +kernel
theorem dX4_isLate_42 : decode cX4_isLate 42 = .ok (.iaload, 1) := by decide +kernel
theorem dX4_isLate_43 : decode cX4_isLate 43 = .ok (.if_icmp .lt 7, 3) := by decide +kernel
theorem dX4_isLate_46 : decode cX4_isLate 46 = .ok (.iconst 1, 1) := by decide +kernel
theorem dX4_isLate_47 : decode cX4_isLate 47 = .ok (.goto 4, 3) := by decide +kernel
theorem dX4_isLate_50 : decode cX4_isLate 50 = .ok (.iconst 0, 1) := by decide +kernel
theorem dX4_isLate_51 : decode cX4_isLate 51 = .ok (.ireturn, 1) := by decide +kernel
theorem dX4_countLate_0 : decode cX4_countLate 0 = .ok (.iconst 0, 1) := by decide +kernel
theorem dX4_countLate_1 : decode cX4_countLate 1 = .ok (.istore_n 1, 1) := by decide +kernel
theorem dX4_countLate_2 : decode cX4_countLate 2 = .ok (.iconst 0, 1) := by decide +kernel
theorem dX4_countLate_3 : decode cX4_countLate 3 = .ok (.istore_n 2, 1) := by decide +kernel
theorem dX4_countLate_4 : decode cX4_countLate 4 = .ok (.iload_n 2, 1) := by decide +kernel
theorem dX4_countLate_5 : decode cX4_countLate 5 = .ok (.aload_n 0, 1) := by decide +kernel
theorem dX4_countLate_6 : decode cX4_countLate 6 = .ok (.getfield 9, 3) := by decide +kernel
theorem dX4_countLate_9 : decode cX4_countLate 9 = .ok (.if_icmp .ge 20, 3) := by decide +kernel
theorem dX4_countLate_12 : decode cX4_countLate 12 = .ok (.aload_n 0, 1) := by decide +kernel
theorem dX4_countLate_13 : decode cX4_countLate 13 = .ok (.iload_n 2, 1) := by decide +kernel
theorem dX4_countLate_14 : decode cX4_countLate 14 = .ok (.invokevirtual 65, 3) := by decide +kernel
theorem dX4_countLate_17 : decode cX4_countLate 17 = .ok (.ifCond .eq 6, 3) := by decide +kernel
theorem dX4_countLate_20 : decode cX4_countLate 20 = .ok (.iinc 1 1, 3) := by decide +kernel
theorem dX4_countLate_23 : decode cX4_countLate 23 = .ok (.iinc 2 1, 3) := by decide +kernel
theorem dX4_countLate_26 : decode cX4_countLate 26 = .ok (.goto (-22), 3) := by decide +kernel
theorem dX4_countLate_29 : decode cX4_countLate 29 = .ok (.iload_n 1, 1) := by decide +kernel
theorem dX4_countLate_30 : decode cX4_countLate 30 = .ok (.ireturn, 1) := by decide +kernel
theorem dX4_countReady_0 : decode cX4_countReady 0 = .ok (.iconst 0, 1) := by decide +kernel
theorem dX4_countReady_1 : decode cX4_countReady 1 = .ok (.istore_n 1, 1) := by decide +kernel
theorem dX4_countReady_2 : decode cX4_countReady 2 = .ok (.iconst 0, 1) := by decide +kernel
theorem dX4_countReady_3 : decode cX4_countReady 3 = .ok (.istore_n 2, 1) := by decide +kernel
theorem dX4_countReady_4 : decode cX4_countReady 4 = .ok (.iload_n 2, 1) := by decide +kernel
theorem dX4_countReady_5 : decode cX4_countReady 5 = .ok (.aload_n 0, 1) := by decide +kernel
theorem dX4_countReady_6 : decode cX4_countReady 6 = .ok (.getfield 9, 3) := by decide +kernel
theorem dX4_countReady_9 : decode cX4_countReady 9 = .ok (.if_icmp .ge 21, 3) := by decide +kernel
theorem dX4_countReady_12 : decode cX4_countReady 12 = .ok (.aload_n 0, 1) := by decide +kernel
theorem dX4_countReady_13 : decode cX4_countReady 13 = .ok (.getfield 34, 3) := by decide +kernel
theorem dX4_countReady_16 : decode cX4_countReady 16 = .ok (.iload_n 2, 1) := by decide +kernel
theorem dX4_countReady_17 : decode cX4_countReady 17 = .ok (.baload, 1) := by decide +kernel
theorem dX4_countReady_18 : decode cX4_countReady 18 = .ok (.ifCond .eq 6, 3) := by decide +kernel
theorem dX4_countReady_21 : decode cX4_countReady 21 = .ok (.iinc 1 1, 3) := by decide +kernel
theorem dX4_countReady_24 : decode cX4_countReady 24 = .ok (.iinc 2 1, 3) := by decide +kernel
theorem dX4_countReady_27 : decode cX4_countReady 27 = .ok (.goto (-23), 3) := by decide +kernel
theorem dX4_countReady_30 : decode cX4_countReady 30 = .ok (.iload_n 1, 1) := by decide +kernel
theorem dX4_countReady_31 : decode cX4_countReady 31 = .ok (.ireturn, 1) := by decide +kernel
theorem dX5_init_0 : decode cX5_init 0 = .ok (.aload_n 0, 1) := by decide +kernel
theorem dX5_init_1 : decode cX5_init 1 = .ok (.invokespecial 5, 3) := by decide +kernel
theorem dX5_init_4 : decode cX5_init 4 = .ok (.aload_n 0, 1) := by decide +kernel
theorem dX5_init_5 : decode cX5_init 5 = .ok (.bipush 8, 2) := by decide +kernel
theorem dX5_init_7 : decode cX5_init 7 = .ok (.newarray .int, 2) := by decide +kernel
theorem dX5_init_9 : decode cX5_init 9 = .ok (.putfield 11, 3) := by decide +kernel
theorem dX5_init_12 : decode cX5_init 12 = .ok (.aload_n 0, 1) := by decide +kernel
theorem dX5_init_13 : decode cX5_init 13 = .ok (.sipush 1024, 3) := by decide +kernel
theorem dX5_init_16 : decode cX5_init 16 = .ok (.newarray .int, 2) := by decide +kernel
theorem dX5_init_18 : decode cX5_init 18 = .ok (.putfield 15, 3) := by decide +kernel
theorem dX5_init_21 : decode cX5_init 21 = .ok (.aload_n 0, 1) := by decide +kernel
theorem dX5_init_22 : decode cX5_init 22 = .ok (.sipush 1024, 3) := by decide +kernel
theorem dX5_init_25 : decode cX5_init 25 = .ok (.newarray .int, 2) := by decide +kernel
theorem dX5_init_27 : decode cX5_init 27 = .ok (.putfield 18, 3) := by decide +kernel
theorem dX5_init_30 : decode cX5_init 30 = .ok (.aload_n 0, 1) := by decide +kernel
theorem dX5_init_31 : decode cX5_init 31 = .ok (.sipush 8192, 3) := by decide +kernel
theorem dX5_init_34 : decode cX5_init 34 = .ok (.newarray .int, 2) := by decide +kernel
theorem dX5_init_36 : decode cX5_init 36 = .ok (.putfield 21, 3) := by decide +kernel
theorem dX5_init_39 : decode cX5_init 39 = .ok (.aload_n 0, 1) := by decide +kernel
theorem dX5_init_40 : decode cX5_init 40 = .ok (.iconst 0, 1) := by decide +kernel
theorem dX5_init_41 : decode cX5_init 41 = .ok (.putfield 24, 3) := by decide +kernel
theorem dX5_init_44 : decode cX5_init 44 = .ok (.aload_n 0, 1) := by decide +kernel
theorem dX5_init_45 : decode cX5_init 45 = .ok (.iconst 0, 1) := by decide +kernel
theorem dX5_init_46 : decode cX5_init 46 = .ok (.putfield 28, 3) := by decide +kernel
theorem dX5_init_49 : decode cX5_init 49 = .ok (.aload_n 0, 1) := by decide +kernel
theorem dX5_init_50 : decode cX5_init 50 = .ok (.bipush 8, 2) := by decide +kernel
theorem dX5_init_52 : decode cX5_init 52 = .ok (.newarray .int, 2) := by decide +kernel
theorem dX5_init_54 : decode cX5_init 54 = .ok (.putfield 31, 3) := by decide +kernel
theorem dX5_init_57 : decode cX5_init 57 = .ok (.return_, 1) := by decide +kernel
theorem dX5_setDue_0 : decode cX5_setDue 0 = .ok (.iload_n 1, 1) := by decide +kernel
theorem dX5_setDue_1 : decode cX5_setDue 1 = .ok (.iconst 0, 1) := by decide +kernel
theorem dX5_setDue_2 : decode cX5_setDue 2 = .ok (.bipush 7, 2) := by decide +kernel
theorem dX5_setDue_4 : decode cX5_setDue 4 = .ok (.invokestatic 34, 3) := by decide +kernel
theorem dX5_setDue_7 : decode cX5_setDue 7 = .ok (.ifCond .eq 10, 3) := by decide +kernel
theorem dX5_setDue_10 : decode cX5_setDue 10 = .ok (.aload_n 0, 1) := by decide +kernel
theorem dX5_setDue_11 : decode cX5_setDue 11 = .ok (.getfield 11, 3) := by decide +kernel
theorem dX5_setDue_14 : decode cX5_setDue 14 = .ok (.iload_n 1, 1) := by decide +kernel
theorem dX5_setDue_15 : decode cX5_setDue 15 = .ok (.iload_n 2, 1) := by decide +kernel
theorem dX5_setDue_16 : decode cX5_setDue 16 = .ok (.iastore, 1) := by decide +kernel
theorem dX5_setDue_17 : decode cX5_setDue 17 = .ok (.return_, 1) := by decide +kernel
theorem dX5_find_0 : decode cX5_find 0 = .ok (.iload_n 1, 1) := by decide +kernel
theorem dX5_find_1 : decode cX5_find 1 = .ok (.bipush 8, 2) := by decide +kernel
theorem dX5_find_3 : decode cX5_find 3 = .ok (.invokestatic 38, 3) := by decide +kernel
theorem dX5_find_6 : decode cX5_find 6 = .ok (.istore_n 3, 1) := by decide +kernel
theorem dX5_find_7 : decode cX5_find 7 = .ok (.iconst 1, 1) := by decide +kernel
theorem dX5_find_8 : decode cX5_find 8 = .ok (.aload_n 2, 1) := by decide +kernel
theorem dX5_find_9 : decode cX5_find 9 = .ok (.getfield 44, 3) := by decide +kernel
theorem dX5_find_12 : decode cX5_find 12 = .ok (.ishl, 1) := by decide +kernel
theorem dX5_find_13 : decode cX5_find 13 = .ok (.iconst 1, 1) := by decide +kernel
theorem dX5_find_14 : decode cX5_find 14 = .ok (.isub, 1) := by decide +kernel
theorem dX5_find_15 : decode cX5_find 15 = .ok (.istore 4, 2) := by decide +kernel
theorem dX5_find_17 : decode cX5_find 17 = .ok (.aload_n 0, 1) := by decide +kernel
theorem dX5_find_18 : decode cX5_find 18 = .ok (.aload_n 2, 1) := by decide +kernel
theorem dX5_find_19 : decode cX5_find 19 = .ok (.invokevirtual 49, 3) := by decide +kernel
theorem dX5_find_22 : decode cX5_find 22 = .ok (.aload_n 0, 1) := by decide +kernel
theorem dX5_find_23 : decode cX5_find 23 = .ok (.iload_n 3, 1) := by decide +kernel
theorem dX5_find_24 : decode cX5_find 24 = .ok (.iconst 1, 1) := by decide +kernel
theorem dX5_find_25 : decode cX5_find 25 = .ok (.isub, 1) := by decide +kernel
theorem dX5_find_26 : decode cX5_find 26 = .ok (.invokevirtual 53, 3) := by decide +kernel
theorem dX5_find_29 : decode cX5_find 29 = .ok (.iload_n 3, 1) := by decide +kernel
theorem dX5_find_30 : decode cX5_find 30 = .ok (.iconst 1, 1) := by decide +kernel
theorem dX5_find_31 : decode cX5_find 31 = .ok (.isub, 1) := by decide +kernel
theorem dX5_find_32 : decode cX5_find 32 = .ok (.istore 5, 2) := by decide +kernel
theorem dX5_find_34 : decode cX5_find 34 = .ok (.iload 5, 2) := by decide +kernel
theorem dX5_find_36 : decode cX5_find 36 = .ok (.ifCond .le 17, 3) := by decide +kernel
theorem dX5_find_39 : decode cX5_find 39 = .ok (.aload_n 0, 1) := by decide +kernel
theorem dX5_find_40 : decode cX5_find 40 = .ok (.iload 5, 2) := by decide +kernel
theorem dX5_find_42 : decode cX5_find 42 = .ok (.iload 4, 2) := by decide +kernel
theorem dX5_find_44 : decode cX5_find 44 = .ok (.invokevirtual 57, 3) := by decide +kernel
theorem dX5_find_47 : decode cX5_find 47 = .ok (.iinc 5 (-1), 3) := by decide +kernel
theorem dX5_find_50 : decode cX5_find 50 = .ok (.goto (-16), 3) := by decide +kernel
theorem dX5_find_53 : decode cX5_find 53 = .ok (.aload_n 0, 1) := by decide +kernel
theorem dX5_find_54 : decode cX5_find 54 = .ok (.iconst 0, 1) := by decide +kernel
theorem dX5_find_55 : decode cX5_find 55 = .ok (.putfield 24, 3) := by decide +kernel
theorem dX5_find_58 : decode cX5_find 58 = .ok (.iload 4, 2) := by decide +kernel
theorem dX5_find_60 : decode cX5_find 60 = .ok (.istore 5, 2) := by decide +kernel
theorem dX5_find_62 : decode cX5_find 62 = .ok (.iconst 0, 1) := by decide +kernel
theorem dX5_find_63 : decode cX5_find 63 = .ok (.istore 6, 2) := by decide +kernel
theorem dX5_find_65 : decode cX5_find 65 = .ok (.iload 6, 2) := by decide +kernel
theorem dX5_find_67 : decode cX5_find 67 = .ok (.iload_n 3, 1) := by decide +kernel
theorem dX5_find_68 : decode cX5_find 68 = .ok (.if_icmp .ge 85, 3) := by decide +kernel
theorem dX5_find_71 : decode cX5_find 71 = .ok (.aload_n 0, 1) := by decide +kernel
theorem dX5_find_72 : decode cX5_find 72 = .ok (.getfield 31, 3) := by decide +kernel
theorem dX5_find_75 : decode cX5_find 75 = .ok (.iload 6, 2) := by decide +kernel
theorem dX5_find_77 : decode cX5_find 77 = .ok (.aload_n 0, 1) := by decide +kernel
theorem dX5_find_78 : decode cX5_find 78 = .ok (.getfield 11, 3) := by decide +kernel
theorem dX5_find_81 : decode cX5_find 81 = .ok (.iload 6, 2) := by decide +kernel
theorem dX5_find_83 : decode cX5_find 83 = .ok (.iaload, 1) := by decide +kernel
theorem dX5_find_84 : decode cX5_find 84 = .ok (.ifCond .ne 7, 3) := by decide +kernel
theorem dX5_find_87 : decode cX5_find 87 = .ok (.iconst 0, 1) := by decide +kernel
theorem dX5_find_88 : decode cX5_find 88 = .ok (.goto 11, 3) := by decide +kernel
theorem dX5_find_91 : decode cX5_find 91 = .ok (.aload_n 0, 1) := by decide +kernel
theorem dX5_find_92 : decode cX5_find 92 = .ok (.iload 6, 2) := by decide +kernel
theorem dX5_find_94 : decode cX5_find 94 = .ok (.iload 5, 2) := by decide +kernel
theorem dX5_find_96 : decode cX5_find 96 = .ok (.invokevirtual 61, 3) := by decide +kernel
theorem dX5_find_99 : decode cX5_find 99 = .ok (.iastore, 1) := by decide +kernel
theorem dX5_find_100 : decode cX5_find 100 = .ok (.iload 5, 2) := by decide +kernel
theorem dX5_find_102 : decode cX5_find 102 = .ok (.aload_n 0, 1) := by decide +kernel
theorem dX5_find_103 : decode cX5_find 103 = .ok (.getfield 31, 3) := by decide +kernel
theorem dX5_find_106 : decode cX5_find 106 = .ok (.iload 6, 2) := by decide +kernel
theorem dX5_find_108 : decode cX5_find 108 = .ok (.iaload, 1) := by decide +kernel
theorem dX5_find_109 : decode cX5_find 109 = .ok (.iconst (-1), 1) := by decide +kernel
theorem dX5_find_110 : decode cX5_find 110 = .ok (.ixor, 1) := by decide +kernel
theorem dX5_find_111 : decode cX5_find 111 = .ok (.iand, 1) := by decide +kernel
theorem dX5_find_112 : decode cX5_find 112 = .ok (.istore 5, 2) := by decide +kernel
theorem dX5_find_114 : decode cX5_find 114 = .ok (.aload_n 0, 1) := by decide +kernel
theorem dX5_find_115 : decode cX5_find 115 = .ok (.getfield 11, 3) := by decide +kernel
theorem dX5_find_118 : decode cX5_find 118 = .ok (.iload 6, 2) := by decide +kernel
theorem dX5_find_120 : decode cX5_find 120 = .ok (.iaload, 1) := by decide +kernel
theorem dX5_find_121 : decode cX5_find 121 = .ok (.ifCond .eq 13, 3) := by decide +kernel
theorem dX5_find_124 : decode cX5_find 124 = .ok (.aload_n 0, 1) := by decide +kernel
theorem dX5_find_125 : decode cX5_find 125 = .ok (.getfield 31, 3) := by decide +kernel
theorem dX5_find_128 : decode cX5_find 128 = .ok (.iload 6, 2) := by decide +kernel
theorem dX5_find_130 : decode cX5_find 130 = .ok (.iaload, 1) := by decide +kernel
theorem dX5_find_131 : decode cX5_find 131 = .ok (.ifCond .eq 16, 3) := by decide +kernel
theorem dX5_find_134 : decode cX5_find 134 = .ok (.aload_n 0, 1) := by decide +kernel
theorem dX5_find_135 : decode cX5_find 135 = .ok (.dup, 1) := by decide +kernel
theorem dX5_find_136 : decode cX5_find 136 = .ok (.getfield 24, 3) := by decide +kernel
theorem dX5_find_139 : decode cX5_find 139 = .ok (.iconst 1, 1) := by decide +kernel
theorem dX5_find_140 : decode cX5_find 140 = .ok (.iload 6, 2) := by decide +kernel
theorem dX5_find_142 : decode cX5_find 142 = .ok (.ishl, 1) := by decide +kernel
theorem dX5_find_143 : decode cX5_find 143 = .ok (.ior, 1) := by decide +kernel
theorem dX5_find_144 : decode cX5_find 144 = .ok (.putfield 24, 3) := by decide +kernel
theorem dX5_find_147 : decode cX5_find 147 = .ok (.iinc 6 1, 3) := by decide +kernel
theorem dX5_find_150 : decode cX5_find 150 = .ok (.goto (-85), 3) := by decide +kernel
theorem dX5_find_153 : decode cX5_find 153 = .ok (.aload_n 0, 1) := by decide +kernel
theorem dX5_find_154 : decode cX5_find 154 = .ok (.aload_n 0, 1) := by decide +kernel
theorem dX5_find_155 : decode cX5_find 155 = .ok (.getfield 15, 3) := by decide +kernel
theorem dX5_find_158 : decode cX5_find 158 = .ok (.iload 4, 2) := by decide +kernel
theorem dX5_find_160 : decode cX5_find 160 = .ok (.iload 5, 2) := by decide +kernel
theorem dX5_find_162 : decode cX5_find 162 = .ok (.iconst (-1), 1) := by decide +kernel
theorem dX5_find_163 : decode cX5_find 163 = .ok (.ixor, 1) := by decide +kernel
theorem dX5_find_164 : decode cX5_find 164 = .ok (.iand, 1) := by decide +kernel
theorem dX5_find_165 : decode cX5_find 165 = .ok (.iaload, 1) := by decide +kernel
theorem dX5_find_166 : decode cX5_find 166 = .ok (.putfield 28, 3) := by decide +kernel
theorem dX5_find_169 : decode cX5_find 169 = .ok (.return_, 1) := by decide +kernel
theorem dX5_weighSets_0 : decode cX5_weighSets 0 = .ok (.iconst 0, 1) := by decide +kernel
theorem dX5_weighSets_1 : decode cX5_weighSets 1 = .ok (.istore_n 2, 1) := by decide +kernel
theorem dX5_weighSets_2 : decode cX5_weighSets 2 = .ok (.iload_n 2, 1) := by decide +kernel
theorem dX5_weighSets_3 : decode cX5_weighSets 3 = .ok (.aload_n 1, 1) := by decide +kernel
theorem dX5_weighSets_4 : decode cX5_weighSets 4 = .ok (.getfield 44, 3) := by decide +kernel
theorem dX5_weighSets_7 : decode cX5_weighSets 7 = .ok (.if_icmp .ge 115, 3) := by decide +kernel
theorem dX5_weighSets_10 : decode cX5_weighSets 10 = .ok (.aload_n 1, 1) := by decide +kernel
theorem dX5_weighSets_11 : decode cX5_weighSets 11 = .ok (.getfield 64, 3) := by decide +kernel
theorem dX5_weighSets_14 : decode cX5_weighSets 14 = .ok (.iload_n 2, 1) := by decide +kernel
theorem dX5_weighSets_15 : decode cX5_weighSets 15 = .ok (.iaload, 1) := by decide +kernel
theorem dX5_weighSets_16 : decode cX5_weighSets 16 = .ok (.istore_n 3, 1) := by decide +kernel
theorem dX5_weighSets_17 : decode cX5_weighSets 17 = .ok (.iconst 1, 1) := by decide +kernel
theorem dX5_weighSets_18 : decode cX5_weighSets 18 = .ok (.iload_n 2, 1) := by decide +kernel
theorem dX5_weighSets_19 : decode cX5_weighSets 19 = .ok (.ishl, 1) := by decide +kernel
theorem dX5_weighSets_20 : decode cX5_weighSets 20 = .ok (.istore 4, 2) := by decide +kernel
theorem dX5_weighSets_22 : decode cX5_weighSets 22 = .ok (.aload_n 0, 1) := by decide +kernel
theorem dX5_weighSets_23 : decode cX5_weighSets 23 = .ok (.getfield 15, 3) := by decide +kernel
theorem dX5_weighSets_26 : decode cX5_weighSets 26 = .ok (.iload 4, 2) := by decide +kernel
theorem dX5_weighSets_28 : decode cX5_weighSets 28 = .ok (.iload_n 3, 1) := by decide +kernel
theorem dX5_weighSets_29 : decode cX5_weighSets 29 = .ok (.iastore, 1) := by decide +kernel
theorem dX5_weighSets_30 : decode cX5_weighSets 30 = .ok (.aload_n 0, 1) := by decide +kernel
theorem dX5_weighSets_31 : decode cX5_weighSets 31 = .ok (.getfield 18, 3) := by decide +kernel
theorem dX5_weighSets_34 : decode cX5_weighSets 34 = .ok (.iload 4, 2) := by decide +kernel
theorem dX5_weighSets_36 : decode cX5_weighSets 36 = .ok (.iconst 0, 1) := by decide +kernel
theorem dX5_weighSets_37 : decode cX5_weighSets 37 = .ok (.iastore, 1) := by decide +kernel
theorem dX5_weighSets_38 : decode cX5_weighSets 38 = .ok (.iconst 1, 1) := by decide +kernel
theorem dX5_weighSets_39 : decode cX5_weighSets 39 = .ok (.istore 5, 2) := by decide +kernel
theorem dX5_weighSets_41 : decode cX5_weighSets 41 = .ok (.iload 5, 2) := by decide +kernel
theorem dX5_weighSets_43 : decode cX5_weighSets 43 = .ok (.iload 4, 2) := by decide +kernel
theorem dX5_weighSets_45 : decode cX5_weighSets 45 = .ok (.if_icmp .ge 71, 3) := by decide +kernel
theorem dX5_weighSets_48 : decode cX5_weighSets 48 = .ok (.iload_n 3, 1) := by decide +kernel
theorem dX5_weighSets_49 : decode cX5_weighSets 49 = .ok (.aload_n 0, 1) := by decide +kernel
theorem dX5_weighSets_50 : decode cX5_weighSets 50 = .ok (.getfield 15, 3) := by decide +kernel
theorem dX5_weighSets_53 : decode cX5_weighSets 53 = .ok (.iload 5, 2) := by decide +kernel
theorem dX5_weighSets_55 : decode cX5_weighSets 55 = .ok (.iaload, 1) := by decide +kernel
theorem dX5_weighSets_56 : decode cX5_weighSets 56 = .ok (.aload_n 0, 1) := by decide +kernel
theorem dX5_weighSets_57 : decode cX5_weighSets 57 = .ok (.getfield 18, 3) := by decide +kernel
theorem dX5_weighSets_60 : decode cX5_weighSets 60 = .ok (.iload 5, 2) := by decide +kernel
theorem dX5_weighSets_62 : decode cX5_weighSets 62 = .ok (.iaload, 1) := by decide +kernel
theorem dX5_weighSets_63 : decode cX5_weighSets 63 = .ok (.isub, 1) := by decide +kernel
theorem dX5_weighSets_64 : decode cX5_weighSets 64 = .ok (.invokestatic 38, 3) := by decide +kernel
theorem dX5_weighSets_67 : decode cX5_weighSets 67 = .ok (.istore 6, 2) := by decide +kernel
theorem dX5_weighSets_69 : decode cX5_weighSets 69 = .ok (.aload_n 0, 1) := by decide +kernel
theorem dX5_weighSets_70 : decode cX5_weighSets 70 = .ok (.getfield 15, 3) := by decide +kernel
theorem dX5_weighSets_73 : decode cX5_weighSets 73 = .ok (.iload 4, 2) := by decide +kernel
theorem dX5_weighSets_75 : decode cX5_weighSets 75 = .ok (.iload 5, 2) := by decide +kernel
theorem dX5_weighSets_77 : decode cX5_weighSets 77 = .ok (.iadd, 1) := by decide +kernel
theorem dX5_weighSets_78 : decode cX5_weighSets 78 = .ok (.aload_n 0, 1) := by decide +kernel
theorem dX5_weighSets_79 : decode cX5_weighSets 79 = .ok (.getfield 15, 3) := by decide +kernel
theorem dX5_weighSets_82 : decode cX5_weighSets 82 = .ok (.iload 5, 2) := by decide +kernel
theorem dX5_weighSets_84 : decode cX5_weighSets 84 = .ok (.iaload, 1) := by decide +kernel
theorem dX5_weighSets_85 : decode cX5_weighSets 85 = .ok (.iload_n 3, 1) := by decide +kernel
theorem dX5_weighSets_86 : decode cX5_weighSets 86 = .ok (.iadd, 1) := by decide +kernel
theorem dX5_weighSets_87 : decode cX5_weighSets 87 = .ok (.iastore, 1) := by decide +kernel
theorem dX5_weighSets_88 : decode cX5_weighSets 88 = .ok (.aload_n 0, 1) := by decide +kernel
theorem dX5_weighSets_89 : decode cX5_weighSets 89 = .ok (.getfield 18, 3) := by decide +kernel
theorem dX5_weighSets_92 : decode cX5_weighSets 92 = .ok (.iload 4, 2) := by decide +kernel
theorem dX5_weighSets_94 : decode cX5_weighSets 94 = .ok (.iload 5, 2) := by decide +kernel
theorem dX5_weighSets_96 : decode cX5_weighSets 96 = .ok (.iadd, 1) := by decide +kernel
theorem dX5_weighSets_97 : decode cX5_weighSets 97 = .ok (.aload_n 0, 1) := by decide +kernel
theorem dX5_weighSets_98 : decode cX5_weighSets 98 = .ok (.getfield 15, 3) := by decide +kernel
theorem dX5_weighSets_101 : decode cX5_weighSets 101 = .ok (.iload 5, 2) := by decide +kernel
theorem dX5_weighSets_103 : decode cX5_weighSets 103 = .ok (.iaload, 1) := by decide +kernel
theorem dX5_weighSets_104 : decode cX5_weighSets 104 = .ok (.iload_n 3, 1) := by decide +kernel
theorem dX5_weighSets_105 : decode cX5_weighSets 105 = .ok (.iadd, 1) := by decide +kernel
theorem dX5_weighSets_106 : decode cX5_weighSets 106 = .ok (.iload 6, 2) := by decide +kernel
theorem dX5_weighSets_108 : decode cX5_weighSets 108 = .ok (.isub, 1) := by decide +kernel
theorem dX5_weighSets_109 : decode cX5_weighSets 109 = .ok (.iastore, 1) := by decide +kernel
theorem dX5_weighSets_110 : decode cX5_weighSets 110 = .ok (.iinc 5 1, 3) := by decide +kernel
theorem dX5_weighSets_113 : decode cX5_weighSets 113 = .ok (.goto (-72), 3) := by decide +kernel
theorem dX5_weighSets_116 : decode cX5_weighSets 116 = .ok (.iinc 2 1, 3) := by decide +kernel
theorem dX5_weighSets_119 : decode cX5_weighSets 119 = .ok (.goto (-117), 3) := by decide +kernel
theorem dX5_weighSets_122 : decode cX5_weighSets 122 = .ok (.return_, 1) := by decide +kernel
theorem dX5_rankNobodyBehind_0 : decode cX5_rankNobodyBehind 0 = .ok (.iload_n 1, 1) := by decide +kernel
theorem dX5_rankNobodyBehind_1 : decode cX5_rankNobodyBehind 1 = .ok (.iconst 0, 1) := by decide +kernel
theorem dX5_rankNobodyBehind_2 : decode cX5_rankNobodyBehind 2 = .ok (.bipush 7, 2) := by decide +kernel
theorem dX5_rankNobodyBehind_4 : decode cX5_rankNobodyBehind 4 = .ok (.invokestatic 34, 3) := by decide +kernel
theorem dX5_rankNobodyBehind_7 : decode cX5_rankNobodyBehind 7 = .ok (.ifCond .ne 4, 3) := by decide +kernel
theorem dX5_rankNobodyBehind_10 : decode cX5_rankNobodyBehind 10 = .ok (.return_, 1) := by decide +kernel
theorem dX5_rankNobodyBehind_11 : decode cX5_rankNobodyBehind 11 = .ok (.iconst 0, 1) := by decide +kernel
theorem dX5_rankNobodyBehind_12 : decode cX5_rankNobodyBehind 12 = .ok (.istore_n 2, 1) := by decide +kernel
theorem dX5_rankNobodyBehind_13 : decode cX5_rankNobodyBehind 13 = .ok (.iload_n 2, 1) := by decide +kernel
theorem dX5_rankNobodyBehind_14 : decode cX5_rankNobodyBehind 14 = .ok (.sipush 1024, 3) := by decide +kernel
theorem dX5_rankNobodyBehind_17 : decode cX5_rankNobodyBehind 17 = .ok (.if_icmp .ge 22, 3) := by decide +kernel
theorem dX5_rankNobodyBehind_20 : decode cX5_rankNobodyBehind 20 = .ok (.aload_n 0, 1) := by decide +kernel
theorem dX5_rankNobodyBehind_21 : decode cX5_rankNobodyBehind 21 = .ok (.getfield 21, 3) := by decide +kernel
theorem dX5_rankNobodyBehind_24 : decode cX5_rankNobodyBehind 24 = .ok (.iload_n 1, 1) := by decide +kernel
theorem dX5_rankNobodyBehind_25 : decode cX5_rankNobodyBehind 25 = .ok (.sipush 1024, 3) := by decide +kernel
theorem dX5_rankNobodyBehind_28 : decode cX5_rankNobodyBehind 28 = .ok (.imul, 1) := by decide +kernel
theorem dX5_rankNobodyBehind_29 : decode cX5_rankNobodyBehind 29 = .ok (.iload_n 2, 1) := by decide +kernel
theorem dX5_rankNobodyBehind_30 : decode cX5_rankNobodyBehind 30 = .ok (.iadd, 1) := by decide +kernel
theorem dX5_rankNobodyBehind_31 : decode cX5_rankNobodyBehind 31 = .ok (.iconst 0, 1) := by decide +kernel
theorem dX5_rankNobodyBehind_32 : decode cX5_rankNobodyBehind 32 = .ok (.iastore, 1) := by decide +kernel
theorem dX5_rankNobodyBehind_33 : decode cX5_rankNobodyBehind 33 = .ok (.iinc 2 1, 3) := by decide +kernel
theorem dX5_rankNobodyBehind_36 : decode cX5_rankNobodyBehind 36 = .ok (.goto (-23), 3) := by decide +kernel
theorem dX5_rankNobodyBehind_39 : decode cX5_rankNobodyBehind 39 = .ok (.return_, 1) := by decide +kernel
theorem dX5_rankWith_0 : decode cX5_rankWith 0 = .ok (.iload_n 1, 1) := by decide +kernel
theorem dX5_rankWith_1 : decode cX5_rankWith 1 = .ok (.sipush 1024, 3) := by decide +kernel
theorem dX5_rankWith_4 : decode cX5_rankWith 4 = .ok (.imul, 1) := by decide +kernel
theorem dX5_rankWith_5 : decode cX5_rankWith 5 = .ok (.istore_n 3, 1) := by decide +kernel
theorem dX5_rankWith_6 : decode cX5_rankWith 6 = .ok (.aload_n 0, 1) := by decide +kernel
theorem dX5_rankWith_7 : decode cX5_rankWith 7 = .ok (.getfield 21, 3) := by decide +kernel
theorem dX5_rankWith_10 : decode cX5_rankWith 10 = .ok (.iload_n 3, 1) := by decide +kernel
theorem dX5_rankWith_11 : decode cX5_rankWith 11 = .ok (.aload_n 0, 1) := by decide +kernel
theorem dX5_rankWith_12 : decode cX5_rankWith 12 = .ok (.getfield 21, 3) := by decide +kernel
theorem dX5_rankWith_15 : decode cX5_rankWith 15 = .ok (.iload_n 3, 1) := by decide +kernel
theorem dX5_rankWith_16 : decode cX5_rankWith 16 = .ok (.sipush 1024, 3) := by decide +kernel
theorem dX5_rankWith_19 : decode cX5_rankWith 19 = .ok (.isub, 1) := by decide +kernel
theorem dX5_rankWith_20 : decode cX5_rankWith 20 = .ok (.iload_n 2, 1) := by decide +kernel
theorem dX5_rankWith_21 : decode cX5_rankWith 21 = .ok (.iconst 1, 1) := by decide +kernel
theorem dX5_rankWith_22 : decode cX5_rankWith 22 = .ok (.iadd, 1) := by decide +kernel
theorem dX5_rankWith_23 : decode cX5_rankWith 23 = .ok (.invokestatic 67, 3) := by decide +kernel
theorem dX5_rankWith_26 : decode cX5_rankWith 26 = .ok (.aload_n 0, 1) := by decide +kernel
theorem dX5_rankWith_27 : decode cX5_rankWith 27 = .ok (.getfield 11, 3) := by decide +kernel
theorem dX5_rankWith_30 : decode cX5_rankWith 30 = .ok (.iload_n 1, 1) := by decide +kernel
theorem dX5_rankWith_31 : decode cX5_rankWith 31 = .ok (.iaload, 1) := by decide +kernel
theorem dX5_rankWith_32 : decode cX5_rankWith 32 = .ok (.ifCond .ne 4, 3) := by decide +kernel
theorem dX5_rankWith_35 : decode cX5_rankWith 35 = .ok (.return_, 1) := by decide +kernel
theorem dX5_rankWith_36 : decode cX5_rankWith 36 = .ok (.iconst 1, 1) := by decide +kernel
theorem dX5_rankWith_37 : decode cX5_rankWith 37 = .ok (.istore 4, 2) := by decide +kernel
theorem dX5_rankWith_39 : decode cX5_rankWith 39 = .ok (.iload 4, 2) := by decide +kernel
theorem dX5_rankWith_41 : decode cX5_rankWith 41 = .ok (.iload_n 2, 1) := by decide +kernel
theorem dX5_rankWith_42 : decode cX5_rankWith 42 = .ok (.if_icmp .gt 37, 3) := by decide +kernel
theorem dX5_rankWith_45 : decode cX5_rankWith 45 = .ok (.aload_n 0, 1) := by decide +kernel
theorem dX5_rankWith_46 : decode cX5_rankWith 46 = .ok (.iload 4, 2) := by decide +kernel
theorem dX5_rankWith_48 : decode cX5_rankWith 48 = .ok (.aload_n 0, 1) := by decide +kernel
theorem dX5_rankWith_49 : decode cX5_rankWith 49 = .ok (.getfield 11, 3) := by decide +kernel
theorem dX5_rankWith_52 : decode cX5_rankWith 52 = .ok (.iload_n 1, 1) := by decide +kernel
theorem dX5_rankWith_53 : decode cX5_rankWith 53 = .ok (.iaload, 1) := by decide +kernel
theorem dX5_rankWith_54 : decode cX5_rankWith 54 = .ok (.invokevirtual 73, 3) := by decide +kernel
theorem dX5_rankWith_57 : decode cX5_rankWith 57 = .ok (.ifCond .eq 16, 3) := by decide +kernel
theorem dX5_rankWith_60 : decode cX5_rankWith 60 = .ok (.aload_n 0, 1) := by decide +kernel
theorem dX5_rankWith_61 : decode cX5_rankWith 61 = .ok (.iload_n 1, 1) := by decide +kernel
theorem dX5_rankWith_62 : decode cX5_rankWith 62 = .ok (.iload 4, 2) := by decide +kernel
theorem dX5_rankWith_64 : decode cX5_rankWith 64 = .ok (.iload_n 2, 1) := by decide +kernel
theorem dX5_rankWith_65 : decode cX5_rankWith 65 = .ok (.iload 4, 2) := by decide +kernel
theorem dX5_rankWith_67 : decode cX5_rankWith 67 = .ok (.iconst (-1), 1) := by decide +kernel
theorem dX5_rankWith_68 : decode cX5_rankWith 68 = .ok (.ixor, 1) := by decide +kernel
theorem dX5_rankWith_69 : decode cX5_rankWith 69 = .ok (.iand, 1) := by decide +kernel
theorem dX5_rankWith_70 : decode cX5_rankWith 70 = .ok (.invokevirtual 77, 3) := by decide +kernel
theorem dX5_rankWith_73 : decode cX5_rankWith 73 = .ok (.iinc 4 1, 3) := by decide +kernel
theorem dX5_rankWith_76 : decode cX5_rankWith 76 = .ok (.goto (-37), 3) := by decide +kernel
theorem dX5_rankWith_79 : decode cX5_rankWith 79 = .ok (.return_, 1) := by decide +kernel
theorem dX5_rankWithSet_0 : decode cX5_rankWithSet 0 = .ok (.aload_n 0, 1) := by decide +kernel
theorem dX5_rankWithSet_1 : decode cX5_rankWithSet 1 = .ok (.iload_n 1, 1) := by decide +kernel
theorem dX5_rankWithSet_2 : decode cX5_rankWithSet 2 = .ok (.iload_n 2, 1) := by decide +kernel
theorem dX5_rankWithSet_3 : decode cX5_rankWithSet 3 = .ok (.invokevirtual 81, 3) := by decide +kernel
theorem dX5_rankWithSet_6 : decode cX5_rankWithSet 6 = .ok (.istore 4, 2) := by decide +kernel
theorem dX5_rankWithSet_8 : decode cX5_rankWithSet 8 = .ok (.iload_n 1, 1) := by decide +kernel
theorem dX5_rankWithSet_9 : decode cX5_rankWithSet 9 = .ok (.sipush 1024, 3) := by decide +kernel
theorem dX5_rankWithSet_12 : decode cX5_rankWithSet 12 = .ok (.imul, 1) := by decide +kernel
theorem dX5_rankWithSet_13 : decode cX5_rankWithSet 13 = .ok (.istore 5, 2) := by decide +kernel
theorem dX5_rankWithSet_15 : decode cX5_rankWithSet 15 = .ok (.iload 5, 2) := by decide +kernel
theorem dX5_rankWithSet_17 : decode cX5_rankWithSet 17 = .ok (.sipush 1024, 3) := by decide +kernel
theorem dX5_rankWithSet_20 : decode cX5_rankWithSet 20 = .ok (.isub, 1) := by decide +kernel
theorem dX5_rankWithSet_21 : decode cX5_rankWithSet 21 = .ok (.iload_n 2, 1) := by decide +kernel
theorem dX5_rankWithSet_22 : decode cX5_rankWithSet 22 = .ok (.iadd, 1) := by decide +kernel
theorem dX5_rankWithSet_23 : decode cX5_rankWithSet 23 = .ok (.istore 6, 2) := by decide +kernel
theorem dX5_rankWithSet_25 : decode cX5_rankWithSet 25 = .ok (.iload_n 3, 1) := by decide +kernel
theorem dX5_rankWithSet_26 : decode cX5_rankWithSet 26 = .ok (.istore 7, 2) := by decide +kernel
theorem dX5_rankWithSet_28 : decode cX5_rankWithSet 28 = .ok (.iconst 0, 1) := by decide +kernel
theorem dX5_rankWithSet_29 : decode cX5_rankWithSet 29 = .ok (.istore 8, 2) := by decide +kernel
theorem dX5_rankWithSet_31 : decode cX5_rankWithSet 31 = .ok (.iload 8, 2) := by decide +kernel
theorem dX5_rankWithSet_33 : decode cX5_rankWithSet 33 = .ok (.sipush 1024, 3) := by decide +kernel
theorem dX5_rankWithSet_36 : decode cX5_rankWithSet 36 = .ok (.if_icmp .ge 67, 3) := by decide +kernel
theorem dX5_rankWithSet_39 : decode cX5_rankWithSet 39 = .ok (.iload 7, 2) := by decide +kernel
theorem dX5_rankWithSet_41 : decode cX5_rankWithSet 41 = .ok (.ifCond .lt 62, 3) := by decide +kernel
theorem dX5_rankWithSet_44 : decode cX5_rankWithSet 44 = .ok (.aload_n 0, 1) := by decide +kernel
theorem dX5_rankWithSet_45 : decode cX5_rankWithSet 45 = .ok (.getfield 21, 3) := by decide +kernel
theorem dX5_rankWithSet_48 : decode cX5_rankWithSet 48 = .ok (.iload 6, 2) := by decide +kernel
theorem dX5_rankWithSet_50 : decode cX5_rankWithSet 50 = .ok (.iload 7, 2) := by decide +kernel
theorem dX5_rankWithSet_52 : decode cX5_rankWithSet 52 = .ok (.iadd, 1) := by decide +kernel
theorem dX5_rankWithSet_53 : decode cX5_rankWithSet 53 = .ok (.aload_n 0, 1) := by decide +kernel
theorem dX5_rankWithSet_54 : decode cX5_rankWithSet 54 = .ok (.getfield 21, 3) := by decide +kernel
theorem dX5_rankWithSet_57 : decode cX5_rankWithSet 57 = .ok (.iload 6, 2) := by decide +kernel
theorem dX5_rankWithSet_59 : decode cX5_rankWithSet 59 = .ok (.iload 7, 2) := by decide +kernel
theorem dX5_rankWithSet_61 : decode cX5_rankWithSet 61 = .ok (.iadd, 1) := by decide +kernel
theorem dX5_rankWithSet_62 : decode cX5_rankWithSet 62 = .ok (.iaload, 1) := by decide +kernel
theorem dX5_rankWithSet_63 : decode cX5_rankWithSet 63 = .ok (.aload_n 0, 1) := by decide +kernel
theorem dX5_rankWithSet_64 : decode cX5_rankWithSet 64 = .ok (.getfield 21, 3) := by decide +kernel
theorem dX5_rankWithSet_67 : decode cX5_rankWithSet 67 = .ok (.iload 5, 2) := by decide +kernel
theorem dX5_rankWithSet_69 : decode cX5_rankWithSet 69 = .ok (.iload 7, 2) := by decide +kernel
theorem dX5_rankWithSet_71 : decode cX5_rankWithSet 71 = .ok (.iadd, 1) := by decide +kernel
theorem dX5_rankWithSet_72 : decode cX5_rankWithSet 72 = .ok (.iaload, 1) := by decide +kernel
theorem dX5_rankWithSet_73 : decode cX5_rankWithSet 73 = .ok (.iload 4, 2) := by decide +kernel
theorem dX5_rankWithSet_75 : decode cX5_rankWithSet 75 = .ok (.iadd, 1) := by decide +kernel
theorem dX5_rankWithSet_76 : decode cX5_rankWithSet 76 = .ok (.invokestatic 84, 3) := by decide +kernel
theorem dX5_rankWithSet_79 : decode cX5_rankWithSet 79 = .ok (.iastore, 1) := by decide +kernel
theorem dX5_rankWithSet_80 : decode cX5_rankWithSet 80 = .ok (.iload 7, 2) := by decide +kernel
theorem dX5_rankWithSet_82 : decode cX5_rankWithSet 82 = .ok (.ifCond .ne 7, 3) := by decide +kernel
theorem dX5_rankWithSet_85 : decode cX5_rankWithSet 85 = .ok (.iconst (-1), 1) := by decide +kernel
theorem dX5_rankWithSet_86 : decode cX5_rankWithSet 86 = .ok (.goto 9, 3) := by decide +kernel
theorem dX5_rankWithSet_89 : decode cX5_rankWithSet 89 = .ok (.iload 7, 2) := by decide +kernel
theorem dX5_rankWithSet_91 : decode cX5_rankWithSet 91 = .ok (.iconst 1, 1) := by decide +kernel
theorem dX5_rankWithSet_92 : decode cX5_rankWithSet 92 = .ok (.isub, 1) := by decide +kernel
theorem dX5_rankWithSet_93 : decode cX5_rankWithSet 93 = .ok (.iload_n 3, 1) := by decide +kernel
theorem dX5_rankWithSet_94 : decode cX5_rankWithSet 94 = .ok (.iand, 1) := by decide +kernel
theorem dX5_rankWithSet_95 : decode cX5_rankWithSet 95 = .ok (.istore 7, 2) := by decide +kernel
theorem dX5_rankWithSet_97 : decode cX5_rankWithSet 97 = .ok (.iinc 8 1, 3) := by decide +kernel
theorem dX5_rankWithSet_100 : decode cX5_rankWithSet 100 = .ok (.goto (-69), 3) := by decide +kernel
theorem dX5_rankWithSet_103 : decode cX5_rankWithSet 103 = .ok (.return_, 1) := by decide +kernel
theorem dX5_leastOfBest_0 : decode cX5_leastOfBest 0 = .ok (.iload_n 1, 1) := by decide +kernel
theorem dX5_leastOfBest_1 : decode cX5_leastOfBest 1 = .ok (.sipush 1024, 3) := by decide +kernel
theorem dX5_leastOfBest_4 : decode cX5_leastOfBest 4 = .ok (.imul, 1) := by decide +kernel
theorem dX5_leastOfBest_5 : decode cX5_leastOfBest 5 = .ok (.istore_n 3, 1) := by decide +kernel
theorem dX5_leastOfBest_6 : decode cX5_leastOfBest 6 = .ok (.aload_n 0, 1) := by decide +kernel
theorem dX5_leastOfBest_7 : decode cX5_leastOfBest 7 = .ok (.getfield 21, 3) := by decide +kernel
theorem dX5_leastOfBest_10 : decode cX5_leastOfBest 10 = .ok (.iload_n 3, 1) := by decide +kernel
theorem dX5_leastOfBest_11 : decode cX5_leastOfBest 11 = .ok (.iload_n 2, 1) := by decide +kernel
theorem dX5_leastOfBest_12 : decode cX5_leastOfBest 12 = .ok (.iadd, 1) := by decide +kernel
theorem dX5_leastOfBest_13 : decode cX5_leastOfBest 13 = .ok (.iaload, 1) := by decide +kernel
theorem dX5_leastOfBest_14 : decode cX5_leastOfBest 14 = .ok (.istore 4, 2) := by decide +kernel
theorem dX5_leastOfBest_16 : decode cX5_leastOfBest 16 = .ok (.iconst 0, 1) := by decide +kernel
theorem dX5_leastOfBest_17 : decode cX5_leastOfBest 17 = .ok (.istore 5, 2) := by decide +kernel
theorem dX5_leastOfBest_19 : decode cX5_leastOfBest 19 = .ok (.iconst 1, 1) := by decide +kernel
theorem dX5_leastOfBest_20 : decode cX5_leastOfBest 20 = .ok (.istore 6, 2) := by decide +kernel
theorem dX5_leastOfBest_22 : decode cX5_leastOfBest 22 = .ok (.iload 6, 2) := by decide +kernel
theorem dX5_leastOfBest_24 : decode cX5_leastOfBest 24 = .ok (.iload_n 2, 1) := by decide +kernel
theorem dX5_leastOfBest_25 : decode cX5_leastOfBest 25 = .ok (.if_icmp .gt 69, 3) := by decide +kernel
theorem dX5_leastOfBest_28 : decode cX5_leastOfBest 28 = .ok (.iload 6, 2) := by decide +kernel
theorem dX5_leastOfBest_30 : decode cX5_leastOfBest 30 = .ok (.iload_n 2, 1) := by decide +kernel
theorem dX5_leastOfBest_31 : decode cX5_leastOfBest 31 = .ok (.iconst (-1), 1) := by decide +kernel
theorem dX5_leastOfBest_32 : decode cX5_leastOfBest 32 = .ok (.ixor, 1) := by decide +kernel
theorem dX5_leastOfBest_33 : decode cX5_leastOfBest 33 = .ok (.iand, 1) := by decide +kernel
theorem dX5_leastOfBest_34 : decode cX5_leastOfBest 34 = .ok (.ifCond .ne 54, 3) := by decide +kernel
theorem dX5_leastOfBest_37 : decode cX5_leastOfBest 37 = .ok (.aload_n 0, 1) := by decide +kernel
theorem dX5_leastOfBest_38 : decode cX5_leastOfBest 38 = .ok (.iload 6, 2) := by decide +kernel
theorem dX5_leastOfBest_40 : decode cX5_leastOfBest 40 = .ok (.aload_n 0, 1) := by decide +kernel
theorem dX5_leastOfBest_41 : decode cX5_leastOfBest 41 = .ok (.getfield 11, 3) := by decide +kernel
theorem dX5_leastOfBest_44 : decode cX5_leastOfBest 44 = .ok (.iload_n 1, 1) := by decide +kernel
theorem dX5_leastOfBest_45 : decode cX5_leastOfBest 45 = .ok (.iaload, 1) := by decide +kernel
theorem dX5_leastOfBest_46 : decode cX5_leastOfBest 46 = .ok (.invokevirtual 73, 3) := by decide +kernel
theorem dX5_leastOfBest_49 : decode cX5_leastOfBest 49 = .ok (.ifCond .eq 39, 3) := by decide +kernel
theorem dX5_leastOfBest_52 : decode cX5_leastOfBest 52 = .ok (.aload_n 0, 1) := by decide +kernel
theorem dX5_leastOfBest_53 : decode cX5_leastOfBest 53 = .ok (.getfield 21, 3) := by decide +kernel
theorem dX5_leastOfBest_56 : decode cX5_leastOfBest 56 = .ok (.iload_n 3, 1) := by decide +kernel
theorem dX5_leastOfBest_57 : decode cX5_leastOfBest 57 = .ok (.iload_n 2, 1) := by decide +kernel
theorem dX5_leastOfBest_58 : decode cX5_leastOfBest 58 = .ok (.iadd, 1) := by decide +kernel
theorem dX5_leastOfBest_59 : decode cX5_leastOfBest 59 = .ok (.iload 6, 2) := by decide +kernel
theorem dX5_leastOfBest_61 : decode cX5_leastOfBest 61 = .ok (.isub, 1) := by decide +kernel
theorem dX5_leastOfBest_62 : decode cX5_leastOfBest 62 = .ok (.iaload, 1) := by decide +kernel
theorem dX5_leastOfBest_63 : decode cX5_leastOfBest 63 = .ok (.aload_n 0, 1) := by decide +kernel
theorem dX5_leastOfBest_64 : decode cX5_leastOfBest 64 = .ok (.iload_n 1, 1) := by decide +kernel
theorem dX5_leastOfBest_65 : decode cX5_leastOfBest 65 = .ok (.iload 6, 2) := by decide +kernel
theorem dX5_leastOfBest_67 : decode cX5_leastOfBest 67 = .ok (.invokevirtual 81, 3) := by decide +kernel
theorem dX5_leastOfBest_70 : decode cX5_leastOfBest 70 = .ok (.iadd, 1) := by decide +kernel
theorem dX5_leastOfBest_71 : decode cX5_leastOfBest 71 = .ok (.istore 7, 2) := by decide +kernel
theorem dX5_leastOfBest_73 : decode cX5_leastOfBest 73 = .ok (.iload 7, 2) := by decide +kernel
theorem dX5_leastOfBest_75 : decode cX5_leastOfBest 75 = .ok (.iload 4, 2) := by decide +kernel
theorem dX5_leastOfBest_77 : decode cX5_leastOfBest 77 = .ok (.if_icmp .le 11, 3) := by decide +kernel
theorem dX5_leastOfBest_80 : decode cX5_leastOfBest 80 = .ok (.iload 7, 2) := by decide +kernel
theorem dX5_leastOfBest_82 : decode cX5_leastOfBest 82 = .ok (.istore 4, 2) := by decide +kernel
theorem dX5_leastOfBest_84 : decode cX5_leastOfBest 84 = .ok (.iload 6, 2) := by decide +kernel
theorem dX5_leastOfBest_86 : decode cX5_leastOfBest 86 = .ok (.istore 5, 2) := by decide +kernel
theorem dX5_leastOfBest_88 : decode cX5_leastOfBest 88 = .ok (.iinc 6 1, 3) := by decide +kernel
theorem dX5_leastOfBest_91 : decode cX5_leastOfBest 91 = .ok (.goto (-69), 3) := by decide +kernel
theorem dX5_leastOfBest_94 : decode cX5_leastOfBest 94 = .ok (.iload 5, 2) := by decide +kernel
theorem dX5_leastOfBest_96 : decode cX5_leastOfBest 96 = .ok (.ireturn, 1) := by decide +kernel
theorem dX5_isJustEnough_0 : decode cX5_isJustEnough 0 = .ok (.aload_n 0, 1) := by decide +kernel
theorem dX5_isJustEnough_1 : decode cX5_isJustEnough 1 = .ok (.getfield 15, 3) := by decide +kernel
theorem dX5_isJustEnough_4 : decode cX5_isJustEnough 4 = .ok (.iload_n 1, 1) := by decide +kernel
theorem dX5_isJustEnough_5 : decode cX5_isJustEnough 5 = .ok (.iaload, 1) := by decide +kernel
theorem dX5_isJustEnough_6 : decode cX5_isJustEnough 6 = .ok (.iload_n 2, 1) := by decide +kernel
theorem dX5_isJustEnough_7 : decode cX5_isJustEnough 7 = .ok (.if_icmp .lt 17, 3) := by decide +kernel
theorem dX5_isJustEnough_10 : decode cX5_isJustEnough 10 = .ok (.aload_n 0, 1) := by decide +kernel
theorem dX5_isJustEnough_11 : decode cX5_isJustEnough 11 = .ok (.getfield 18, 3) := by decide +kernel
theorem dX5_isJustEnough_14 : decode cX5_isJustEnough 14 = .ok (.iload_n 1, 1) := by decide +kernel
theorem dX5_isJustEnough_15 : decode cX5_isJustEnough 15 = .ok (.iaload, 1) := by decide +kernel
theorem dX5_isJustEnough_16 : decode cX5_isJustEnough 16 = .ok (.iload_n 2, 1) := by decide +kernel
theorem dX5_isJustEnough_17 : decode cX5_isJustEnough 17 = .ok (.if_icmp .ge 7, 3) := by decide +kernel
theorem dX5_isJustEnough_20 : decode cX5_isJustEnough 20 = .ok (.iconst 1, 1) := by decide +kernel
theorem dX5_isJustEnough_21 : decode cX5_isJustEnough 21 = .ok (.goto 4, 3) := by decide +kernel
theorem dX5_isJustEnough_24 : decode cX5_isJustEnough 24 = .ok (.iconst 0, 1) := by decide +kernel
theorem dX5_isJustEnough_25 : decode cX5_isJustEnough 25 = .ok (.ireturn, 1) := by decide +kernel
theorem dX5_keyOf_0 : decode cX5_keyOf 0 = .ok (.ldc 87, 2) := by decide +kernel
theorem dX5_keyOf_2 : decode cX5_keyOf 2 = .ok (.aload_n 0, 1) := by decide +kernel
theorem dX5_keyOf_3 : decode cX5_keyOf 3 = .ok (.getfield 15, 3) := by decide +kernel
theorem dX5_keyOf_6 : decode cX5_keyOf 6 = .ok (.iload_n 2, 1) := by decide +kernel
theorem dX5_keyOf_7 : decode cX5_keyOf 7 = .ok (.iaload, 1) := by decide +kernel
theorem dX5_keyOf_8 : decode cX5_keyOf 8 = .ok (.sipush 256, 3) := by decide +kernel
theorem dX5_keyOf_11 : decode cX5_keyOf 11 = .ok (.imul, 1) := by decide +kernel
theorem dX5_keyOf_12 : decode cX5_keyOf 12 = .ok (.isub, 1) := by decide +kernel
theorem dX5_keyOf_13 : decode cX5_keyOf 13 = .ok (.sipush 256, 3) := by decide +kernel
theorem dX5_keyOf_16 : decode cX5_keyOf 16 = .ok (.iload_n 1, 1) := by decide +kernel
theorem dX5_keyOf_17 : decode cX5_keyOf 17 = .ok (.iconst 1, 1) := by decide +kernel
theorem dX5_keyOf_18 : decode cX5_keyOf 18 = .ok (.iadd, 1) := by decide +kernel
theorem dX5_keyOf_19 : decode cX5_keyOf 19 = .ok (.ishr, 1) := by decide +kernel
theorem dX5_keyOf_20 : decode cX5_keyOf 20 = .ok (.iadd, 1) := by decide +kernel
theorem dX5_keyOf_21 : decode cX5_keyOf 21 = .ok (.ireturn, 1) := by decide +kernel
theorem dX6_init_0 : decode cX6_init 0 = .ok (.aload_n 0, 1) := by decide +kernel
theorem dX6_init_1 : decode cX6_init 1 = .ok (.invokespecial 3, 3) := by decide +kernel
theorem dX6_init_4 : decode cX6_init 4 = .ok (.aload_n 0, 1) := by decide +kernel
theorem dX6_init_5 : decode cX6_init 5 = .ok (.iconst 0, 1) := by decide +kernel
theorem dX6_init_6 : decode cX6_init 6 = .ok (.putfield 9, 3) := by decide +kernel
theorem dX6_init_9 : decode cX6_init 9 = .ok (.aload_n 0, 1) := by decide +kernel
theorem dX6_init_10 : decode cX6_init 10 = .ok (.iconst 0, 1) := by decide +kernel
theorem dX6_init_11 : decode cX6_init 11 = .ok (.putfield 15, 3) := by decide +kernel
theorem dX6_init_14 : decode cX6_init 14 = .ok (.aload_n 0, 1) := by decide +kernel
theorem dX6_init_15 : decode cX6_init 15 = .ok (.sipush 400, 3) := by decide +kernel
theorem dX6_init_18 : decode cX6_init 18 = .ok (.newarray .int, 2) := by decide +kernel
theorem dX6_init_20 : decode cX6_init 20 = .ok (.putfield 18, 3) := by decide +kernel
theorem dX6_init_23 : decode cX6_init 23 = .ok (.aload_n 0, 1) := by decide +kernel
theorem dX6_init_24 : decode cX6_init 24 = .ok (.bipush 10, 2) := by decide +kernel
theorem dX6_init_26 : decode cX6_init 26 = .ok (.newarray .int, 2) := by decide +kernel
theorem dX6_init_28 : decode cX6_init 28 = .ok (.putfield 22, 3) := by decide +kernel
theorem dX6_init_31 : decode cX6_init 31 = .ok (.aload_n 0, 1) := by decide +kernel
theorem dX6_init_32 : decode cX6_init 32 = .ok (.bipush 10, 2) := by decide +kernel
theorem dX6_init_34 : decode cX6_init 34 = .ok (.newarray .int, 2) := by decide +kernel
theorem dX6_init_36 : decode cX6_init 36 = .ok (.putfield 25, 3) := by decide +kernel
theorem dX6_init_39 : decode cX6_init 39 = .ok (.aload_n 0, 1) := by decide +kernel
theorem dX6_init_40 : decode cX6_init 40 = .ok (.bipush 10, 2) := by decide +kernel
theorem dX6_init_42 : decode cX6_init 42 = .ok (.newarray .int, 2) := by decide +kernel
theorem dX6_init_44 : decode cX6_init 44 = .ok (.putfield 28, 3) := by decide +kernel
theorem dX6_init_47 : decode cX6_init 47 = .ok (.aload_n 0, 1) := by decide +kernel
theorem dX6_init_48 : decode cX6_init 48 = .ok (.iconst 0, 1) := by decide +kernel
theorem dX6_init_49 : decode cX6_init 49 = .ok (.putfield 31, 3) := by decide +kernel
theorem dX6_init_52 : decode cX6_init 52 = .ok (.aload_n 0, 1) := by decide +kernel
theorem dX6_init_53 : decode cX6_init 53 = .ok (.bipush 24, 2) := by decide +kernel
theorem dX6_init_55 : decode cX6_init 55 = .ok (.newarray .int, 2) := by decide +kernel
theorem dX6_init_57 : decode cX6_init 57 = .ok (.putfield 34, 3) := by decide +kernel
theorem dX6_init_60 : decode cX6_init 60 = .ok (.return_, 1) := by decide +kernel
theorem dX6_clear_0 : decode cX6_clear 0 = .ok (.aload_n 0, 1) := by decide +kernel
theorem dX6_clear_1 : decode cX6_clear 1 = .ok (.iconst 0, 1) := by decide +kernel
theorem dX6_clear_2 : decode cX6_clear 2 = .ok (.putfield 9, 3) := by decide +kernel
theorem dX6_clear_5 : decode cX6_clear 5 = .ok (.aload_n 0, 1) := by decide +kernel
theorem dX6_clear_6 : decode cX6_clear 6 = .ok (.iconst 0, 1) := by decide +kernel
theorem dX6_clear_7 : decode cX6_clear 7 = .ok (.putfield 15, 3) := by decide +kernel
theorem dX6_clear_10 : decode cX6_clear 10 = .ok (.return_, 1) := by decide +kernel
theorem dX6_isFull_0 : decode cX6_isFull 0 = .ok (.aload_n 0, 1) := by decide +kernel
theorem dX6_isFull_1 : decode cX6_isFull 1 = .ok (.getfield 9, 3) := by decide +kernel
theorem dX6_isFull_4 : decode cX6_isFull 4 = .ok (.bipush 10, 2) := by decide +kernel
theorem dX6_isFull_6 : decode cX6_isFull 6 = .ok (.if_icmp .lt 7, 3) := by decide +kernel
theorem dX6_isFull_9 : decode cX6_isFull 9 = .ok (.iconst 1, 1) := by decide +kernel
theorem dX6_isFull_10 : decode cX6_isFull 10 = .ok (.goto 4, 3) := by decide +kernel
theorem dX6_isFull_13 : decode cX6_isFull 13 = .ok (.iconst 0, 1) := by decide +kernel
theorem dX6_isFull_14 : decode cX6_isFull 14 = .ok (.ireturn, 1) := by decide +kernel
theorem dX6_beginGive_0 : decode cX6_beginGive 0 = .ok (.aload_n 0, 1) := by decide +kernel
theorem dX6_beginGive_1 : decode cX6_beginGive 1 = .ok (.invokevirtual 37, 3) := by decide +kernel
theorem dX6_beginGive_4 : decode cX6_beginGive 4 = .ok (.ifCond .ne 16, 3) := by decide +kernel
theorem dX6_beginGive_7 : decode cX6_beginGive 7 = .ok (.aload_n 0, 1) := by decide +kernel
theorem dX6_beginGive_8 : decode cX6_beginGive 8 = .ok (.getfield 22, 3) := by decide +kernel
theorem dX6_beginGive_11 : decode cX6_beginGive 11 = .ok (.aload_n 0, 1) := by decide +kernel
theorem dX6_beginGive_12 : decode cX6_beginGive 12 = .ok (.getfield 9, 3) := by decide +kernel
theorem dX6_beginGive_15 : decode cX6_beginGive 15 = .ok (.aload_n 0, 1) := by decide +kernel
theorem dX6_beginGive_16 : decode cX6_beginGive 16 = .ok (.getfield 15, 3) := by decide +kernel
theorem dX6_beginGive_19 : decode cX6_beginGive 19 = .ok (.iastore, 1) := by decide +kernel
theorem dX6_beginGive_20 : decode cX6_beginGive 20 = .ok (.return_, 1) := by decide +kernel
theorem dX6_beginWhen_0 : decode cX6_beginWhen 0 = .ok (.aload_n 0, 1) := by decide +kernel
theorem dX6_beginWhen_1 : decode cX6_beginWhen 1 = .ok (.invokevirtual 37, 3) := by decide +kernel
theorem dX6_beginWhen_4 : decode cX6_beginWhen 4 = .ok (.ifCond .ne 16, 3) := by decide +kernel
theorem dX6_beginWhen_7 : decode cX6_beginWhen 7 = .ok (.aload_n 0, 1) := by decide +kernel
theorem dX6_beginWhen_8 : decode cX6_beginWhen 8 = .ok (.getfield 25, 3) := by decide +kernel
theorem dX6_beginWhen_11 : decode cX6_beginWhen 11 = .ok (.aload_n 0, 1) := by decide +kernel
theorem dX6_beginWhen_12 : decode cX6_beginWhen 12 = .ok (.getfield 9, 3) := by decide +kernel
theorem dX6_beginWhen_15 : decode cX6_beginWhen 15 = .ok (.aload_n 0, 1) := by decide +kernel
theorem dX6_beginWhen_16 : decode cX6_beginWhen 16 = .ok (.getfield 15, 3) := by decide +kernel
theorem dX6_beginWhen_19 : decode cX6_beginWhen 19 = .ok (.iastore, 1) := by decide +kernel
theorem dX6_beginWhen_20 : decode cX6_beginWhen 20 = .ok (.return_, 1) := by decide +kernel
theorem dX6_endRule_0 : decode cX6_endRule 0 = .ok (.aload_n 0, 1) := by decide +kernel
theorem dX6_endRule_1 : decode cX6_endRule 1 = .ok (.invokevirtual 37, 3) := by decide +kernel
theorem dX6_endRule_4 : decode cX6_endRule 4 = .ok (.ifCond .ne 26, 3) := by decide +kernel
theorem dX6_endRule_7 : decode cX6_endRule 7 = .ok (.aload_n 0, 1) := by decide +kernel
theorem dX6_endRule_8 : decode cX6_endRule 8 = .ok (.getfield 28, 3) := by decide +kernel
theorem dX6_endRule_11 : decode cX6_endRule 11 = .ok (.aload_n 0, 1) := by decide +kernel
theorem dX6_endRule_12 : decode cX6_endRule 12 = .ok (.getfield 9, 3) := by decide +kernel
theorem dX6_endRule_15 : decode cX6_endRule 15 = .ok (.aload_n 0, 1) := by decide +kernel
theorem dX6_endRule_16 : decode cX6_endRule 16 = .ok (.getfield 15, 3) := by decide +kernel
theorem dX6_endRule_19 : decode cX6_endRule 19 = .ok (.iastore, 1) := by decide +kernel
theorem dX6_endRule_20 : decode cX6_endRule 20 = .ok (.aload_n 0, 1) := by decide +kernel
theorem dX6_endRule_21 : decode cX6_endRule 21 = .ok (.dup, 1) := by decide +kernel
theorem dX6_endRule_22 : decode cX6_endRule 22 = .ok (.getfield 9, 3) := by decide +kernel
theorem dX6_endRule_25 : decode cX6_endRule 25 = .ok (.iconst 1, 1) := by decide +kernel
theorem dX6_endRule_26 : decode cX6_endRule 26 = .ok (.iadd, 1) := by decide +kernel
theorem dX6_endRule_27 : decode cX6_endRule 27 = .ok (.putfield 9, 3) := by decide +kernel
theorem dX6_endRule_30 : decode cX6_endRule 30 = .ok (.return_, 1) := by decide +kernel
theorem dX6_write_0 : decode cX6_write 0 = .ok (.aload_n 0, 1) := by decide +kernel
theorem dX6_write_1 : decode cX6_write 1 = .ok (.getfield 15, 3) := by decide +kernel
theorem dX6_write_4 : decode cX6_write 4 = .ok (.sipush 400, 3) := by decide +kernel
theorem dX6_write_7 : decode cX6_write 7 = .ok (.if_icmp .ge 23, 3) := by decide +kernel
theorem dX6_write_10 : decode cX6_write 10 = .ok (.aload_n 0, 1) := by decide +kernel
theorem dX6_write_11 : decode cX6_write 11 = .ok (.getfield 18, 3) := by decide +kernel
theorem dX6_write_14 : decode cX6_write 14 = .ok (.aload_n 0, 1) := by decide +kernel
theorem dX6_write_15 : decode cX6_write 15 = .ok (.getfield 15, 3) := by decide +kernel
theorem dX6_write_18 : decode cX6_write 18 = .ok (.iload_n 1, 1) := by decide +kernel
theorem dX6_write_19 : decode cX6_write 19 = .ok (.iastore, 1) := by decide +kernel
theorem dX6_write_20 : decode cX6_write 20 = .ok (.aload_n 0, 1) := by decide +kernel
theorem dX6_write_21 : decode cX6_write 21 = .ok (.dup, 1) := by decide +kernel
theorem dX6_write_22 : decode cX6_write 22 = .ok (.getfield 15, 3) := by decide +kernel
theorem dX6_write_25 : decode cX6_write 25 = .ok (.iconst 1, 1) := by decide +kernel
theorem dX6_write_26 : decode cX6_write 26 = .ok (.iadd, 1) := by decide +kernel
theorem dX6_write_27 : decode cX6_write 27 = .ok (.putfield 15, 3) := by decide +kernel
theorem dX6_write_30 : decode cX6_write 30 = .ok (.return_, 1) := by decide +kernel
theorem dX6_factAt_0 : decode cX6_factAt 0 = .ok (.iload_n 0, 1) := by decide +kernel
theorem dX6_factAt_1 : decode cX6_factAt 1 = .ok (.invokestatic 41, 3) := by decide +kernel
theorem dX6_factAt_4 : decode cX6_factAt 4 = .ok (.ifCond .eq 9, 3) := by decide +kernel
theorem dX6_factAt_7 : decode cX6_factAt 7 = .ok (.iconst (-1), 1) := by decide +kernel
theorem dX6_factAt_8 : decode cX6_factAt 8 = .ok (.iload_n 0, 1) := by decide +kernel
theorem dX6_factAt_9 : decode cX6_factAt 9 = .ok (.isub, 1) := by decide +kernel
theorem dX6_factAt_10 : decode cX6_factAt 10 = .ok (.goto 4, 3) := by decide +kernel
theorem dX6_factAt_13 : decode cX6_factAt 13 = .ok (.iconst 0, 1) := by decide +kernel
theorem dX6_factAt_14 : decode cX6_factAt 14 = .ok (.ireturn, 1) := by decide +kernel
theorem dX6_ruleFor_0 : decode cX6_ruleFor 0 = .ok (.iconst 0, 1) := by decide +kernel
theorem dX6_ruleFor_1 : decode cX6_ruleFor 1 = .ok (.istore_n 2, 1) := by decide +kernel
theorem dX6_ruleFor_2 : decode cX6_ruleFor 2 = .ok (.iload_n 2, 1) := by decide +kernel
theorem dX6_ruleFor_3 : decode cX6_ruleFor 3 = .ok (.aload_n 0, 1) := by decide +kernel
theorem dX6_ruleFor_4 : decode cX6_ruleFor 4 = .ok (.getfield 9, 3) := by decide +kernel
theorem dX6_ruleFor_7 : decode cX6_ruleFor 7 = .ok (.if_icmp .ge 32, 3) := by decide +kernel
theorem dX6_ruleFor_10 : decode cX6_ruleFor 10 = .ok (.aload_n 0, 1) := by decide +kernel
theorem dX6_ruleFor_11 : decode cX6_ruleFor 11 = .ok (.aload_n 0, 1) := by decide +kernel
theorem dX6_ruleFor_12 : decode cX6_ruleFor 12 = .ok (.getfield 25, 3) := by decide +kernel
theorem dX6_ruleFor_15 : decode cX6_ruleFor 15 = .ok (.iload_n 2, 1) := by decide +kernel
theorem dX6_ruleFor_16 : decode cX6_ruleFor 16 = .ok (.iaload, 1) := by decide +kernel
theorem dX6_ruleFor_17 : decode cX6_ruleFor 17 = .ok (.aload_n 0, 1) := by decide +kernel
theorem dX6_ruleFor_18 : decode cX6_ruleFor 18 = .ok (.getfield 28, 3) := by decide +kernel
theorem dX6_ruleFor_21 : decode cX6_ruleFor 21 = .ok (.iload_n 2, 1) := by decide +kernel
theorem dX6_ruleFor_22 : decode cX6_ruleFor 22 = .ok (.iaload, 1) := by decide +kernel
theorem dX6_ruleFor_23 : decode cX6_ruleFor 23 = .ok (.aload_n 1, 1) := by decide +kernel
theorem dX6_ruleFor_24 : decode cX6_ruleFor 24 = .ok (.invokevirtual 47, 3) := by decide +kernel
theorem dX6_ruleFor_27 : decode cX6_ruleFor 27 = .ok (.iconst 1, 1) := by decide +kernel
theorem dX6_ruleFor_28 : decode cX6_ruleFor 28 = .ok (.if_icmp .ne 5, 3) := by decide +kernel
theorem dX6_ruleFor_31 : decode cX6_ruleFor 31 = .ok (.iload_n 2, 1) := by decide +kernel
theorem dX6_ruleFor_32 : decode cX6_ruleFor 32 = .ok (.ireturn, 1) := by decide +kernel
theorem dX6_ruleFor_33 : decode cX6_ruleFor 33 = .ok (.iinc 2 1, 3) := by decide +kernel
theorem dX6_ruleFor_36 : decode cX6_ruleFor 36 = .ok (.goto (-34), 3) := by decide +kernel
theorem dX6_ruleFor_39 : decode cX6_ruleFor 39 = .ok (.iconst (-1), 1) := by decide +kernel
theorem dX6_ruleFor_40 : decode cX6_ruleFor 40 = .ok (.ireturn, 1) := by decide +kernel
theorem dX6_dueBy_0 : decode cX6_dueBy 0 = .ok (.iload_n 1, 1) := by decide +kernel
theorem dX6_dueBy_1 : decode cX6_dueBy 1 = .ok (.ifCond .lt 11, 3) := by decide +kernel
theorem dX6_dueBy_4 : decode cX6_dueBy 4 = .ok (.iload_n 1, 1) := by decide +kernel
theorem dX6_dueBy_5 : decode cX6_dueBy 5 = .ok (.aload_n 0, 1) := by decide +kernel
theorem dX6_dueBy_6 : decode cX6_dueBy 6 = .ok (.getfield 9, 3) := by decide +kernel
theorem dX6_dueBy_9 : decode cX6_dueBy 9 = .ok (.if_icmp .lt 5, 3) := by decide +kernel
theorem dX6_dueBy_12 : decode cX6_dueBy 12 = .ok (.iconst 0, 1) := by decide +kernel
theorem dX6_dueBy_13 : decode cX6_dueBy 13 = .ok (.ireturn, 1) := by decide +kernel
theorem dX6_dueBy_14 : decode cX6_dueBy 14 = .ok (.aload_n 0, 1) := by decide +kernel
theorem dX6_dueBy_15 : decode cX6_dueBy 15 = .ok (.aload_n 0, 1) := by decide +kernel
theorem dX6_dueBy_16 : decode cX6_dueBy 16 = .ok (.getfield 22, 3) := by decide +kernel
theorem dX6_dueBy_19 : decode cX6_dueBy 19 = .ok (.iload_n 1, 1) := by decide +kernel
theorem dX6_dueBy_20 : decode cX6_dueBy 20 = .ok (.iaload, 1) := by decide +kernel
theorem dX6_dueBy_21 : decode cX6_dueBy 21 = .ok (.aload_n 0, 1) := by decide +kernel
theorem dX6_dueBy_22 : decode cX6_dueBy 22 = .ok (.getfield 25, 3) := by decide +kernel
theorem dX6_dueBy_25 : decode cX6_dueBy 25 = .ok (.iload_n 1, 1) := by decide +kernel
theorem dX6_dueBy_26 : decode cX6_dueBy 26 = .ok (.iaload, 1) := by decide +kernel
theorem dX6_dueBy_27 : decode cX6_dueBy 27 = .ok (.aload_n 2, 1) := by decide +kernel
theorem dX6_dueBy_28 : decode cX6_dueBy 28 = .ok (.invokevirtual 47, 3) := by decide +kernel
theorem dX6_dueBy_31 : decode cX6_dueBy 31 = .ok (.istore_n 3, 1) := by decide +kernel
theorem dX6_dueBy_32 : decode cX6_dueBy 32 = .ok (.iconst 0, 1) := by decide +kernel
theorem dX6_dueBy_33 : decode cX6_dueBy 33 = .ok (.sipush 9999, 3) := by decide +kernel
theorem dX6_dueBy_36 : decode cX6_dueBy 36 = .ok (.iload_n 3, 1) := by decide +kernel
theorem dX6_dueBy_37 : decode cX6_dueBy 37 = .ok (.invokestatic 51, 3) := by decide +kernel
theorem dX6_dueBy_40 : decode cX6_dueBy 40 = .ok (.invokestatic 57, 3) := by decide +kernel
theorem dX6_dueBy_43 : decode cX6_dueBy 43 = .ok (.ireturn, 1) := by decide +kernel
theorem dX6_run_0 : decode cX6_run 0 = .ok (.aload_n 0, 1) := by decide +kernel
theorem dX6_run_1 : decode cX6_run 1 = .ok (.iconst 0, 1) := by decide +kernel
theorem dX6_run_2 : decode cX6_run 2 = .ok (.putfield 31, 3) := by decide +kernel
theorem dX6_run_5 : decode cX6_run 5 = .ok (.iload_n 1, 1) := by decide +kernel
theorem dX6_run_6 : decode cX6_run 6 = .ok (.iconst 0, 1) := by decide +kernel
theorem dX6_run_7 : decode cX6_run 7 = .ok (.invokestatic 57, 3) := by decide +kernel
theorem dX6_run_10 : decode cX6_run 10 = .ok (.istore 4, 2) := by decide +kernel
theorem dX6_run_12 : decode cX6_run 12 = .ok (.iload 4, 2) := by decide +kernel
theorem dX6_run_14 : decode cX6_run 14 = .ok (.iload_n 2, 1) := by decide +kernel
theorem dX6_run_15 : decode cX6_run 15 = .ok (.if_icmp .ge 105, 3) := by decide +kernel
theorem dX6_run_18 : decode cX6_run 18 = .ok (.iload 4, 2) := by decide +kernel
theorem dX6_run_20 : decode cX6_run 20 = .ok (.sipush 400, 3) := by decide +kernel
theorem dX6_run_23 : decode cX6_run 23 = .ok (.if_icmp .ge 97, 3) := by decide +kernel
theorem dX6_run_26 : decode cX6_run 26 = .ok (.aload_n 0, 1) := by decide +kernel
theorem dX6_run_27 : decode cX6_run 27 = .ok (.getfield 18, 3) := by decide +kernel
theorem dX6_run_30 : decode cX6_run 30 = .ok (.iload 4, 2) := by decide +kernel
theorem dX6_run_32 : decode cX6_run 32 = .ok (.iaload, 1) := by decide +kernel
theorem dX6_run_33 : decode cX6_run 33 = .ok (.istore 5, 2) := by decide +kernel
theorem dX6_run_35 : decode cX6_run 35 = .ok (.iload 5, 2) := by decide +kernel
theorem dX6_run_37 : decode cX6_run 37 = .ok (.invokestatic 60, 3) := by decide +kernel
theorem dX6_run_40 : decode cX6_run 40 = .ok (.ifCond .eq 12, 3) := by decide +kernel
theorem dX6_run_43 : decode cX6_run 43 = .ok (.aload_n 0, 1) := by decide +kernel
theorem dX6_run_44 : decode cX6_run 44 = .ok (.iload 5, 2) := by decide +kernel
theorem dX6_run_46 : decode cX6_run 46 = .ok (.invokevirtual 63, 3) := by decide +kernel
theorem dX6_run_49 : decode cX6_run 49 = .ok (.goto 65, 3) := by decide +kernel
theorem dX6_run_52 : decode cX6_run 52 = .ok (.iload 5, 2) := by decide +kernel
theorem dX6_run_54 : decode cX6_run 54 = .ok (.invokestatic 41, 3) := by decide +kernel
theorem dX6_run_57 : decode cX6_run 57 = .ok (.ifCond .eq 32, 3) := by decide +kernel
theorem dX6_run_60 : decode cX6_run 60 = .ok (.iload 5, 2) := by decide +kernel
theorem dX6_run_62 : decode cX6_run 62 = .ok (.invokestatic 67, 3) := by decide +kernel
theorem dX6_run_65 : decode cX6_run 65 = .ok (.istore 6, 2) := by decide +kernel
theorem dX6_run_67 : decode cX6_run 67 = .ok (.aload_n 0, 1) := by decide +kernel
theorem dX6_run_68 : decode cX6_run 68 = .ok (.iload 6, 2) := by decide +kernel
theorem dX6_run_70 : decode cX6_run 70 = .ok (.aload_n 3, 1) := by decide +kernel
theorem dX6_run_71 : decode cX6_run 71 = .ok (.arraylength, 1) := by decide +kernel
theorem dX6_run_72 : decode cX6_run 72 = .ok (.if_icmp .ge 10, 3) := by decide +kernel
theorem dX6_run_75 : decode cX6_run 75 = .ok (.aload_n 3, 1) := by decide +kernel
theorem dX6_run_76 : decode cX6_run 76 = .ok (.iload 6, 2) := by decide +kernel
theorem dX6_run_78 : decode cX6_run 78 = .ok (.iaload, 1) := by decide +kernel
theorem dX6_run_79 : decode cX6_run 79 = .ok (.goto 4, 3) := by decide +kernel
theorem dX6_run_82 : decode cX6_run 82 = .ok (.iconst 0, 1) := by decide +kernel
theorem dX6_run_83 : decode cX6_run 83 = .ok (.invokevirtual 63, 3) := by decide +kernel
theorem dX6_run_86 : decode cX6_run 86 = .ok (.goto 28, 3) := by decide +kernel
theorem dX6_run_89 : decode cX6_run 89 = .ok (.aload_n 0, 1) := by decide +kernel
theorem dX6_run_90 : decode cX6_run 90 = .ok (.invokevirtual 71, 3) := by decide +kernel
theorem dX6_run_93 : decode cX6_run 93 = .ok (.istore 6, 2) := by decide +kernel
theorem dX6_run_95 : decode cX6_run 95 = .ok (.aload_n 0, 1) := by decide +kernel
theorem dX6_run_96 : decode cX6_run 96 = .ok (.invokevirtual 71, 3) := by decide +kernel
theorem dX6_run_99 : decode cX6_run 99 = .ok (.istore 7, 2) := by decide +kernel
theorem dX6_run_101 : decode cX6_run 101 = .ok (.aload_n 0, 1) := by decide +kernel
theorem dX6_run_102 : decode cX6_run 102 = .ok (.iload 7, 2) := by decide +kernel
theorem dX6_run_104 : decode cX6_run 104 = .ok (.iload 5, 2) := by decide +kernel
theorem dX6_run_106 : decode cX6_run 106 = .ok (.iload 6, 2) := by decide +kernel
theorem dX6_run_108 : decode cX6_run 108 = .ok (.invokestatic 75, 3) := by decide +kernel
theorem dX6_run_111 : decode cX6_run 111 = .ok (.invokevirtual 63, 3) := by decide +kernel
theorem dX6_run_114 : decode cX6_run 114 = .ok (.iinc 4 1, 3) := by decide +kernel
theorem dX6_run_117 : decode cX6_run 117 = .ok (.goto (-105), 3) := by decide +kernel
theorem dX6_run_120 : decode cX6_run 120 = .ok (.aload_n 0, 1) := by decide +kernel
theorem dX6_run_121 : decode cX6_run 121 = .ok (.invokevirtual 71, 3) := by decide +kernel
theorem dX6_run_124 : decode cX6_run 124 = .ok (.ireturn, 1) := by decide +kernel
theorem dX6_join_0 : decode cX6_join 0 = .ok (.iload_n 1, 1) := by decide +kernel
theorem dX6_join_1 : decode cX6_join 1 = .ok (.tableswitch 108 (-12) (-5) #[104, 93, 82, 71, 59, 55, 51, 47], 47) := by decide +kernel
theorem dX6_join_48 : decode cX6_join 48 = .ok (.iload_n 0, 1) := by decide +kernel
theorem dX6_join_49 : decode cX6_join 49 = .ok (.iload_n 2, 1) := by decide +kernel
theorem dX6_join_50 : decode cX6_join 50 = .ok (.iadd, 1) := by decide +kernel
theorem dX6_join_51 : decode cX6_join 51 = .ok (.ireturn, 1) := by decide +kernel
theorem dX6_join_52 : decode cX6_join 52 = .ok (.iload_n 0, 1) := by decide +kernel
theorem dX6_join_53 : decode cX6_join 53 = .ok (.iload_n 2, 1) := by decide +kernel
theorem dX6_join_54 : decode cX6_join 54 = .ok (.isub, 1) := by decide +kernel
theorem dX6_join_55 : decode cX6_join 55 = .ok (.ireturn, 1) := by decide +kernel
theorem dX6_join_56 : decode cX6_join 56 = .ok (.iload_n 0, 1) := by decide +kernel
theorem dX6_join_57 : decode cX6_join 57 = .ok (.iload_n 2, 1) := by decide +kernel
theorem dX6_join_58 : decode cX6_join 58 = .ok (.imul, 1) := by decide +kernel
theorem dX6_join_59 : decode cX6_join 59 = .ok (.ireturn, 1) := by decide +kernel
theorem dX6_join_60 : decode cX6_join 60 = .ok (.iload_n 2, 1) := by decide +kernel
theorem dX6_join_61 : decode cX6_join 61 = .ok (.ifCond .ne 7, 3) := by decide +kernel
theorem dX6_join_64 : decode cX6_join 64 = .ok (.iconst 0, 1) := by decide +kernel
theorem dX6_join_65 : decode cX6_join 65 = .ok (.goto 6, 3) := by decide +kernel
theorem dX6_join_68 : decode cX6_join 68 = .ok (.iload_n 0, 1) := by decide +kernel
theorem dX6_join_69 : decode cX6_join 69 = .ok (.iload_n 2, 1) := by decide +kernel
theorem dX6_join_70 : decode cX6_join 70 = .ok (.idiv, 1) := by decide +kernel
theorem dX6_join_71 : decode cX6_join 71 = .ok (.ireturn, 1) := by decide +kernel
theorem dX6_join_72 : decode cX6_join 72 = .ok (.iload_n 0, 1) := by decide +kernel
theorem dX6_join_73 : decode cX6_join 73 = .ok (.iload_n 2, 1) := by decide +kernel
theorem dX6_join_74 : decode cX6_join 74 = .ok (.if_icmp .ge 7, 3) := by decide +kernel
theorem dX6_join_77 : decode cX6_join 77 = .ok (.iconst 1, 1) := by decide +kernel
theorem dX6_join_78 : decode cX6_join 78 = .ok (.goto 4, 3) := by decide +kernel
theorem dX6_join_81 : decode cX6_join 81 = .ok (.iconst 0, 1) := by decide +kernel
theorem dX6_join_82 : decode cX6_join 82 = .ok (.ireturn, 1) := by decide +kernel
theorem dX6_join_83 : decode cX6_join 83 = .ok (.iload_n 0, 1) := by decide +kernel
theorem dX6_join_84 : decode cX6_join 84 = .ok (.iload_n 2, 1) := by decide +kernel
theorem dX6_join_85 : decode cX6_join 85 = .ok (.if_icmp .ne 7, 3) := by decide +kernel
theorem dX6_join_88 : decode cX6_join 88 = .ok (.iconst 1, 1) := by decide +kernel
theorem dX6_join_89 : decode cX6_join 89 = .ok (.goto 4, 3) := by decide +kernel
theorem dX6_join_92 : decode cX6_join 92 = .ok (.iconst 0, 1) := by decide +kernel
theorem dX6_join_93 : decode cX6_join 93 = .ok (.ireturn, 1) := by decide +kernel
theorem dX6_join_94 : decode cX6_join 94 = .ok (.iload_n 0, 1) := by decide +kernel
theorem dX6_join_95 : decode cX6_join 95 = .ok (.iload_n 2, 1) := by decide +kernel
theorem dX6_join_96 : decode cX6_join 96 = .ok (.if_icmp .le 7, 3) := by decide +kernel
theorem dX6_join_99 : decode cX6_join 99 = .ok (.iconst 1, 1) := by decide +kernel
theorem dX6_join_100 : decode cX6_join 100 = .ok (.goto 4, 3) := by decide +kernel
theorem dX6_join_103 : decode cX6_join 103 = .ok (.iconst 0, 1) := by decide +kernel
theorem dX6_join_104 : decode cX6_join 104 = .ok (.ireturn, 1) := by decide +kernel
theorem dX6_join_105 : decode cX6_join 105 = .ok (.iload_n 0, 1) := by decide +kernel
theorem dX6_join_106 : decode cX6_join 106 = .ok (.iload_n 2, 1) := by decide +kernel
theorem dX6_join_107 : decode cX6_join 107 = .ok (.iand, 1) := by decide +kernel
theorem dX6_join_108 : decode cX6_join 108 = .ok (.ireturn, 1) := by decide +kernel
theorem dX6_join_109 : decode cX6_join 109 = .ok (.iconst 0, 1) := by decide +kernel
theorem dX6_join_110 : decode cX6_join 110 = .ok (.ireturn, 1) := by decide +kernel
theorem dX6_push_0 : decode cX6_push 0 = .ok (.aload_n 0, 1) := by decide +kernel
theorem dX6_push_1 : decode cX6_push 1 = .ok (.getfield 31, 3) := by decide +kernel
theorem dX6_push_4 : decode cX6_push 4 = .ok (.bipush 24, 2) := by decide +kernel
theorem dX6_push_6 : decode cX6_push 6 = .ok (.if_icmp .ge 23, 3) := by decide +kernel
theorem dX6_push_9 : decode cX6_push 9 = .ok (.aload_n 0, 1) := by decide +kernel
theorem dX6_push_10 : decode cX6_push 10 = .ok (.getfield 34, 3) := by decide +kernel
theorem dX6_push_13 : decode cX6_push 13 = .ok (.aload_n 0, 1) := by decide +kernel
theorem dX6_push_14 : decode cX6_push 14 = .ok (.getfield 31, 3) := by decide +kernel
theorem dX6_push_17 : decode cX6_push 17 = .ok (.iload_n 1, 1) := by decide +kernel
theorem dX6_push_18 : decode cX6_push 18 = .ok (.iastore, 1) := by decide +kernel
theorem dX6_push_19 : decode cX6_push 19 = .ok (.aload_n 0, 1) := by decide +kernel
theorem dX6_push_20 : decode cX6_push 20 = .ok (.dup, 1) := by decide +kernel
theorem dX6_push_21 : decode cX6_push 21 = .ok (.getfield 31, 3) := by decide +kernel
theorem dX6_push_24 : decode cX6_push 24 = .ok (.iconst 1, 1) := by decide +kernel
theorem dX6_push_25 : decode cX6_push 25 = .ok (.iadd, 1) := by decide +kernel
theorem dX6_push_26 : decode cX6_push 26 = .ok (.putfield 31, 3) := by decide +kernel
theorem dX6_push_29 : decode cX6_push 29 = .ok (.return_, 1) := by decide +kernel
theorem dX6_pop_0 : decode cX6_pop 0 = .ok (.aload_n 0, 1) := by decide +kernel
theorem dX6_pop_1 : decode cX6_pop 1 = .ok (.getfield 31, 3) := by decide +kernel
theorem dX6_pop_4 : decode cX6_pop 4 = .ok (.ifCond .gt 5, 3) := by decide +kernel
theorem dX6_pop_7 : decode cX6_pop 7 = .ok (.iconst 0, 1) := by decide +kernel
theorem dX6_pop_8 : decode cX6_pop 8 = .ok (.ireturn, 1) := by decide +kernel
theorem dX6_pop_9 : decode cX6_pop 9 = .ok (.aload_n 0, 1) := by decide +kernel
theorem dX6_pop_10 : decode cX6_pop 10 = .ok (.dup, 1) := by decide +kernel
theorem dX6_pop_11 : decode cX6_pop 11 = .ok (.getfield 31, 3) := by decide +kernel
theorem dX6_pop_14 : decode cX6_pop 14 = .ok (.iconst 1, 1) := by decide +kernel
theorem dX6_pop_15 : decode cX6_pop 15 = .ok (.isub, 1) := by decide +kernel
theorem dX6_pop_16 : decode cX6_pop 16 = .ok (.putfield 31, 3) := by decide +kernel
theorem dX6_pop_19 : decode cX6_pop 19 = .ok (.aload_n 0, 1) := by decide +kernel
theorem dX6_pop_20 : decode cX6_pop 20 = .ok (.getfield 34, 3) := by decide +kernel
theorem dX6_pop_23 : decode cX6_pop 23 = .ok (.aload_n 0, 1) := by decide +kernel
theorem dX6_pop_24 : decode cX6_pop 24 = .ok (.getfield 31, 3) := by decide +kernel
theorem dX6_pop_27 : decode cX6_pop 27 = .ok (.iaload, 1) := by decide +kernel
theorem dX6_pop_28 : decode cX6_pop 28 = .ok (.ireturn, 1) := by decide +kernel
theorem dX7_init_0 : decode cX7_init 0 = .ok (.aload_n 0, 1) := by decide +kernel
theorem dX7_init_1 : decode cX7_init 1 = .ok (.invokespecial 3, 3) := by decide +kernel
theorem dX7_init_4 : decode cX7_init 4 = .ok (.aload_n 0, 1) := by decide +kernel
theorem dX7_init_5 : decode cX7_init 5 = .ok (.iconst 0, 1) := by decide +kernel
theorem dX7_init_6 : decode cX7_init 6 = .ok (.putfield 9, 3) := by decide +kernel
theorem dX7_init_9 : decode cX7_init 9 = .ok (.aload_n 0, 1) := by decide +kernel
theorem dX7_init_10 : decode cX7_init 10 = .ok (.iconst (-1), 1) := by decide +kernel
theorem dX7_init_11 : decode cX7_init 11 = .ok (.putfield 15, 3) := by decide +kernel
theorem dX7_init_14 : decode cX7_init 14 = .ok (.aload_n 0, 1) := by decide +kernel
theorem dX7_init_15 : decode cX7_init 15 = .ok (.new 18, 3) := by decide +kernel
theorem dX7_init_18 : decode cX7_init 18 = .ok (.dup, 1) := by decide +kernel
theorem dX7_init_19 : decode cX7_init 19 = .ok (.invokespecial 20, 3) := by decide +kernel
theorem dX7_init_22 : decode cX7_init 22 = .ok (.putfield 21, 3) := by decide +kernel
theorem dX7_init_25 : decode cX7_init 25 = .ok (.aload_n 0, 1) := by decide +kernel
theorem dX7_init_26 : decode cX7_init 26 = .ok (.iconst 0, 1) := by decide +kernel
theorem dX7_init_27 : decode cX7_init 27 = .ok (.putfield 25, 3) := by decide +kernel
theorem dX7_init_30 : decode cX7_init 30 = .ok (.aload_n 0, 1) := by decide +kernel
theorem dX7_init_31 : decode cX7_init 31 = .ok (.iconst 0, 1) := by decide +kernel
theorem dX7_init_32 : decode cX7_init 32 = .ok (.putfield 28, 3) := by decide +kernel
theorem dX7_init_35 : decode cX7_init 35 = .ok (.aload_n 0, 1) := by decide +kernel
theorem dX7_init_36 : decode cX7_init 36 = .ok (.bipush 26, 2) := by decide +kernel
theorem dX7_init_38 : decode cX7_init 38 = .ok (.newarray .int, 2) := by decide +kernel
theorem dX7_init_40 : decode cX7_init 40 = .ok (.putfield 31, 3) := by decide +kernel
theorem dX7_init_43 : decode cX7_init 43 = .ok (.return_, 1) := by decide +kernel
theorem dX7_read_0 : decode cX7_read 0 = .ok (.aload_n 0, 1) := by decide +kernel
theorem dX7_read_1 : decode cX7_read 1 = .ok (.iconst 0, 1) := by decide +kernel
theorem dX7_read_2 : decode cX7_read 2 = .ok (.putfield 9, 3) := by decide +kernel
theorem dX7_read_5 : decode cX7_read 5 = .ok (.aload_n 0, 1) := by decide +kernel
theorem dX7_read_6 : decode cX7_read 6 = .ok (.iconst (-1), 1) := by decide +kernel
theorem dX7_read_7 : decode cX7_read 7 = .ok (.putfield 15, 3) := by decide +kernel
theorem dX7_read_10 : decode cX7_read 10 = .ok (.aload_n 0, 1) := by decide +kernel
theorem dX7_read_11 : decode cX7_read 11 = .ok (.getfield 21, 3) := by decide +kernel
theorem dX7_read_14 : decode cX7_read 14 = .ok (.aload_n 1, 1) := by decide +kernel
theorem dX7_read_15 : decode cX7_read 15 = .ok (.invokevirtual 35, 3) := by decide +kernel
theorem dX7_read_18 : decode cX7_read 18 = .ok (.aload_n 2, 1) := by decide +kernel
theorem dX7_read_19 : decode cX7_read 19 = .ok (.invokevirtual 39, 3) := by decide +kernel
theorem dX7_read_22 : decode cX7_read 22 = .ok (.iconst 0, 1) := by decide +kernel
theorem dX7_read_23 : decode cX7_read 23 = .ok (.istore_n 3, 1) := by decide +kernel
theorem dX7_read_24 : decode cX7_read 24 = .ok (.iload_n 3, 1) := by decide +kernel
theorem dX7_read_25 : decode cX7_read 25 = .ok (.bipush 10, 2) := by decide +kernel
theorem dX7_read_27 : decode cX7_read 27 = .ok (.if_icmp .gt 33, 3) := by decide +kernel
theorem dX7_read_30 : decode cX7_read 30 = .ok (.aload_n 0, 1) := by decide +kernel
theorem dX7_read_31 : decode cX7_read 31 = .ok (.getfield 21, 3) := by decide +kernel
theorem dX7_read_34 : decode cX7_read 34 = .ok (.invokevirtual 44, 3) := by decide +kernel
theorem dX7_read_37 : decode cX7_read 37 = .ok (.bipush (-19), 2) := by decide +kernel
theorem dX7_read_39 : decode cX7_read 39 = .ok (.if_icmp .ne 5, 3) := by decide +kernel
theorem dX7_read_42 : decode cX7_read 42 = .ok (.iconst 1, 1) := by decide +kernel
theorem dX7_read_43 : decode cX7_read 43 = .ok (.ireturn, 1) := by decide +kernel
theorem dX7_read_44 : decode cX7_read 44 = .ok (.aload_n 0, 1) := by decide +kernel
theorem dX7_read_45 : decode cX7_read 45 = .ok (.aload_n 2, 1) := by decide +kernel
theorem dX7_read_46 : decode cX7_read 46 = .ok (.invokevirtual 50, 3) := by decide +kernel
theorem dX7_read_49 : decode cX7_read 49 = .ok (.ifCond .ne 5, 3) := by decide +kernel
theorem dX7_read_52 : decode cX7_read 52 = .ok (.iconst 0, 1) := by decide +kernel
theorem dX7_read_53 : decode cX7_read 53 = .ok (.ireturn, 1) := by decide +kernel
theorem dX7_read_54 : decode cX7_read 54 = .ok (.iinc 3 1, 3) := by decide +kernel
theorem dX7_read_57 : decode cX7_read 57 = .ok (.goto (-33), 3) := by decide +kernel
theorem dX7_read_60 : decode cX7_read 60 = .ok (.aload_n 0, 1) := by decide +kernel
theorem dX7_read_61 : decode cX7_read 61 = .ok (.iconst 3, 1) := by decide +kernel
theorem dX7_read_62 : decode cX7_read 62 = .ok (.invokevirtual 54, 3) := by decide +kernel
theorem dX7_read_65 : decode cX7_read 65 = .ok (.ireturn, 1) := by decide +kernel
theorem dX7_fail_0 : decode cX7_fail 0 = .ok (.aload_n 0, 1) := by decide +kernel
theorem dX7_fail_1 : decode cX7_fail 1 = .ok (.iload_n 1, 1) := by decide +kernel
theorem dX7_fail_2 : decode cX7_fail 2 = .ok (.putfield 9, 3) := by decide +kernel
theorem dX7_fail_5 : decode cX7_fail 5 = .ok (.aload_n 0, 1) := by decide +kernel
theorem dX7_fail_6 : decode cX7_fail 6 = .ok (.aload_n 0, 1) := by decide +kernel
theorem dX7_fail_7 : decode cX7_fail 7 = .ok (.getfield 21, 3) := by decide +kernel
theorem dX7_fail_10 : decode cX7_fail 10 = .ok (.invokevirtual 58, 3) := by decide +kernel
theorem dX7_fail_13 : decode cX7_fail 13 = .ok (.putfield 15, 3) := by decide +kernel
theorem dX7_fail_16 : decode cX7_fail 16 = .ok (.iconst 0, 1) := by decide +kernel
theorem dX7_fail_17 : decode cX7_fail 17 = .ok (.ireturn, 1) := by decide +kernel
theorem dX7_expect_0 : decode cX7_expect 0 = .ok (.aload_n 0, 1) := by decide +kernel
theorem dX7_expect_1 : decode cX7_expect 1 = .ok (.getfield 21, 3) := by decide +kernel
theorem dX7_expect_4 : decode cX7_expect 4 = .ok (.invokevirtual 44, 3) := by decide +kernel
theorem dX7_expect_7 : decode cX7_expect 7 = .ok (.iload_n 1, 1) := by decide +kernel
theorem dX7_expect_8 : decode cX7_expect 8 = .ok (.if_icmp .eq 9, 3) := by decide +kernel
theorem dX7_expect_11 : decode cX7_expect 11 = .ok (.aload_n 0, 1) := by decide +kernel
theorem dX7_expect_12 : decode cX7_expect 12 = .ok (.iconst 1, 1) := by decide +kernel
theorem dX7_expect_13 : decode cX7_expect 13 = .ok (.invokevirtual 54, 3) := by decide +kernel
theorem dX7_expect_16 : decode cX7_expect 16 = .ok (.ireturn, 1) := by decide +kernel
theorem dX7_expect_17 : decode cX7_expect 17 = .ok (.aload_n 0, 1) := by decide +kernel
theorem dX7_expect_18 : decode cX7_expect 18 = .ok (.getfield 21, 3) := by decide +kernel
theorem dX7_expect_21 : decode cX7_expect 21 = .ok (.invokevirtual 61, 3) := by decide +kernel
theorem dX7_expect_24 : decode cX7_expect 24 = .ok (.iconst 1, 1) := by decide +kernel
theorem dX7_expect_25 : decode cX7_expect 25 = .ok (.ireturn, 1) := by decide +kernel
theorem dX7_readRule_0 : decode cX7_readRule 0 = .ok (.aload_n 0, 1) := by decide +kernel
theorem dX7_readRule_1 : decode cX7_readRule 1 = .ok (.getfield 21, 3) := by decide +kernel
theorem dX7_readRule_4 : decode cX7_readRule 4 = .ok (.invokevirtual 44, 3) := by decide +kernel
theorem dX7_readRule_7 : decode cX7_readRule 7 = .ok (.bipush (-13), 2) := by decide +kernel
theorem dX7_readRule_9 : decode cX7_readRule 9 = .ok (.if_icmp .ne 16, 3) := by decide +kernel
theorem dX7_readRule_12 : decode cX7_readRule 12 = .ok (.aload_n 1, 1) := by decide +kernel
theorem dX7_readRule_13 : decode cX7_readRule 13 = .ok (.invokevirtual 64, 3) := by decide +kernel
theorem dX7_readRule_16 : decode cX7_readRule 16 = .ok (.ifCond .eq 9, 3) := by decide +kernel
theorem dX7_readRule_19 : decode cX7_readRule 19 = .ok (.aload_n 0, 1) := by decide +kernel
theorem dX7_readRule_20 : decode cX7_readRule 20 = .ok (.iconst 3, 1) := by decide +kernel
theorem dX7_readRule_21 : decode cX7_readRule 21 = .ok (.invokevirtual 54, 3) := by decide +kernel
theorem dX7_readRule_24 : decode cX7_readRule 24 = .ok (.ireturn, 1) := by decide +kernel
theorem dX7_readRule_25 : decode cX7_readRule 25 = .ok (.aload_n 1, 1) := by decide +kernel
theorem dX7_readRule_26 : decode cX7_readRule 26 = .ok (.invokevirtual 68, 3) := by decide +kernel
theorem dX7_readRule_29 : decode cX7_readRule 29 = .ok (.aload_n 0, 1) := by decide +kernel
theorem dX7_readRule_30 : decode cX7_readRule 30 = .ok (.bipush (-13), 2) := by decide +kernel
theorem dX7_readRule_32 : decode cX7_readRule 32 = .ok (.invokevirtual 71, 3) := by decide +kernel
theorem dX7_readRule_35 : decode cX7_readRule 35 = .ok (.ifCond .eq 20, 3) := by decide +kernel
theorem dX7_readRule_38 : decode cX7_readRule 38 = .ok (.aload_n 0, 1) := by decide +kernel
theorem dX7_readRule_39 : decode cX7_readRule 39 = .ok (.aload_n 1, 1) := by decide +kernel
theorem dX7_readRule_40 : decode cX7_readRule 40 = .ok (.invokevirtual 74, 3) := by decide +kernel
theorem dX7_readRule_43 : decode cX7_readRule 43 = .ok (.ifCond .eq 12, 3) := by decide +kernel
theorem dX7_readRule_46 : decode cX7_readRule 46 = .ok (.aload_n 0, 1) := by decide +kernel
theorem dX7_readRule_47 : decode cX7_readRule 47 = .ok (.bipush (-14), 2) := by decide +kernel
theorem dX7_readRule_49 : decode cX7_readRule 49 = .ok (.invokevirtual 71, 3) := by decide +kernel
theorem dX7_readRule_52 : decode cX7_readRule 52 = .ok (.ifCond .ne 5, 3) := by decide +kernel
theorem dX7_readRule_55 : decode cX7_readRule 55 = .ok (.iconst 0, 1) := by decide +kernel
theorem dX7_readRule_56 : decode cX7_readRule 56 = .ok (.ireturn, 1) := by decide +kernel
theorem dX7_readRule_57 : decode cX7_readRule 57 = .ok (.aload_n 1, 1) := by decide +kernel
theorem dX7_readRule_58 : decode cX7_readRule 58 = .ok (.invokevirtual 77, 3) := by decide +kernel
theorem dX7_readRule_61 : decode cX7_readRule 61 = .ok (.aload_n 0, 1) := by decide +kernel
theorem dX7_readRule_62 : decode cX7_readRule 62 = .ok (.aload_n 1, 1) := by decide +kernel
theorem dX7_readRule_63 : decode cX7_readRule 63 = .ok (.invokevirtual 80, 3) := by decide +kernel
theorem dX7_readRule_66 : decode cX7_readRule 66 = .ok (.ifCond .eq 12, 3) := by decide +kernel
theorem dX7_readRule_69 : decode cX7_readRule 69 = .ok (.aload_n 0, 1) := by decide +kernel
theorem dX7_readRule_70 : decode cX7_readRule 70 = .ok (.bipush (-15), 2) := by decide +kernel
theorem dX7_readRule_72 : decode cX7_readRule 72 = .ok (.invokevirtual 71, 3) := by decide +kernel
theorem dX7_readRule_75 : decode cX7_readRule 75 = .ok (.ifCond .ne 5, 3) := by decide +kernel
theorem dX7_readRule_78 : decode cX7_readRule 78 = .ok (.iconst 0, 1) := by decide +kernel
theorem dX7_readRule_79 : decode cX7_readRule 79 = .ok (.ireturn, 1) := by decide +kernel
theorem dX7_readRule_80 : decode cX7_readRule 80 = .ok (.aload_n 1, 1) := by decide +kernel
theorem dX7_readRule_81 : decode cX7_readRule 81 = .ok (.invokevirtual 83, 3) := by decide +kernel
theorem dX7_readRule_84 : decode cX7_readRule 84 = .ok (.iconst 1, 1) := by decide +kernel
theorem dX7_readRule_85 : decode cX7_readRule 85 = .ok (.ireturn, 1) := by decide +kernel
theorem dX7_readConditions_0 : decode cX7_readConditions 0 = .ok (.iconst 0, 1) := by decide +kernel
theorem dX7_readConditions_1 : decode cX7_readConditions 1 = .ok (.istore_n 2, 1) := by decide +kernel
theorem dX7_readConditions_2 : decode cX7_readConditions 2 = .ok (.iload_n 2, 1) := by decide +kernel
theorem dX7_readConditions_3 : decode cX7_readConditions 3 = .ok (.sipush 400, 3) := by decide +kernel
theorem dX7_readConditions_6 : decode cX7_readConditions 6 = .ok (.if_icmp .gt 93, 3) := by decide +kernel
theorem dX7_readConditions_9 : decode cX7_readConditions 9 = .ok (.aload_n 0, 1) := by decide +kernel
theorem dX7_readConditions_10 : decode cX7_readConditions 10 = .ok (.aload_n 1, 1) := by decide +kernel
theorem dX7_readConditions_11 : decode cX7_readConditions 11 = .ok (.invokevirtual 74, 3) := by decide +kernel
theorem dX7_readConditions_14 : decode cX7_readConditions 14 = .ok (.ifCond .ne 5, 3) := by decide +kernel
theorem dX7_readConditions_17 : decode cX7_readConditions 17 = .ok (.iconst 0, 1) := by decide +kernel
theorem dX7_readConditions_18 : decode cX7_readConditions 18 = .ok (.ireturn, 1) := by decide +kernel
theorem dX7_readConditions_19 : decode cX7_readConditions 19 = .ok (.aload_n 0, 1) := by decide +kernel
theorem dX7_readConditions_20 : decode cX7_readConditions 20 = .ok (.getfield 21, 3) := by decide +kernel
theorem dX7_readConditions_23 : decode cX7_readConditions 23 = .ok (.invokevirtual 44, 3) := by decide +kernel
theorem dX7_readConditions_26 : decode cX7_readConditions 26 = .ok (.istore_n 3, 1) := by decide +kernel
theorem dX7_readConditions_27 : decode cX7_readConditions 27 = .ok (.iload_n 3, 1) := by decide +kernel
theorem dX7_readConditions_28 : decode cX7_readConditions 28 = .ok (.invokestatic 86, 3) := by decide +kernel
theorem dX7_readConditions_31 : decode cX7_readConditions 31 = .ok (.ifCond .ne 9, 3) := by decide +kernel
theorem dX7_readConditions_34 : decode cX7_readConditions 34 = .ok (.aload_n 0, 1) := by decide +kernel
theorem dX7_readConditions_35 : decode cX7_readConditions 35 = .ok (.iconst 1, 1) := by decide +kernel
theorem dX7_readConditions_36 : decode cX7_readConditions 36 = .ok (.invokevirtual 54, 3) := by decide +kernel
theorem dX7_readConditions_39 : decode cX7_readConditions 39 = .ok (.ireturn, 1) := by decide +kernel
theorem dX7_readConditions_40 : decode cX7_readConditions 40 = .ok (.aload_n 0, 1) := by decide +kernel
theorem dX7_readConditions_41 : decode cX7_readConditions 41 = .ok (.getfield 21, 3) := by decide +kernel
theorem dX7_readConditions_44 : decode cX7_readConditions 44 = .ok (.invokevirtual 61, 3) := by decide +kernel
theorem dX7_readConditions_47 : decode cX7_readConditions 47 = .ok (.aload_n 0, 1) := by decide +kernel
theorem dX7_readConditions_48 : decode cX7_readConditions 48 = .ok (.aload_n 1, 1) := by decide +kernel
theorem dX7_readConditions_49 : decode cX7_readConditions 49 = .ok (.invokevirtual 74, 3) := by decide +kernel
theorem dX7_readConditions_52 : decode cX7_readConditions 52 = .ok (.ifCond .ne 5, 3) := by decide +kernel
theorem dX7_readConditions_55 : decode cX7_readConditions 55 = .ok (.iconst 0, 1) := by decide +kernel
theorem dX7_readConditions_56 : decode cX7_readConditions 56 = .ok (.ireturn, 1) := by decide +kernel
theorem dX7_readConditions_57 : decode cX7_readConditions 57 = .ok (.aload_n 1, 1) := by decide +kernel
theorem dX7_readConditions_58 : decode cX7_readConditions 58 = .ok (.iload_n 3, 1) := by decide +kernel
theorem dX7_readConditions_59 : decode cX7_readConditions 59 = .ok (.invokevirtual 89, 3) := by decide +kernel
theorem dX7_readConditions_62 : decode cX7_readConditions 62 = .ok (.iload_n 2, 1) := by decide +kernel
theorem dX7_readConditions_63 : decode cX7_readConditions 63 = .ok (.ifCond .le 9, 3) := by decide +kernel
theorem dX7_readConditions_66 : decode cX7_readConditions 66 = .ok (.aload_n 1, 1) := by decide +kernel
theorem dX7_readConditions_67 : decode cX7_readConditions 67 = .ok (.bipush (-12), 2) := by decide +kernel
theorem dX7_readConditions_69 : decode cX7_readConditions 69 = .ok (.invokevirtual 89, 3) := by decide +kernel
theorem dX7_readConditions_72 : decode cX7_readConditions 72 = .ok (.aload_n 0, 1) := by decide +kernel
theorem dX7_readConditions_73 : decode cX7_readConditions 73 = .ok (.getfield 21, 3) := by decide +kernel
theorem dX7_readConditions_76 : decode cX7_readConditions 76 = .ok (.invokevirtual 44, 3) := by decide +kernel
theorem dX7_readConditions_79 : decode cX7_readConditions 79 = .ok (.bipush (-12), 2) := by decide +kernel
theorem dX7_readConditions_81 : decode cX7_readConditions 81 = .ok (.if_icmp .eq 5, 3) := by decide +kernel
theorem dX7_readConditions_84 : decode cX7_readConditions 84 = .ok (.iconst 1, 1) := by decide +kernel
theorem dX7_readConditions_85 : decode cX7_readConditions 85 = .ok (.ireturn, 1) := by decide +kernel
theorem dX7_readConditions_86 : decode cX7_readConditions 86 = .ok (.aload_n 0, 1) := by decide +kernel
theorem dX7_readConditions_87 : decode cX7_readConditions 87 = .ok (.getfield 21, 3) := by decide +kernel
theorem dX7_readConditions_90 : decode cX7_readConditions 90 = .ok (.invokevirtual 61, 3) := by decide +kernel
theorem dX7_readConditions_93 : decode cX7_readConditions 93 = .ok (.iinc 2 1, 3) := by decide +kernel
theorem dX7_readConditions_96 : decode cX7_readConditions 96 = .ok (.goto (-94), 3) := by decide +kernel
theorem dX7_readConditions_99 : decode cX7_readConditions 99 = .ok (.aload_n 0, 1) := by decide +kernel
theorem dX7_readConditions_100 : decode cX7_readConditions 100 = .ok (.iconst 1, 1) := by decide +kernel
theorem dX7_readConditions_101 : decode cX7_readConditions 101 = .ok (.invokevirtual 54, 3) := by decide +kernel
theorem dX7_readConditions_104 : decode cX7_readConditions 104 = .ok (.ireturn, 1) := by decide +kernel
theorem dX7_readSum_0 : decode cX7_readSum 0 = .ok (.aload_n 0, 1) := by decide +kernel
theorem dX7_readSum_1 : decode cX7_readSum 1 = .ok (.iconst 0, 1) := by decide +kernel
theorem dX7_readSum_2 : decode cX7_readSum 2 = .ok (.putfield 25, 3) := by decide +kernel
theorem dX7_readSum_5 : decode cX7_readSum 5 = .ok (.aload_n 0, 1) := by decide +kernel
theorem dX7_readSum_6 : decode cX7_readSum 6 = .ok (.iconst 0, 1) := by decide +kernel
theorem dX7_readSum_7 : decode cX7_readSum 7 = .ok (.putfield 28, 3) := by decide +kernel
theorem dX7_readSum_10 : decode cX7_readSum 10 = .ok (.iconst 0, 1) := by decide +kernel
theorem dX7_readSum_11 : decode cX7_readSum 11 = .ok (.istore_n 2, 1) := by decide +kernel
theorem dX7_readSum_12 : decode cX7_readSum 12 = .ok (.iload_n 2, 1) := by decide +kernel
theorem dX7_readSum_13 : decode cX7_readSum 13 = .ok (.sipush 400, 3) := by decide +kernel
theorem dX7_readSum_16 : decode cX7_readSum 16 = .ok (.if_icmp .gt 92, 3) := by decide +kernel
theorem dX7_readSum_19 : decode cX7_readSum 19 = .ok (.aload_n 0, 1) := by decide +kernel
theorem dX7_readSum_20 : decode cX7_readSum 20 = .ok (.aload_n 1, 1) := by decide +kernel
theorem dX7_readSum_21 : decode cX7_readSum 21 = .ok (.invokevirtual 93, 3) := by decide +kernel
theorem dX7_readSum_24 : decode cX7_readSum 24 = .ok (.ifCond .eq 11, 3) := by decide +kernel
theorem dX7_readSum_27 : decode cX7_readSum 27 = .ok (.aload_n 0, 1) := by decide +kernel
theorem dX7_readSum_28 : decode cX7_readSum 28 = .ok (.aload_n 1, 1) := by decide +kernel
theorem dX7_readSum_29 : decode cX7_readSum 29 = .ok (.invokevirtual 96, 3) := by decide +kernel
theorem dX7_readSum_32 : decode cX7_readSum 32 = .ok (.ifCond .ne 5, 3) := by decide +kernel
theorem dX7_readSum_35 : decode cX7_readSum 35 = .ok (.iconst 0, 1) := by decide +kernel
theorem dX7_readSum_36 : decode cX7_readSum 36 = .ok (.ireturn, 1) := by decide +kernel
theorem dX7_readSum_37 : decode cX7_readSum 37 = .ok (.aload_n 0, 1) := by decide +kernel
theorem dX7_readSum_38 : decode cX7_readSum 38 = .ok (.getfield 21, 3) := by decide +kernel
theorem dX7_readSum_41 : decode cX7_readSum 41 = .ok (.invokevirtual 44, 3) := by decide +kernel
theorem dX7_readSum_44 : decode cX7_readSum 44 = .ok (.istore_n 3, 1) := by decide +kernel
theorem dX7_readSum_45 : decode cX7_readSum 45 = .ok (.iload_n 3, 1) := by decide +kernel
theorem dX7_readSum_46 : decode cX7_readSum 46 = .ok (.invokestatic 99, 3) := by decide +kernel
theorem dX7_readSum_49 : decode cX7_readSum 49 = .ok (.istore 4, 2) := by decide +kernel
theorem dX7_readSum_51 : decode cX7_readSum 51 = .ok (.iload 4, 2) := by decide +kernel
theorem dX7_readSum_53 : decode cX7_readSum 53 = .ok (.ifCond .ne 30, 3) := by decide +kernel
theorem dX7_readSum_56 : decode cX7_readSum 56 = .ok (.aload_n 0, 1) := by decide +kernel
theorem dX7_readSum_57 : decode cX7_readSum 57 = .ok (.iconst 1, 1) := by decide +kernel
theorem dX7_readSum_58 : decode cX7_readSum 58 = .ok (.aload_n 1, 1) := by decide +kernel
theorem dX7_readSum_59 : decode cX7_readSum 59 = .ok (.invokevirtual 103, 3) := by decide +kernel
theorem dX7_readSum_62 : decode cX7_readSum 62 = .ok (.aload_n 0, 1) := by decide +kernel
theorem dX7_readSum_63 : decode cX7_readSum 63 = .ok (.getfield 25, 3) := by decide +kernel
theorem dX7_readSum_66 : decode cX7_readSum 66 = .ok (.ifCond .eq 11, 3) := by decide +kernel
theorem dX7_readSum_69 : decode cX7_readSum 69 = .ok (.aload_n 0, 1) := by decide +kernel
theorem dX7_readSum_70 : decode cX7_readSum 70 = .ok (.iconst 1, 1) := by decide +kernel
theorem dX7_readSum_71 : decode cX7_readSum 71 = .ok (.invokevirtual 54, 3) := by decide +kernel
theorem dX7_readSum_74 : decode cX7_readSum 74 = .ok (.ifCond .eq 7, 3) := by decide +kernel
theorem dX7_readSum_77 : decode cX7_readSum 77 = .ok (.iconst 1, 1) := by decide +kernel
theorem dX7_readSum_78 : decode cX7_readSum 78 = .ok (.goto 4, 3) := by decide +kernel
theorem dX7_readSum_81 : decode cX7_readSum 81 = .ok (.iconst 0, 1) := by decide +kernel
theorem dX7_readSum_82 : decode cX7_readSum 82 = .ok (.ireturn, 1) := by decide +kernel
theorem dX7_readSum_83 : decode cX7_readSum 83 = .ok (.aload_n 0, 1) := by decide +kernel
theorem dX7_readSum_84 : decode cX7_readSum 84 = .ok (.iload 4, 2) := by decide +kernel
theorem dX7_readSum_86 : decode cX7_readSum 86 = .ok (.aload_n 1, 1) := by decide +kernel
theorem dX7_readSum_87 : decode cX7_readSum 87 = .ok (.invokevirtual 103, 3) := by decide +kernel
theorem dX7_readSum_90 : decode cX7_readSum 90 = .ok (.aload_n 0, 1) := by decide +kernel
theorem dX7_readSum_91 : decode cX7_readSum 91 = .ok (.iload_n 3, 1) := by decide +kernel
theorem dX7_readSum_92 : decode cX7_readSum 92 = .ok (.invokevirtual 107, 3) := by decide +kernel
theorem dX7_readSum_95 : decode cX7_readSum 95 = .ok (.aload_n 0, 1) := by decide +kernel
theorem dX7_readSum_96 : decode cX7_readSum 96 = .ok (.getfield 21, 3) := by decide +kernel
theorem dX7_readSum_99 : decode cX7_readSum 99 = .ok (.invokevirtual 61, 3) := by decide +kernel
theorem dX7_readSum_102 : decode cX7_readSum 102 = .ok (.iinc 2 1, 3) := by decide +kernel
theorem dX7_readSum_105 : decode cX7_readSum 105 = .ok (.goto (-93), 3) := by decide +kernel
theorem dX7_readSum_108 : decode cX7_readSum 108 = .ok (.aload_n 0, 1) := by decide +kernel
theorem dX7_readSum_109 : decode cX7_readSum 109 = .ok (.iconst 1, 1) := by decide +kernel
theorem dX7_readSum_110 : decode cX7_readSum 110 = .ok (.invokevirtual 54, 3) := by decide +kernel
theorem dX7_readSum_113 : decode cX7_readSum 113 = .ok (.ireturn, 1) := by decide +kernel
theorem dX7_readUnit_0 : decode cX7_readUnit 0 = .ok (.iconst 0, 1) := by decide +kernel
theorem dX7_readUnit_1 : decode cX7_readUnit 1 = .ok (.istore_n 2, 1) := by decide +kernel
theorem dX7_readUnit_2 : decode cX7_readUnit 2 = .ok (.iload_n 2, 1) := by decide +kernel
theorem dX7_readUnit_3 : decode cX7_readUnit 3 = .ok (.sipush 400, 3) := by decide +kernel
theorem dX7_readUnit_6 : decode cX7_readUnit 6 = .ok (.if_icmp .ge 59, 3) := by decide +kernel
theorem dX7_readUnit_9 : decode cX7_readUnit 9 = .ok (.aload_n 0, 1) := by decide +kernel
theorem dX7_readUnit_10 : decode cX7_readUnit 10 = .ok (.getfield 21, 3) := by decide +kernel
theorem dX7_readUnit_13 : decode cX7_readUnit 13 = .ok (.invokevirtual 44, 3) := by decide +kernel
theorem dX7_readUnit_16 : decode cX7_readUnit 16 = .ok (.bipush (-16), 2) := by decide +kernel
theorem dX7_readUnit_18 : decode cX7_readUnit 18 = .ok (.if_icmp .ne 47, 3) := by decide +kernel
theorem dX7_readUnit_21 : decode cX7_readUnit 21 = .ok (.aload_n 0, 1) := by decide +kernel
theorem dX7_readUnit_22 : decode cX7_readUnit 22 = .ok (.getfield 25, 3) := by decide +kernel
theorem dX7_readUnit_25 : decode cX7_readUnit 25 = .ok (.bipush 8, 2) := by decide +kernel
theorem dX7_readUnit_27 : decode cX7_readUnit 27 = .ok (.if_icmp .lt 9, 3) := by decide +kernel
theorem dX7_readUnit_30 : decode cX7_readUnit 30 = .ok (.aload_n 0, 1) := by decide +kernel
theorem dX7_readUnit_31 : decode cX7_readUnit 31 = .ok (.iconst 3, 1) := by decide +kernel
theorem dX7_readUnit_32 : decode cX7_readUnit 32 = .ok (.invokevirtual 54, 3) := by decide +kernel
theorem dX7_readUnit_35 : decode cX7_readUnit 35 = .ok (.ireturn, 1) := by decide +kernel
theorem dX7_readUnit_36 : decode cX7_readUnit 36 = .ok (.aload_n 0, 1) := by decide +kernel
theorem dX7_readUnit_37 : decode cX7_readUnit 37 = .ok (.dup, 1) := by decide +kernel
theorem dX7_readUnit_38 : decode cX7_readUnit 38 = .ok (.getfield 25, 3) := by decide +kernel
theorem dX7_readUnit_41 : decode cX7_readUnit 41 = .ok (.iconst 1, 1) := by decide +kernel
theorem dX7_readUnit_42 : decode cX7_readUnit 42 = .ok (.iadd, 1) := by decide +kernel
theorem dX7_readUnit_43 : decode cX7_readUnit 43 = .ok (.putfield 25, 3) := by decide +kernel
theorem dX7_readUnit_46 : decode cX7_readUnit 46 = .ok (.aload_n 0, 1) := by decide +kernel
theorem dX7_readUnit_47 : decode cX7_readUnit 47 = .ok (.bipush (-16), 2) := by decide +kernel
theorem dX7_readUnit_49 : decode cX7_readUnit 49 = .ok (.invokevirtual 107, 3) := by decide +kernel
theorem dX7_readUnit_52 : decode cX7_readUnit 52 = .ok (.aload_n 0, 1) := by decide +kernel
theorem dX7_readUnit_53 : decode cX7_readUnit 53 = .ok (.getfield 21, 3) := by decide +kernel
theorem dX7_readUnit_56 : decode cX7_readUnit 56 = .ok (.invokevirtual 61, 3) := by decide +kernel
theorem dX7_readUnit_59 : decode cX7_readUnit 59 = .ok (.iinc 2 1, 3) := by decide +kernel
theorem dX7_readUnit_62 : decode cX7_readUnit 62 = .ok (.goto (-60), 3) := by decide +kernel
theorem dX7_readUnit_65 : decode cX7_readUnit 65 = .ok (.aload_n 0, 1) := by decide +kernel
theorem dX7_readUnit_66 : decode cX7_readUnit 66 = .ok (.getfield 21, 3) := by decide +kernel
theorem dX7_readUnit_69 : decode cX7_readUnit 69 = .ok (.invokevirtual 44, 3) := by decide +kernel
theorem dX7_readUnit_72 : decode cX7_readUnit 72 = .ok (.istore_n 2, 1) := by decide +kernel
theorem dX7_readUnit_73 : decode cX7_readUnit 73 = .ok (.iload_n 2, 1) := by decide +kernel
theorem dX7_readUnit_74 : decode cX7_readUnit 74 = .ok (.invokestatic 110, 3) := by decide +kernel
theorem dX7_readUnit_77 : decode cX7_readUnit 77 = .ok (.ifCond .ne 16, 3) := by decide +kernel
theorem dX7_readUnit_80 : decode cX7_readUnit 80 = .ok (.iload_n 2, 1) := by decide +kernel
theorem dX7_readUnit_81 : decode cX7_readUnit 81 = .ok (.invokestatic 113, 3) := by decide +kernel
theorem dX7_readUnit_84 : decode cX7_readUnit 84 = .ok (.ifCond .ne 9, 3) := by decide +kernel
theorem dX7_readUnit_87 : decode cX7_readUnit 87 = .ok (.aload_n 0, 1) := by decide +kernel
theorem dX7_readUnit_88 : decode cX7_readUnit 88 = .ok (.iconst 1, 1) := by decide +kernel
theorem dX7_readUnit_89 : decode cX7_readUnit 89 = .ok (.invokevirtual 54, 3) := by decide +kernel
theorem dX7_readUnit_92 : decode cX7_readUnit 92 = .ok (.ireturn, 1) := by decide +kernel
theorem dX7_readUnit_93 : decode cX7_readUnit 93 = .ok (.aload_n 1, 1) := by decide +kernel
theorem dX7_readUnit_94 : decode cX7_readUnit 94 = .ok (.iload_n 2, 1) := by decide +kernel
theorem dX7_readUnit_95 : decode cX7_readUnit 95 = .ok (.invokevirtual 89, 3) := by decide +kernel
theorem dX7_readUnit_98 : decode cX7_readUnit 98 = .ok (.aload_n 0, 1) := by decide +kernel
theorem dX7_readUnit_99 : decode cX7_readUnit 99 = .ok (.getfield 21, 3) := by decide +kernel
theorem dX7_readUnit_102 : decode cX7_readUnit 102 = .ok (.invokevirtual 61, 3) := by decide +kernel
theorem dX7_readUnit_105 : decode cX7_readUnit 105 = .ok (.iconst 1, 1) := by decide +kernel
theorem dX7_readUnit_106 : decode cX7_readUnit 106 = .ok (.ireturn, 1) := by decide +kernel
theorem dX7_readBehindUnit_0 : decode cX7_readBehindUnit 0 = .ok (.iconst 0, 1) := by decide +kernel
theorem dX7_readBehindUnit_1 : decode cX7_readBehindUnit 1 = .ok (.istore_n 2, 1) := by decide +kernel
theorem dX7_readBehindUnit_2 : decode cX7_readBehindUnit 2 = .ok (.iload_n 2, 1) := by decide +kernel
theorem dX7_readBehindUnit_3 : decode cX7_readBehindUnit 3 = .ok (.sipush 400, 3) := by decide +kernel
theorem dX7_readBehindUnit_6 : decode cX7_readBehindUnit 6 = .ok (.if_icmp .ge 161, 3) := by decide +kernel
theorem dX7_readBehindUnit_9 : decode cX7_readBehindUnit 9 = .ok (.aload_n 0, 1) := by decide +kernel
theorem dX7_readBehindUnit_10 : decode cX7_readBehindUnit 10 = .ok (.getfield 21, 3) := by decide +kernel
theorem dX7_readBehindUnit_13 : decode cX7_readBehindUnit 13 = .ok (.invokevirtual 44, 3) := by decide +kernel
theorem dX7_readBehindUnit_16 : decode cX7_readBehindUnit 16 = .ok (.istore_n 3, 1) := by decide +kernel
theorem dX7_readBehindUnit_17 : decode cX7_readBehindUnit 17 = .ok (.iload_n 3, 1) := by decide +kernel
theorem dX7_readBehindUnit_18 : decode cX7_readBehindUnit 18 = .ok (.bipush (-17), 2) := by decide +kernel
theorem dX7_readBehindUnit_20 : decode cX7_readBehindUnit 20 = .ok (.if_icmp .ne 14, 3) := by decide +kernel
theorem dX7_readBehindUnit_23 : decode cX7_readBehindUnit 23 = .ok (.aload_n 0, 1) := by decide +kernel
theorem dX7_readBehindUnit_24 : decode cX7_readBehindUnit 24 = .ok (.getfield 25, 3) := by decide +kernel
theorem dX7_readBehindUnit_27 : decode cX7_readBehindUnit 27 = .ok (.ifCond .le 7, 3) := by decide +kernel
theorem dX7_readBehindUnit_30 : decode cX7_readBehindUnit 30 = .ok (.iconst 1, 1) := by decide +kernel
theorem dX7_readBehindUnit_31 : decode cX7_readBehindUnit 31 = .ok (.goto 4, 3) := by decide +kernel
theorem dX7_readBehindUnit_34 : decode cX7_readBehindUnit 34 = .ok (.iconst 0, 1) := by decide +kernel
theorem dX7_readBehindUnit_35 : decode cX7_readBehindUnit 35 = .ok (.istore 4, 2) := by decide +kernel
theorem dX7_readBehindUnit_37 : decode cX7_readBehindUnit 37 = .ok (.iload 4, 2) := by decide +kernel
theorem dX7_readBehindUnit_39 : decode cX7_readBehindUnit 39 = .ok (.ifCond .ne 11, 3) := by decide +kernel
theorem dX7_readBehindUnit_42 : decode cX7_readBehindUnit 42 = .ok (.iload_n 3, 1) := by decide +kernel
theorem dX7_readBehindUnit_43 : decode cX7_readBehindUnit 43 = .ok (.bipush (-8), 2) := by decide +kernel
theorem dX7_readBehindUnit_45 : decode cX7_readBehindUnit 45 = .ok (.if_icmp .eq 5, 3) := by decide +kernel
theorem dX7_readBehindUnit_48 : decode cX7_readBehindUnit 48 = .ok (.iconst 1, 1) := by decide +kernel
theorem dX7_readBehindUnit_49 : decode cX7_readBehindUnit 49 = .ok (.ireturn, 1) := by decide +kernel
theorem dX7_readBehindUnit_50 : decode cX7_readBehindUnit 50 = .ok (.aload_n 0, 1) := by decide +kernel
theorem dX7_readBehindUnit_51 : decode cX7_readBehindUnit 51 = .ok (.getfield 21, 3) := by decide +kernel
theorem dX7_readBehindUnit_54 : decode cX7_readBehindUnit 54 = .ok (.invokevirtual 61, 3) := by decide +kernel
theorem dX7_readBehindUnit_57 : decode cX7_readBehindUnit 57 = .ok (.iload 4, 2) := by decide +kernel
theorem dX7_readBehindUnit_59 : decode cX7_readBehindUnit 59 = .ok (.ifCond .eq 36, 3) := by decide +kernel
theorem dX7_readBehindUnit_62 : decode cX7_readBehindUnit 62 = .ok (.aload_n 0, 1) := by decide +kernel
theorem dX7_readBehindUnit_63 : decode cX7_readBehindUnit 63 = .ok (.iconst 1, 1) := by decide +kernel
theorem dX7_readBehindUnit_64 : decode cX7_readBehindUnit 64 = .ok (.aload_n 1, 1) := by decide +kernel
theorem dX7_readBehindUnit_65 : decode cX7_readBehindUnit 65 = .ok (.invokevirtual 103, 3) := by decide +kernel
theorem dX7_readBehindUnit_68 : decode cX7_readBehindUnit 68 = .ok (.aload_n 0, 1) := by decide +kernel
theorem dX7_readBehindUnit_69 : decode cX7_readBehindUnit 69 = .ok (.iconst 0, 1) := by decide +kernel
theorem dX7_readBehindUnit_70 : decode cX7_readBehindUnit 70 = .ok (.aload_n 0, 1) := by decide +kernel
theorem dX7_readBehindUnit_71 : decode cX7_readBehindUnit 71 = .ok (.getfield 28, 3) := by decide +kernel
theorem dX7_readBehindUnit_74 : decode cX7_readBehindUnit 74 = .ok (.iconst 1, 1) := by decide +kernel
theorem dX7_readBehindUnit_75 : decode cX7_readBehindUnit 75 = .ok (.isub, 1) := by decide +kernel
theorem dX7_readBehindUnit_76 : decode cX7_readBehindUnit 76 = .ok (.invokestatic 116, 3) := by decide +kernel
theorem dX7_readBehindUnit_79 : decode cX7_readBehindUnit 79 = .ok (.putfield 28, 3) := by decide +kernel
theorem dX7_readBehindUnit_82 : decode cX7_readBehindUnit 82 = .ok (.aload_n 0, 1) := by decide +kernel
theorem dX7_readBehindUnit_83 : decode cX7_readBehindUnit 83 = .ok (.dup, 1) := by decide +kernel
theorem dX7_readBehindUnit_84 : decode cX7_readBehindUnit 84 = .ok (.getfield 25, 3) := by decide +kernel
theorem dX7_readBehindUnit_87 : decode cX7_readBehindUnit 87 = .ok (.iconst 1, 1) := by decide +kernel
theorem dX7_readBehindUnit_88 : decode cX7_readBehindUnit 88 = .ok (.isub, 1) := by decide +kernel
theorem dX7_readBehindUnit_89 : decode cX7_readBehindUnit 89 = .ok (.putfield 25, 3) := by decide +kernel
theorem dX7_readBehindUnit_92 : decode cX7_readBehindUnit 92 = .ok (.goto 69, 3) := by decide +kernel
theorem dX7_readBehindUnit_95 : decode cX7_readBehindUnit 95 = .ok (.aload_n 0, 1) := by decide +kernel
theorem dX7_readBehindUnit_96 : decode cX7_readBehindUnit 96 = .ok (.getfield 21, 3) := by decide +kernel
theorem dX7_readBehindUnit_99 : decode cX7_readBehindUnit 99 = .ok (.invokevirtual 44, 3) := by decide +kernel
theorem dX7_readBehindUnit_102 : decode cX7_readBehindUnit 102 = .ok (.istore 5, 2) := by decide +kernel
theorem dX7_readBehindUnit_104 : decode cX7_readBehindUnit 104 = .ok (.iload 5, 2) := by decide +kernel
theorem dX7_readBehindUnit_106 : decode cX7_readBehindUnit 106 = .ok (.invokestatic 110, 3) := by decide +kernel
theorem dX7_readBehindUnit_109 : decode cX7_readBehindUnit 109 = .ok (.ifCond .eq 8, 3) := by decide +kernel
theorem dX7_readBehindUnit_112 : decode cX7_readBehindUnit 112 = .ok (.iload 5, 2) := by decide +kernel
theorem dX7_readBehindUnit_114 : decode cX7_readBehindUnit 114 = .ok (.ifCond .ne 18, 3) := by decide +kernel
theorem dX7_readBehindUnit_117 : decode cX7_readBehindUnit 117 = .ok (.aload_n 0, 1) := by decide +kernel
theorem dX7_readBehindUnit_118 : decode cX7_readBehindUnit 118 = .ok (.iload 5, 2) := by decide +kernel
theorem dX7_readBehindUnit_120 : decode cX7_readBehindUnit 120 = .ok (.ifCond .ne 7, 3) := by decide +kernel
theorem dX7_readBehindUnit_123 : decode cX7_readBehindUnit 123 = .ok (.iconst 2, 1) := by decide +kernel
theorem dX7_readBehindUnit_124 : decode cX7_readBehindUnit 124 = .ok (.goto 4, 3) := by decide +kernel
theorem dX7_readBehindUnit_127 : decode cX7_readBehindUnit 127 = .ok (.iconst 1, 1) := by decide +kernel
theorem dX7_readBehindUnit_128 : decode cX7_readBehindUnit 128 = .ok (.invokevirtual 54, 3) := by decide +kernel
theorem dX7_readBehindUnit_131 : decode cX7_readBehindUnit 131 = .ok (.ireturn, 1) := by decide +kernel
theorem dX7_readBehindUnit_132 : decode cX7_readBehindUnit 132 = .ok (.aload_n 0, 1) := by decide +kernel
theorem dX7_readBehindUnit_133 : decode cX7_readBehindUnit 133 = .ok (.bipush (-8), 2) := by decide +kernel
theorem dX7_readBehindUnit_135 : decode cX7_readBehindUnit 135 = .ok (.invokestatic 99, 3) := by decide +kernel
theorem dX7_readBehindUnit_138 : decode cX7_readBehindUnit 138 = .ok (.aload_n 1, 1) := by decide +kernel
theorem dX7_readBehindUnit_139 : decode cX7_readBehindUnit 139 = .ok (.invokevirtual 103, 3) := by decide +kernel
theorem dX7_readBehindUnit_142 : decode cX7_readBehindUnit 142 = .ok (.aload_n 1, 1) := by decide +kernel
theorem dX7_readBehindUnit_143 : decode cX7_readBehindUnit 143 = .ok (.iload 5, 2) := by decide +kernel
theorem dX7_readBehindUnit_145 : decode cX7_readBehindUnit 145 = .ok (.invokevirtual 89, 3) := by decide +kernel
theorem dX7_readBehindUnit_148 : decode cX7_readBehindUnit 148 = .ok (.aload_n 1, 1) := by decide +kernel
theorem dX7_readBehindUnit_149 : decode cX7_readBehindUnit 149 = .ok (.bipush (-8), 2) := by decide +kernel
theorem dX7_readBehindUnit_151 : decode cX7_readBehindUnit 151 = .ok (.invokevirtual 89, 3) := by decide +kernel
theorem dX7_readBehindUnit_154 : decode cX7_readBehindUnit 154 = .ok (.aload_n 0, 1) := by decide +kernel
theorem dX7_readBehindUnit_155 : decode cX7_readBehindUnit 155 = .ok (.getfield 21, 3) := by decide +kernel
theorem dX7_readBehindUnit_158 : decode cX7_readBehindUnit 158 = .ok (.invokevirtual 61, 3) := by decide +kernel
theorem dX7_readBehindUnit_161 : decode cX7_readBehindUnit 161 = .ok (.iinc 2 1, 3) := by decide +kernel
theorem dX7_readBehindUnit_164 : decode cX7_readBehindUnit 164 = .ok (.goto (-162), 3) := by decide +kernel
theorem dX7_readBehindUnit_167 : decode cX7_readBehindUnit 167 = .ok (.iconst 1, 1) := by decide +kernel
theorem dX7_readBehindUnit_168 : decode cX7_readBehindUnit 168 = .ok (.ireturn, 1) := by decide +kernel
theorem dX7_putToWait_0 : decode cX7_putToWait 0 = .ok (.aload_n 0, 1) := by decide +kernel
theorem dX7_putToWait_1 : decode cX7_putToWait 1 = .ok (.getfield 28, 3) := by decide +kernel
theorem dX7_putToWait_4 : decode cX7_putToWait 4 = .ok (.bipush 26, 2) := by decide +kernel
theorem dX7_putToWait_6 : decode cX7_putToWait 6 = .ok (.if_icmp .ge 23, 3) := by decide +kernel
theorem dX7_putToWait_9 : decode cX7_putToWait 9 = .ok (.aload_n 0, 1) := by decide +kernel
theorem dX7_putToWait_10 : decode cX7_putToWait 10 = .ok (.getfield 31, 3) := by decide +kernel
theorem dX7_putToWait_13 : decode cX7_putToWait 13 = .ok (.aload_n 0, 1) := by decide +kernel
theorem dX7_putToWait_14 : decode cX7_putToWait 14 = .ok (.getfield 28, 3) := by decide +kernel
theorem dX7_putToWait_17 : decode cX7_putToWait 17 = .ok (.iload_n 1, 1) := by decide +kernel
theorem dX7_putToWait_18 : decode cX7_putToWait 18 = .ok (.iastore, 1) := by decide +kernel
theorem dX7_putToWait_19 : decode cX7_putToWait 19 = .ok (.aload_n 0, 1) := by decide +kernel
theorem dX7_putToWait_20 : decode cX7_putToWait 20 = .ok (.dup, 1) := by decide +kernel
theorem dX7_putToWait_21 : decode cX7_putToWait 21 = .ok (.getfield 28, 3) := by decide +kernel
theorem dX7_putToWait_24 : decode cX7_putToWait 24 = .ok (.iconst 1, 1) := by decide +kernel
theorem dX7_putToWait_25 : decode cX7_putToWait 25 = .ok (.iadd, 1) := by decide +kernel
theorem dX7_putToWait_26 : decode cX7_putToWait 26 = .ok (.putfield 28, 3) := by decide +kernel
theorem dX7_putToWait_29 : decode cX7_putToWait 29 = .ok (.return_, 1) := by decide +kernel
theorem dX7_writeWaiting_0 : decode cX7_writeWaiting 0 = .ok (.aload_n 0, 1) := by decide +kernel
theorem dX7_writeWaiting_1 : decode cX7_writeWaiting 1 = .ok (.getfield 28, 3) := by decide +kernel
theorem dX7_writeWaiting_4 : decode cX7_writeWaiting 4 = .ok (.ifCond .le 47, 3) := by decide +kernel
theorem dX7_writeWaiting_7 : decode cX7_writeWaiting 7 = .ok (.aload_n 0, 1) := by decide +kernel
theorem dX7_writeWaiting_8 : decode cX7_writeWaiting 8 = .ok (.getfield 31, 3) := by decide +kernel
theorem dX7_writeWaiting_11 : decode cX7_writeWaiting 11 = .ok (.aload_n 0, 1) := by decide +kernel
theorem dX7_writeWaiting_12 : decode cX7_writeWaiting 12 = .ok (.getfield 28, 3) := by decide +kernel
theorem dX7_writeWaiting_15 : decode cX7_writeWaiting 15 = .ok (.iconst 1, 1) := by decide +kernel
theorem dX7_writeWaiting_16 : decode cX7_writeWaiting 16 = .ok (.isub, 1) := by decide +kernel
theorem dX7_writeWaiting_17 : decode cX7_writeWaiting 17 = .ok (.iaload, 1) := by decide +kernel
theorem dX7_writeWaiting_18 : decode cX7_writeWaiting 18 = .ok (.invokestatic 99, 3) := by decide +kernel
theorem dX7_writeWaiting_21 : decode cX7_writeWaiting 21 = .ok (.iload_n 1, 1) := by decide +kernel
theorem dX7_writeWaiting_22 : decode cX7_writeWaiting 22 = .ok (.if_icmp .lt 29, 3) := by decide +kernel
theorem dX7_writeWaiting_25 : decode cX7_writeWaiting 25 = .ok (.aload_n 0, 1) := by decide +kernel
theorem dX7_writeWaiting_26 : decode cX7_writeWaiting 26 = .ok (.dup, 1) := by decide +kernel
theorem dX7_writeWaiting_27 : decode cX7_writeWaiting 27 = .ok (.getfield 28, 3) := by decide +kernel
theorem dX7_writeWaiting_30 : decode cX7_writeWaiting 30 = .ok (.iconst 1, 1) := by decide +kernel
theorem dX7_writeWaiting_31 : decode cX7_writeWaiting 31 = .ok (.isub, 1) := by decide +kernel
theorem dX7_writeWaiting_32 : decode cX7_writeWaiting 32 = .ok (.putfield 28, 3) := by decide +kernel
theorem dX7_writeWaiting_35 : decode cX7_writeWaiting 35 = .ok (.aload_n 2, 1) := by decide +kernel
theorem dX7_writeWaiting_36 : decode cX7_writeWaiting 36 = .ok (.aload_n 0, 1) := by decide +kernel
theorem dX7_writeWaiting_37 : decode cX7_writeWaiting 37 = .ok (.getfield 31, 3) := by decide +kernel
theorem dX7_writeWaiting_40 : decode cX7_writeWaiting 40 = .ok (.aload_n 0, 1) := by decide +kernel
theorem dX7_writeWaiting_41 : decode cX7_writeWaiting 41 = .ok (.getfield 28, 3) := by decide +kernel
theorem dX7_writeWaiting_44 : decode cX7_writeWaiting 44 = .ok (.iaload, 1) := by decide +kernel
theorem dX7_writeWaiting_45 : decode cX7_writeWaiting 45 = .ok (.invokevirtual 89, 3) := by decide +kernel
theorem dX7_writeWaiting_48 : decode cX7_writeWaiting 48 = .ok (.goto (-48), 3) := by decide +kernel
theorem dX7_writeWaiting_51 : decode cX7_writeWaiting 51 = .ok (.return_, 1) := by decide +kernel
theorem dX8_init_0 : decode cX8_init 0 = .ok (.aload_n 0, 1) := by decide +kernel
theorem dX8_init_1 : decode cX8_init 1 = .ok (.invokespecial 3, 3) := by decide +kernel
theorem dX8_init_4 : decode cX8_init 4 = .ok (.aload_n 0, 1) := by decide +kernel
theorem dX8_init_5 : decode cX8_init 5 = .ok (.iconst 0, 1) := by decide +kernel
theorem dX8_init_6 : decode cX8_init 6 = .ok (.putfield 9, 3) := by decide +kernel
theorem dX8_init_9 : decode cX8_init 9 = .ok (.aload_n 0, 1) := by decide +kernel
theorem dX8_init_10 : decode cX8_init 10 = .ok (.sipush 400, 3) := by decide +kernel
theorem dX8_init_13 : decode cX8_init 13 = .ok (.newarray .int, 2) := by decide +kernel
theorem dX8_init_15 : decode cX8_init 15 = .ok (.putfield 15, 3) := by decide +kernel
theorem dX8_init_18 : decode cX8_init 18 = .ok (.return_, 1) := by decide +kernel
theorem dX8_append_0 : decode cX8_append 0 = .ok (.aload_n 0, 1) := by decide +kernel
theorem dX8_append_1 : decode cX8_append 1 = .ok (.getfield 9, 3) := by decide +kernel
theorem dX8_append_4 : decode cX8_append 4 = .ok (.iconst 4, 1) := by decide +kernel
theorem dX8_append_5 : decode cX8_append 5 = .ok (.iadd, 1) := by decide +kernel
theorem dX8_append_6 : decode cX8_append 6 = .ok (.sipush 400, 3) := by decide +kernel
theorem dX8_append_9 : decode cX8_append 9 = .ok (.if_icmp .le 4, 3) := by decide +kernel
theorem dX8_append_12 : decode cX8_append 12 = .ok (.return_, 1) := by decide +kernel
theorem dX8_append_13 : decode cX8_append 13 = .ok (.bipush 24, 2) := by decide +kernel
theorem dX8_append_15 : decode cX8_append 15 = .ok (.istore_n 2, 1) := by decide +kernel
theorem dX8_append_16 : decode cX8_append 16 = .ok (.iload_n 2, 1) := by decide +kernel
theorem dX8_append_17 : decode cX8_append 17 = .ok (.ifCond .lt 35, 3) := by decide +kernel
theorem dX8_append_20 : decode cX8_append 20 = .ok (.aload_n 0, 1) := by decide +kernel
theorem dX8_append_21 : decode cX8_append 21 = .ok (.getfield 15, 3) := by decide +kernel
theorem dX8_append_24 : decode cX8_append 24 = .ok (.aload_n 0, 1) := by decide +kernel
theorem dX8_append_25 : decode cX8_append 25 = .ok (.getfield 9, 3) := by decide +kernel
theorem dX8_append_28 : decode cX8_append 28 = .ok (.iload_n 1, 1) := by decide +kernel
theorem dX8_append_29 : decode cX8_append 29 = .ok (.iload_n 2, 1) := by decide +kernel
theorem dX8_append_30 : decode cX8_append 30 = .ok (.iushr, 1) := by decide +kernel
theorem dX8_append_31 : decode cX8_append 31 = .ok (.sipush 255, 3) := by decide +kernel
theorem dX8_append_34 : decode cX8_append 34 = .ok (.iand, 1) := by decide +kernel
theorem dX8_append_35 : decode cX8_append 35 = .ok (.iastore, 1) := by decide +kernel
theorem dX8_append_36 : decode cX8_append 36 = .ok (.aload_n 0, 1) := by decide +kernel
theorem dX8_append_37 : decode cX8_append 37 = .ok (.dup, 1) := by decide +kernel
theorem dX8_append_38 : decode cX8_append 38 = .ok (.getfield 9, 3) := by decide +kernel
theorem dX8_append_41 : decode cX8_append 41 = .ok (.iconst 1, 1) := by decide +kernel
theorem dX8_append_42 : decode cX8_append 42 = .ok (.iadd, 1) := by decide +kernel
theorem dX8_append_43 : decode cX8_append 43 = .ok (.putfield 9, 3) := by decide +kernel
theorem dX8_append_46 : decode cX8_append 46 = .ok (.iinc 2 (-8), 3) := by decide +kernel
theorem dX8_append_49 : decode cX8_append 49 = .ok (.goto (-33), 3) := by decide +kernel
theorem dX8_append_52 : decode cX8_append 52 = .ok (.return_, 1) := by decide +kernel
theorem dX8_cutTo_0 : decode cX8_cutTo 0 = .ok (.iload_n 1, 1) := by decide +kernel
theorem dX8_cutTo_1 : decode cX8_cutTo 1 = .ok (.ifCond .lt 11, 3) := by decide +kernel
theorem dX8_cutTo_4 : decode cX8_cutTo 4 = .ok (.iload_n 1, 1) := by decide +kernel
theorem dX8_cutTo_5 : decode cX8_cutTo 5 = .ok (.aload_n 0, 1) := by decide +kernel
theorem dX8_cutTo_6 : decode cX8_cutTo 6 = .ok (.getfield 9, 3) := by decide +kernel
theorem dX8_cutTo_9 : decode cX8_cutTo 9 = .ok (.if_icmp .le 5, 3) := by decide +kernel
theorem dX8_cutTo_12 : decode cX8_cutTo 12 = .ok (.iconst 0, 1) := by decide +kernel
theorem dX8_cutTo_13 : decode cX8_cutTo 13 = .ok (.ireturn, 1) := by decide +kernel
theorem dX8_cutTo_14 : decode cX8_cutTo 14 = .ok (.aload_n 0, 1) := by decide +kernel
theorem dX8_cutTo_15 : decode cX8_cutTo 15 = .ok (.iload_n 1, 1) := by decide +kernel
theorem dX8_cutTo_16 : decode cX8_cutTo 16 = .ok (.putfield 9, 3) := by decide +kernel
theorem dX8_cutTo_19 : decode cX8_cutTo 19 = .ok (.iconst 1, 1) := by decide +kernel
theorem dX8_cutTo_20 : decode cX8_cutTo 20 = .ok (.ireturn, 1) := by decide +kernel
theorem dX8_byteAt_0 : decode cX8_byteAt 0 = .ok (.iload_n 1, 1) := by decide +kernel
theorem dX8_byteAt_1 : decode cX8_byteAt 1 = .ok (.ifCond .lt 20, 3) := by decide +kernel
theorem dX8_byteAt_4 : decode cX8_byteAt 4 = .ok (.iload_n 1, 1) := by decide +kernel
theorem dX8_byteAt_5 : decode cX8_byteAt 5 = .ok (.aload_n 0, 1) := by decide +kernel
theorem dX8_byteAt_6 : decode cX8_byteAt 6 = .ok (.getfield 9, 3) := by decide +kernel
theorem dX8_byteAt_9 : decode cX8_byteAt 9 = .ok (.if_icmp .ge 12, 3) := by decide +kernel
theorem dX8_byteAt_12 : decode cX8_byteAt 12 = .ok (.aload_n 0, 1) := by decide +kernel
theorem dX8_byteAt_13 : decode cX8_byteAt 13 = .ok (.getfield 15, 3) := by decide +kernel
theorem dX8_byteAt_16 : decode cX8_byteAt 16 = .ok (.iload_n 1, 1) := by decide +kernel
theorem dX8_byteAt_17 : decode cX8_byteAt 17 = .ok (.iaload, 1) := by decide +kernel
theorem dX8_byteAt_18 : decode cX8_byteAt 18 = .ok (.goto 4, 3) := by decide +kernel
theorem dX8_byteAt_21 : decode cX8_byteAt 21 = .ok (.iconst (-1), 1) := by decide +kernel
theorem dX8_byteAt_22 : decode cX8_byteAt 22 = .ok (.ireturn, 1) := by decide +kernel
theorem dX8_spells_0 : decode cX8_spells 0 = .ok (.iload_n 3, 1) := by decide +kernel
theorem dX8_spells_1 : decode cX8_spells 1 = .ok (.iload_n 2, 1) := by decide +kernel
theorem dX8_spells_2 : decode cX8_spells 2 = .ok (.isub, 1) := by decide +kernel
theorem dX8_spells_3 : decode cX8_spells 3 = .ok (.aload_n 1, 1) := by decide +kernel
theorem dX8_spells_4 : decode cX8_spells 4 = .ok (.invokevirtual 19, 3) := by decide +kernel
theorem dX8_spells_7 : decode cX8_spells 7 = .ok (.if_icmp .eq 5, 3) := by decide +kernel
theorem dX8_spells_10 : decode cX8_spells 10 = .ok (.iconst 0, 1) := by decide +kernel
theorem dX8_spells_11 : decode cX8_spells 11 = .ok (.ireturn, 1) := by decide +kernel
theorem dX8_spells_12 : decode cX8_spells 12 = .ok (.iconst 0, 1) := by decide +kernel
theorem dX8_spells_13 : decode cX8_spells 13 = .ok (.istore 4, 2) := by decide +kernel
theorem dX8_spells_15 : decode cX8_spells 15 = .ok (.iload 4, 2) := by decide +kernel
theorem dX8_spells_17 : decode cX8_spells 17 = .ok (.aload_n 1, 1) := by decide +kernel
theorem dX8_spells_18 : decode cX8_spells 18 = .ok (.invokevirtual 19, 3) := by decide +kernel
theorem dX8_spells_21 : decode cX8_spells 21 = .ok (.if_icmp .ge 28, 3) := by decide +kernel
theorem dX8_spells_24 : decode cX8_spells 24 = .ok (.aload_n 0, 1) := by decide +kernel
theorem dX8_spells_25 : decode cX8_spells 25 = .ok (.iload_n 2, 1) := by decide +kernel
theorem dX8_spells_26 : decode cX8_spells 26 = .ok (.iload 4, 2) := by decide +kernel
theorem dX8_spells_28 : decode cX8_spells 28 = .ok (.iadd, 1) := by decide +kernel
theorem dX8_spells_29 : decode cX8_spells 29 = .ok (.invokevirtual 24, 3) := by decide +kernel
theorem dX8_spells_32 : decode cX8_spells 32 = .ok (.aload_n 1, 1) := by decide +kernel
theorem dX8_spells_33 : decode cX8_spells 33 = .ok (.iload 4, 2) := by decide +kernel
theorem dX8_spells_35 : decode cX8_spells 35 = .ok (.invokevirtual 28, 3) := by decide +kernel
theorem dX8_spells_38 : decode cX8_spells 38 = .ok (.if_icmp .eq 5, 3) := by decide +kernel
theorem dX8_spells_41 : decode cX8_spells 41 = .ok (.iconst 0, 1) := by decide +kernel
theorem dX8_spells_42 : decode cX8_spells 42 = .ok (.ireturn, 1) := by decide +kernel
theorem dX8_spells_43 : decode cX8_spells 43 = .ok (.iinc 4 1, 3) := by decide +kernel
theorem dX8_spells_46 : decode cX8_spells 46 = .ok (.goto (-31), 3) := by decide +kernel
theorem dX8_spells_49 : decode cX8_spells 49 = .ok (.iconst 1, 1) := by decide +kernel
theorem dX8_spells_50 : decode cX8_spells 50 = .ok (.ireturn, 1) := by decide +kernel
theorem dX9_init_0 : decode cX9_init 0 = .ok (.aload_n 0, 1) := by decide +kernel
theorem dX9_init_1 : decode cX9_init 1 = .ok (.invokespecial 3, 3) := by decide +kernel
theorem dX9_init_4 : decode cX9_init 4 = .ok (.aload_n 0, 1) := by decide +kernel
theorem dX9_init_5 : decode cX9_init 5 = .ok (.iconst 0, 1) := by decide +kernel
theorem dX9_init_6 : decode cX9_init 6 = .ok (.putfield 9, 3) := by decide +kernel
theorem dX9_init_9 : decode cX9_init 9 = .ok (.aload_n 0, 1) := by decide +kernel
theorem dX9_init_10 : decode cX9_init 10 = .ok (.iconst 0, 1) := by decide +kernel
theorem dX9_init_11 : decode cX9_init 11 = .ok (.putfield 15, 3) := by decide +kernel
theorem dX9_init_14 : decode cX9_init 14 = .ok (.aload_n 0, 1) := by decide +kernel
theorem dX9_init_15 : decode cX9_init 15 = .ok (.sipush 401, 3) := by decide +kernel
theorem dX9_init_18 : decode cX9_init 18 = .ok (.newarray .int, 2) := by decide +kernel
theorem dX9_init_20 : decode cX9_init 20 = .ok (.putfield 18, 3) := by decide +kernel
theorem dX9_init_23 : decode cX9_init 23 = .ok (.aload_n 0, 1) := by decide +kernel
theorem dX9_init_24 : decode cX9_init 24 = .ok (.sipush 401, 3) := by decide +kernel
theorem dX9_init_27 : decode cX9_init 27 = .ok (.newarray .int, 2) := by decide +kernel
theorem dX9_init_29 : decode cX9_init 29 = .ok (.putfield 22, 3) := by decide +kernel
theorem dX9_init_32 : decode cX9_init 32 = .ok (.return_, 1) := by decide +kernel
theorem dX9_cut_0 : decode cX9_cut 0 = .ok (.aload_n 0, 1) := by decide +kernel
theorem dX9_cut_1 : decode cX9_cut 1 = .ok (.iconst 0, 1) := by decide +kernel
theorem dX9_cut_2 : decode cX9_cut 2 = .ok (.putfield 9, 3) := by decide +kernel
theorem dX9_cut_5 : decode cX9_cut 5 = .ok (.aload_n 0, 1) := by decide +kernel
theorem dX9_cut_6 : decode cX9_cut 6 = .ok (.iconst 0, 1) := by decide +kernel
theorem dX9_cut_7 : decode cX9_cut 7 = .ok (.putfield 15, 3) := by decide +kernel
theorem dX9_cut_10 : decode cX9_cut 10 = .ok (.iconst 0, 1) := by decide +kernel
theorem dX9_cut_11 : decode cX9_cut 11 = .ok (.istore_n 2, 1) := by decide +kernel
theorem dX9_cut_12 : decode cX9_cut 12 = .ok (.iconst 0, 1) := by decide +kernel
theorem dX9_cut_13 : decode cX9_cut 13 = .ok (.istore_n 3, 1) := by decide +kernel
theorem dX9_cut_14 : decode cX9_cut 14 = .ok (.iload_n 3, 1) := by decide +kernel
theorem dX9_cut_15 : decode cX9_cut 15 = .ok (.sipush 400, 3) := by decide +kernel
theorem dX9_cut_18 : decode cX9_cut 18 = .ok (.if_icmp .ge 93, 3) := by decide +kernel
theorem dX9_cut_21 : decode cX9_cut 21 = .ok (.iload_n 2, 1) := by decide +kernel
theorem dX9_cut_22 : decode cX9_cut 22 = .ok (.aload_n 1, 1) := by decide +kernel
theorem dX9_cut_23 : decode cX9_cut 23 = .ok (.getfield 25, 3) := by decide +kernel
theorem dX9_cut_26 : decode cX9_cut 26 = .ok (.if_icmp .ge 85, 3) := by decide +kernel
theorem dX9_cut_29 : decode cX9_cut 29 = .ok (.aload_n 1, 1) := by decide +kernel
theorem dX9_cut_30 : decode cX9_cut 30 = .ok (.iload_n 2, 1) := by decide +kernel
theorem dX9_cut_31 : decode cX9_cut 31 = .ok (.invokevirtual 30, 3) := by decide +kernel
theorem dX9_cut_34 : decode cX9_cut 34 = .ok (.istore 4, 2) := by decide +kernel
theorem dX9_cut_36 : decode cX9_cut 36 = .ok (.iload 4, 2) := by decide +kernel
theorem dX9_cut_38 : decode cX9_cut 38 = .ok (.bipush 32, 2) := by decide +kernel
theorem dX9_cut_40 : decode cX9_cut 40 = .ok (.if_icmp .eq 10, 3) := by decide +kernel
theorem dX9_cut_43 : decode cX9_cut 43 = .ok (.iload 4, 2) := by decide +kernel
theorem dX9_cut_45 : decode cX9_cut 45 = .ok (.bipush 10, 2) := by decide +kernel
theorem dX9_cut_47 : decode cX9_cut 47 = .ok (.if_icmp .ne 9, 3) := by decide +kernel
theorem dX9_cut_50 : decode cX9_cut 50 = .ok (.iinc 2 1, 3) := by decide +kernel
theorem dX9_cut_53 : decode cX9_cut 53 = .ok (.goto 52, 3) := by decide +kernel
theorem dX9_cut_56 : decode cX9_cut 56 = .ok (.iload 4, 2) := by decide +kernel
theorem dX9_cut_58 : decode cX9_cut 58 = .ok (.invokestatic 34, 3) := by decide +kernel
theorem dX9_cut_61 : decode cX9_cut 61 = .ok (.ifCond .eq 13, 3) := by decide +kernel
theorem dX9_cut_64 : decode cX9_cut 64 = .ok (.aload_n 0, 1) := by decide +kernel
theorem dX9_cut_65 : decode cX9_cut 65 = .ok (.aload_n 1, 1) := by decide +kernel
theorem dX9_cut_66 : decode cX9_cut 66 = .ok (.iload_n 2, 1) := by decide +kernel
theorem dX9_cut_67 : decode cX9_cut 67 = .ok (.invokevirtual 38, 3) := by decide +kernel
theorem dX9_cut_70 : decode cX9_cut 70 = .ok (.istore_n 2, 1) := by decide +kernel
theorem dX9_cut_71 : decode cX9_cut 71 = .ok (.goto 34, 3) := by decide +kernel
theorem dX9_cut_74 : decode cX9_cut 74 = .ok (.iload 4, 2) := by decide +kernel
theorem dX9_cut_76 : decode cX9_cut 76 = .ok (.invokestatic 42, 3) := by decide +kernel
theorem dX9_cut_79 : decode cX9_cut 79 = .ok (.ifCond .eq 13, 3) := by decide +kernel
theorem dX9_cut_82 : decode cX9_cut 82 = .ok (.aload_n 0, 1) := by decide +kernel
theorem dX9_cut_83 : decode cX9_cut 83 = .ok (.aload_n 1, 1) := by decide +kernel
theorem dX9_cut_84 : decode cX9_cut 84 = .ok (.iload_n 2, 1) := by decide +kernel
theorem dX9_cut_85 : decode cX9_cut 85 = .ok (.invokevirtual 45, 3) := by decide +kernel
theorem dX9_cut_88 : decode cX9_cut 88 = .ok (.istore_n 2, 1) := by decide +kernel
theorem dX9_cut_89 : decode cX9_cut 89 = .ok (.goto 16, 3) := by decide +kernel
theorem dX9_cut_92 : decode cX9_cut 92 = .ok (.aload_n 0, 1) := by decide +kernel
theorem dX9_cut_93 : decode cX9_cut 93 = .ok (.iload 4, 2) := by decide +kernel
theorem dX9_cut_95 : decode cX9_cut 95 = .ok (.invokestatic 48, 3) := by decide +kernel
theorem dX9_cut_98 : decode cX9_cut 98 = .ok (.iload_n 2, 1) := by decide +kernel
theorem dX9_cut_99 : decode cX9_cut 99 = .ok (.invokevirtual 53, 3) := by decide +kernel
theorem dX9_cut_102 : decode cX9_cut 102 = .ok (.iinc 2 1, 3) := by decide +kernel
theorem dX9_cut_105 : decode cX9_cut 105 = .ok (.iinc 3 1, 3) := by decide +kernel
theorem dX9_cut_108 : decode cX9_cut 108 = .ok (.goto (-94), 3) := by decide +kernel
theorem dX9_cut_111 : decode cX9_cut 111 = .ok (.aload_n 0, 1) := by decide +kernel
theorem dX9_cut_112 : decode cX9_cut 112 = .ok (.bipush (-19), 2) := by decide +kernel
theorem dX9_cut_114 : decode cX9_cut 114 = .ok (.aload_n 1, 1) := by decide +kernel
theorem dX9_cut_115 : decode cX9_cut 115 = .ok (.getfield 25, 3) := by decide +kernel
theorem dX9_cut_118 : decode cX9_cut 118 = .ok (.invokevirtual 53, 3) := by decide +kernel
theorem dX9_cut_121 : decode cX9_cut 121 = .ok (.return_, 1) := by decide +kernel
theorem dX9_code_0 : decode cX9_code 0 = .ok (.aload_n 0, 1) := by decide +kernel
theorem dX9_code_1 : decode cX9_code 1 = .ok (.getfield 15, 3) := by decide +kernel
theorem dX9_code_4 : decode cX9_code 4 = .ok (.aload_n 0, 1) := by decide +kernel
theorem dX9_code_5 : decode cX9_code 5 = .ok (.getfield 9, 3) := by decide +kernel
theorem dX9_code_8 : decode cX9_code 8 = .ok (.if_icmp .ge 15, 3) := by decide +kernel
theorem dX9_code_11 : decode cX9_code 11 = .ok (.aload_n 0, 1) := by decide +kernel
theorem dX9_code_12 : decode cX9_code 12 = .ok (.getfield 18, 3) := by decide +kernel
theorem dX9_code_15 : decode cX9_code 15 = .ok (.aload_n 0, 1) := by decide +kernel
theorem dX9_code_16 : decode cX9_code 16 = .ok (.getfield 15, 3) := by decide +kernel
theorem dX9_code_19 : decode cX9_code 19 = .ok (.iaload, 1) := by decide +kernel
theorem dX9_code_20 : decode cX9_code 20 = .ok (.goto 5, 3) := by decide +kernel
theorem dX9_code_23 : decode cX9_code 23 = .ok (.bipush (-19), 2) := by decide +kernel
theorem dX9_code_25 : decode cX9_code 25 = .ok (.ireturn, 1) := by decide +kernel
theorem dX9_place_0 : decode cX9_place 0 = .ok (.aload_n 0, 1) := by decide +kernel
theorem dX9_place_1 : decode cX9_place 1 = .ok (.getfield 15, 3) := by decide +kernel
theorem dX9_place_4 : decode cX9_place 4 = .ok (.aload_n 0, 1) := by decide +kernel
theorem dX9_place_5 : decode cX9_place 5 = .ok (.getfield 9, 3) := by decide +kernel
theorem dX9_place_8 : decode cX9_place 8 = .ok (.if_icmp .ge 15, 3) := by decide +kernel
theorem dX9_place_11 : decode cX9_place 11 = .ok (.aload_n 0, 1) := by decide +kernel
theorem dX9_place_12 : decode cX9_place 12 = .ok (.getfield 22, 3) := by decide +kernel
theorem dX9_place_15 : decode cX9_place 15 = .ok (.aload_n 0, 1) := by decide +kernel
theorem dX9_place_16 : decode cX9_place 16 = .ok (.getfield 15, 3) := by decide +kernel
theorem dX9_place_19 : decode cX9_place 19 = .ok (.iaload, 1) := by decide +kernel
theorem dX9_place_20 : decode cX9_place 20 = .ok (.goto 4, 3) := by decide +kernel
theorem dX9_place_23 : decode cX9_place 23 = .ok (.iconst 0, 1) := by decide +kernel
theorem dX9_place_24 : decode cX9_place 24 = .ok (.ireturn, 1) := by decide +kernel
theorem dX9_advance_0 : decode cX9_advance 0 = .ok (.aload_n 0, 1) := by decide +kernel
theorem dX9_advance_1 : decode cX9_advance 1 = .ok (.getfield 15, 3) := by decide +kernel
theorem dX9_advance_4 : decode cX9_advance 4 = .ok (.iconst 1, 1) := by decide +kernel
theorem dX9_advance_5 : decode cX9_advance 5 = .ok (.iadd, 1) := by decide +kernel
theorem dX9_advance_6 : decode cX9_advance 6 = .ok (.aload_n 0, 1) := by decide +kernel
theorem dX9_advance_7 : decode cX9_advance 7 = .ok (.getfield 9, 3) := by decide +kernel
theorem dX9_advance_10 : decode cX9_advance 10 = .ok (.if_icmp .ge 13, 3) := by decide +kernel
theorem dX9_advance_13 : decode cX9_advance 13 = .ok (.aload_n 0, 1) := by decide +kernel
theorem dX9_advance_14 : decode cX9_advance 14 = .ok (.dup, 1) := by decide +kernel
theorem dX9_advance_15 : decode cX9_advance 15 = .ok (.getfield 15, 3) := by decide +kernel
theorem dX9_advance_18 : decode cX9_advance 18 = .ok (.iconst 1, 1) := by decide +kernel
theorem dX9_advance_19 : decode cX9_advance 19 = .ok (.iadd, 1) := by decide +kernel
theorem dX9_advance_20 : decode cX9_advance 20 = .ok (.putfield 15, 3) := by decide +kernel
theorem dX9_advance_23 : decode cX9_advance 23 = .ok (.return_, 1) := by decide +kernel
theorem dX9_add_0 : decode cX9_add 0 = .ok (.aload_n 0, 1) := by decide +kernel
theorem dX9_add_1 : decode cX9_add 1 = .ok (.getfield 9, 3) := by decide +kernel
theorem dX9_add_4 : decode cX9_add 4 = .ok (.sipush 400, 3) := by decide +kernel
theorem dX9_add_7 : decode cX9_add 7 = .ok (.if_icmp .gt 33, 3) := by decide +kernel
theorem dX9_add_10 : decode cX9_add 10 = .ok (.aload_n 0, 1) := by decide +kernel
theorem dX9_add_11 : decode cX9_add 11 = .ok (.getfield 18, 3) := by decide +kernel
theorem dX9_add_14 : decode cX9_add 14 = .ok (.aload_n 0, 1) := by decide +kernel
theorem dX9_add_15 : decode cX9_add 15 = .ok (.getfield 9, 3) := by decide +kernel
theorem dX9_add_18 : decode cX9_add 18 = .ok (.iload_n 1, 1) := by decide +kernel
theorem dX9_add_19 : decode cX9_add 19 = .ok (.iastore, 1) := by decide +kernel
theorem dX9_add_20 : decode cX9_add 20 = .ok (.aload_n 0, 1) := by decide +kernel
theorem dX9_add_21 : decode cX9_add 21 = .ok (.getfield 22, 3) := by decide +kernel
theorem dX9_add_24 : decode cX9_add 24 = .ok (.aload_n 0, 1) := by decide +kernel
theorem dX9_add_25 : decode cX9_add 25 = .ok (.getfield 9, 3) := by decide +kernel
theorem dX9_add_28 : decode cX9_add 28 = .ok (.iload_n 2, 1) := by decide +kernel
theorem dX9_add_29 : decode cX9_add 29 = .ok (.iastore, 1) := by decide +kernel
theorem dX9_add_30 : decode cX9_add 30 = .ok (.aload_n 0, 1) := by decide +kernel
theorem dX9_add_31 : decode cX9_add 31 = .ok (.dup, 1) := by decide +kernel
theorem dX9_add_32 : decode cX9_add 32 = .ok (.getfield 9, 3) := by decide +kernel
theorem dX9_add_35 : decode cX9_add 35 = .ok (.iconst 1, 1) := by decide +kernel
theorem dX9_add_36 : decode cX9_add 36 = .ok (.iadd, 1) := by decide +kernel
theorem dX9_add_37 : decode cX9_add 37 = .ok (.putfield 9, 3) := by decide +kernel
theorem dX9_add_40 : decode cX9_add 40 = .ok (.return_, 1) := by decide +kernel
theorem dX9_isLetter_0 : decode cX9_isLetter 0 = .ok (.iload_n 0, 1) := by decide +kernel
theorem dX9_isLetter_1 : decode cX9_isLetter 1 = .ok (.bipush 97, 2) := by decide +kernel
theorem dX9_isLetter_3 : decode cX9_isLetter 3 = .ok (.bipush 122, 2) := by decide +kernel
theorem dX9_isLetter_5 : decode cX9_isLetter 5 = .ok (.invokestatic 57, 3) := by decide +kernel
theorem dX9_isLetter_8 : decode cX9_isLetter 8 = .ok (.ifCond .ne 14, 3) := by decide +kernel
theorem dX9_isLetter_11 : decode cX9_isLetter 11 = .ok (.iload_n 0, 1) := by decide +kernel
theorem dX9_isLetter_12 : decode cX9_isLetter 12 = .ok (.bipush 65, 2) := by decide +kernel
theorem dX9_isLetter_14 : decode cX9_isLetter 14 = .ok (.bipush 90, 2) := by decide +kernel
theorem dX9_isLetter_16 : decode cX9_isLetter 16 = .ok (.invokestatic 57, 3) := by decide +kernel
theorem dX9_isLetter_19 : decode cX9_isLetter 19 = .ok (.ifCond .eq 7, 3) := by decide +kernel
theorem dX9_isLetter_22 : decode cX9_isLetter 22 = .ok (.iconst 1, 1) := by decide +kernel
theorem dX9_isLetter_23 : decode cX9_isLetter 23 = .ok (.goto 4, 3) := by decide +kernel
theorem dX9_isLetter_26 : decode cX9_isLetter 26 = .ok (.iconst 0, 1) := by decide +kernel
theorem dX9_isLetter_27 : decode cX9_isLetter 27 = .ok (.ireturn, 1) := by decide +kernel
theorem dX9_isDigit_0 : decode cX9_isDigit 0 = .ok (.iload_n 0, 1) := by decide +kernel
theorem dX9_isDigit_1 : decode cX9_isDigit 1 = .ok (.bipush 48, 2) := by decide +kernel
theorem dX9_isDigit_3 : decode cX9_isDigit 3 = .ok (.bipush 57, 2) := by decide +kernel
theorem dX9_isDigit_5 : decode cX9_isDigit 5 = .ok (.invokestatic 57, 3) := by decide +kernel
theorem dX9_isDigit_8 : decode cX9_isDigit 8 = .ok (.ireturn, 1) := by decide +kernel
theorem dX9_cutWord_0 : decode cX9_cutWord 0 = .ok (.iload_n 2, 1) := by decide +kernel
theorem dX9_cutWord_1 : decode cX9_cutWord 1 = .ok (.istore_n 3, 1) := by decide +kernel
theorem dX9_cutWord_2 : decode cX9_cutWord 2 = .ok (.iload_n 3, 1) := by decide +kernel
theorem dX9_cutWord_3 : decode cX9_cutWord 3 = .ok (.aload_n 1, 1) := by decide +kernel
theorem dX9_cutWord_4 : decode cX9_cutWord 4 = .ok (.getfield 25, 3) := by decide +kernel
theorem dX9_cutWord_7 : decode cX9_cutWord 7 = .ok (.if_icmp .ge 20, 3) := by decide +kernel
theorem dX9_cutWord_10 : decode cX9_cutWord 10 = .ok (.aload_n 1, 1) := by decide +kernel
theorem dX9_cutWord_11 : decode cX9_cutWord 11 = .ok (.iload_n 3, 1) := by decide +kernel
theorem dX9_cutWord_12 : decode cX9_cutWord 12 = .ok (.invokevirtual 30, 3) := by decide +kernel
theorem dX9_cutWord_15 : decode cX9_cutWord 15 = .ok (.invokestatic 34, 3) := by decide +kernel
theorem dX9_cutWord_18 : decode cX9_cutWord 18 = .ok (.ifCond .eq 9, 3) := by decide +kernel
theorem dX9_cutWord_21 : decode cX9_cutWord 21 = .ok (.iinc 3 1, 3) := by decide +kernel
theorem dX9_cutWord_24 : decode cX9_cutWord 24 = .ok (.goto (-22), 3) := by decide +kernel
theorem dX9_cutWord_27 : decode cX9_cutWord 27 = .ok (.aload_n 0, 1) := by decide +kernel
theorem dX9_cutWord_28 : decode cX9_cutWord 28 = .ok (.aload_n 1, 1) := by decide +kernel
theorem dX9_cutWord_29 : decode cX9_cutWord 29 = .ok (.iload_n 2, 1) := by decide +kernel
theorem dX9_cutWord_30 : decode cX9_cutWord 30 = .ok (.iload_n 3, 1) := by decide +kernel
theorem dX9_cutWord_31 : decode cX9_cutWord 31 = .ok (.invokestatic 61, 3) := by decide +kernel
theorem dX9_cutWord_34 : decode cX9_cutWord 34 = .ok (.iload_n 2, 1) := by decide +kernel
theorem dX9_cutWord_35 : decode cX9_cutWord 35 = .ok (.invokevirtual 53, 3) := by decide +kernel
theorem dX9_cutWord_38 : decode cX9_cutWord 38 = .ok (.iload_n 3, 1) := by decide +kernel
theorem dX9_cutWord_39 : decode cX9_cutWord 39 = .ok (.ireturn, 1) := by decide +kernel
theorem dX9_cutNumber_0 : decode cX9_cutNumber 0 = .ok (.iconst 0, 1) := by decide +kernel
theorem dX9_cutNumber_1 : decode cX9_cutNumber 1 = .ok (.istore_n 3, 1) := by decide +kernel
theorem dX9_cutNumber_2 : decode cX9_cutNumber 2 = .ok (.iload_n 2, 1) := by decide +kernel
theorem dX9_cutNumber_3 : decode cX9_cutNumber 3 = .ok (.istore 4, 2) := by decide +kernel
theorem dX9_cutNumber_5 : decode cX9_cutNumber 5 = .ok (.iload 4, 2) := by decide +kernel
theorem dX9_cutNumber_7 : decode cX9_cutNumber 7 = .ok (.aload_n 1, 1) := by decide +kernel
theorem dX9_cutNumber_8 : decode cX9_cutNumber 8 = .ok (.getfield 25, 3) := by decide +kernel
theorem dX9_cutNumber_11 : decode cX9_cutNumber 11 = .ok (.if_icmp .ge 36, 3) := by decide +kernel
theorem dX9_cutNumber_14 : decode cX9_cutNumber 14 = .ok (.aload_n 1, 1) := by decide +kernel
theorem dX9_cutNumber_15 : decode cX9_cutNumber 15 = .ok (.iload 4, 2) := by decide +kernel
theorem dX9_cutNumber_17 : decode cX9_cutNumber 17 = .ok (.invokevirtual 30, 3) := by decide +kernel
theorem dX9_cutNumber_20 : decode cX9_cutNumber 20 = .ok (.invokestatic 42, 3) := by decide +kernel
theorem dX9_cutNumber_23 : decode cX9_cutNumber 23 = .ok (.ifCond .eq 24, 3) := by decide +kernel
theorem dX9_cutNumber_26 : decode cX9_cutNumber 26 = .ok (.iload_n 3, 1) := by decide +kernel
theorem dX9_cutNumber_27 : decode cX9_cutNumber 27 = .ok (.bipush 10, 2) := by decide +kernel
theorem dX9_cutNumber_29 : decode cX9_cutNumber 29 = .ok (.imul, 1) := by decide +kernel
theorem dX9_cutNumber_30 : decode cX9_cutNumber 30 = .ok (.aload_n 1, 1) := by decide +kernel
theorem dX9_cutNumber_31 : decode cX9_cutNumber 31 = .ok (.iload 4, 2) := by decide +kernel
theorem dX9_cutNumber_33 : decode cX9_cutNumber 33 = .ok (.invokevirtual 30, 3) := by decide +kernel
theorem dX9_cutNumber_36 : decode cX9_cutNumber 36 = .ok (.bipush 48, 2) := by decide +kernel
theorem dX9_cutNumber_38 : decode cX9_cutNumber 38 = .ok (.isub, 1) := by decide +kernel
theorem dX9_cutNumber_39 : decode cX9_cutNumber 39 = .ok (.iadd, 1) := by decide +kernel
theorem dX9_cutNumber_40 : decode cX9_cutNumber 40 = .ok (.istore_n 3, 1) := by decide +kernel
theorem dX9_cutNumber_41 : decode cX9_cutNumber 41 = .ok (.iinc 4 1, 3) := by decide +kernel
theorem dX9_cutNumber_44 : decode cX9_cutNumber 44 = .ok (.goto (-39), 3) := by decide +kernel
theorem dX9_cutNumber_47 : decode cX9_cutNumber 47 = .ok (.aload_n 0, 1) := by decide +kernel
theorem dX9_cutNumber_48 : decode cX9_cutNumber 48 = .ok (.iload 4, 2) := by decide +kernel
theorem dX9_cutNumber_50 : decode cX9_cutNumber 50 = .ok (.iload_n 2, 1) := by decide +kernel
theorem dX9_cutNumber_51 : decode cX9_cutNumber 51 = .ok (.isub, 1) := by decide +kernel
theorem dX9_cutNumber_52 : decode cX9_cutNumber 52 = .ok (.iconst 4, 1) := by decide +kernel
theorem dX9_cutNumber_53 : decode cX9_cutNumber 53 = .ok (.if_icmp .gt 7, 3) := by decide +kernel
theorem dX9_cutNumber_56 : decode cX9_cutNumber 56 = .ok (.iload_n 3, 1) := by decide +kernel
theorem dX9_cutNumber_57 : decode cX9_cutNumber 57 = .ok (.goto 5, 3) := by decide +kernel
theorem dX9_cutNumber_60 : decode cX9_cutNumber 60 = .ok (.bipush (-18), 2) := by decide +kernel
theorem dX9_cutNumber_62 : decode cX9_cutNumber 62 = .ok (.iload_n 2, 1) := by decide +kernel
theorem dX9_cutNumber_63 : decode cX9_cutNumber 63 = .ok (.invokevirtual 53, 3) := by decide +kernel
theorem dX9_cutNumber_66 : decode cX9_cutNumber 66 = .ok (.iload 4, 2) := by decide +kernel
theorem dX9_cutNumber_68 : decode cX9_cutNumber 68 = .ok (.ireturn, 1) := by decide +kernel
theorem dX10_init_0 : decode cX10_init 0 = .ok (.aload_n 0, 1) := by decide +kernel
theorem dX10_init_1 : decode cX10_init 1 = .ok (.invokespecial 3, 3) := by decide +kernel
theorem dX10_init_4 : decode cX10_init 4 = .ok (.aload_n 0, 1) := by decide +kernel
theorem dX10_init_5 : decode cX10_init 5 = .ok (.iconst 0, 1) := by decide +kernel
theorem dX10_init_6 : decode cX10_init 6 = .ok (.putfield 9, 3) := by decide +kernel
theorem dX10_init_9 : decode cX10_init 9 = .ok (.aload_n 0, 1) := by decide +kernel
theorem dX10_init_10 : decode cX10_init 10 = .ok (.bipush 8, 2) := by decide +kernel
theorem dX10_init_12 : decode cX10_init 12 = .ok (.newarray .int, 2) := by decide +kernel
theorem dX10_init_14 : decode cX10_init 14 = .ok (.putfield 15, 3) := by decide +kernel
theorem dX10_init_17 : decode cX10_init 17 = .ok (.aload_n 0, 1) := by decide +kernel
theorem dX10_init_18 : decode cX10_init 18 = .ok (.bipush 8, 2) := by decide +kernel
theorem dX10_init_20 : decode cX10_init 20 = .ok (.newarray .int, 2) := by decide +kernel
theorem dX10_init_22 : decode cX10_init 22 = .ok (.putfield 19, 3) := by decide +kernel
theorem dX10_init_25 : decode cX10_init 25 = .ok (.aload_n 0, 1) := by decide +kernel
theorem dX10_init_26 : decode cX10_init 26 = .ok (.bipush 8, 2) := by decide +kernel
theorem dX10_init_28 : decode cX10_init 28 = .ok (.bipush 8, 2) := by decide +kernel
theorem dX10_init_30 : decode cX10_init 30 = .ok (.multianewarray 22 2, 4) := by decide +kernel
theorem dX10_init_34 : decode cX10_init 34 = .ok (.putfield 24, 3) := by decide +kernel
theorem dX10_init_37 : decode cX10_init 37 = .ok (.aload_n 0, 1) := by decide +kernel
theorem dX10_init_38 : decode cX10_init 38 = .ok (.bipush 8, 2) := by decide +kernel
theorem dX10_init_40 : decode cX10_init 40 = .ok (.bipush 8, 2) := by decide +kernel
theorem dX10_init_42 : decode cX10_init 42 = .ok (.multianewarray 22 2, 4) := by decide +kernel
theorem dX10_init_46 : decode cX10_init 46 = .ok (.putfield 27, 3) := by decide +kernel
theorem dX10_init_49 : decode cX10_init 49 = .ok (.aload_n 0, 1) := by decide +kernel
theorem dX10_init_50 : decode cX10_init 50 = .ok (.iconst 0, 1) := by decide +kernel
theorem dX10_init_51 : decode cX10_init 51 = .ok (.putfield 30, 3) := by decide +kernel
theorem dX10_init_54 : decode cX10_init 54 = .ok (.aload_n 0, 1) := by decide +kernel
theorem dX10_init_55 : decode cX10_init 55 = .ok (.bipush 8, 2) := by decide +kernel
theorem dX10_init_57 : decode cX10_init 57 = .ok (.newarray .int, 2) := by decide +kernel
theorem dX10_init_59 : decode cX10_init 59 = .ok (.putfield 33, 3) := by decide +kernel
theorem dX10_init_62 : decode cX10_init 62 = .ok (.aload_n 0, 1) := by decide +kernel
theorem dX10_init_63 : decode cX10_init 63 = .ok (.iconst (-1), 1) := by decide +kernel
theorem dX10_init_64 : decode cX10_init 64 = .ok (.putfield 36, 3) := by decide +kernel
theorem dX10_init_67 : decode cX10_init 67 = .ok (.aload_n 0, 1) := by decide +kernel
theorem dX10_init_68 : decode cX10_init 68 = .ok (.iconst 0, 1) := by decide +kernel
theorem dX10_init_69 : decode cX10_init 69 = .ok (.putfield 39, 3) := by decide +kernel
theorem dX10_init_72 : decode cX10_init 72 = .ok (.aload_n 0, 1) := by decide +kernel
theorem dX10_init_73 : decode cX10_init 73 = .ok (.bipush 8, 2) := by decide +kernel
theorem dX10_init_75 : decode cX10_init 75 = .ok (.newarray .int, 2) := by decide +kernel
theorem dX10_init_77 : decode cX10_init 77 = .ok (.putfield 42, 3) := by decide +kernel
theorem dX10_init_80 : decode cX10_init 80 = .ok (.aload_n 0, 1) := by decide +kernel
theorem dX10_init_81 : decode cX10_init 81 = .ok (.bipush 8, 2) := by decide +kernel
theorem dX10_init_83 : decode cX10_init 83 = .ok (.newarray .boolean, 2) := by decide +kernel
theorem dX10_init_85 : decode cX10_init 85 = .ok (.putfield 45, 3) := by decide +kernel
theorem dX10_init_88 : decode cX10_init 88 = .ok (.aload_n 0, 1) := by decide +kernel
theorem dX10_init_89 : decode cX10_init 89 = .ok (.bipush 9, 2) := by decide +kernel
theorem dX10_init_91 : decode cX10_init 91 = .ok (.bipush 64, 2) := by decide +kernel
theorem dX10_init_93 : decode cX10_init 93 = .ok (.multianewarray 22 2, 4) := by decide +kernel
theorem dX10_init_97 : decode cX10_init 97 = .ok (.putfield 49, 3) := by decide +kernel
theorem dX10_init_100 : decode cX10_init 100 = .ok (.aload_n 0, 1) := by decide +kernel
theorem dX10_init_101 : decode cX10_init 101 = .ok (.bipush 9, 2) := by decide +kernel
theorem dX10_init_103 : decode cX10_init 103 = .ok (.newarray .int, 2) := by decide +kernel
theorem dX10_init_105 : decode cX10_init 105 = .ok (.putfield 52, 3) := by decide +kernel
theorem dX10_init_108 : decode cX10_init 108 = .ok (.return_, 1) := by decide +kernel
theorem dX10_addSite_0 : decode cX10_addSite 0 = .ok (.aload_n 0, 1) := by decide +kernel
theorem dX10_addSite_1 : decode cX10_addSite 1 = .ok (.getfield 9, 3) := by decide +kernel
theorem dX10_addSite_4 : decode cX10_addSite 4 = .ok (.bipush 8, 2) := by decide +kernel
theorem dX10_addSite_6 : decode cX10_addSite 6 = .ok (.if_icmp .lt 5, 3) := by decide +kernel
theorem dX10_addSite_9 : decode cX10_addSite 9 = .ok (.iconst (-1), 1) := by decide +kernel
theorem dX10_addSite_10 : decode cX10_addSite 10 = .ok (.ireturn, 1) := by decide +kernel
theorem dX10_addSite_11 : decode cX10_addSite 11 = .ok (.aload_n 0, 1) := by decide +kernel
theorem dX10_addSite_12 : decode cX10_addSite 12 = .ok (.getfield 15, 3) := by decide +kernel
theorem dX10_addSite_15 : decode cX10_addSite 15 = .ok (.aload_n 0, 1) := by decide +kernel
theorem dX10_addSite_16 : decode cX10_addSite 16 = .ok (.getfield 9, 3) := by decide +kernel
theorem dX10_addSite_19 : decode cX10_addSite 19 = .ok (.iload_n 1, 1) := by decide +kernel
theorem dX10_addSite_20 : decode cX10_addSite 20 = .ok (.iastore, 1) := by decide +kernel
theorem dX10_addSite_21 : decode cX10_addSite 21 = .ok (.aload_n 0, 1) := by decide +kernel
theorem dX10_addSite_22 : decode cX10_addSite 22 = .ok (.getfield 19, 3) := by decide +kernel
theorem dX10_addSite_25 : decode cX10_addSite 25 = .ok (.aload_n 0, 1) := by decide +kernel
theorem dX10_addSite_26 : decode cX10_addSite 26 = .ok (.getfield 9, 3) := by decide +kernel
theorem dX10_addSite_29 : decode cX10_addSite 29 = .ok (.iload_n 2, 1) := by decide +kernel
theorem dX10_addSite_30 : decode cX10_addSite 30 = .ok (.iastore, 1) := by decide +kernel
theorem dX10_addSite_31 : decode cX10_addSite 31 = .ok (.iconst 0, 1) := by decide +kernel
theorem dX10_addSite_32 : decode cX10_addSite 32 = .ok (.istore_n 3, 1) := by decide +kernel
theorem dX10_addSite_33 : decode cX10_addSite 33 = .ok (.iload_n 3, 1) := by decide +kernel
theorem dX10_addSite_34 : decode cX10_addSite 34 = .ok (.aload_n 0, 1) := by decide +kernel
theorem dX10_addSite_35 : decode cX10_addSite 35 = .ok (.getfield 9, 3) := by decide +kernel
theorem dX10_addSite_38 : decode cX10_addSite 38 = .ok (.if_icmp .ge 76, 3) := by decide +kernel
theorem dX10_addSite_41 : decode cX10_addSite 41 = .ok (.iload_n 1, 1) := by decide +kernel
theorem dX10_addSite_42 : decode cX10_addSite 42 = .ok (.aload_n 0, 1) := by decide +kernel
theorem dX10_addSite_43 : decode cX10_addSite 43 = .ok (.getfield 15, 3) := by decide +kernel
theorem dX10_addSite_46 : decode cX10_addSite 46 = .ok (.iload_n 3, 1) := by decide +kernel
theorem dX10_addSite_47 : decode cX10_addSite 47 = .ok (.iaload, 1) := by decide +kernel
theorem dX10_addSite_48 : decode cX10_addSite 48 = .ok (.isub, 1) := by decide +kernel
theorem dX10_addSite_49 : decode cX10_addSite 49 = .ok (.invokestatic 55, 3) := by decide +kernel
theorem dX10_addSite_52 : decode cX10_addSite 52 = .ok (.iload_n 2, 1) := by decide +kernel
theorem dX10_addSite_53 : decode cX10_addSite 53 = .ok (.aload_n 0, 1) := by decide +kernel
theorem dX10_addSite_54 : decode cX10_addSite 54 = .ok (.getfield 19, 3) := by decide +kernel
theorem dX10_addSite_57 : decode cX10_addSite 57 = .ok (.iload_n 3, 1) := by decide +kernel
theorem dX10_addSite_58 : decode cX10_addSite 58 = .ok (.iaload, 1) := by decide +kernel
theorem dX10_addSite_59 : decode cX10_addSite 59 = .ok (.isub, 1) := by decide +kernel
theorem dX10_addSite_60 : decode cX10_addSite 60 = .ok (.invokestatic 55, 3) := by decide +kernel
theorem dX10_addSite_63 : decode cX10_addSite 63 = .ok (.iadd, 1) := by decide +kernel
theorem dX10_addSite_64 : decode cX10_addSite 64 = .ok (.istore 4, 2) := by decide +kernel
theorem dX10_addSite_66 : decode cX10_addSite 66 = .ok (.aload_n 0, 1) := by decide +kernel
theorem dX10_addSite_67 : decode cX10_addSite 67 = .ok (.getfield 24, 3) := by decide +kernel
theorem dX10_addSite_70 : decode cX10_addSite 70 = .ok (.iload_n 3, 1) := by decide +kernel
theorem dX10_addSite_71 : decode cX10_addSite 71 = .ok (.aaload, 1) := by decide +kernel
theorem dX10_addSite_72 : decode cX10_addSite 72 = .ok (.aload_n 0, 1) := by decide +kernel
theorem dX10_addSite_73 : decode cX10_addSite 73 = .ok (.getfield 9, 3) := by decide +kernel
theorem dX10_addSite_76 : decode cX10_addSite 76 = .ok (.iconst 0, 1) := by decide +kernel
theorem dX10_addSite_77 : decode cX10_addSite 77 = .ok (.bipush 10, 2) := by decide +kernel
theorem dX10_addSite_79 : decode cX10_addSite 79 = .ok (.iload 4, 2) := by decide +kernel
theorem dX10_addSite_81 : decode cX10_addSite 81 = .ok (.isub, 1) := by decide +kernel
theorem dX10_addSite_82 : decode cX10_addSite 82 = .ok (.invokestatic 61, 3) := by decide +kernel
theorem dX10_addSite_85 : decode cX10_addSite 85 = .ok (.iastore, 1) := by decide +kernel
theorem dX10_addSite_86 : decode cX10_addSite 86 = .ok (.aload_n 0, 1) := by decide +kernel
theorem dX10_addSite_87 : decode cX10_addSite 87 = .ok (.getfield 24, 3) := by decide +kernel
theorem dX10_addSite_90 : decode cX10_addSite 90 = .ok (.aload_n 0, 1) := by decide +kernel
theorem dX10_addSite_91 : decode cX10_addSite 91 = .ok (.getfield 9, 3) := by decide +kernel
theorem dX10_addSite_94 : decode cX10_addSite 94 = .ok (.aaload, 1) := by decide +kernel
theorem dX10_addSite_95 : decode cX10_addSite 95 = .ok (.iload_n 3, 1) := by decide +kernel
theorem dX10_addSite_96 : decode cX10_addSite 96 = .ok (.aload_n 0, 1) := by decide +kernel
theorem dX10_addSite_97 : decode cX10_addSite 97 = .ok (.getfield 24, 3) := by decide +kernel
theorem dX10_addSite_100 : decode cX10_addSite 100 = .ok (.iload_n 3, 1) := by decide +kernel
theorem dX10_addSite_101 : decode cX10_addSite 101 = .ok (.aaload, 1) := by decide +kernel
theorem dX10_addSite_102 : decode cX10_addSite 102 = .ok (.aload_n 0, 1) := by decide +kernel
theorem dX10_addSite_103 : decode cX10_addSite 103 = .ok (.getfield 9, 3) := by decide +kernel
theorem dX10_addSite_106 : decode cX10_addSite 106 = .ok (.iaload, 1) := by decide +kernel
theorem dX10_addSite_107 : decode cX10_addSite 107 = .ok (.iastore, 1) := by decide +kernel
theorem dX10_addSite_108 : decode cX10_addSite 108 = .ok (.iinc 3 1, 3) := by decide +kernel
theorem dX10_addSite_111 : decode cX10_addSite 111 = .ok (.goto (-78), 3) := by decide +kernel
theorem dX10_addSite_114 : decode cX10_addSite 114 = .ok (.aload_n 0, 1) := by decide +kernel
theorem dX10_addSite_115 : decode cX10_addSite 115 = .ok (.dup, 1) := by decide +kernel
theorem dX10_addSite_116 : decode cX10_addSite 116 = .ok (.getfield 9, 3) := by decide +kernel
theorem dX10_addSite_119 : decode cX10_addSite 119 = .ok (.iconst 1, 1) := by decide +kernel
theorem dX10_addSite_120 : decode cX10_addSite 120 = .ok (.iadd, 1) := by decide +kernel
theorem dX10_addSite_121 : decode cX10_addSite 121 = .ok (.putfield 9, 3) := by decide +kernel
theorem dX10_addSite_124 : decode cX10_addSite 124 = .ok (.aload_n 0, 1) := by decide +kernel
theorem dX10_addSite_125 : decode cX10_addSite 125 = .ok (.iconst (-1), 1) := by decide +kernel
theorem dX10_addSite_126 : decode cX10_addSite 126 = .ok (.putfield 36, 3) := by decide +kernel
theorem dX10_addSite_129 : decode cX10_addSite 129 = .ok (.aload_n 0, 1) := by decide +kernel
theorem dX10_addSite_130 : decode cX10_addSite 130 = .ok (.getfield 9, 3) := by decide +kernel
theorem dX10_addSite_133 : decode cX10_addSite 133 = .ok (.iconst 1, 1) := by decide +kernel
theorem dX10_addSite_134 : decode cX10_addSite 134 = .ok (.isub, 1) := by decide +kernel
theorem dX10_addSite_135 : decode cX10_addSite 135 = .ok (.ireturn, 1) := by decide +kernel
theorem dX10_setTies_0 : decode cX10_setTies 0 = .ok (.iload_n 1, 1) := by decide +kernel
theorem dX10_setTies_1 : decode cX10_setTies 1 = .ok (.iconst 0, 1) := by decide +kernel
theorem dX10_setTies_2 : decode cX10_setTies 2 = .ok (.bipush 7, 2) := by decide +kernel
theorem dX10_setTies_4 : decode cX10_setTies 4 = .ok (.invokestatic 65, 3) := by decide +kernel
theorem dX10_setTies_7 : decode cX10_setTies 7 = .ok (.ifCond .eq 13, 3) := by decide +kernel
theorem dX10_setTies_10 : decode cX10_setTies 10 = .ok (.iload_n 2, 1) := by decide +kernel
theorem dX10_setTies_11 : decode cX10_setTies 11 = .ok (.iconst 0, 1) := by decide +kernel
theorem dX10_setTies_12 : decode cX10_setTies 12 = .ok (.bipush 7, 2) := by decide +kernel
theorem dX10_setTies_14 : decode cX10_setTies 14 = .ok (.invokestatic 65, 3) := by decide +kernel
theorem dX10_setTies_17 : decode cX10_setTies 17 = .ok (.ifCond .ne 5, 3) := by decide +kernel
theorem dX10_setTies_20 : decode cX10_setTies 20 = .ok (.iconst 0, 1) := by decide +kernel
theorem dX10_setTies_21 : decode cX10_setTies 21 = .ok (.ireturn, 1) := by decide +kernel
theorem dX10_setTies_22 : decode cX10_setTies 22 = .ok (.aload_n 0, 1) := by decide +kernel
theorem dX10_setTies_23 : decode cX10_setTies 23 = .ok (.getfield 27, 3) := by decide +kernel
theorem dX10_setTies_26 : decode cX10_setTies 26 = .ok (.iload_n 1, 1) := by decide +kernel
theorem dX10_setTies_27 : decode cX10_setTies 27 = .ok (.aaload, 1) := by decide +kernel
theorem dX10_setTies_28 : decode cX10_setTies 28 = .ok (.iload_n 2, 1) := by decide +kernel
theorem dX10_setTies_29 : decode cX10_setTies 29 = .ok (.iaload, 1) := by decide +kernel
theorem dX10_setTies_30 : decode cX10_setTies 30 = .ok (.iload_n 3, 1) := by decide +kernel
theorem dX10_setTies_31 : decode cX10_setTies 31 = .ok (.if_icmp .eq 26, 3) := by decide +kernel
theorem dX10_setTies_34 : decode cX10_setTies 34 = .ok (.aload_n 0, 1) := by decide +kernel
theorem dX10_setTies_35 : decode cX10_setTies 35 = .ok (.getfield 27, 3) := by decide +kernel
theorem dX10_setTies_38 : decode cX10_setTies 38 = .ok (.iload_n 1, 1) := by decide +kernel
theorem dX10_setTies_39 : decode cX10_setTies 39 = .ok (.aaload, 1) := by decide +kernel
theorem dX10_setTies_40 : decode cX10_setTies 40 = .ok (.iload_n 2, 1) := by decide +kernel
theorem dX10_setTies_41 : decode cX10_setTies 41 = .ok (.iload_n 3, 1) := by decide +kernel
theorem dX10_setTies_42 : decode cX10_setTies 42 = .ok (.iastore, 1) := by decide +kernel
theorem dX10_setTies_43 : decode cX10_setTies 43 = .ok (.aload_n 0, 1) := by decide +kernel
theorem dX10_setTies_44 : decode cX10_setTies 44 = .ok (.getfield 27, 3) := by decide +kernel
theorem dX10_setTies_47 : decode cX10_setTies 47 = .ok (.iload_n 2, 1) := by decide +kernel
theorem dX10_setTies_48 : decode cX10_setTies 48 = .ok (.aaload, 1) := by decide +kernel
theorem dX10_setTies_49 : decode cX10_setTies 49 = .ok (.iload_n 1, 1) := by decide +kernel
theorem dX10_setTies_50 : decode cX10_setTies 50 = .ok (.iload_n 3, 1) := by decide +kernel
theorem dX10_setTies_51 : decode cX10_setTies 51 = .ok (.iastore, 1) := by decide +kernel
theorem dX10_setTies_52 : decode cX10_setTies 52 = .ok (.aload_n 0, 1) := by decide +kernel
theorem dX10_setTies_53 : decode cX10_setTies 53 = .ok (.iconst (-1), 1) := by decide +kernel
theorem dX10_setTies_54 : decode cX10_setTies 54 = .ok (.putfield 36, 3) := by decide +kernel
theorem dX10_setTies_57 : decode cX10_setTies 57 = .ok (.iconst 1, 1) := by decide +kernel
theorem dX10_setTies_58 : decode cX10_setTies 58 = .ok (.ireturn, 1) := by decide +kernel
theorem dX10_find_0 : decode cX10_find 0 = .ok (.iload_n 1, 1) := by decide +kernel
theorem dX10_find_1 : decode cX10_find 1 = .ok (.aload_n 0, 1) := by decide +kernel
theorem dX10_find_2 : decode cX10_find 2 = .ok (.getfield 36, 3) := by decide +kernel
theorem dX10_find_5 : decode cX10_find 5 = .ok (.if_icmp .eq 15, 3) := by decide +kernel
theorem dX10_find_8 : decode cX10_find 8 = .ok (.iload_n 1, 1) := by decide +kernel
theorem dX10_find_9 : decode cX10_find 9 = .ok (.iconst 0, 1) := by decide +kernel
theorem dX10_find_10 : decode cX10_find 10 = .ok (.aload_n 0, 1) := by decide +kernel
theorem dX10_find_11 : decode cX10_find 11 = .ok (.getfield 9, 3) := by decide +kernel
theorem dX10_find_14 : decode cX10_find 14 = .ok (.invokestatic 65, 3) := by decide +kernel
theorem dX10_find_17 : decode cX10_find 17 = .ok (.ifCond .ne 4, 3) := by decide +kernel
theorem dX10_find_20 : decode cX10_find 20 = .ok (.return_, 1) := by decide +kernel
theorem dX10_find_21 : decode cX10_find 21 = .ok (.aload_n 0, 1) := by decide +kernel
theorem dX10_find_22 : decode cX10_find 22 = .ok (.iload_n 1, 1) := by decide +kernel
theorem dX10_find_23 : decode cX10_find 23 = .ok (.putfield 39, 3) := by decide +kernel
theorem dX10_find_26 : decode cX10_find 26 = .ok (.aload_n 0, 1) := by decide +kernel
theorem dX10_find_27 : decode cX10_find 27 = .ok (.invokevirtual 69, 3) := by decide +kernel
theorem dX10_find_30 : decode cX10_find 30 = .ok (.aload_n 0, 1) := by decide +kernel
theorem dX10_find_31 : decode cX10_find 31 = .ok (.iconst (-1), 1) := by decide +kernel
theorem dX10_find_32 : decode cX10_find 32 = .ok (.putfield 30, 3) := by decide +kernel
theorem dX10_find_35 : decode cX10_find 35 = .ok (.aload_n 0, 1) := by decide +kernel
theorem dX10_find_36 : decode cX10_find 36 = .ok (.iconst 0, 1) := by decide +kernel
theorem dX10_find_37 : decode cX10_find 37 = .ok (.iconst 0, 1) := by decide +kernel
theorem dX10_find_38 : decode cX10_find 38 = .ok (.invokevirtual 72, 3) := by decide +kernel
theorem dX10_find_41 : decode cX10_find 41 = .ok (.aload_n 0, 1) := by decide +kernel
theorem dX10_find_42 : decode cX10_find 42 = .ok (.iload_n 1, 1) := by decide +kernel
theorem dX10_find_43 : decode cX10_find 43 = .ok (.putfield 36, 3) := by decide +kernel
theorem dX10_find_46 : decode cX10_find 46 = .ok (.return_, 1) := by decide +kernel
theorem dX10_boundAmong_0 : decode cX10_boundAmong 0 = .ok (.iconst 0, 1) := by decide +kernel
theorem dX10_boundAmong_1 : decode cX10_boundAmong 1 = .ok (.istore_n 1, 1) := by decide +kernel
theorem dX10_boundAmong_2 : decode cX10_boundAmong 2 = .ok (.iconst 0, 1) := by decide +kernel
theorem dX10_boundAmong_3 : decode cX10_boundAmong 3 = .ok (.istore_n 2, 1) := by decide +kernel
theorem dX10_boundAmong_4 : decode cX10_boundAmong 4 = .ok (.iload_n 2, 1) := by decide +kernel
theorem dX10_boundAmong_5 : decode cX10_boundAmong 5 = .ok (.aload_n 0, 1) := by decide +kernel
theorem dX10_boundAmong_6 : decode cX10_boundAmong 6 = .ok (.getfield 9, 3) := by decide +kernel
theorem dX10_boundAmong_9 : decode cX10_boundAmong 9 = .ok (.if_icmp .ge 35, 3) := by decide +kernel
theorem dX10_boundAmong_12 : decode cX10_boundAmong 12 = .ok (.iconst 0, 1) := by decide +kernel
theorem dX10_boundAmong_13 : decode cX10_boundAmong 13 = .ok (.istore_n 3, 1) := by decide +kernel
theorem dX10_boundAmong_14 : decode cX10_boundAmong 14 = .ok (.iload_n 3, 1) := by decide +kernel
theorem dX10_boundAmong_15 : decode cX10_boundAmong 15 = .ok (.iload_n 2, 1) := by decide +kernel
theorem dX10_boundAmong_16 : decode cX10_boundAmong 16 = .ok (.if_icmp .ge 22, 3) := by decide +kernel
theorem dX10_boundAmong_19 : decode cX10_boundAmong 19 = .ok (.iload_n 1, 1) := by decide +kernel
theorem dX10_boundAmong_20 : decode cX10_boundAmong 20 = .ok (.aload_n 0, 1) := by decide +kernel
theorem dX10_boundAmong_21 : decode cX10_boundAmong 21 = .ok (.getfield 24, 3) := by decide +kernel
theorem dX10_boundAmong_24 : decode cX10_boundAmong 24 = .ok (.iload_n 2, 1) := by decide +kernel
theorem dX10_boundAmong_25 : decode cX10_boundAmong 25 = .ok (.aaload, 1) := by decide +kernel
theorem dX10_boundAmong_26 : decode cX10_boundAmong 26 = .ok (.iload_n 3, 1) := by decide +kernel
theorem dX10_boundAmong_27 : decode cX10_boundAmong 27 = .ok (.iaload, 1) := by decide +kernel
theorem dX10_boundAmong_28 : decode cX10_boundAmong 28 = .ok (.invokestatic 61, 3) := by decide +kernel
theorem dX10_boundAmong_31 : decode cX10_boundAmong 31 = .ok (.istore_n 1, 1) := by decide +kernel
theorem dX10_boundAmong_32 : decode cX10_boundAmong 32 = .ok (.iinc 3 1, 3) := by decide +kernel
theorem dX10_boundAmong_35 : decode cX10_boundAmong 35 = .ok (.goto (-21), 3) := by decide +kernel
theorem dX10_boundAmong_38 : decode cX10_boundAmong 38 = .ok (.iinc 2 1, 3) := by decide +kernel
theorem dX10_boundAmong_41 : decode cX10_boundAmong 41 = .ok (.goto (-37), 3) := by decide +kernel
theorem dX10_boundAmong_44 : decode cX10_boundAmong 44 = .ok (.aload_n 0, 1) := by decide +kernel
theorem dX10_boundAmong_45 : decode cX10_boundAmong 45 = .ok (.getfield 52, 3) := by decide +kernel
theorem dX10_boundAmong_48 : decode cX10_boundAmong 48 = .ok (.aload_n 0, 1) := by decide +kernel
theorem dX10_boundAmong_49 : decode cX10_boundAmong 49 = .ok (.getfield 39, 3) := by decide +kernel
theorem dX10_boundAmong_52 : decode cX10_boundAmong 52 = .ok (.iconst 0, 1) := by decide +kernel
theorem dX10_boundAmong_53 : decode cX10_boundAmong 53 = .ok (.iastore, 1) := by decide +kernel
theorem dX10_boundAmong_54 : decode cX10_boundAmong 54 = .ok (.aload_n 0, 1) := by decide +kernel
theorem dX10_boundAmong_55 : decode cX10_boundAmong 55 = .ok (.getfield 39, 3) := by decide +kernel
theorem dX10_boundAmong_58 : decode cX10_boundAmong 58 = .ok (.iconst 1, 1) := by decide +kernel
theorem dX10_boundAmong_59 : decode cX10_boundAmong 59 = .ok (.isub, 1) := by decide +kernel
theorem dX10_boundAmong_60 : decode cX10_boundAmong 60 = .ok (.istore_n 2, 1) := by decide +kernel
theorem dX10_boundAmong_61 : decode cX10_boundAmong 61 = .ok (.iload_n 2, 1) := by decide +kernel
theorem dX10_boundAmong_62 : decode cX10_boundAmong 62 = .ok (.ifCond .lt 61, 3) := by decide +kernel
theorem dX10_boundAmong_65 : decode cX10_boundAmong 65 = .ok (.iconst 0, 1) := by decide +kernel
theorem dX10_boundAmong_66 : decode cX10_boundAmong 66 = .ok (.istore_n 3, 1) := by decide +kernel
theorem dX10_boundAmong_67 : decode cX10_boundAmong 67 = .ok (.iload_n 2, 1) := by decide +kernel
theorem dX10_boundAmong_68 : decode cX10_boundAmong 68 = .ok (.iconst 1, 1) := by decide +kernel
theorem dX10_boundAmong_69 : decode cX10_boundAmong 69 = .ok (.iadd, 1) := by decide +kernel
theorem dX10_boundAmong_70 : decode cX10_boundAmong 70 = .ok (.istore 4, 2) := by decide +kernel
theorem dX10_boundAmong_72 : decode cX10_boundAmong 72 = .ok (.iload 4, 2) := by decide +kernel
theorem dX10_boundAmong_74 : decode cX10_boundAmong 74 = .ok (.aload_n 0, 1) := by decide +kernel
theorem dX10_boundAmong_75 : decode cX10_boundAmong 75 = .ok (.getfield 39, 3) := by decide +kernel
theorem dX10_boundAmong_78 : decode cX10_boundAmong 78 = .ok (.if_icmp .ge 21, 3) := by decide +kernel
theorem dX10_boundAmong_81 : decode cX10_boundAmong 81 = .ok (.iload_n 3, 1) := by decide +kernel
theorem dX10_boundAmong_82 : decode cX10_boundAmong 82 = .ok (.aload_n 0, 1) := by decide +kernel
theorem dX10_boundAmong_83 : decode cX10_boundAmong 83 = .ok (.getfield 27, 3) := by decide +kernel
theorem dX10_boundAmong_86 : decode cX10_boundAmong 86 = .ok (.iload_n 2, 1) := by decide +kernel
theorem dX10_boundAmong_87 : decode cX10_boundAmong 87 = .ok (.aaload, 1) := by decide +kernel
theorem dX10_boundAmong_88 : decode cX10_boundAmong 88 = .ok (.iload 4, 2) := by decide +kernel
theorem dX10_boundAmong_90 : decode cX10_boundAmong 90 = .ok (.iaload, 1) := by decide +kernel
theorem dX10_boundAmong_91 : decode cX10_boundAmong 91 = .ok (.iadd, 1) := by decide +kernel
theorem dX10_boundAmong_92 : decode cX10_boundAmong 92 = .ok (.istore_n 3, 1) := by decide +kernel
theorem dX10_boundAmong_93 : decode cX10_boundAmong 93 = .ok (.iinc 4 1, 3) := by decide +kernel
theorem dX10_boundAmong_96 : decode cX10_boundAmong 96 = .ok (.goto (-24), 3) := by decide +kernel
theorem dX10_boundAmong_99 : decode cX10_boundAmong 99 = .ok (.aload_n 0, 1) := by decide +kernel
theorem dX10_boundAmong_100 : decode cX10_boundAmong 100 = .ok (.getfield 52, 3) := by decide +kernel
theorem dX10_boundAmong_103 : decode cX10_boundAmong 103 = .ok (.iload_n 2, 1) := by decide +kernel
theorem dX10_boundAmong_104 : decode cX10_boundAmong 104 = .ok (.aload_n 0, 1) := by decide +kernel
theorem dX10_boundAmong_105 : decode cX10_boundAmong 105 = .ok (.getfield 52, 3) := by decide +kernel
theorem dX10_boundAmong_108 : decode cX10_boundAmong 108 = .ok (.iload_n 2, 1) := by decide +kernel
theorem dX10_boundAmong_109 : decode cX10_boundAmong 109 = .ok (.iconst 1, 1) := by decide +kernel
theorem dX10_boundAmong_110 : decode cX10_boundAmong 110 = .ok (.iadd, 1) := by decide +kernel
theorem dX10_boundAmong_111 : decode cX10_boundAmong 111 = .ok (.iaload, 1) := by decide +kernel
theorem dX10_boundAmong_112 : decode cX10_boundAmong 112 = .ok (.iload_n 3, 1) := by decide +kernel
theorem dX10_boundAmong_113 : decode cX10_boundAmong 113 = .ok (.iload_n 1, 1) := by decide +kernel
theorem dX10_boundAmong_114 : decode cX10_boundAmong 114 = .ok (.imul, 1) := by decide +kernel
theorem dX10_boundAmong_115 : decode cX10_boundAmong 115 = .ok (.iadd, 1) := by decide +kernel
theorem dX10_boundAmong_116 : decode cX10_boundAmong 116 = .ok (.iastore, 1) := by decide +kernel
theorem dX10_boundAmong_117 : decode cX10_boundAmong 117 = .ok (.iinc 2 (-1), 3) := by decide +kernel
theorem dX10_boundAmong_120 : decode cX10_boundAmong 120 = .ok (.goto (-59), 3) := by decide +kernel
theorem dX10_boundAmong_123 : decode cX10_boundAmong 123 = .ok (.return_, 1) := by decide +kernel
theorem dX10_placeFrom_0 : decode cX10_placeFrom 0 = .ok (.iload_n 1, 1) := by decide +kernel
theorem dX10_placeFrom_1 : decode cX10_placeFrom 1 = .ok (.aload_n 0, 1) := by decide +kernel
theorem dX10_placeFrom_2 : decode cX10_placeFrom 2 = .ok (.getfield 39, 3) := by decide +kernel
theorem dX10_placeFrom_5 : decode cX10_placeFrom 5 = .ok (.if_icmp .lt 9, 3) := by decide +kernel
theorem dX10_placeFrom_8 : decode cX10_placeFrom 8 = .ok (.aload_n 0, 1) := by decide +kernel
theorem dX10_placeFrom_9 : decode cX10_placeFrom 9 = .ok (.iload_n 2, 1) := by decide +kernel
theorem dX10_placeFrom_10 : decode cX10_placeFrom 10 = .ok (.invokevirtual 76, 3) := by decide +kernel
theorem dX10_placeFrom_13 : decode cX10_placeFrom 13 = .ok (.return_, 1) := by decide +kernel
theorem dX10_placeFrom_14 : decode cX10_placeFrom 14 = .ok (.iconst 0, 1) := by decide +kernel
theorem dX10_placeFrom_15 : decode cX10_placeFrom 15 = .ok (.istore_n 3, 1) := by decide +kernel
theorem dX10_placeFrom_16 : decode cX10_placeFrom 16 = .ok (.iload_n 3, 1) := by decide +kernel
theorem dX10_placeFrom_17 : decode cX10_placeFrom 17 = .ok (.aload_n 0, 1) := by decide +kernel
theorem dX10_placeFrom_18 : decode cX10_placeFrom 18 = .ok (.getfield 9, 3) := by decide +kernel
theorem dX10_placeFrom_21 : decode cX10_placeFrom 21 = .ok (.if_icmp .ge 25, 3) := by decide +kernel
theorem dX10_placeFrom_24 : decode cX10_placeFrom 24 = .ok (.aload_n 0, 1) := by decide +kernel
theorem dX10_placeFrom_25 : decode cX10_placeFrom 25 = .ok (.getfield 45, 3) := by decide +kernel
theorem dX10_placeFrom_28 : decode cX10_placeFrom 28 = .ok (.iload_n 3, 1) := by decide +kernel
theorem dX10_placeFrom_29 : decode cX10_placeFrom 29 = .ok (.baload, 1) := by decide +kernel
theorem dX10_placeFrom_30 : decode cX10_placeFrom 30 = .ok (.ifCond .ne 10, 3) := by decide +kernel
theorem dX10_placeFrom_33 : decode cX10_placeFrom 33 = .ok (.aload_n 0, 1) := by decide +kernel
theorem dX10_placeFrom_34 : decode cX10_placeFrom 34 = .ok (.iload_n 1, 1) := by decide +kernel
theorem dX10_placeFrom_35 : decode cX10_placeFrom 35 = .ok (.iload_n 3, 1) := by decide +kernel
theorem dX10_placeFrom_36 : decode cX10_placeFrom 36 = .ok (.iload_n 2, 1) := by decide +kernel
theorem dX10_placeFrom_37 : decode cX10_placeFrom 37 = .ok (.invokevirtual 80, 3) := by decide +kernel
theorem dX10_placeFrom_40 : decode cX10_placeFrom 40 = .ok (.iinc 3 1, 3) := by decide +kernel
theorem dX10_placeFrom_43 : decode cX10_placeFrom 43 = .ok (.goto (-27), 3) := by decide +kernel
theorem dX10_placeFrom_46 : decode cX10_placeFrom 46 = .ok (.return_, 1) := by decide +kernel
theorem dX10_placeAt_0 : decode cX10_placeAt 0 = .ok (.iload_n 3, 1) := by decide +kernel
theorem dX10_placeAt_1 : decode cX10_placeAt 1 = .ok (.aload_n 0, 1) := by decide +kernel
theorem dX10_placeAt_2 : decode cX10_placeAt 2 = .ok (.getfield 49, 3) := by decide +kernel
theorem dX10_placeAt_5 : decode cX10_placeAt 5 = .ok (.iload_n 1, 1) := by decide +kernel
theorem dX10_placeAt_6 : decode cX10_placeAt 6 = .ok (.aaload, 1) := by decide +kernel
theorem dX10_placeAt_7 : decode cX10_placeAt 7 = .ok (.iload_n 1, 1) := by decide +kernel
theorem dX10_placeAt_8 : decode cX10_placeAt 8 = .ok (.bipush 8, 2) := by decide +kernel
theorem dX10_placeAt_10 : decode cX10_placeAt 10 = .ok (.imul, 1) := by decide +kernel
theorem dX10_placeAt_11 : decode cX10_placeAt 11 = .ok (.iload_n 2, 1) := by decide +kernel
theorem dX10_placeAt_12 : decode cX10_placeAt 12 = .ok (.iadd, 1) := by decide +kernel
theorem dX10_placeAt_13 : decode cX10_placeAt 13 = .ok (.iaload, 1) := by decide +kernel
theorem dX10_placeAt_14 : decode cX10_placeAt 14 = .ok (.iadd, 1) := by decide +kernel
theorem dX10_placeAt_15 : decode cX10_placeAt 15 = .ok (.istore 4, 2) := by decide +kernel
theorem dX10_placeAt_17 : decode cX10_placeAt 17 = .ok (.aload_n 0, 1) := by decide +kernel
theorem dX10_placeAt_18 : decode cX10_placeAt 18 = .ok (.getfield 42, 3) := by decide +kernel
theorem dX10_placeAt_21 : decode cX10_placeAt 21 = .ok (.iload_n 1, 1) := by decide +kernel
theorem dX10_placeAt_22 : decode cX10_placeAt 22 = .ok (.iload_n 2, 1) := by decide +kernel
theorem dX10_placeAt_23 : decode cX10_placeAt 23 = .ok (.iastore, 1) := by decide +kernel
theorem dX10_placeAt_24 : decode cX10_placeAt 24 = .ok (.aload_n 0, 1) := by decide +kernel
theorem dX10_placeAt_25 : decode cX10_placeAt 25 = .ok (.getfield 45, 3) := by decide +kernel
theorem dX10_placeAt_28 : decode cX10_placeAt 28 = .ok (.iload_n 2, 1) := by decide +kernel
theorem dX10_placeAt_29 : decode cX10_placeAt 29 = .ok (.iconst 1, 1) := by decide +kernel
theorem dX10_placeAt_30 : decode cX10_placeAt 30 = .ok (.bastore, 1) := by decide +kernel
theorem dX10_placeAt_31 : decode cX10_placeAt 31 = .ok (.iload 4, 2) := by decide +kernel
theorem dX10_placeAt_33 : decode cX10_placeAt 33 = .ok (.aload_n 0, 1) := by decide +kernel
theorem dX10_placeAt_34 : decode cX10_placeAt 34 = .ok (.iload_n 1, 1) := by decide +kernel
theorem dX10_placeAt_35 : decode cX10_placeAt 35 = .ok (.iload_n 2, 1) := by decide +kernel
theorem dX10_placeAt_36 : decode cX10_placeAt 36 = .ok (.invokevirtual 84, 3) := by decide +kernel
theorem dX10_placeAt_39 : decode cX10_placeAt 39 = .ok (.iadd, 1) := by decide +kernel
theorem dX10_placeAt_40 : decode cX10_placeAt 40 = .ok (.aload_n 0, 1) := by decide +kernel
theorem dX10_placeAt_41 : decode cX10_placeAt 41 = .ok (.getfield 30, 3) := by decide +kernel
theorem dX10_placeAt_44 : decode cX10_placeAt 44 = .ok (.if_icmp .le 12, 3) := by decide +kernel
theorem dX10_placeAt_47 : decode cX10_placeAt 47 = .ok (.aload_n 0, 1) := by decide +kernel
theorem dX10_placeAt_48 : decode cX10_placeAt 48 = .ok (.iload_n 1, 1) := by decide +kernel
theorem dX10_placeAt_49 : decode cX10_placeAt 49 = .ok (.iconst 1, 1) := by decide +kernel
theorem dX10_placeAt_50 : decode cX10_placeAt 50 = .ok (.iadd, 1) := by decide +kernel
theorem dX10_placeAt_51 : decode cX10_placeAt 51 = .ok (.iload 4, 2) := by decide +kernel
theorem dX10_placeAt_53 : decode cX10_placeAt 53 = .ok (.invokevirtual 72, 3) := by decide +kernel
theorem dX10_placeAt_56 : decode cX10_placeAt 56 = .ok (.aload_n 0, 1) := by decide +kernel
theorem dX10_placeAt_57 : decode cX10_placeAt 57 = .ok (.getfield 45, 3) := by decide +kernel
theorem dX10_placeAt_60 : decode cX10_placeAt 60 = .ok (.iload_n 2, 1) := by decide +kernel
theorem dX10_placeAt_61 : decode cX10_placeAt 61 = .ok (.iconst 0, 1) := by decide +kernel
theorem dX10_placeAt_62 : decode cX10_placeAt 62 = .ok (.bastore, 1) := by decide +kernel
theorem dX10_placeAt_63 : decode cX10_placeAt 63 = .ok (.return_, 1) := by decide +kernel
theorem dX10_drawBehind_0 : decode cX10_drawBehind 0 = .ok (.aload_n 0, 1) := by decide +kernel
theorem dX10_drawBehind_1 : decode cX10_drawBehind 1 = .ok (.getfield 52, 3) := by decide +kernel
theorem dX10_drawBehind_4 : decode cX10_drawBehind 4 = .ok (.iload_n 1, 1) := by decide +kernel
theorem dX10_drawBehind_5 : decode cX10_drawBehind 5 = .ok (.iconst 1, 1) := by decide +kernel
theorem dX10_drawBehind_6 : decode cX10_drawBehind 6 = .ok (.iadd, 1) := by decide +kernel
theorem dX10_drawBehind_7 : decode cX10_drawBehind 7 = .ok (.iaload, 1) := by decide +kernel
theorem dX10_drawBehind_8 : decode cX10_drawBehind 8 = .ok (.istore_n 3, 1) := by decide +kernel
theorem dX10_drawBehind_9 : decode cX10_drawBehind 9 = .ok (.iload_n 1, 1) := by decide +kernel
theorem dX10_drawBehind_10 : decode cX10_drawBehind 10 = .ok (.iconst 1, 1) := by decide +kernel
theorem dX10_drawBehind_11 : decode cX10_drawBehind 11 = .ok (.iadd, 1) := by decide +kernel
theorem dX10_drawBehind_12 : decode cX10_drawBehind 12 = .ok (.istore 4, 2) := by decide +kernel
theorem dX10_drawBehind_14 : decode cX10_drawBehind 14 = .ok (.iload 4, 2) := by decide +kernel
theorem dX10_drawBehind_16 : decode cX10_drawBehind 16 = .ok (.aload_n 0, 1) := by decide +kernel
theorem dX10_drawBehind_17 : decode cX10_drawBehind 17 = .ok (.getfield 39, 3) := by decide +kernel
theorem dX10_drawBehind_20 : decode cX10_drawBehind 20 = .ok (.if_icmp .ge 20, 3) := by decide +kernel
theorem dX10_drawBehind_23 : decode cX10_drawBehind 23 = .ok (.iload_n 3, 1) := by decide +kernel
theorem dX10_drawBehind_24 : decode cX10_drawBehind 24 = .ok (.aload_n 0, 1) := by decide +kernel
theorem dX10_drawBehind_25 : decode cX10_drawBehind 25 = .ok (.iload_n 1, 1) := by decide +kernel
theorem dX10_drawBehind_26 : decode cX10_drawBehind 26 = .ok (.iload_n 2, 1) := by decide +kernel
theorem dX10_drawBehind_27 : decode cX10_drawBehind 27 = .ok (.iload 4, 2) := by decide +kernel
theorem dX10_drawBehind_29 : decode cX10_drawBehind 29 = .ok (.invokevirtual 87, 3) := by decide +kernel
theorem dX10_drawBehind_32 : decode cX10_drawBehind 32 = .ok (.iadd, 1) := by decide +kernel
theorem dX10_drawBehind_33 : decode cX10_drawBehind 33 = .ok (.istore_n 3, 1) := by decide +kernel
theorem dX10_drawBehind_34 : decode cX10_drawBehind 34 = .ok (.iinc 4 1, 3) := by decide +kernel
theorem dX10_drawBehind_37 : decode cX10_drawBehind 37 = .ok (.goto (-23), 3) := by decide +kernel
theorem dX10_drawBehind_40 : decode cX10_drawBehind 40 = .ok (.iload_n 3, 1) := by decide +kernel
theorem dX10_drawBehind_41 : decode cX10_drawBehind 41 = .ok (.ireturn, 1) := by decide +kernel
theorem dX10_drawOne_0 : decode cX10_drawOne 0 = .ok (.aload_n 0, 1) := by decide +kernel
theorem dX10_drawOne_1 : decode cX10_drawOne 1 = .ok (.getfield 27, 3) := by decide +kernel
theorem dX10_drawOne_4 : decode cX10_drawOne 4 = .ok (.iload_n 1, 1) := by decide +kernel
theorem dX10_drawOne_5 : decode cX10_drawOne 5 = .ok (.aaload, 1) := by decide +kernel
theorem dX10_drawOne_6 : decode cX10_drawOne 6 = .ok (.iload_n 3, 1) := by decide +kernel
theorem dX10_drawOne_7 : decode cX10_drawOne 7 = .ok (.iaload, 1) := by decide +kernel
theorem dX10_drawOne_8 : decode cX10_drawOne 8 = .ok (.istore 4, 2) := by decide +kernel
theorem dX10_drawOne_10 : decode cX10_drawOne 10 = .ok (.iconst 0, 1) := by decide +kernel
theorem dX10_drawOne_11 : decode cX10_drawOne 11 = .ok (.istore 5, 2) := by decide +kernel
theorem dX10_drawOne_13 : decode cX10_drawOne 13 = .ok (.iconst 0, 1) := by decide +kernel
theorem dX10_drawOne_14 : decode cX10_drawOne 14 = .ok (.istore 6, 2) := by decide +kernel
theorem dX10_drawOne_16 : decode cX10_drawOne 16 = .ok (.iload 6, 2) := by decide +kernel
theorem dX10_drawOne_18 : decode cX10_drawOne 18 = .ok (.aload_n 0, 1) := by decide +kernel
theorem dX10_drawOne_19 : decode cX10_drawOne 19 = .ok (.getfield 9, 3) := by decide +kernel
theorem dX10_drawOne_22 : decode cX10_drawOne 22 = .ok (.if_icmp .ge 74, 3) := by decide +kernel
theorem dX10_drawOne_25 : decode cX10_drawOne 25 = .ok (.aload_n 0, 1) := by decide +kernel
theorem dX10_drawOne_26 : decode cX10_drawOne 26 = .ok (.getfield 45, 3) := by decide +kernel
theorem dX10_drawOne_29 : decode cX10_drawOne 29 = .ok (.iload 6, 2) := by decide +kernel
theorem dX10_drawOne_31 : decode cX10_drawOne 31 = .ok (.baload, 1) := by decide +kernel
theorem dX10_drawOne_32 : decode cX10_drawOne 32 = .ok (.ifCond .ne 58, 3) := by decide +kernel
theorem dX10_drawOne_35 : decode cX10_drawOne 35 = .ok (.iload_n 3, 1) := by decide +kernel
theorem dX10_drawOne_36 : decode cX10_drawOne 36 = .ok (.bipush 8, 2) := by decide +kernel
theorem dX10_drawOne_38 : decode cX10_drawOne 38 = .ok (.imul, 1) := by decide +kernel
theorem dX10_drawOne_39 : decode cX10_drawOne 39 = .ok (.iload 6, 2) := by decide +kernel
theorem dX10_drawOne_41 : decode cX10_drawOne 41 = .ok (.iadd, 1) := by decide +kernel
theorem dX10_drawOne_42 : decode cX10_drawOne 42 = .ok (.istore 7, 2) := by decide +kernel
theorem dX10_drawOne_44 : decode cX10_drawOne 44 = .ok (.aload_n 0, 1) := by decide +kernel
theorem dX10_drawOne_45 : decode cX10_drawOne 45 = .ok (.getfield 49, 3) := by decide +kernel
theorem dX10_drawOne_48 : decode cX10_drawOne 48 = .ok (.iload_n 1, 1) := by decide +kernel
theorem dX10_drawOne_49 : decode cX10_drawOne 49 = .ok (.aaload, 1) := by decide +kernel
theorem dX10_drawOne_50 : decode cX10_drawOne 50 = .ok (.iload 7, 2) := by decide +kernel
theorem dX10_drawOne_52 : decode cX10_drawOne 52 = .ok (.iaload, 1) := by decide +kernel
theorem dX10_drawOne_53 : decode cX10_drawOne 53 = .ok (.iload 4, 2) := by decide +kernel
theorem dX10_drawOne_55 : decode cX10_drawOne 55 = .ok (.aload_n 0, 1) := by decide +kernel
theorem dX10_drawOne_56 : decode cX10_drawOne 56 = .ok (.getfield 24, 3) := by decide +kernel
theorem dX10_drawOne_59 : decode cX10_drawOne 59 = .ok (.iload_n 2, 1) := by decide +kernel
theorem dX10_drawOne_60 : decode cX10_drawOne 60 = .ok (.aaload, 1) := by decide +kernel
theorem dX10_drawOne_61 : decode cX10_drawOne 61 = .ok (.iload 6, 2) := by decide +kernel
theorem dX10_drawOne_63 : decode cX10_drawOne 63 = .ok (.iaload, 1) := by decide +kernel
theorem dX10_drawOne_64 : decode cX10_drawOne 64 = .ok (.imul, 1) := by decide +kernel
theorem dX10_drawOne_65 : decode cX10_drawOne 65 = .ok (.iadd, 1) := by decide +kernel
theorem dX10_drawOne_66 : decode cX10_drawOne 66 = .ok (.istore 8, 2) := by decide +kernel
theorem dX10_drawOne_68 : decode cX10_drawOne 68 = .ok (.aload_n 0, 1) := by decide +kernel
theorem dX10_drawOne_69 : decode cX10_drawOne 69 = .ok (.getfield 49, 3) := by decide +kernel
theorem dX10_drawOne_72 : decode cX10_drawOne 72 = .ok (.iload_n 1, 1) := by decide +kernel
theorem dX10_drawOne_73 : decode cX10_drawOne 73 = .ok (.iconst 1, 1) := by decide +kernel
theorem dX10_drawOne_74 : decode cX10_drawOne 74 = .ok (.iadd, 1) := by decide +kernel
theorem dX10_drawOne_75 : decode cX10_drawOne 75 = .ok (.aaload, 1) := by decide +kernel
theorem dX10_drawOne_76 : decode cX10_drawOne 76 = .ok (.iload 7, 2) := by decide +kernel
theorem dX10_drawOne_78 : decode cX10_drawOne 78 = .ok (.iload 8, 2) := by decide +kernel
theorem dX10_drawOne_80 : decode cX10_drawOne 80 = .ok (.iastore, 1) := by decide +kernel
theorem dX10_drawOne_81 : decode cX10_drawOne 81 = .ok (.iload 5, 2) := by decide +kernel
theorem dX10_drawOne_83 : decode cX10_drawOne 83 = .ok (.iload 8, 2) := by decide +kernel
theorem dX10_drawOne_85 : decode cX10_drawOne 85 = .ok (.invokestatic 61, 3) := by decide +kernel
theorem dX10_drawOne_88 : decode cX10_drawOne 88 = .ok (.istore 5, 2) := by decide +kernel
theorem dX10_drawOne_90 : decode cX10_drawOne 90 = .ok (.iinc 6 1, 3) := by decide +kernel
theorem dX10_drawOne_93 : decode cX10_drawOne 93 = .ok (.goto (-77), 3) := by decide +kernel
theorem dX10_drawOne_96 : decode cX10_drawOne 96 = .ok (.iload 5, 2) := by decide +kernel
theorem dX10_drawOne_98 : decode cX10_drawOne 98 = .ok (.ireturn, 1) := by decide +kernel
theorem dX10_keep_0 : decode cX10_keep 0 = .ok (.iload_n 1, 1) := by decide +kernel
theorem dX10_keep_1 : decode cX10_keep 1 = .ok (.aload_n 0, 1) := by decide +kernel
theorem dX10_keep_2 : decode cX10_keep 2 = .ok (.getfield 30, 3) := by decide +kernel
theorem dX10_keep_5 : decode cX10_keep 5 = .ok (.if_icmp .le 25, 3) := by decide +kernel
theorem dX10_keep_8 : decode cX10_keep 8 = .ok (.aload_n 0, 1) := by decide +kernel
theorem dX10_keep_9 : decode cX10_keep 9 = .ok (.iload_n 1, 1) := by decide +kernel
theorem dX10_keep_10 : decode cX10_keep 10 = .ok (.putfield 30, 3) := by decide +kernel
theorem dX10_keep_13 : decode cX10_keep 13 = .ok (.aload_n 0, 1) := by decide +kernel
theorem dX10_keep_14 : decode cX10_keep 14 = .ok (.getfield 42, 3) := by decide +kernel
theorem dX10_keep_17 : decode cX10_keep 17 = .ok (.iconst 0, 1) := by decide +kernel
theorem dX10_keep_18 : decode cX10_keep 18 = .ok (.aload_n 0, 1) := by decide +kernel
theorem dX10_keep_19 : decode cX10_keep 19 = .ok (.getfield 33, 3) := by decide +kernel
theorem dX10_keep_22 : decode cX10_keep 22 = .ok (.iconst 0, 1) := by decide +kernel
theorem dX10_keep_23 : decode cX10_keep 23 = .ok (.aload_n 0, 1) := by decide +kernel
theorem dX10_keep_24 : decode cX10_keep 24 = .ok (.getfield 39, 3) := by decide +kernel
theorem dX10_keep_27 : decode cX10_keep 27 = .ok (.invokestatic 91, 3) := by decide +kernel
theorem dX10_keep_30 : decode cX10_keep 30 = .ok (.return_, 1) := by decide +kernel
theorem dX11_init_0 : decode cX11_init 0 = .ok (.aload_n 0, 1) := by decide +kernel
theorem dX11_init_1 : decode cX11_init 1 = .ok (.invokespecial 1, 3) := by decide +kernel
theorem dX11_init_4 : decode cX11_init 4 = .ok (.aload_n 0, 1) := by decide +kernel
theorem dX11_init_5 : decode cX11_init 5 = .ok (.iconst 0, 1) := by decide +kernel
theorem dX11_init_6 : decode cX11_init 6 = .ok (.putfield 7, 3) := by decide +kernel
theorem dX11_init_9 : decode cX11_init 9 = .ok (.aload_n 0, 1) := by decide +kernel
theorem dX11_init_10 : decode cX11_init 10 = .ok (.new 13, 3) := by decide +kernel
theorem dX11_init_13 : decode cX11_init 13 = .ok (.dup, 1) := by decide +kernel
theorem dX11_init_14 : decode cX11_init 14 = .ok (.invokespecial 15, 3) := by decide +kernel
theorem dX11_init_17 : decode cX11_init 17 = .ok (.putfield 16, 3) := by decide +kernel
theorem dX11_init_20 : decode cX11_init 20 = .ok (.aload_n 0, 1) := by decide +kernel
theorem dX11_init_21 : decode cX11_init 21 = .ok (.new 20, 3) := by decide +kernel
theorem dX11_init_24 : decode cX11_init 24 = .ok (.dup, 1) := by decide +kernel
theorem dX11_init_25 : decode cX11_init 25 = .ok (.invokespecial 22, 3) := by decide +kernel
theorem dX11_init_28 : decode cX11_init 28 = .ok (.putfield 23, 3) := by decide +kernel
theorem dX11_init_31 : decode cX11_init 31 = .ok (.aload_n 0, 1) := by decide +kernel
theorem dX11_init_32 : decode cX11_init 32 = .ok (.new 27, 3) := by decide +kernel
theorem dX11_init_35 : decode cX11_init 35 = .ok (.dup, 1) := by decide +kernel
theorem dX11_init_36 : decode cX11_init 36 = .ok (.invokespecial 29, 3) := by decide +kernel
theorem dX11_init_39 : decode cX11_init 39 = .ok (.putfield 30, 3) := by decide +kernel
theorem dX11_init_42 : decode cX11_init 42 = .ok (.aload_n 0, 1) := by decide +kernel
theorem dX11_init_43 : decode cX11_init 43 = .ok (.new 34, 3) := by decide +kernel
theorem dX11_init_46 : decode cX11_init 46 = .ok (.dup, 1) := by decide +kernel
theorem dX11_init_47 : decode cX11_init 47 = .ok (.invokespecial 36, 3) := by decide +kernel
theorem dX11_init_50 : decode cX11_init 50 = .ok (.putfield 37, 3) := by decide +kernel
theorem dX11_init_53 : decode cX11_init 53 = .ok (.aload_n 0, 1) := by decide +kernel
theorem dX11_init_54 : decode cX11_init 54 = .ok (.new 41, 3) := by decide +kernel
theorem dX11_init_57 : decode cX11_init 57 = .ok (.dup, 1) := by decide +kernel
theorem dX11_init_58 : decode cX11_init 58 = .ok (.invokespecial 43, 3) := by decide +kernel
theorem dX11_init_61 : decode cX11_init 61 = .ok (.putfield 44, 3) := by decide +kernel
theorem dX11_init_64 : decode cX11_init 64 = .ok (.aload_n 0, 1) := by decide +kernel
theorem dX11_init_65 : decode cX11_init 65 = .ok (.new 48, 3) := by decide +kernel
theorem dX11_init_68 : decode cX11_init 68 = .ok (.dup, 1) := by decide +kernel
theorem dX11_init_69 : decode cX11_init 69 = .ok (.invokespecial 50, 3) := by decide +kernel
theorem dX11_init_72 : decode cX11_init 72 = .ok (.putfield 51, 3) := by decide +kernel
theorem dX11_init_75 : decode cX11_init 75 = .ok (.aload_n 0, 1) := by decide +kernel
theorem dX11_init_76 : decode cX11_init 76 = .ok (.new 55, 3) := by decide +kernel
theorem dX11_init_79 : decode cX11_init 79 = .ok (.dup, 1) := by decide +kernel
theorem dX11_init_80 : decode cX11_init 80 = .ok (.invokespecial 57, 3) := by decide +kernel
theorem dX11_init_83 : decode cX11_init 83 = .ok (.putfield 58, 3) := by decide +kernel
theorem dX11_init_86 : decode cX11_init 86 = .ok (.aload_n 0, 1) := by decide +kernel
theorem dX11_init_87 : decode cX11_init 87 = .ok (.new 62, 3) := by decide +kernel
theorem dX11_init_90 : decode cX11_init 90 = .ok (.dup, 1) := by decide +kernel
theorem dX11_init_91 : decode cX11_init 91 = .ok (.invokespecial 64, 3) := by decide +kernel
theorem dX11_init_94 : decode cX11_init 94 = .ok (.putfield 65, 3) := by decide +kernel
theorem dX11_init_97 : decode cX11_init 97 = .ok (.aload_n 0, 1) := by decide +kernel
theorem dX11_init_98 : decode cX11_init 98 = .ok (.new 62, 3) := by decide +kernel
theorem dX11_init_101 : decode cX11_init 101 = .ok (.dup, 1) := by decide +kernel
theorem dX11_init_102 : decode cX11_init 102 = .ok (.invokespecial 64, 3) := by decide +kernel
theorem dX11_init_105 : decode cX11_init 105 = .ok (.putfield 69, 3) := by decide +kernel
theorem dX11_init_108 : decode cX11_init 108 = .ok (.aload_n 0, 1) := by decide +kernel
theorem dX11_init_109 : decode cX11_init 109 = .ok (.aconst_null, 1) := by decide +kernel
theorem dX11_init_110 : decode cX11_init 110 = .ok (.putfield 72, 3) := by decide +kernel
theorem dX11_init_113 : decode cX11_init 113 = .ok (.aload_n 0, 1) := by decide +kernel
theorem dX11_init_114 : decode cX11_init 114 = .ok (.iconst 0, 1) := by decide +kernel
theorem dX11_init_115 : decode cX11_init 115 = .ok (.putfield 76, 3) := by decide +kernel
theorem dX11_init_118 : decode cX11_init 118 = .ok (.return_, 1) := by decide +kernel
theorem dX11_water_0 : decode cX11_water 0 = .ok (.iload_n 1, 1) := by decide +kernel
theorem dX11_water_1 : decode cX11_water 1 = .ok (.aload_n 0, 1) := by decide +kernel
theorem dX11_water_2 : decode cX11_water 2 = .ok (.getfield 7, 3) := by decide +kernel
theorem dX11_water_5 : decode cX11_water 5 = .ok (.if_icmp .lt 19, 3) := by decide +kernel
theorem dX11_water_8 : decode cX11_water 8 = .ok (.aload_n 0, 1) := by decide +kernel
theorem dX11_water_9 : decode cX11_water 9 = .ok (.getfield 16, 3) := by decide +kernel
theorem dX11_water_12 : decode cX11_water 12 = .ok (.iload_n 1, 1) := by decide +kernel
theorem dX11_water_13 : decode cX11_water 13 = .ok (.iload_n 2, 1) := by decide +kernel
theorem dX11_water_14 : decode cX11_water 14 = .ok (.invokevirtual 80, 3) := by decide +kernel
theorem dX11_water_17 : decode cX11_water 17 = .ok (.ifCond .eq 7, 3) := by decide +kernel
theorem dX11_water_20 : decode cX11_water 20 = .ok (.iconst 1, 1) := by decide +kernel
theorem dX11_water_21 : decode cX11_water 21 = .ok (.goto 4, 3) := by decide +kernel
theorem dX11_water_24 : decode cX11_water 24 = .ok (.iconst 0, 1) := by decide +kernel
theorem dX11_water_25 : decode cX11_water 25 = .ok (.ireturn, 1) := by decide +kernel
theorem dX11_village_0 : decode cX11_village 0 = .ok (.aload_n 0, 1) := by decide +kernel
theorem dX11_village_1 : decode cX11_village 1 = .ok (.getfield 16, 3) := by decide +kernel
theorem dX11_village_4 : decode cX11_village 4 = .ok (.iload_n 1, 1) := by decide +kernel
theorem dX11_village_5 : decode cX11_village 5 = .ok (.iload_n 2, 1) := by decide +kernel
theorem dX11_village_6 : decode cX11_village 6 = .ok (.invokevirtual 84, 3) := by decide +kernel
theorem dX11_village_9 : decode cX11_village 9 = .ok (.ireturn, 1) := by decide +kernel
theorem dX11_drowned_0 : decode cX11_drowned 0 = .ok (.aload_n 0, 1) := by decide +kernel
theorem dX11_drowned_1 : decode cX11_drowned 1 = .ok (.getfield 16, 3) := by decide +kernel
theorem dX11_drowned_4 : decode cX11_drowned 4 = .ok (.iload_n 1, 1) := by decide +kernel
theorem dX11_drowned_5 : decode cX11_drowned 5 = .ok (.invokevirtual 87, 3) := by decide +kernel
theorem dX11_drowned_8 : decode cX11_drowned 8 = .ok (.ireturn, 1) := by decide +kernel
theorem dX11_household_0 : decode cX11_household 0 = .ok (.iload_n 1, 1) := by decide +kernel
theorem dX11_household_1 : decode cX11_household 1 = .ok (.iconst 0, 1) := by decide +kernel
theorem dX11_household_2 : decode cX11_household 2 = .ok (.iconst 3, 1) := by decide +kernel
theorem dX11_household_3 : decode cX11_household 3 = .ok (.invokestatic 91, 3) := by decide +kernel
theorem dX11_household_6 : decode cX11_household 6 = .ok (.ifCond .eq 38, 3) := by decide +kernel
theorem dX11_household_9 : decode cX11_household 9 = .ok (.iload_n 2, 1) := by decide +kernel
theorem dX11_household_10 : decode cX11_household 10 = .ok (.iconst 1, 1) := by decide +kernel
theorem dX11_household_11 : decode cX11_household 11 = .ok (.bipush 20, 2) := by decide +kernel
theorem dX11_household_13 : decode cX11_household 13 = .ok (.invokestatic 91, 3) := by decide +kernel
theorem dX11_household_16 : decode cX11_household 16 = .ok (.ifCond .eq 28, 3) := by decide +kernel
theorem dX11_household_19 : decode cX11_household 19 = .ok (.iload_n 3, 1) := by decide +kernel
theorem dX11_household_20 : decode cX11_household 20 = .ok (.iconst 0, 1) := by decide +kernel
theorem dX11_household_21 : decode cX11_household 21 = .ok (.bipush 99, 2) := by decide +kernel
theorem dX11_household_23 : decode cX11_household 23 = .ok (.invokestatic 91, 3) := by decide +kernel
theorem dX11_household_26 : decode cX11_household 26 = .ok (.ifCond .eq 18, 3) := by decide +kernel
theorem dX11_household_29 : decode cX11_household 29 = .ok (.iload 4, 2) := by decide +kernel
theorem dX11_household_31 : decode cX11_household 31 = .ok (.iconst 0, 1) := by decide +kernel
theorem dX11_household_32 : decode cX11_household 32 = .ok (.bipush 99, 2) := by decide +kernel
theorem dX11_household_34 : decode cX11_household 34 = .ok (.invokestatic 91, 3) := by decide +kernel
theorem dX11_household_37 : decode cX11_household 37 = .ok (.ifCond .eq 7, 3) := by decide +kernel
theorem dX11_household_40 : decode cX11_household 40 = .ok (.iconst 1, 1) := by decide +kernel
theorem dX11_household_41 : decode cX11_household 41 = .ok (.goto 4, 3) := by decide +kernel
theorem dX11_household_44 : decode cX11_household 44 = .ok (.iconst 0, 1) := by decide +kernel
theorem dX11_household_45 : decode cX11_household 45 = .ok (.istore 6, 2) := by decide +kernel
theorem dX11_household_47 : decode cX11_household 47 = .ok (.iload 6, 2) := by decide +kernel
theorem dX11_household_49 : decode cX11_household 49 = .ok (.ifCond .eq 13, 3) := by decide +kernel
theorem dX11_household_52 : decode cX11_household 52 = .ok (.aload_n 0, 1) := by decide +kernel
theorem dX11_household_53 : decode cX11_household 53 = .ok (.getfield 23, 3) := by decide +kernel
theorem dX11_household_56 : decode cX11_household 56 = .ok (.invokevirtual 95, 3) := by decide +kernel
theorem dX11_household_59 : decode cX11_household 59 = .ok (.ifCond .eq 5, 3) := by decide +kernel
theorem dX11_household_62 : decode cX11_household 62 = .ok (.iconst (-1), 1) := by decide +kernel
theorem dX11_household_63 : decode cX11_household 63 = .ok (.ireturn, 1) := by decide +kernel
theorem dX11_household_64 : decode cX11_household 64 = .ok (.aload_n 0, 1) := by decide +kernel
theorem dX11_household_65 : decode cX11_household 65 = .ok (.iconst 0, 1) := by decide +kernel
theorem dX11_household_66 : decode cX11_household 66 = .ok (.putfield 76, 3) := by decide +kernel
theorem dX11_household_69 : decode cX11_household 69 = .ok (.aload_n 0, 1) := by decide +kernel
theorem dX11_household_70 : decode cX11_household 70 = .ok (.getfield 23, 3) := by decide +kernel
theorem dX11_household_73 : decode cX11_household 73 = .ok (.iload_n 1, 1) := by decide +kernel
theorem dX11_household_74 : decode cX11_household 74 = .ok (.iload_n 2, 1) := by decide +kernel
theorem dX11_household_75 : decode cX11_household 75 = .ok (.iload_n 3, 1) := by decide +kernel
theorem dX11_household_76 : decode cX11_household 76 = .ok (.iload 4, 2) := by decide +kernel
theorem dX11_household_78 : decode cX11_household 78 = .ok (.iload 5, 2) := by decide +kernel
theorem dX11_household_80 : decode cX11_household 80 = .ok (.invokevirtual 99, 3) := by decide +kernel
theorem dX11_household_83 : decode cX11_household 83 = .ok (.ireturn, 1) := by decide +kernel
theorem dX11_papers_0 : decode cX11_papers 0 = .ok (.aload_n 0, 1) := by decide +kernel
theorem dX11_papers_1 : decode cX11_papers 1 = .ok (.getfield 23, 3) := by decide +kernel
theorem dX11_papers_4 : decode cX11_papers 4 = .ok (.iload_n 1, 1) := by decide +kernel
theorem dX11_papers_5 : decode cX11_papers 5 = .ok (.invokevirtual 103, 3) := by decide +kernel
theorem dX11_papers_8 : decode cX11_papers 8 = .ok (.istore_n 2, 1) := by decide +kernel
theorem dX11_papers_9 : decode cX11_papers 9 = .ok (.iload_n 2, 1) := by decide +kernel
theorem dX11_papers_10 : decode cX11_papers 10 = .ok (.ifCond .eq 8, 3) := by decide +kernel
theorem dX11_papers_13 : decode cX11_papers 13 = .ok (.aload_n 0, 1) := by decide +kernel
theorem dX11_papers_14 : decode cX11_papers 14 = .ok (.iconst 0, 1) := by decide +kernel
theorem dX11_papers_15 : decode cX11_papers 15 = .ok (.putfield 76, 3) := by decide +kernel
theorem dX11_papers_18 : decode cX11_papers 18 = .ok (.iload_n 2, 1) := by decide +kernel
theorem dX11_papers_19 : decode cX11_papers 19 = .ok (.ireturn, 1) := by decide +kernel
theorem dX11_tie_0 : decode cX11_tie 0 = .ok (.aload_n 0, 1) := by decide +kernel
theorem dX11_tie_1 : decode cX11_tie 1 = .ok (.getfield 23, 3) := by decide +kernel
theorem dX11_tie_4 : decode cX11_tie 4 = .ok (.iload_n 1, 1) := by decide +kernel
theorem dX11_tie_5 : decode cX11_tie 5 = .ok (.invokevirtual 107, 3) := by decide +kernel
theorem dX11_tie_8 : decode cX11_tie 8 = .ok (.ifCond .eq 33, 3) := by decide +kernel
theorem dX11_tie_11 : decode cX11_tie 11 = .ok (.aload_n 0, 1) := by decide +kernel
theorem dX11_tie_12 : decode cX11_tie 12 = .ok (.getfield 23, 3) := by decide +kernel
theorem dX11_tie_15 : decode cX11_tie 15 = .ok (.iload_n 2, 1) := by decide +kernel
theorem dX11_tie_16 : decode cX11_tie 16 = .ok (.invokevirtual 107, 3) := by decide +kernel
theorem dX11_tie_19 : decode cX11_tie 19 = .ok (.ifCond .eq 22, 3) := by decide +kernel
theorem dX11_tie_22 : decode cX11_tie 22 = .ok (.iload_n 1, 1) := by decide +kernel
theorem dX11_tie_23 : decode cX11_tie 23 = .ok (.iload_n 2, 1) := by decide +kernel
theorem dX11_tie_24 : decode cX11_tie 24 = .ok (.if_icmp .eq 17, 3) := by decide +kernel
theorem dX11_tie_27 : decode cX11_tie 27 = .ok (.iload_n 3, 1) := by decide +kernel
theorem dX11_tie_28 : decode cX11_tie 28 = .ok (.iconst 0, 1) := by decide +kernel
theorem dX11_tie_29 : decode cX11_tie 29 = .ok (.bipush 9, 2) := by decide +kernel
theorem dX11_tie_31 : decode cX11_tie 31 = .ok (.invokestatic 91, 3) := by decide +kernel
theorem dX11_tie_34 : decode cX11_tie 34 = .ok (.ifCond .eq 7, 3) := by decide +kernel
theorem dX11_tie_37 : decode cX11_tie 37 = .ok (.iconst 1, 1) := by decide +kernel
theorem dX11_tie_38 : decode cX11_tie 38 = .ok (.goto 4, 3) := by decide +kernel
theorem dX11_tie_41 : decode cX11_tie 41 = .ok (.iconst 0, 1) := by decide +kernel
theorem dX11_tie_42 : decode cX11_tie 42 = .ok (.istore 4, 2) := by decide +kernel
theorem dX11_tie_44 : decode cX11_tie 44 = .ok (.iload 4, 2) := by decide +kernel
theorem dX11_tie_46 : decode cX11_tie 46 = .ok (.ifCond .eq 20, 3) := by decide +kernel
theorem dX11_tie_49 : decode cX11_tie 49 = .ok (.aload_n 0, 1) := by decide +kernel
theorem dX11_tie_50 : decode cX11_tie 50 = .ok (.getfield 37, 3) := by decide +kernel
theorem dX11_tie_53 : decode cX11_tie 53 = .ok (.iload_n 1, 1) := by decide +kernel
theorem dX11_tie_54 : decode cX11_tie 54 = .ok (.iload_n 2, 1) := by decide +kernel
theorem dX11_tie_55 : decode cX11_tie 55 = .ok (.iload_n 3, 1) := by decide +kernel
theorem dX11_tie_56 : decode cX11_tie 56 = .ok (.invokevirtual 110, 3) := by decide +kernel
theorem dX11_tie_59 : decode cX11_tie 59 = .ok (.ifCond .eq 7, 3) := by decide +kernel
theorem dX11_tie_62 : decode cX11_tie 62 = .ok (.iconst 1, 1) := by decide +kernel
theorem dX11_tie_63 : decode cX11_tie 63 = .ok (.goto 4, 3) := by decide +kernel
theorem dX11_tie_66 : decode cX11_tie 66 = .ok (.iconst 0, 1) := by decide +kernel
theorem dX11_tie_67 : decode cX11_tie 67 = .ok (.ireturn, 1) := by decide +kernel
theorem dX11_site_0 : decode cX11_site 0 = .ok (.iload_n 1, 1) := by decide +kernel
theorem dX11_site_1 : decode cX11_site 1 = .ok (.iconst 0, 1) := by decide +kernel
theorem dX11_site_2 : decode cX11_site 2 = .ok (.bipush 20, 2) := by decide +kernel
theorem dX11_site_4 : decode cX11_site 4 = .ok (.invokestatic 91, 3) := by decide +kernel
theorem dX11_site_7 : decode cX11_site 7 = .ok (.ifCond .eq 17, 3) := by decide +kernel
theorem dX11_site_10 : decode cX11_site 10 = .ok (.iload_n 2, 1) := by decide +kernel
theorem dX11_site_11 : decode cX11_site 11 = .ok (.iconst 0, 1) := by decide +kernel
theorem dX11_site_12 : decode cX11_site 12 = .ok (.bipush 20, 2) := by decide +kernel
theorem dX11_site_14 : decode cX11_site 14 = .ok (.invokestatic 91, 3) := by decide +kernel
theorem dX11_site_17 : decode cX11_site 17 = .ok (.ifCond .eq 7, 3) := by decide +kernel
theorem dX11_site_20 : decode cX11_site 20 = .ok (.iconst 1, 1) := by decide +kernel
theorem dX11_site_21 : decode cX11_site 21 = .ok (.goto 4, 3) := by decide +kernel
theorem dX11_site_24 : decode cX11_site 24 = .ok (.iconst 0, 1) := by decide +kernel
theorem dX11_site_25 : decode cX11_site 25 = .ok (.istore_n 3, 1) := by decide +kernel
theorem dX11_site_26 : decode cX11_site 26 = .ok (.iload_n 3, 1) := by decide +kernel
theorem dX11_site_27 : decode cX11_site 27 = .ok (.ifCond .eq 15, 3) := by decide +kernel
theorem dX11_site_30 : decode cX11_site 30 = .ok (.aload_n 0, 1) := by decide +kernel
theorem dX11_site_31 : decode cX11_site 31 = .ok (.getfield 37, 3) := by decide +kernel
theorem dX11_site_34 : decode cX11_site 34 = .ok (.iload_n 1, 1) := by decide +kernel
theorem dX11_site_35 : decode cX11_site 35 = .ok (.iload_n 2, 1) := by decide +kernel
theorem dX11_site_36 : decode cX11_site 36 = .ok (.invokevirtual 113, 3) := by decide +kernel
theorem dX11_site_39 : decode cX11_site 39 = .ok (.goto 4, 3) := by decide +kernel
theorem dX11_site_42 : decode cX11_site 42 = .ok (.iconst (-1), 1) := by decide +kernel
theorem dX11_site_43 : decode cX11_site 43 = .ok (.ireturn, 1) := by decide +kernel
theorem dX11_field_0 : decode cX11_field 0 = .ok (.iload_n 1, 1) := by decide +kernel
theorem dX11_field_1 : decode cX11_field 1 = .ok (.iconst 1, 1) := by decide +kernel
theorem dX11_field_2 : decode cX11_field 2 = .ok (.sipush 999, 3) := by decide +kernel
theorem dX11_field_5 : decode cX11_field 5 = .ok (.invokestatic 91, 3) := by decide +kernel
theorem dX11_field_8 : decode cX11_field 8 = .ok (.ifCond .eq 13, 3) := by decide +kernel
theorem dX11_field_11 : decode cX11_field 11 = .ok (.aload_n 0, 1) := by decide +kernel
theorem dX11_field_12 : decode cX11_field 12 = .ok (.getfield 44, 3) := by decide +kernel
theorem dX11_field_15 : decode cX11_field 15 = .ok (.invokevirtual 117, 3) := by decide +kernel
theorem dX11_field_18 : decode cX11_field 18 = .ok (.ifCond .eq 5, 3) := by decide +kernel
theorem dX11_field_21 : decode cX11_field 21 = .ok (.iconst (-1), 1) := by decide +kernel
theorem dX11_field_22 : decode cX11_field 22 = .ok (.ireturn, 1) := by decide +kernel
theorem dX11_field_23 : decode cX11_field 23 = .ok (.aload_n 0, 1) := by decide +kernel
theorem dX11_field_24 : decode cX11_field 24 = .ok (.iconst 0, 1) := by decide +kernel
theorem dX11_field_25 : decode cX11_field 25 = .ok (.putfield 76, 3) := by decide +kernel
theorem dX11_field_28 : decode cX11_field 28 = .ok (.aload_n 0, 1) := by decide +kernel
theorem dX11_field_29 : decode cX11_field 29 = .ok (.getfield 44, 3) := by decide +kernel
theorem dX11_field_32 : decode cX11_field 32 = .ok (.iload_n 1, 1) := by decide +kernel
theorem dX11_field_33 : decode cX11_field 33 = .ok (.invokevirtual 118, 3) := by decide +kernel
theorem dX11_field_36 : decode cX11_field 36 = .ok (.ireturn, 1) := by decide +kernel
theorem dX11_builders_0 : decode cX11_builders 0 = .ok (.iload_n 1, 1) := by decide +kernel
theorem dX11_builders_1 : decode cX11_builders 1 = .ok (.aload_n 0, 1) := by decide +kernel
theorem dX11_builders_2 : decode cX11_builders 2 = .ok (.getfield 7, 3) := by decide +kernel
theorem dX11_builders_5 : decode cX11_builders 5 = .ok (.if_icmp .lt 19, 3) := by decide +kernel
theorem dX11_builders_8 : decode cX11_builders 8 = .ok (.aload_n 0, 1) := by decide +kernel
theorem dX11_builders_9 : decode cX11_builders 9 = .ok (.getfield 30, 3) := by decide +kernel
theorem dX11_builders_12 : decode cX11_builders 12 = .ok (.iload_n 1, 1) := by decide +kernel
theorem dX11_builders_13 : decode cX11_builders 13 = .ok (.iload_n 2, 1) := by decide +kernel
theorem dX11_builders_14 : decode cX11_builders 14 = .ok (.invokevirtual 120, 3) := by decide +kernel
theorem dX11_builders_17 : decode cX11_builders 17 = .ok (.ifCond .eq 7, 3) := by decide +kernel
theorem dX11_builders_20 : decode cX11_builders 20 = .ok (.iconst 1, 1) := by decide +kernel
theorem dX11_builders_21 : decode cX11_builders 21 = .ok (.goto 4, 3) := by decide +kernel
theorem dX11_builders_24 : decode cX11_builders 24 = .ok (.iconst 0, 1) := by decide +kernel
theorem dX11_builders_25 : decode cX11_builders 25 = .ok (.ireturn, 1) := by decide +kernel
theorem dX11_feed_0 : decode cX11_feed 0 = .ok (.aload_n 0, 1) := by decide +kernel
theorem dX11_feed_1 : decode cX11_feed 1 = .ok (.getfield 51, 3) := by decide +kernel
theorem dX11_feed_4 : decode cX11_feed 4 = .ok (.getfield 123, 3) := by decide +kernel
theorem dX11_feed_7 : decode cX11_feed 7 = .ok (.bipush 20, 2) := by decide +kernel
theorem dX11_feed_9 : decode cX11_feed 9 = .ok (.iadd, 1) := by decide +kernel
theorem dX11_feed_10 : decode cX11_feed 10 = .ok (.sipush 400, 3) := by decide +kernel
theorem dX11_feed_13 : decode cX11_feed 13 = .ok (.if_icmp .le 5, 3) := by decide +kernel
theorem dX11_feed_16 : decode cX11_feed 16 = .ok (.iconst (-1), 1) := by decide +kernel
theorem dX11_feed_17 : decode cX11_feed 17 = .ok (.ireturn, 1) := by decide +kernel
theorem dX11_feed_18 : decode cX11_feed 18 = .ok (.aload_n 0, 1) := by decide +kernel
theorem dX11_feed_19 : decode cX11_feed 19 = .ok (.getfield 51, 3) := by decide +kernel
theorem dX11_feed_22 : decode cX11_feed 22 = .ok (.iload_n 1, 1) := by decide +kernel
theorem dX11_feed_23 : decode cX11_feed 23 = .ok (.invokevirtual 126, 3) := by decide +kernel
theorem dX11_feed_26 : decode cX11_feed 26 = .ok (.aload_n 0, 1) := by decide +kernel
theorem dX11_feed_27 : decode cX11_feed 27 = .ok (.getfield 51, 3) := by decide +kernel
theorem dX11_feed_30 : decode cX11_feed 30 = .ok (.iload_n 2, 1) := by decide +kernel
theorem dX11_feed_31 : decode cX11_feed 31 = .ok (.invokevirtual 126, 3) := by decide +kernel
theorem dX11_feed_34 : decode cX11_feed 34 = .ok (.aload_n 0, 1) := by decide +kernel
theorem dX11_feed_35 : decode cX11_feed 35 = .ok (.getfield 51, 3) := by decide +kernel
theorem dX11_feed_38 : decode cX11_feed 38 = .ok (.iload_n 3, 1) := by decide +kernel
theorem dX11_feed_39 : decode cX11_feed 39 = .ok (.invokevirtual 126, 3) := by decide +kernel
theorem dX11_feed_42 : decode cX11_feed 42 = .ok (.aload_n 0, 1) := by decide +kernel
theorem dX11_feed_43 : decode cX11_feed 43 = .ok (.getfield 51, 3) := by decide +kernel
theorem dX11_feed_46 : decode cX11_feed 46 = .ok (.iload 4, 2) := by decide +kernel
theorem dX11_feed_48 : decode cX11_feed 48 = .ok (.invokevirtual 126, 3) := by decide +kernel
theorem dX11_feed_51 : decode cX11_feed 51 = .ok (.aload_n 0, 1) := by decide +kernel
theorem dX11_feed_52 : decode cX11_feed 52 = .ok (.getfield 51, 3) := by decide +kernel
theorem dX11_feed_55 : decode cX11_feed 55 = .ok (.iload 5, 2) := by decide +kernel
theorem dX11_feed_57 : decode cX11_feed 57 = .ok (.invokevirtual 126, 3) := by decide +kernel
theorem dX11_feed_60 : decode cX11_feed 60 = .ok (.aload_n 0, 1) := by decide +kernel
theorem dX11_feed_61 : decode cX11_feed 61 = .ok (.getfield 51, 3) := by decide +kernel
theorem dX11_feed_64 : decode cX11_feed 64 = .ok (.getfield 123, 3) := by decide +kernel
theorem dX11_feed_67 : decode cX11_feed 67 = .ok (.ireturn, 1) := by decide +kernel
theorem dX11_end_0 : decode cX11_end 0 = .ok (.aload_n 0, 1) := by decide +kernel
theorem dX11_end_1 : decode cX11_end 1 = .ok (.getfield 51, 3) := by decide +kernel
theorem dX11_end_4 : decode cX11_end 4 = .ok (.iload_n 1, 1) := by decide +kernel
theorem dX11_end_5 : decode cX11_end 5 = .ok (.invokevirtual 130, 3) := by decide +kernel
theorem dX11_end_8 : decode cX11_end 8 = .ok (.ireturn, 1) := by decide +kernel
theorem dX11_rules_0 : decode cX11_rules 0 = .ok (.aload_n 0, 1) := by decide +kernel
theorem dX11_rules_1 : decode cX11_rules 1 = .ok (.getfield 58, 3) := by decide +kernel
theorem dX11_rules_4 : decode cX11_rules 4 = .ok (.aload_n 0, 1) := by decide +kernel
theorem dX11_rules_5 : decode cX11_rules 5 = .ok (.getfield 51, 3) := by decide +kernel
theorem dX11_rules_8 : decode cX11_rules 8 = .ok (.aload_n 0, 1) := by decide +kernel
theorem dX11_rules_9 : decode cX11_rules 9 = .ok (.getfield 69, 3) := by decide +kernel
theorem dX11_rules_12 : decode cX11_rules 12 = .ok (.invokevirtual 133, 3) := by decide +kernel
theorem dX11_rules_15 : decode cX11_rules 15 = .ok (.istore_n 1, 1) := by decide +kernel
theorem dX11_rules_16 : decode cX11_rules 16 = .ok (.aload_n 0, 1) := by decide +kernel
theorem dX11_rules_17 : decode cX11_rules 17 = .ok (.getfield 51, 3) := by decide +kernel
theorem dX11_rules_20 : decode cX11_rules 20 = .ok (.iconst 0, 1) := by decide +kernel
theorem dX11_rules_21 : decode cX11_rules 21 = .ok (.invokevirtual 130, 3) := by decide +kernel
theorem dX11_rules_24 : decode cX11_rules 24 = .ok (.pop, 1) := by decide +kernel
theorem dX11_rules_25 : decode cX11_rules 25 = .ok (.iload_n 1, 1) := by decide +kernel
theorem dX11_rules_26 : decode cX11_rules 26 = .ok (.ifCond .ne 5, 3) := by decide +kernel
theorem dX11_rules_29 : decode cX11_rules 29 = .ok (.iconst (-1), 1) := by decide +kernel
theorem dX11_rules_30 : decode cX11_rules 30 = .ok (.ireturn, 1) := by decide +kernel
theorem dX11_rules_31 : decode cX11_rules 31 = .ok (.aload_n 0, 1) := by decide +kernel
theorem dX11_rules_32 : decode cX11_rules 32 = .ok (.getfield 65, 3) := by decide +kernel
theorem dX11_rules_35 : decode cX11_rules 35 = .ok (.astore_n 2, 1) := by decide +kernel
theorem dX11_rules_36 : decode cX11_rules 36 = .ok (.aload_n 0, 1) := by decide +kernel
theorem dX11_rules_37 : decode cX11_rules 37 = .ok (.aload_n 0, 1) := by decide +kernel
theorem dX11_rules_38 : decode cX11_rules 38 = .ok (.getfield 69, 3) := by decide +kernel
theorem dX11_rules_41 : decode cX11_rules 41 = .ok (.putfield 65, 3) := by decide +kernel
theorem dX11_rules_44 : decode cX11_rules 44 = .ok (.aload_n 0, 1) := by decide +kernel
theorem dX11_rules_45 : decode cX11_rules 45 = .ok (.aload_n 2, 1) := by decide +kernel
theorem dX11_rules_46 : decode cX11_rules 46 = .ok (.putfield 69, 3) := by decide +kernel
theorem dX11_rules_49 : decode cX11_rules 49 = .ok (.aload_n 0, 1) := by decide +kernel
theorem dX11_rules_50 : decode cX11_rules 50 = .ok (.iconst 0, 1) := by decide +kernel
theorem dX11_rules_51 : decode cX11_rules 51 = .ok (.putfield 76, 3) := by decide +kernel
theorem dX11_rules_54 : decode cX11_rules 54 = .ok (.aload_n 0, 1) := by decide +kernel
theorem dX11_rules_55 : decode cX11_rules 55 = .ok (.getfield 65, 3) := by decide +kernel
theorem dX11_rules_58 : decode cX11_rules 58 = .ok (.getfield 137, 3) := by decide +kernel
theorem dX11_rules_61 : decode cX11_rules 61 = .ok (.ireturn, 1) := by decide +kernel
theorem dX11_fault_0 : decode cX11_fault 0 = .ok (.iload_n 1, 1) := by decide +kernel
theorem dX11_fault_1 : decode cX11_fault 1 = .ok (.lookupswitch 43 #[(0, 27), (1, 35)], 27) := by decide +kernel
theorem dX11_fault_28 : decode cX11_fault 28 = .ok (.aload_n 0, 1) := by decide +kernel
theorem dX11_fault_29 : decode cX11_fault 29 = .ok (.getfield 58, 3) := by decide +kernel
theorem dX11_fault_32 : decode cX11_fault 32 = .ok (.getfield 140, 3) := by decide +kernel
theorem dX11_fault_35 : decode cX11_fault 35 = .ok (.ireturn, 1) := by decide +kernel
theorem dX11_fault_36 : decode cX11_fault 36 = .ok (.aload_n 0, 1) := by decide +kernel
theorem dX11_fault_37 : decode cX11_fault 37 = .ok (.getfield 58, 3) := by decide +kernel
theorem dX11_fault_40 : decode cX11_fault 40 = .ok (.getfield 143, 3) := by decide +kernel
theorem dX11_fault_43 : decode cX11_fault 43 = .ok (.ireturn, 1) := by decide +kernel
theorem dX11_fault_44 : decode cX11_fault 44 = .ok (.iconst (-1), 1) := by decide +kernel
theorem dX11_fault_45 : decode cX11_fault 45 = .ok (.ireturn, 1) := by decide +kernel
theorem dX11_look_0 : decode cX11_look 0 = .ok (.iload_n 1, 1) := by decide +kernel
theorem dX11_look_1 : decode cX11_look 1 = .ok (.tableswitch 115 0 6 #[43, 48, 56, 64, 72, 80, 88], 43) := by decide +kernel
theorem dX11_look_44 : decode cX11_look 44 = .ok (.aload_n 0, 1) := by decide +kernel
theorem dX11_look_45 : decode cX11_look 45 = .ok (.getfield 7, 3) := by decide +kernel
theorem dX11_look_48 : decode cX11_look 48 = .ok (.ireturn, 1) := by decide +kernel
theorem dX11_look_49 : decode cX11_look 49 = .ok (.aload_n 0, 1) := by decide +kernel
theorem dX11_look_50 : decode cX11_look 50 = .ok (.getfield 23, 3) := by decide +kernel
theorem dX11_look_53 : decode cX11_look 53 = .ok (.getfield 146, 3) := by decide +kernel
theorem dX11_look_56 : decode cX11_look 56 = .ok (.ireturn, 1) := by decide +kernel
theorem dX11_look_57 : decode cX11_look 57 = .ok (.aload_n 0, 1) := by decide +kernel
theorem dX11_look_58 : decode cX11_look 58 = .ok (.getfield 37, 3) := by decide +kernel
theorem dX11_look_61 : decode cX11_look 61 = .ok (.getfield 147, 3) := by decide +kernel
theorem dX11_look_64 : decode cX11_look 64 = .ok (.ireturn, 1) := by decide +kernel
theorem dX11_look_65 : decode cX11_look 65 = .ok (.aload_n 0, 1) := by decide +kernel
theorem dX11_look_66 : decode cX11_look 66 = .ok (.getfield 44, 3) := by decide +kernel
theorem dX11_look_69 : decode cX11_look 69 = .ok (.getfield 150, 3) := by decide +kernel
theorem dX11_look_72 : decode cX11_look 72 = .ok (.ireturn, 1) := by decide +kernel
theorem dX11_look_73 : decode cX11_look 73 = .ok (.aload_n 0, 1) := by decide +kernel
theorem dX11_look_74 : decode cX11_look 74 = .ok (.getfield 65, 3) := by decide +kernel
theorem dX11_look_77 : decode cX11_look 77 = .ok (.getfield 137, 3) := by decide +kernel
theorem dX11_look_80 : decode cX11_look 80 = .ok (.ireturn, 1) := by decide +kernel
theorem dX11_look_81 : decode cX11_look 81 = .ok (.aload_n 0, 1) := by decide +kernel
theorem dX11_look_82 : decode cX11_look 82 = .ok (.getfield 23, 3) := by decide +kernel
theorem dX11_look_85 : decode cX11_look 85 = .ok (.invokevirtual 151, 3) := by decide +kernel
theorem dX11_look_88 : decode cX11_look 88 = .ok (.ireturn, 1) := by decide +kernel
theorem dX11_look_89 : decode cX11_look 89 = .ok (.aload_n 0, 1) := by decide +kernel
theorem dX11_look_90 : decode cX11_look 90 = .ok (.getfield 30, 3) := by decide +kernel
theorem dX11_look_93 : decode cX11_look 93 = .ok (.aload_n 0, 1) := by decide +kernel
theorem dX11_look_94 : decode cX11_look 94 = .ok (.getfield 23, 3) := by decide +kernel
theorem dX11_look_97 : decode cX11_look 97 = .ok (.aload_n 0, 1) := by decide +kernel
theorem dX11_look_98 : decode cX11_look 98 = .ok (.getfield 16, 3) := by decide +kernel
theorem dX11_look_101 : decode cX11_look 101 = .ok (.aload_n 0, 1) := by decide +kernel
theorem dX11_look_102 : decode cX11_look 102 = .ok (.getfield 7, 3) := by decide +kernel
theorem dX11_look_105 : decode cX11_look 105 = .ok (.invokevirtual 155, 3) := by decide +kernel
theorem dX11_look_108 : decode cX11_look 108 = .ok (.aload_n 0, 1) := by decide +kernel
theorem dX11_look_109 : decode cX11_look 109 = .ok (.getfield 23, 3) := by decide +kernel
theorem dX11_look_112 : decode cX11_look 112 = .ok (.invokevirtual 159, 3) := by decide +kernel
theorem dX11_look_115 : decode cX11_look 115 = .ok (.ireturn, 1) := by decide +kernel
theorem dX11_look_116 : decode cX11_look 116 = .ok (.iconst (-1), 1) := by decide +kernel
theorem dX11_look_117 : decode cX11_look 117 = .ok (.ireturn, 1) := by decide +kernel
theorem dX11_of_0 : decode cX11_of 0 = .ok (.aload_n 0, 1) := by decide +kernel
theorem dX11_of_1 : decode cX11_of 1 = .ok (.getfield 23, 3) := by decide +kernel
theorem dX11_of_4 : decode cX11_of 4 = .ok (.iload_n 1, 1) := by decide +kernel
theorem dX11_of_5 : decode cX11_of 5 = .ok (.invokevirtual 107, 3) := by decide +kernel
theorem dX11_of_8 : decode cX11_of 8 = .ok (.ifCond .ne 5, 3) := by decide +kernel
theorem dX11_of_11 : decode cX11_of 11 = .ok (.iconst (-1), 1) := by decide +kernel
theorem dX11_of_12 : decode cX11_of 12 = .ok (.ireturn, 1) := by decide +kernel
theorem dX11_of_13 : decode cX11_of 13 = .ok (.iload_n 2, 1) := by decide +kernel
theorem dX11_of_14 : decode cX11_of 14 = .ok (.tableswitch 187 0 8 #[50, 60, 70, 80, 90, 100, 106, 122, 151], 50) := by decide +kernel
theorem dX11_of_64 : decode cX11_of 64 = .ok (.aload_n 0, 1) := by decide +kernel
theorem dX11_of_65 : decode cX11_of 65 = .ok (.getfield 23, 3) := by decide +kernel
theorem dX11_of_68 : decode cX11_of 68 = .ok (.getfield 162, 3) := by decide +kernel
theorem dX11_of_71 : decode cX11_of 71 = .ok (.iload_n 1, 1) := by decide +kernel
theorem dX11_of_72 : decode cX11_of 72 = .ok (.iaload, 1) := by decide +kernel
theorem dX11_of_73 : decode cX11_of 73 = .ok (.ireturn, 1) := by decide +kernel
theorem dX11_of_74 : decode cX11_of 74 = .ok (.aload_n 0, 1) := by decide +kernel
theorem dX11_of_75 : decode cX11_of 75 = .ok (.getfield 23, 3) := by decide +kernel
theorem dX11_of_78 : decode cX11_of 78 = .ok (.getfield 166, 3) := by decide +kernel
theorem dX11_of_81 : decode cX11_of 81 = .ok (.iload_n 1, 1) := by decide +kernel
theorem dX11_of_82 : decode cX11_of 82 = .ok (.iaload, 1) := by decide +kernel
theorem dX11_of_83 : decode cX11_of 83 = .ok (.ireturn, 1) := by decide +kernel
theorem dX11_of_84 : decode cX11_of 84 = .ok (.aload_n 0, 1) := by decide +kernel
theorem dX11_of_85 : decode cX11_of 85 = .ok (.getfield 23, 3) := by decide +kernel
theorem dX11_of_88 : decode cX11_of 88 = .ok (.getfield 169, 3) := by decide +kernel
theorem dX11_of_91 : decode cX11_of 91 = .ok (.iload_n 1, 1) := by decide +kernel
theorem dX11_of_92 : decode cX11_of 92 = .ok (.iaload, 1) := by decide +kernel
theorem dX11_of_93 : decode cX11_of 93 = .ok (.ireturn, 1) := by decide +kernel
theorem dX11_of_94 : decode cX11_of 94 = .ok (.aload_n 0, 1) := by decide +kernel
theorem dX11_of_95 : decode cX11_of 95 = .ok (.getfield 23, 3) := by decide +kernel
theorem dX11_of_98 : decode cX11_of 98 = .ok (.getfield 172, 3) := by decide +kernel
theorem dX11_of_101 : decode cX11_of 101 = .ok (.iload_n 1, 1) := by decide +kernel
theorem dX11_of_102 : decode cX11_of 102 = .ok (.iaload, 1) := by decide +kernel
theorem dX11_of_103 : decode cX11_of 103 = .ok (.ireturn, 1) := by decide +kernel
theorem dX11_of_104 : decode cX11_of 104 = .ok (.aload_n 0, 1) := by decide +kernel
theorem dX11_of_105 : decode cX11_of 105 = .ok (.getfield 23, 3) := by decide +kernel
theorem dX11_of_108 : decode cX11_of 108 = .ok (.getfield 175, 3) := by decide +kernel
theorem dX11_of_111 : decode cX11_of 111 = .ok (.iload_n 1, 1) := by decide +kernel
theorem dX11_of_112 : decode cX11_of 112 = .ok (.iaload, 1) := by decide +kernel
theorem dX11_of_113 : decode cX11_of 113 = .ok (.ireturn, 1) := by decide +kernel
theorem dX11_of_114 : decode cX11_of 114 = .ok (.aload_n 0, 1) := by decide +kernel
theorem dX11_of_115 : decode cX11_of 115 = .ok (.iload_n 1, 1) := by decide +kernel
theorem dX11_of_116 : decode cX11_of 116 = .ok (.invokevirtual 178, 3) := by decide +kernel
theorem dX11_of_119 : decode cX11_of 119 = .ok (.ireturn, 1) := by decide +kernel
theorem dX11_of_120 : decode cX11_of 120 = .ok (.aload_n 0, 1) := by decide +kernel
theorem dX11_of_121 : decode cX11_of 121 = .ok (.getfield 65, 3) := by decide +kernel
theorem dX11_of_124 : decode cX11_of 124 = .ok (.aload_n 0, 1) := by decide +kernel
theorem dX11_of_125 : decode cX11_of 125 = .ok (.getfield 23, 3) := by decide +kernel
theorem dX11_of_128 : decode cX11_of 128 = .ok (.iload_n 1, 1) := by decide +kernel
theorem dX11_of_129 : decode cX11_of 129 = .ok (.invokevirtual 181, 3) := by decide +kernel
theorem dX11_of_132 : decode cX11_of 132 = .ok (.invokevirtual 185, 3) := by decide +kernel
theorem dX11_of_135 : decode cX11_of 135 = .ok (.ireturn, 1) := by decide +kernel
theorem dX11_of_136 : decode cX11_of 136 = .ok (.aload_n 0, 1) := by decide +kernel
theorem dX11_of_137 : decode cX11_of 137 = .ok (.getfield 30, 3) := by decide +kernel
theorem dX11_of_140 : decode cX11_of 140 = .ok (.aload_n 0, 1) := by decide +kernel
theorem dX11_of_141 : decode cX11_of 141 = .ok (.getfield 23, 3) := by decide +kernel
theorem dX11_of_144 : decode cX11_of 144 = .ok (.aload_n 0, 1) := by decide +kernel
theorem dX11_of_145 : decode cX11_of 145 = .ok (.getfield 16, 3) := by decide +kernel
theorem dX11_of_148 : decode cX11_of 148 = .ok (.aload_n 0, 1) := by decide +kernel
theorem dX11_of_149 : decode cX11_of 149 = .ok (.getfield 7, 3) := by decide +kernel
theorem dX11_of_152 : decode cX11_of 152 = .ok (.invokevirtual 155, 3) := by decide +kernel
theorem dX11_of_155 : decode cX11_of 155 = .ok (.aload_n 0, 1) := by decide +kernel
theorem dX11_of_156 : decode cX11_of 156 = .ok (.getfield 23, 3) := by decide +kernel
theorem dX11_of_159 : decode cX11_of 159 = .ok (.getfield 189, 3) := by decide +kernel
theorem dX11_of_162 : decode cX11_of 162 = .ok (.iload_n 1, 1) := by decide +kernel
theorem dX11_of_163 : decode cX11_of 163 = .ok (.iaload, 1) := by decide +kernel
theorem dX11_of_164 : decode cX11_of 164 = .ok (.ireturn, 1) := by decide +kernel
theorem dX11_of_165 : decode cX11_of 165 = .ok (.aload_n 0, 1) := by decide +kernel
theorem dX11_of_166 : decode cX11_of 166 = .ok (.getfield 30, 3) := by decide +kernel
theorem dX11_of_169 : decode cX11_of 169 = .ok (.aload_n 0, 1) := by decide +kernel
theorem dX11_of_170 : decode cX11_of 170 = .ok (.getfield 23, 3) := by decide +kernel
theorem dX11_of_173 : decode cX11_of 173 = .ok (.aload_n 0, 1) := by decide +kernel
theorem dX11_of_174 : decode cX11_of 174 = .ok (.getfield 16, 3) := by decide +kernel
theorem dX11_of_177 : decode cX11_of 177 = .ok (.aload_n 0, 1) := by decide +kernel
theorem dX11_of_178 : decode cX11_of 178 = .ok (.getfield 7, 3) := by decide +kernel
theorem dX11_of_181 : decode cX11_of 181 = .ok (.invokevirtual 155, 3) := by decide +kernel
theorem dX11_of_184 : decode cX11_of 184 = .ok (.aload_n 0, 1) := by decide +kernel
theorem dX11_of_185 : decode cX11_of 185 = .ok (.getfield 23, 3) := by decide +kernel
theorem dX11_of_188 : decode cX11_of 188 = .ok (.iload_n 1, 1) := by decide +kernel
theorem dX11_of_189 : decode cX11_of 189 = .ok (.invokevirtual 192, 3) := by decide +kernel
theorem dX11_of_192 : decode cX11_of 192 = .ok (.ifCond .eq 7, 3) := by decide +kernel
theorem dX11_of_195 : decode cX11_of 195 = .ok (.iconst 1, 1) := by decide +kernel
theorem dX11_of_196 : decode cX11_of 196 = .ok (.goto 4, 3) := by decide +kernel
theorem dX11_of_199 : decode cX11_of 199 = .ok (.iconst 0, 1) := by decide +kernel
theorem dX11_of_200 : decode cX11_of 200 = .ok (.ireturn, 1) := by decide +kernel
theorem dX11_of_201 : decode cX11_of 201 = .ok (.iconst (-1), 1) := by decide +kernel
theorem dX11_of_202 : decode cX11_of 202 = .ok (.ireturn, 1) := by decide +kernel
theorem dX11_best_0 : decode cX11_best 0 = .ok (.iload_n 1, 1) := by decide +kernel
theorem dX11_best_1 : decode cX11_best 1 = .ok (.bipush 10, 2) := by decide +kernel
theorem dX11_best_3 : decode cX11_best 3 = .ok (.if_icmp .lt 21, 3) := by decide +kernel
theorem dX11_best_6 : decode cX11_best 6 = .ok (.aload_n 0, 1) := by decide +kernel
theorem dX11_best_7 : decode cX11_best 7 = .ok (.getfield 23, 3) := by decide +kernel
theorem dX11_best_10 : decode cX11_best 10 = .ok (.iload_n 1, 1) := by decide +kernel
theorem dX11_best_11 : decode cX11_best 11 = .ok (.bipush 10, 2) := by decide +kernel
theorem dX11_best_13 : decode cX11_best 13 = .ok (.isub, 1) := by decide +kernel
theorem dX11_best_14 : decode cX11_best 14 = .ok (.invokevirtual 107, 3) := by decide +kernel
theorem dX11_best_17 : decode cX11_best 17 = .ok (.ifCond .eq 7, 3) := by decide +kernel
theorem dX11_best_20 : decode cX11_best 20 = .ok (.iconst 1, 1) := by decide +kernel
theorem dX11_best_21 : decode cX11_best 21 = .ok (.goto 4, 3) := by decide +kernel
theorem dX11_best_24 : decode cX11_best 24 = .ok (.iconst 0, 1) := by decide +kernel
theorem dX11_best_25 : decode cX11_best 25 = .ok (.istore_n 2, 1) := by decide +kernel
theorem dX11_best_26 : decode cX11_best 26 = .ok (.aload_n 0, 1) := by decide +kernel
theorem dX11_best_27 : decode cX11_best 27 = .ok (.getfield 23, 3) := by decide +kernel
theorem dX11_best_30 : decode cX11_best 30 = .ok (.getfield 146, 3) := by decide +kernel
theorem dX11_best_33 : decode cX11_best 33 = .ok (.aload_n 0, 1) := by decide +kernel
theorem dX11_best_34 : decode cX11_best 34 = .ok (.getfield 37, 3) := by decide +kernel
theorem dX11_best_37 : decode cX11_best 37 = .ok (.getfield 147, 3) := by decide +kernel
theorem dX11_best_40 : decode cX11_best 40 = .ok (.if_icmp .gt 11, 3) := by decide +kernel
theorem dX11_best_43 : decode cX11_best 43 = .ok (.iload_n 1, 1) := by decide +kernel
theorem dX11_best_44 : decode cX11_best 44 = .ok (.ifCond .eq 9, 3) := by decide +kernel
theorem dX11_best_47 : decode cX11_best 47 = .ok (.iload_n 2, 1) := by decide +kernel
theorem dX11_best_48 : decode cX11_best 48 = .ok (.ifCond .ne 5, 3) := by decide +kernel
theorem dX11_best_51 : decode cX11_best 51 = .ok (.iconst (-1), 1) := by decide +kernel
theorem dX11_best_52 : decode cX11_best 52 = .ok (.ireturn, 1) := by decide +kernel
theorem dX11_best_53 : decode cX11_best 53 = .ok (.aload_n 0, 1) := by decide +kernel
theorem dX11_best_54 : decode cX11_best 54 = .ok (.getfield 37, 3) := by decide +kernel
theorem dX11_best_57 : decode cX11_best 57 = .ok (.aload_n 0, 1) := by decide +kernel
theorem dX11_best_58 : decode cX11_best 58 = .ok (.getfield 23, 3) := by decide +kernel
theorem dX11_best_61 : decode cX11_best 61 = .ok (.getfield 146, 3) := by decide +kernel
theorem dX11_best_64 : decode cX11_best 64 = .ok (.invokevirtual 195, 3) := by decide +kernel
theorem dX11_best_67 : decode cX11_best 67 = .ok (.iload_n 2, 1) := by decide +kernel
theorem dX11_best_68 : decode cX11_best 68 = .ok (.ifCond .eq 18, 3) := by decide +kernel
theorem dX11_best_71 : decode cX11_best 71 = .ok (.aload_n 0, 1) := by decide +kernel
theorem dX11_best_72 : decode cX11_best 72 = .ok (.getfield 37, 3) := by decide +kernel
theorem dX11_best_75 : decode cX11_best 75 = .ok (.getfield 198, 3) := by decide +kernel
theorem dX11_best_78 : decode cX11_best 78 = .ok (.iload_n 1, 1) := by decide +kernel
theorem dX11_best_79 : decode cX11_best 79 = .ok (.bipush 10, 2) := by decide +kernel
theorem dX11_best_81 : decode cX11_best 81 = .ok (.isub, 1) := by decide +kernel
theorem dX11_best_82 : decode cX11_best 82 = .ok (.iaload, 1) := by decide +kernel
theorem dX11_best_83 : decode cX11_best 83 = .ok (.goto 10, 3) := by decide +kernel
theorem dX11_best_86 : decode cX11_best 86 = .ok (.aload_n 0, 1) := by decide +kernel
theorem dX11_best_87 : decode cX11_best 87 = .ok (.getfield 37, 3) := by decide +kernel
theorem dX11_best_90 : decode cX11_best 90 = .ok (.getfield 201, 3) := by decide +kernel
theorem dX11_best_93 : decode cX11_best 93 = .ok (.ireturn, 1) := by decide +kernel
theorem dX11_part_0 : decode cX11_part 0 = .ok (.iload_n 1, 1) := by decide +kernel
theorem dX11_part_1 : decode cX11_part 1 = .ok (.bipush 10, 2) := by decide +kernel
theorem dX11_part_3 : decode cX11_part 3 = .ok (.if_icmp .lt 21, 3) := by decide +kernel
theorem dX11_part_6 : decode cX11_part 6 = .ok (.aload_n 0, 1) := by decide +kernel
theorem dX11_part_7 : decode cX11_part 7 = .ok (.getfield 23, 3) := by decide +kernel
theorem dX11_part_10 : decode cX11_part 10 = .ok (.iload_n 1, 1) := by decide +kernel
theorem dX11_part_11 : decode cX11_part 11 = .ok (.bipush 10, 2) := by decide +kernel
theorem dX11_part_13 : decode cX11_part 13 = .ok (.isub, 1) := by decide +kernel
theorem dX11_part_14 : decode cX11_part 14 = .ok (.invokevirtual 107, 3) := by decide +kernel
theorem dX11_part_17 : decode cX11_part 17 = .ok (.ifCond .eq 7, 3) := by decide +kernel
theorem dX11_part_20 : decode cX11_part 20 = .ok (.iconst 1, 1) := by decide +kernel
theorem dX11_part_21 : decode cX11_part 21 = .ok (.goto 4, 3) := by decide +kernel
theorem dX11_part_24 : decode cX11_part 24 = .ok (.iconst 0, 1) := by decide +kernel
theorem dX11_part_25 : decode cX11_part 25 = .ok (.istore_n 2, 1) := by decide +kernel
theorem dX11_part_26 : decode cX11_part 26 = .ok (.iload_n 1, 1) := by decide +kernel
theorem dX11_part_27 : decode cX11_part 27 = .ok (.iconst 0, 1) := by decide +kernel
theorem dX11_part_28 : decode cX11_part 28 = .ok (.iconst 2, 1) := by decide +kernel
theorem dX11_part_29 : decode cX11_part 29 = .ok (.invokestatic 91, 3) := by decide +kernel
theorem dX11_part_32 : decode cX11_part 32 = .ok (.ifCond .ne 9, 3) := by decide +kernel
theorem dX11_part_35 : decode cX11_part 35 = .ok (.iload_n 2, 1) := by decide +kernel
theorem dX11_part_36 : decode cX11_part 36 = .ok (.ifCond .ne 5, 3) := by decide +kernel
theorem dX11_part_39 : decode cX11_part 39 = .ok (.iconst (-1), 1) := by decide +kernel
theorem dX11_part_40 : decode cX11_part 40 = .ok (.ireturn, 1) := by decide +kernel
theorem dX11_part_41 : decode cX11_part 41 = .ok (.aload_n 0, 1) := by decide +kernel
theorem dX11_part_42 : decode cX11_part 42 = .ok (.invokevirtual 204, 3) := by decide +kernel
theorem dX11_part_45 : decode cX11_part 45 = .ok (.astore_n 3, 1) := by decide +kernel
theorem dX11_part_46 : decode cX11_part 46 = .ok (.iload_n 1, 1) := by decide +kernel
theorem dX11_part_47 : decode cX11_part 47 = .ok (.tableswitch 43 0 2 #[25, 33, 38], 25) := by decide +kernel
theorem dX11_part_72 : decode cX11_part 72 = .ok (.aload_n 3, 1) := by decide +kernel
theorem dX11_part_73 : decode cX11_part 73 = .ok (.getfield 208, 3) := by decide +kernel
theorem dX11_part_76 : decode cX11_part 76 = .ok (.invokestatic 213, 3) := by decide +kernel
theorem dX11_part_79 : decode cX11_part 79 = .ok (.ireturn, 1) := by decide +kernel
theorem dX11_part_80 : decode cX11_part 80 = .ok (.aload_n 3, 1) := by decide +kernel
theorem dX11_part_81 : decode cX11_part 81 = .ok (.getfield 218, 3) := by decide +kernel
theorem dX11_part_84 : decode cX11_part 84 = .ok (.ireturn, 1) := by decide +kernel
theorem dX11_part_85 : decode cX11_part 85 = .ok (.aload_n 3, 1) := by decide +kernel
theorem dX11_part_86 : decode cX11_part 86 = .ok (.getfield 208, 3) := by decide +kernel
theorem dX11_part_89 : decode cX11_part 89 = .ok (.ireturn, 1) := by decide +kernel
theorem dX11_part_90 : decode cX11_part 90 = .ok (.aload_n 3, 1) := by decide +kernel
theorem dX11_part_91 : decode cX11_part 91 = .ok (.getfield 221, 3) := by decide +kernel
theorem dX11_part_94 : decode cX11_part 94 = .ok (.iload_n 1, 1) := by decide +kernel
theorem dX11_part_95 : decode cX11_part 95 = .ok (.bipush 10, 2) := by decide +kernel
theorem dX11_part_97 : decode cX11_part 97 = .ok (.isub, 1) := by decide +kernel
theorem dX11_part_98 : decode cX11_part 98 = .ok (.iaload, 1) := by decide +kernel
theorem dX11_part_99 : decode cX11_part 99 = .ok (.ireturn, 1) := by decide +kernel
theorem dX11_months_0 : decode cX11_months 0 = .ok (.iload_n 1, 1) := by decide +kernel
theorem dX11_months_1 : decode cX11_months 1 = .ok (.iconst 1, 1) := by decide +kernel
theorem dX11_months_2 : decode cX11_months 2 = .ok (.bipush 12, 2) := by decide +kernel
theorem dX11_months_4 : decode cX11_months 4 = .ok (.invokestatic 91, 3) := by decide +kernel
theorem dX11_months_7 : decode cX11_months 7 = .ok (.ifCond .eq 14, 3) := by decide +kernel
theorem dX11_months_10 : decode cX11_months 10 = .ok (.aload_n 0, 1) := by decide +kernel
theorem dX11_months_11 : decode cX11_months 11 = .ok (.getfield 7, 3) := by decide +kernel
theorem dX11_months_14 : decode cX11_months 14 = .ok (.iload_n 1, 1) := by decide +kernel
theorem dX11_months_15 : decode cX11_months 15 = .ok (.iadd, 1) := by decide +kernel
theorem dX11_months_16 : decode cX11_months 16 = .ok (.bipush 36, 2) := by decide +kernel
theorem dX11_months_18 : decode cX11_months 18 = .ok (.if_icmp .lt 5, 3) := by decide +kernel
theorem dX11_months_21 : decode cX11_months 21 = .ok (.iconst (-1), 1) := by decide +kernel
theorem dX11_months_22 : decode cX11_months 22 = .ok (.ireturn, 1) := by decide +kernel
theorem dX11_months_23 : decode cX11_months 23 = .ok (.aload_n 0, 1) := by decide +kernel
theorem dX11_months_24 : decode cX11_months 24 = .ok (.getfield 30, 3) := by decide +kernel
theorem dX11_months_27 : decode cX11_months 27 = .ok (.aload_n 0, 1) := by decide +kernel
theorem dX11_months_28 : decode cX11_months 28 = .ok (.getfield 23, 3) := by decide +kernel
theorem dX11_months_31 : decode cX11_months 31 = .ok (.aload_n 0, 1) := by decide +kernel
theorem dX11_months_32 : decode cX11_months 32 = .ok (.getfield 16, 3) := by decide +kernel
theorem dX11_months_35 : decode cX11_months 35 = .ok (.aload_n 0, 1) := by decide +kernel
theorem dX11_months_36 : decode cX11_months 36 = .ok (.getfield 7, 3) := by decide +kernel
theorem dX11_months_39 : decode cX11_months 39 = .ok (.invokevirtual 155, 3) := by decide +kernel
theorem dX11_months_42 : decode cX11_months 42 = .ok (.aload_n 0, 1) := by decide +kernel
theorem dX11_months_43 : decode cX11_months 43 = .ok (.dup, 1) := by decide +kernel
theorem dX11_months_44 : decode cX11_months 44 = .ok (.getfield 7, 3) := by decide +kernel
theorem dX11_months_47 : decode cX11_months 47 = .ok (.iload_n 1, 1) := by decide +kernel
theorem dX11_months_48 : decode cX11_months 48 = .ok (.iadd, 1) := by decide +kernel
theorem dX11_months_49 : decode cX11_months 49 = .ok (.putfield 7, 3) := by decide +kernel
theorem dX11_months_52 : decode cX11_months 52 = .ok (.aload_n 0, 1) := by decide +kernel
theorem dX11_months_53 : decode cX11_months 53 = .ok (.getfield 23, 3) := by decide +kernel
theorem dX11_months_56 : decode cX11_months 56 = .ok (.aload_n 0, 1) := by decide +kernel
theorem dX11_months_57 : decode cX11_months 57 = .ok (.getfield 7, 3) := by decide +kernel
theorem dX11_months_60 : decode cX11_months 60 = .ok (.invokevirtual 224, 3) := by decide +kernel
theorem dX11_months_63 : decode cX11_months 63 = .ok (.aload_n 0, 1) := by decide +kernel
theorem dX11_months_64 : decode cX11_months 64 = .ok (.getfield 7, 3) := by decide +kernel
theorem dX11_months_67 : decode cX11_months 67 = .ok (.ireturn, 1) := by decide +kernel
theorem dX11_isWithin_0 : decode cX11_isWithin 0 = .ok (.iload_n 0, 1) := by decide +kernel
theorem dX11_isWithin_1 : decode cX11_isWithin 1 = .ok (.iload_n 1, 1) := by decide +kernel
theorem dX11_isWithin_2 : decode cX11_isWithin 2 = .ok (.if_icmp .lt 12, 3) := by decide +kernel
theorem dX11_isWithin_5 : decode cX11_isWithin 5 = .ok (.iload_n 0, 1) := by decide +kernel
theorem dX11_isWithin_6 : decode cX11_isWithin 6 = .ok (.iload_n 2, 1) := by decide +kernel
theorem dX11_isWithin_7 : decode cX11_isWithin 7 = .ok (.if_icmp .gt 7, 3) := by decide +kernel
theorem dX11_isWithin_10 : decode cX11_isWithin 10 = .ok (.iconst 1, 1) := by decide +kernel
theorem dX11_isWithin_11 : decode cX11_isWithin 11 = .ok (.goto 4, 3) := by decide +kernel
theorem dX11_isWithin_14 : decode cX11_isWithin 14 = .ok (.iconst 0, 1) := by decide +kernel
theorem dX11_isWithin_15 : decode cX11_isWithin 15 = .ok (.ireturn, 1) := by decide +kernel
theorem dX11_dueOf_0 : decode cX11_dueOf 0 = .ok (.aload_n 0, 1) := by decide +kernel
theorem dX11_dueOf_1 : decode cX11_dueOf 1 = .ok (.getfield 23, 3) := by decide +kernel
theorem dX11_dueOf_4 : decode cX11_dueOf 4 = .ok (.iload_n 1, 1) := by decide +kernel
theorem dX11_dueOf_5 : decode cX11_dueOf 5 = .ok (.invokevirtual 181, 3) := by decide +kernel
theorem dX11_dueOf_8 : decode cX11_dueOf 8 = .ok (.astore_n 2, 1) := by decide +kernel
theorem dX11_dueOf_9 : decode cX11_dueOf 9 = .ok (.aload_n 0, 1) := by decide +kernel
theorem dX11_dueOf_10 : decode cX11_dueOf 10 = .ok (.getfield 65, 3) := by decide +kernel
theorem dX11_dueOf_13 : decode cX11_dueOf 13 = .ok (.aload_n 0, 1) := by decide +kernel
theorem dX11_dueOf_14 : decode cX11_dueOf 14 = .ok (.getfield 65, 3) := by decide +kernel
theorem dX11_dueOf_17 : decode cX11_dueOf 17 = .ok (.aload_n 2, 1) := by decide +kernel
theorem dX11_dueOf_18 : decode cX11_dueOf 18 = .ok (.invokevirtual 185, 3) := by decide +kernel
theorem dX11_dueOf_21 : decode cX11_dueOf 21 = .ok (.aload_n 2, 1) := by decide +kernel
theorem dX11_dueOf_22 : decode cX11_dueOf 22 = .ok (.invokevirtual 227, 3) := by decide +kernel
theorem dX11_dueOf_25 : decode cX11_dueOf 25 = .ok (.ireturn, 1) := by decide +kernel
theorem dX11_findPartings_0 : decode cX11_findPartings 0 = .ok (.aload_n 0, 1) := by decide +kernel
theorem dX11_findPartings_1 : decode cX11_findPartings 1 = .ok (.getfield 72, 3) := by decide +kernel
theorem dX11_findPartings_4 : decode cX11_findPartings 4 = .ok (.astore_n 1, 1) := by decide +kernel
theorem dX11_findPartings_5 : decode cX11_findPartings 5 = .ok (.aload_n 1, 1) := by decide +kernel
theorem dX11_findPartings_6 : decode cX11_findPartings 6 = .ok (.ifnonnull 16, 3) := by decide +kernel
theorem dX11_findPartings_9 : decode cX11_findPartings 9 = .ok (.new 209, 3) := by decide +kernel
theorem dX11_findPartings_12 : decode cX11_findPartings 12 = .ok (.dup, 1) := by decide +kernel
theorem dX11_findPartings_13 : decode cX11_findPartings 13 = .ok (.invokespecial 231, 3) := by decide +kernel
theorem dX11_findPartings_16 : decode cX11_findPartings 16 = .ok (.astore_n 1, 1) := by decide +kernel
theorem dX11_findPartings_17 : decode cX11_findPartings 17 = .ok (.aload_n 0, 1) := by decide +kernel
theorem dX11_findPartings_18 : decode cX11_findPartings 18 = .ok (.aload_n 1, 1) := by decide +kernel
theorem dX11_findPartings_19 : decode cX11_findPartings 19 = .ok (.putfield 72, 3) := by decide +kernel
theorem dX11_findPartings_22 : decode cX11_findPartings 22 = .ok (.aload_n 0, 1) := by decide +kernel
theorem dX11_findPartings_23 : decode cX11_findPartings 23 = .ok (.getfield 76, 3) := by decide +kernel
theorem dX11_findPartings_26 : decode cX11_findPartings 26 = .ok (.ifCond .ne 52, 3) := by decide +kernel
theorem dX11_findPartings_29 : decode cX11_findPartings 29 = .ok (.iconst 0, 1) := by decide +kernel
theorem dX11_findPartings_30 : decode cX11_findPartings 30 = .ok (.istore_n 2, 1) := by decide +kernel
theorem dX11_findPartings_31 : decode cX11_findPartings 31 = .ok (.iload_n 2, 1) := by decide +kernel
theorem dX11_findPartings_32 : decode cX11_findPartings 32 = .ok (.aload_n 0, 1) := by decide +kernel
theorem dX11_findPartings_33 : decode cX11_findPartings 33 = .ok (.getfield 23, 3) := by decide +kernel
theorem dX11_findPartings_36 : decode cX11_findPartings 36 = .ok (.getfield 146, 3) := by decide +kernel
theorem dX11_findPartings_39 : decode cX11_findPartings 39 = .ok (.if_icmp .ge 19, 3) := by decide +kernel
theorem dX11_findPartings_42 : decode cX11_findPartings 42 = .ok (.aload_n 1, 1) := by decide +kernel
theorem dX11_findPartings_43 : decode cX11_findPartings 43 = .ok (.iload_n 2, 1) := by decide +kernel
theorem dX11_findPartings_44 : decode cX11_findPartings 44 = .ok (.aload_n 0, 1) := by decide +kernel
theorem dX11_findPartings_45 : decode cX11_findPartings 45 = .ok (.iload_n 2, 1) := by decide +kernel
theorem dX11_findPartings_46 : decode cX11_findPartings 46 = .ok (.invokevirtual 178, 3) := by decide +kernel
theorem dX11_findPartings_49 : decode cX11_findPartings 49 = .ok (.invokevirtual 232, 3) := by decide +kernel
theorem dX11_findPartings_52 : decode cX11_findPartings 52 = .ok (.iinc 2 1, 3) := by decide +kernel
theorem dX11_findPartings_55 : decode cX11_findPartings 55 = .ok (.goto (-24), 3) := by decide +kernel
theorem dX11_findPartings_58 : decode cX11_findPartings 58 = .ok (.aload_n 1, 1) := by decide +kernel
theorem dX11_findPartings_59 : decode cX11_findPartings 59 = .ok (.aload_n 0, 1) := by decide +kernel
theorem dX11_findPartings_60 : decode cX11_findPartings 60 = .ok (.getfield 23, 3) := by decide +kernel
theorem dX11_findPartings_63 : decode cX11_findPartings 63 = .ok (.getfield 146, 3) := by decide +kernel
theorem dX11_findPartings_66 : decode cX11_findPartings 66 = .ok (.aload_n 0, 1) := by decide +kernel
theorem dX11_findPartings_67 : decode cX11_findPartings 67 = .ok (.getfield 44, 3) := by decide +kernel
theorem dX11_findPartings_70 : decode cX11_findPartings 70 = .ok (.invokevirtual 236, 3) := by decide +kernel
theorem dX11_findPartings_73 : decode cX11_findPartings 73 = .ok (.aload_n 0, 1) := by decide +kernel
theorem dX11_findPartings_74 : decode cX11_findPartings 74 = .ok (.iconst 1, 1) := by decide +kernel
theorem dX11_findPartings_75 : decode cX11_findPartings 75 = .ok (.putfield 76, 3) := by decide +kernel
theorem dX11_findPartings_78 : decode cX11_findPartings 78 = .ok (.aload_n 1, 1) := by decide +kernel
theorem dX11_findPartings_79 : decode cX11_findPartings 79 = .ok (.areturn, 1) := by decide +kernel
