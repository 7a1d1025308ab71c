theorem dX0_init_0 : decode cX0_init 0 = .ok (.aload_n 0, 1) := by decide +kernel
theorem dX0_init_1 : decode cX0_init 1 = .ok (.invokespecial 5, 3) := by decide +kernel
theorem dX0_init_4 : decode cX0_init 4 = .ok (.aload_n 0, 1) := by decide +kernel
theorem dX0_init_5 : decode cX0_init 5 = .ok (.bipush 6, 2) := by decide +kernel
theorem dX0_init_7 : decode cX0_init 7 = .ok (.newarray .int, 2) := by decide +kernel
theorem dX0_init_9 : decode cX0_init 9 = .ok (.putfield 11, 3) := by decide +kernel
theorem dX0_init_12 : decode cX0_init 12 = .ok (.aload_n 0, 1) := by decide +kernel
theorem dX0_init_13 : decode cX0_init 13 = .ok (.bipush 6, 2) := by decide +kernel
theorem dX0_init_15 : decode cX0_init 15 = .ok (.newarray .int, 2) := by decide +kernel
theorem dX0_init_17 : decode cX0_init 17 = .ok (.putfield 15, 3) := by decide +kernel
theorem dX0_init_20 : decode cX0_init 20 = .ok (.aload_n 0, 1) := by decide +kernel
theorem dX0_init_21 : decode cX0_init 21 = .ok (.bipush 8, 2) := by decide +kernel
theorem dX0_init_23 : decode cX0_init 23 = .ok (.newarray .int, 2) := by decide +kernel
theorem dX0_init_25 : decode cX0_init 25 = .ok (.putfield 18, 3) := by decide +kernel
theorem dX0_init_28 : decode cX0_init 28 = .ok (.aload_n 0, 1) := by decide +kernel
theorem dX0_init_29 : decode cX0_init 29 = .ok (.bipush 8, 2) := by decide +kernel
theorem dX0_init_31 : decode cX0_init 31 = .ok (.newarray .int, 2) := by decide +kernel
theorem dX0_init_33 : decode cX0_init 33 = .ok (.putfield 21, 3) := by decide +kernel
theorem dX0_init_36 : decode cX0_init 36 = .ok (.aload_n 0, 1) := by decide +kernel
theorem dX0_init_37 : decode cX0_init 37 = .ok (.bipush 8, 2) := by decide +kernel
theorem dX0_init_39 : decode cX0_init 39 = .ok (.newarray .int, 2) := by decide +kernel
theorem dX0_init_41 : decode cX0_init 41 = .ok (.putfield 24, 3) := by decide +kernel
theorem dX0_init_44 : decode cX0_init 44 = .ok (.aload_n 0, 1) := by decide +kernel
theorem dX0_init_45 : decode cX0_init 45 = .ok (.bipush 64, 2) := by decide +kernel
theorem dX0_init_47 : decode cX0_init 47 = .ok (.newarray .int, 2) := by decide +kernel
theorem dX0_init_49 : decode cX0_init 49 = .ok (.putfield 27, 3) := by decide +kernel
theorem dX0_init_52 : decode cX0_init 52 = .ok (.return_, 1) := by decide +kernel
theorem dX0_add_0 : decode cX0_add 0 = .ok (.aload_n 0, 1) := by decide +kernel
theorem dX0_add_1 : decode cX0_add 1 = .ok (.getfield 30, 3) := by decide +kernel
theorem dX0_add_4 : decode cX0_add 4 = .ok (.bipush 8, 2) := by decide +kernel
theorem dX0_add_6 : decode cX0_add 6 = .ok (.if_icmp .ge 24, 3) := by decide +kernel
theorem dX0_add_9 : decode cX0_add 9 = .ok (.iload_n 1, 1) := by decide +kernel
theorem dX0_add_10 : decode cX0_add 10 = .ok (.ifCond .lt 20, 3) := by decide +kernel
theorem dX0_add_13 : decode cX0_add 13 = .ok (.iload_n 1, 1) := by decide +kernel
theorem dX0_add_14 : decode cX0_add 14 = .ok (.sipush 9999, 3) := by decide +kernel
theorem dX0_add_17 : decode cX0_add 17 = .ok (.if_icmp .gt 13, 3) := by decide +kernel
theorem dX0_add_20 : decode cX0_add 20 = .ok (.iload_n 2, 1) := by decide +kernel
theorem dX0_add_21 : decode cX0_add 21 = .ok (.ifCond .lt 9, 3) := by decide +kernel
theorem dX0_add_24 : decode cX0_add 24 = .ok (.iload_n 2, 1) := by decide +kernel
theorem dX0_add_25 : decode cX0_add 25 = .ok (.bipush 64, 2) := by decide +kernel
theorem dX0_add_27 : decode cX0_add 27 = .ok (.if_icmp .lt 5, 3) := by decide +kernel
theorem dX0_add_30 : decode cX0_add 30 = .ok (.iconst (-1), 1) := by decide +kernel
theorem dX0_add_31 : decode cX0_add 31 = .ok (.ireturn, 1) := by decide +kernel
theorem dX0_add_32 : decode cX0_add 32 = .ok (.aload_n 0, 1) := by decide +kernel
theorem dX0_add_33 : decode cX0_add 33 = .ok (.getfield 21, 3) := by decide +kernel
theorem dX0_add_36 : decode cX0_add 36 = .ok (.aload_n 0, 1) := by decide +kernel
theorem dX0_add_37 : decode cX0_add 37 = .ok (.getfield 30, 3) := by decide +kernel
theorem dX0_add_40 : decode cX0_add 40 = .ok (.iload_n 1, 1) := by decide +kernel
theorem dX0_add_41 : decode cX0_add 41 = .ok (.iastore, 1) := by decide +kernel
theorem dX0_add_42 : decode cX0_add 42 = .ok (.aload_n 0, 1) := by decide +kernel
theorem dX0_add_43 : decode cX0_add 43 = .ok (.getfield 24, 3) := by decide +kernel
theorem dX0_add_46 : decode cX0_add 46 = .ok (.aload_n 0, 1) := by decide +kernel
theorem dX0_add_47 : decode cX0_add 47 = .ok (.getfield 30, 3) := by decide +kernel
theorem dX0_add_50 : decode cX0_add 50 = .ok (.iload_n 2, 1) := by decide +kernel
theorem dX0_add_51 : decode cX0_add 51 = .ok (.iastore, 1) := by decide +kernel
theorem dX0_add_52 : decode cX0_add 52 = .ok (.aload_n 0, 1) := by decide +kernel
theorem dX0_add_53 : decode cX0_add 53 = .ok (.dup, 1) := by decide +kernel
theorem dX0_add_54 : decode cX0_add 54 = .ok (.getfield 30, 3) := by decide +kernel
theorem dX0_add_57 : decode cX0_add 57 = .ok (.iconst 1, 1) := by decide +kernel
theorem dX0_add_58 : decode cX0_add 58 = .ok (.iadd, 1) := by decide +kernel
theorem dX0_add_59 : decode cX0_add 59 = .ok (.putfield 30, 3) := by decide +kernel
theorem dX0_add_62 : decode cX0_add 62 = .ok (.aload_n 0, 1) := by decide +kernel
theorem dX0_add_63 : decode cX0_add 63 = .ok (.getfield 30, 3) := by decide +kernel
theorem dX0_add_66 : decode cX0_add 66 = .ok (.iconst 1, 1) := by decide +kernel
theorem dX0_add_67 : decode cX0_add 67 = .ok (.isub, 1) := by decide +kernel
theorem dX0_add_68 : decode cX0_add 68 = .ok (.ireturn, 1) := by decide +kernel
theorem dX0_plan_0 : decode cX0_plan 0 = .ok (.aload_n 0, 1) := by decide +kernel
theorem dX0_plan_1 : decode cX0_plan 1 = .ok (.invokevirtual 34, 3) := by decide +kernel
theorem dX0_plan_4 : decode cX0_plan 4 = .ok (.aload_n 0, 1) := by decide +kernel
theorem dX0_plan_5 : decode cX0_plan 5 = .ok (.invokevirtual 37, 3) := by decide +kernel
theorem dX0_plan_8 : decode cX0_plan 8 = .ok (.return_, 1) := by decide +kernel
theorem dX0_planEnds_0 : decode cX0_planEnds 0 = .ok (.aload_n 0, 1) := by decide +kernel
theorem dX0_planEnds_1 : decode cX0_planEnds 1 = .ok (.aload_n 0, 1) := by decide +kernel
theorem dX0_planEnds_2 : decode cX0_planEnds 2 = .ok (.getfield 11, 3) := by decide +kernel
theorem dX0_planEnds_5 : decode cX0_planEnds 5 = .ok (.invokevirtual 40, 3) := by decide +kernel
theorem dX0_planEnds_8 : decode cX0_planEnds 8 = .ok (.iconst 0, 1) := by decide +kernel
theorem dX0_planEnds_9 : decode cX0_planEnds 9 = .ok (.istore_n 1, 1) := by decide +kernel
theorem dX0_planEnds_10 : decode cX0_planEnds 10 = .ok (.iload_n 1, 1) := by decide +kernel
theorem dX0_planEnds_11 : decode cX0_planEnds 11 = .ok (.aload_n 0, 1) := by decide +kernel
theorem dX0_planEnds_12 : decode cX0_planEnds 12 = .ok (.getfield 30, 3) := by decide +kernel
theorem dX0_planEnds_15 : decode cX0_planEnds 15 = .ok (.if_icmp .ge 14, 3) := by decide +kernel
theorem dX0_planEnds_18 : decode cX0_planEnds 18 = .ok (.aload_n 0, 1) := by decide +kernel
theorem dX0_planEnds_19 : decode cX0_planEnds 19 = .ok (.iload_n 1, 1) := by decide +kernel
theorem dX0_planEnds_20 : decode cX0_planEnds 20 = .ok (.invokevirtual 44, 3) := by decide +kernel
theorem dX0_planEnds_23 : decode cX0_planEnds 23 = .ok (.iinc 1 1, 3) := by decide +kernel
theorem dX0_planEnds_26 : decode cX0_planEnds 26 = .ok (.goto (-16), 3) := by decide +kernel
theorem dX0_planEnds_29 : decode cX0_planEnds 29 = .ok (.aload_n 0, 1) := by decide +kernel
theorem dX0_planEnds_30 : decode cX0_planEnds 30 = .ok (.iconst 0, 1) := by decide +kernel
theorem dX0_planEnds_31 : decode cX0_planEnds 31 = .ok (.putfield 48, 3) := by decide +kernel
theorem dX0_planEnds_34 : decode cX0_planEnds 34 = .ok (.aload_n 0, 1) := by decide +kernel
theorem dX0_planEnds_35 : decode cX0_planEnds 35 = .ok (.iconst 0, 1) := by decide +kernel
theorem dX0_planEnds_36 : decode cX0_planEnds 36 = .ok (.putfield 51, 3) := by decide +kernel
theorem dX0_planEnds_39 : decode cX0_planEnds 39 = .ok (.iconst 0, 1) := by decide +kernel
theorem dX0_planEnds_40 : decode cX0_planEnds 40 = .ok (.istore_n 1, 1) := by decide +kernel
theorem dX0_planEnds_41 : decode cX0_planEnds 41 = .ok (.iconst 0, 1) := by decide +kernel
theorem dX0_planEnds_42 : decode cX0_planEnds 42 = .ok (.istore_n 2, 1) := by decide +kernel
theorem dX0_planEnds_43 : decode cX0_planEnds 43 = .ok (.iconst 0, 1) := by decide +kernel
theorem dX0_planEnds_44 : decode cX0_planEnds 44 = .ok (.istore_n 3, 1) := by decide +kernel
theorem dX0_planEnds_45 : decode cX0_planEnds 45 = .ok (.iload_n 3, 1) := by decide +kernel
theorem dX0_planEnds_46 : decode cX0_planEnds 46 = .ok (.bipush 6, 2) := by decide +kernel
theorem dX0_planEnds_48 : decode cX0_planEnds 48 = .ok (.if_icmp .ge 89, 3) := by decide +kernel
theorem dX0_planEnds_51 : decode cX0_planEnds 51 = .ok (.iload_n 1, 1) := by decide +kernel
theorem dX0_planEnds_52 : decode cX0_planEnds 52 = .ok (.aload_n 0, 1) := by decide +kernel
theorem dX0_planEnds_53 : decode cX0_planEnds 53 = .ok (.getfield 11, 3) := by decide +kernel
theorem dX0_planEnds_56 : decode cX0_planEnds 56 = .ok (.iload_n 3, 1) := by decide +kernel
theorem dX0_planEnds_57 : decode cX0_planEnds 57 = .ok (.iaload, 1) := by decide +kernel
theorem dX0_planEnds_58 : decode cX0_planEnds 58 = .ok (.iadd, 1) := by decide +kernel
theorem dX0_planEnds_59 : decode cX0_planEnds 59 = .ok (.istore_n 1, 1) := by decide +kernel
theorem dX0_planEnds_60 : decode cX0_planEnds 60 = .ok (.iconst 1, 1) := by decide +kernel
theorem dX0_planEnds_61 : decode cX0_planEnds 61 = .ok (.iload_n 3, 1) := by decide +kernel
theorem dX0_planEnds_62 : decode cX0_planEnds 62 = .ok (.ishl, 1) := by decide +kernel
theorem dX0_planEnds_63 : decode cX0_planEnds 63 = .ok (.istore 4, 2) := by decide +kernel
theorem dX0_planEnds_65 : decode cX0_planEnds 65 = .ok (.iload 4, 2) := by decide +kernel
theorem dX0_planEnds_67 : decode cX0_planEnds 67 = .ok (.iconst 2, 1) := by decide +kernel
theorem dX0_planEnds_68 : decode cX0_planEnds 68 = .ok (.iload_n 3, 1) := by decide +kernel
theorem dX0_planEnds_69 : decode cX0_planEnds 69 = .ok (.ishl, 1) := by decide +kernel
theorem dX0_planEnds_70 : decode cX0_planEnds 70 = .ok (.if_icmp .ge 40, 3) := by decide +kernel
theorem dX0_planEnds_73 : decode cX0_planEnds 73 = .ok (.aload_n 0, 1) := by decide +kernel
theorem dX0_planEnds_74 : decode cX0_planEnds 74 = .ok (.getfield 27, 3) := by decide +kernel
theorem dX0_planEnds_77 : decode cX0_planEnds 77 = .ok (.iload 4, 2) := by decide +kernel
theorem dX0_planEnds_79 : decode cX0_planEnds 79 = .ok (.iaload, 1) := by decide +kernel
theorem dX0_planEnds_80 : decode cX0_planEnds 80 = .ok (.aload_n 0, 1) := by decide +kernel
theorem dX0_planEnds_81 : decode cX0_planEnds 81 = .ok (.getfield 48, 3) := by decide +kernel
theorem dX0_planEnds_84 : decode cX0_planEnds 84 = .ok (.if_icmp .le 20, 3) := by decide +kernel
theorem dX0_planEnds_87 : decode cX0_planEnds 87 = .ok (.aload_n 0, 1) := by decide +kernel
theorem dX0_planEnds_88 : decode cX0_planEnds 88 = .ok (.aload_n 0, 1) := by decide +kernel
theorem dX0_planEnds_89 : decode cX0_planEnds 89 = .ok (.getfield 27, 3) := by decide +kernel
theorem dX0_planEnds_92 : decode cX0_planEnds 92 = .ok (.iload 4, 2) := by decide +kernel
theorem dX0_planEnds_94 : decode cX0_planEnds 94 = .ok (.iaload, 1) := by decide +kernel
theorem dX0_planEnds_95 : decode cX0_planEnds 95 = .ok (.putfield 48, 3) := by decide +kernel
theorem dX0_planEnds_98 : decode cX0_planEnds 98 = .ok (.aload_n 0, 1) := by decide +kernel
theorem dX0_planEnds_99 : decode cX0_planEnds 99 = .ok (.iload 4, 2) := by decide +kernel
theorem dX0_planEnds_101 : decode cX0_planEnds 101 = .ok (.putfield 51, 3) := by decide +kernel
theorem dX0_planEnds_104 : decode cX0_planEnds 104 = .ok (.iinc 4 1, 3) := by decide +kernel
theorem dX0_planEnds_107 : decode cX0_planEnds 107 = .ok (.goto (-42), 3) := by decide +kernel
theorem dX0_planEnds_110 : decode cX0_planEnds 110 = .ok (.aload_n 0, 1) := by decide +kernel
theorem dX0_planEnds_111 : decode cX0_planEnds 111 = .ok (.getfield 15, 3) := by decide +kernel
theorem dX0_planEnds_114 : decode cX0_planEnds 114 = .ok (.iload_n 3, 1) := by decide +kernel
theorem dX0_planEnds_115 : decode cX0_planEnds 115 = .ok (.iload_n 1, 1) := by decide +kernel
theorem dX0_planEnds_116 : decode cX0_planEnds 116 = .ok (.aload_n 0, 1) := by decide +kernel
theorem dX0_planEnds_117 : decode cX0_planEnds 117 = .ok (.getfield 48, 3) := by decide +kernel
theorem dX0_planEnds_120 : decode cX0_planEnds 120 = .ok (.isub, 1) := by decide +kernel
theorem dX0_planEnds_121 : decode cX0_planEnds 121 = .ok (.iload_n 2, 1) := by decide +kernel
theorem dX0_planEnds_122 : decode cX0_planEnds 122 = .ok (.isub, 1) := by decide +kernel
theorem dX0_planEnds_123 : decode cX0_planEnds 123 = .ok (.iastore, 1) := by decide +kernel
theorem dX0_planEnds_124 : decode cX0_planEnds 124 = .ok (.iload_n 1, 1) := by decide +kernel
theorem dX0_planEnds_125 : decode cX0_planEnds 125 = .ok (.aload_n 0, 1) := by decide +kernel
theorem dX0_planEnds_126 : decode cX0_planEnds 126 = .ok (.getfield 48, 3) := by decide +kernel
theorem dX0_planEnds_129 : decode cX0_planEnds 129 = .ok (.isub, 1) := by decide +kernel
theorem dX0_planEnds_130 : decode cX0_planEnds 130 = .ok (.istore_n 2, 1) := by decide +kernel
theorem dX0_planEnds_131 : decode cX0_planEnds 131 = .ok (.iinc 3 1, 3) := by decide +kernel
theorem dX0_planEnds_134 : decode cX0_planEnds 134 = .ok (.goto (-89), 3) := by decide +kernel
theorem dX0_planEnds_137 : decode cX0_planEnds 137 = .ok (.return_, 1) := by decide +kernel
theorem dX0_planLegacies_0 : decode cX0_planLegacies 0 = .ok (.aload_n 0, 1) := by decide +kernel
theorem dX0_planLegacies_1 : decode cX0_planLegacies 1 = .ok (.aload_n 0, 1) := by decide +kernel
theorem dX0_planLegacies_2 : decode cX0_planLegacies 2 = .ok (.getfield 15, 3) := by decide +kernel
theorem dX0_planLegacies_5 : decode cX0_planLegacies 5 = .ok (.invokevirtual 40, 3) := by decide +kernel
theorem dX0_planLegacies_8 : decode cX0_planLegacies 8 = .ok (.aload_n 0, 1) := by decide +kernel
theorem dX0_planLegacies_9 : decode cX0_planLegacies 9 = .ok (.getfield 27, 3) := by decide +kernel
theorem dX0_planLegacies_12 : decode cX0_planLegacies 12 = .ok (.bipush 63, 2) := by decide +kernel
theorem dX0_planLegacies_14 : decode cX0_planLegacies 14 = .ok (.iaload, 1) := by decide +kernel
theorem dX0_planLegacies_15 : decode cX0_planLegacies 15 = .ok (.istore_n 1, 1) := by decide +kernel
theorem dX0_planLegacies_16 : decode cX0_planLegacies 16 = .ok (.iconst 0, 1) := by decide +kernel
theorem dX0_planLegacies_17 : decode cX0_planLegacies 17 = .ok (.istore_n 2, 1) := by decide +kernel
theorem dX0_planLegacies_18 : decode cX0_planLegacies 18 = .ok (.iconst 0, 1) := by decide +kernel
theorem dX0_planLegacies_19 : decode cX0_planLegacies 19 = .ok (.istore_n 3, 1) := by decide +kernel
theorem dX0_planLegacies_20 : decode cX0_planLegacies 20 = .ok (.iload_n 3, 1) := by decide +kernel
theorem dX0_planLegacies_21 : decode cX0_planLegacies 21 = .ok (.aload_n 0, 1) := by decide +kernel
theorem dX0_planLegacies_22 : decode cX0_planLegacies 22 = .ok (.getfield 30, 3) := by decide +kernel
theorem dX0_planLegacies_25 : decode cX0_planLegacies 25 = .ok (.if_icmp .ge 35, 3) := by decide +kernel
theorem dX0_planLegacies_28 : decode cX0_planLegacies 28 = .ok (.aload_n 0, 1) := by decide +kernel
theorem dX0_planLegacies_29 : decode cX0_planLegacies 29 = .ok (.iload_n 3, 1) := by decide +kernel
theorem dX0_planLegacies_30 : decode cX0_planLegacies 30 = .ok (.invokevirtual 44, 3) := by decide +kernel
theorem dX0_planLegacies_33 : decode cX0_planLegacies 33 = .ok (.iload_n 1, 1) := by decide +kernel
theorem dX0_planLegacies_34 : decode cX0_planLegacies 34 = .ok (.aload_n 0, 1) := by decide +kernel
theorem dX0_planLegacies_35 : decode cX0_planLegacies 35 = .ok (.invokevirtual 54, 3) := by decide +kernel
theorem dX0_planLegacies_38 : decode cX0_planLegacies 38 = .ok (.isub, 1) := by decide +kernel
theorem dX0_planLegacies_39 : decode cX0_planLegacies 39 = .ok (.istore 4, 2) := by decide +kernel
theorem dX0_planLegacies_41 : decode cX0_planLegacies 41 = .ok (.aload_n 0, 1) := by decide +kernel
theorem dX0_planLegacies_42 : decode cX0_planLegacies 42 = .ok (.getfield 18, 3) := by decide +kernel
theorem dX0_planLegacies_45 : decode cX0_planLegacies 45 = .ok (.iload_n 3, 1) := by decide +kernel
theorem dX0_planLegacies_46 : decode cX0_planLegacies 46 = .ok (.iload 4, 2) := by decide +kernel
theorem dX0_planLegacies_48 : decode cX0_planLegacies 48 = .ok (.iload_n 2, 1) := by decide +kernel
theorem dX0_planLegacies_49 : decode cX0_planLegacies 49 = .ok (.isub, 1) := by decide +kernel
theorem dX0_planLegacies_50 : decode cX0_planLegacies 50 = .ok (.iastore, 1) := by decide +kernel
theorem dX0_planLegacies_51 : decode cX0_planLegacies 51 = .ok (.iload 4, 2) := by decide +kernel
theorem dX0_planLegacies_53 : decode cX0_planLegacies 53 = .ok (.istore_n 2, 1) := by decide +kernel
theorem dX0_planLegacies_54 : decode cX0_planLegacies 54 = .ok (.iinc 3 1, 3) := by decide +kernel
theorem dX0_planLegacies_57 : decode cX0_planLegacies 57 = .ok (.goto (-37), 3) := by decide +kernel
theorem dX0_planLegacies_60 : decode cX0_planLegacies 60 = .ok (.return_, 1) := by decide +kernel
theorem dX0_setLack_0 : decode cX0_setLack 0 = .ok (.aload_n 0, 1) := by decide +kernel
theorem dX0_setLack_1 : decode cX0_setLack 1 = .ok (.getfield 27, 3) := by decide +kernel
theorem dX0_setLack_4 : decode cX0_setLack 4 = .ok (.iconst 0, 1) := by decide +kernel
theorem dX0_setLack_5 : decode cX0_setLack 5 = .ok (.iconst 0, 1) := by decide +kernel
theorem dX0_setLack_6 : decode cX0_setLack 6 = .ok (.iastore, 1) := by decide +kernel
theorem dX0_setLack_7 : decode cX0_setLack 7 = .ok (.iconst 0, 1) := by decide +kernel
theorem dX0_setLack_8 : decode cX0_setLack 8 = .ok (.istore_n 2, 1) := by decide +kernel
theorem dX0_setLack_9 : decode cX0_setLack 9 = .ok (.iload_n 2, 1) := by decide +kernel
theorem dX0_setLack_10 : decode cX0_setLack 10 = .ok (.bipush 6, 2) := by decide +kernel
theorem dX0_setLack_12 : decode cX0_setLack 12 = .ok (.if_icmp .ge 50, 3) := by decide +kernel
theorem dX0_setLack_15 : decode cX0_setLack 15 = .ok (.iload_n 2, 1) := by decide +kernel
theorem dX0_setLack_16 : decode cX0_setLack 16 = .ok (.aload_n 1, 1) := by decide +kernel
theorem dX0_setLack_17 : decode cX0_setLack 17 = .ok (.arraylength, 1) := by decide +kernel
theorem dX0_setLack_18 : decode cX0_setLack 18 = .ok (.if_icmp .ge 44, 3) := by decide +kernel
theorem dX0_setLack_21 : decode cX0_setLack 21 = .ok (.iconst 0, 1) := by decide +kernel
theorem dX0_setLack_22 : decode cX0_setLack 22 = .ok (.istore_n 3, 1) := by decide +kernel
theorem dX0_setLack_23 : decode cX0_setLack 23 = .ok (.iload_n 3, 1) := by decide +kernel
theorem dX0_setLack_24 : decode cX0_setLack 24 = .ok (.iconst 1, 1) := by decide +kernel
theorem dX0_setLack_25 : decode cX0_setLack 25 = .ok (.iload_n 2, 1) := by decide +kernel
theorem dX0_setLack_26 : decode cX0_setLack 26 = .ok (.ishl, 1) := by decide +kernel
theorem dX0_setLack_27 : decode cX0_setLack 27 = .ok (.if_icmp .ge 29, 3) := by decide +kernel
theorem dX0_setLack_30 : decode cX0_setLack 30 = .ok (.aload_n 0, 1) := by decide +kernel
theorem dX0_setLack_31 : decode cX0_setLack 31 = .ok (.getfield 27, 3) := by decide +kernel
theorem dX0_setLack_34 : decode cX0_setLack 34 = .ok (.iload_n 3, 1) := by decide +kernel
theorem dX0_setLack_35 : decode cX0_setLack 35 = .ok (.iconst 1, 1) := by decide +kernel
theorem dX0_setLack_36 : decode cX0_setLack 36 = .ok (.iload_n 2, 1) := by decide +kernel
theorem dX0_setLack_37 : decode cX0_setLack 37 = .ok (.ishl, 1) := by decide +kernel
theorem dX0_setLack_38 : decode cX0_setLack 38 = .ok (.ior, 1) := by decide +kernel
theorem dX0_setLack_39 : decode cX0_setLack 39 = .ok (.aload_n 0, 1) := by decide +kernel
theorem dX0_setLack_40 : decode cX0_setLack 40 = .ok (.getfield 27, 3) := by decide +kernel
theorem dX0_setLack_43 : decode cX0_setLack 43 = .ok (.iload_n 3, 1) := by decide +kernel
theorem dX0_setLack_44 : decode cX0_setLack 44 = .ok (.iaload, 1) := by decide +kernel
theorem dX0_setLack_45 : decode cX0_setLack 45 = .ok (.aload_n 1, 1) := by decide +kernel
theorem dX0_setLack_46 : decode cX0_setLack 46 = .ok (.iload_n 2, 1) := by decide +kernel
theorem dX0_setLack_47 : decode cX0_setLack 47 = .ok (.iaload, 1) := by decide +kernel
theorem dX0_setLack_48 : decode cX0_setLack 48 = .ok (.iadd, 1) := by decide +kernel
theorem dX0_setLack_49 : decode cX0_setLack 49 = .ok (.iastore, 1) := by decide +kernel
theorem dX0_setLack_50 : decode cX0_setLack 50 = .ok (.iinc 3 1, 3) := by decide +kernel
theorem dX0_setLack_53 : decode cX0_setLack 53 = .ok (.goto (-30), 3) := by decide +kernel
theorem dX0_setLack_56 : decode cX0_setLack 56 = .ok (.iinc 2 1, 3) := by decide +kernel
theorem dX0_setLack_59 : decode cX0_setLack 59 = .ok (.goto (-50), 3) := by decide +kernel
theorem dX0_setLack_62 : decode cX0_setLack 62 = .ok (.return_, 1) := by decide +kernel
theorem dX0_lessenLack_0 : decode cX0_lessenLack 0 = .ok (.iconst 1, 1) := by decide +kernel
theorem dX0_lessenLack_1 : decode cX0_lessenLack 1 = .ok (.istore_n 2, 1) := by decide +kernel
theorem dX0_lessenLack_2 : decode cX0_lessenLack 2 = .ok (.iload_n 2, 1) := by decide +kernel
theorem dX0_lessenLack_3 : decode cX0_lessenLack 3 = .ok (.bipush 64, 2) := by decide +kernel
theorem dX0_lessenLack_5 : decode cX0_lessenLack 5 = .ok (.if_icmp .ge 35, 3) := by decide +kernel
theorem dX0_lessenLack_8 : decode cX0_lessenLack 8 = .ok (.iload_n 2, 1) := by decide +kernel
theorem dX0_lessenLack_9 : decode cX0_lessenLack 9 = .ok (.aload_n 0, 1) := by decide +kernel
theorem dX0_lessenLack_10 : decode cX0_lessenLack 10 = .ok (.getfield 24, 3) := by decide +kernel
theorem dX0_lessenLack_13 : decode cX0_lessenLack 13 = .ok (.iload_n 1, 1) := by decide +kernel
theorem dX0_lessenLack_14 : decode cX0_lessenLack 14 = .ok (.iaload, 1) := by decide +kernel
theorem dX0_lessenLack_15 : decode cX0_lessenLack 15 = .ok (.iand, 1) := by decide +kernel
theorem dX0_lessenLack_16 : decode cX0_lessenLack 16 = .ok (.ifCond .eq 18, 3) := by decide +kernel
theorem dX0_lessenLack_19 : decode cX0_lessenLack 19 = .ok (.aload_n 0, 1) := by decide +kernel
theorem dX0_lessenLack_20 : decode cX0_lessenLack 20 = .ok (.getfield 27, 3) := by decide +kernel
theorem dX0_lessenLack_23 : decode cX0_lessenLack 23 = .ok (.iload_n 2, 1) := by decide +kernel
theorem dX0_lessenLack_24 : decode cX0_lessenLack 24 = .ok (.dup2, 1) := by decide +kernel
theorem dX0_lessenLack_25 : decode cX0_lessenLack 25 = .ok (.iaload, 1) := by decide +kernel
theorem dX0_lessenLack_26 : decode cX0_lessenLack 26 = .ok (.aload_n 0, 1) := by decide +kernel
theorem dX0_lessenLack_27 : decode cX0_lessenLack 27 = .ok (.getfield 21, 3) := by decide +kernel
theorem dX0_lessenLack_30 : decode cX0_lessenLack 30 = .ok (.iload_n 1, 1) := by decide +kernel
theorem dX0_lessenLack_31 : decode cX0_lessenLack 31 = .ok (.iaload, 1) := by decide +kernel
theorem dX0_lessenLack_32 : decode cX0_lessenLack 32 = .ok (.isub, 1) := by decide +kernel
theorem dX0_lessenLack_33 : decode cX0_lessenLack 33 = .ok (.iastore, 1) := by decide +kernel
theorem dX0_lessenLack_34 : decode cX0_lessenLack 34 = .ok (.iinc 2 1, 3) := by decide +kernel
theorem dX0_lessenLack_37 : decode cX0_lessenLack 37 = .ok (.goto (-35), 3) := by decide +kernel
theorem dX0_lessenLack_40 : decode cX0_lessenLack 40 = .ok (.return_, 1) := by decide +kernel
theorem dX0_greatestLack_0 : decode cX0_greatestLack 0 = .ok (.iconst 0, 1) := by decide +kernel
theorem dX0_greatestLack_1 : decode cX0_greatestLack 1 = .ok (.istore_n 1, 1) := by decide +kernel
theorem dX0_greatestLack_2 : decode cX0_greatestLack 2 = .ok (.iconst 1, 1) := by decide +kernel
theorem dX0_greatestLack_3 : decode cX0_greatestLack 3 = .ok (.istore_n 2, 1) := by decide +kernel
theorem dX0_greatestLack_4 : decode cX0_greatestLack 4 = .ok (.iload_n 2, 1) := by decide +kernel
theorem dX0_greatestLack_5 : decode cX0_greatestLack 5 = .ok (.bipush 64, 2) := by decide +kernel
theorem dX0_greatestLack_7 : decode cX0_greatestLack 7 = .ok (.if_icmp .ge 20, 3) := by decide +kernel
theorem dX0_greatestLack_10 : decode cX0_greatestLack 10 = .ok (.iload_n 1, 1) := by decide +kernel
theorem dX0_greatestLack_11 : decode cX0_greatestLack 11 = .ok (.aload_n 0, 1) := by decide +kernel
theorem dX0_greatestLack_12 : decode cX0_greatestLack 12 = .ok (.getfield 27, 3) := by decide +kernel
theorem dX0_greatestLack_15 : decode cX0_greatestLack 15 = .ok (.iload_n 2, 1) := by decide +kernel
theorem dX0_greatestLack_16 : decode cX0_greatestLack 16 = .ok (.iaload, 1) := by decide +kernel
theorem dX0_greatestLack_17 : decode cX0_greatestLack 17 = .ok (.invokestatic 58, 3) := by decide +kernel
theorem dX0_greatestLack_20 : decode cX0_greatestLack 20 = .ok (.istore_n 1, 1) := by decide +kernel
theorem dX0_greatestLack_21 : decode cX0_greatestLack 21 = .ok (.iinc 2 1, 3) := by decide +kernel
theorem dX0_greatestLack_24 : decode cX0_greatestLack 24 = .ok (.goto (-20), 3) := by decide +kernel
theorem dX0_greatestLack_27 : decode cX0_greatestLack 27 = .ok (.iload_n 1, 1) := by decide +kernel
theorem dX0_greatestLack_28 : decode cX0_greatestLack 28 = .ok (.ireturn, 1) := by decide +kernel
theorem dX0_payPlanned_0 : decode cX0_payPlanned 0 = .ok (.iconst 0, 1) := by decide +kernel
theorem dX0_payPlanned_1 : decode cX0_payPlanned 1 = .ok (.istore_n 1, 1) := by decide +kernel
theorem dX0_payPlanned_2 : decode cX0_payPlanned 2 = .ok (.iconst 0, 1) := by decide +kernel
theorem dX0_payPlanned_3 : decode cX0_payPlanned 3 = .ok (.istore_n 2, 1) := by decide +kernel
theorem dX0_payPlanned_4 : decode cX0_payPlanned 4 = .ok (.iload_n 2, 1) := by decide +kernel
theorem dX0_payPlanned_5 : decode cX0_payPlanned 5 = .ok (.bipush 6, 2) := by decide +kernel
theorem dX0_payPlanned_7 : decode cX0_payPlanned 7 = .ok (.if_icmp .ge 33, 3) := by decide +kernel
theorem dX0_payPlanned_10 : decode cX0_payPlanned 10 = .ok (.aload_n 0, 1) := by decide +kernel
theorem dX0_payPlanned_11 : decode cX0_payPlanned 11 = .ok (.getfield 11, 3) := by decide +kernel
theorem dX0_payPlanned_14 : decode cX0_payPlanned 14 = .ok (.iload_n 2, 1) := by decide +kernel
theorem dX0_payPlanned_15 : decode cX0_payPlanned 15 = .ok (.dup2, 1) := by decide +kernel
theorem dX0_payPlanned_16 : decode cX0_payPlanned 16 = .ok (.iaload, 1) := by decide +kernel
theorem dX0_payPlanned_17 : decode cX0_payPlanned 17 = .ok (.aload_n 0, 1) := by decide +kernel
theorem dX0_payPlanned_18 : decode cX0_payPlanned 18 = .ok (.getfield 15, 3) := by decide +kernel
theorem dX0_payPlanned_21 : decode cX0_payPlanned 21 = .ok (.iload_n 2, 1) := by decide +kernel
theorem dX0_payPlanned_22 : decode cX0_payPlanned 22 = .ok (.iaload, 1) := by decide +kernel
theorem dX0_payPlanned_23 : decode cX0_payPlanned 23 = .ok (.isub, 1) := by decide +kernel
theorem dX0_payPlanned_24 : decode cX0_payPlanned 24 = .ok (.iastore, 1) := by decide +kernel
theorem dX0_payPlanned_25 : decode cX0_payPlanned 25 = .ok (.iload_n 1, 1) := by decide +kernel
theorem dX0_payPlanned_26 : decode cX0_payPlanned 26 = .ok (.aload_n 0, 1) := by decide +kernel
theorem dX0_payPlanned_27 : decode cX0_payPlanned 27 = .ok (.getfield 15, 3) := by decide +kernel
theorem dX0_payPlanned_30 : decode cX0_payPlanned 30 = .ok (.iload_n 2, 1) := by decide +kernel
theorem dX0_payPlanned_31 : decode cX0_payPlanned 31 = .ok (.iaload, 1) := by decide +kernel
theorem dX0_payPlanned_32 : decode cX0_payPlanned 32 = .ok (.iadd, 1) := by decide +kernel
theorem dX0_payPlanned_33 : decode cX0_payPlanned 33 = .ok (.istore_n 1, 1) := by decide +kernel
theorem dX0_payPlanned_34 : decode cX0_payPlanned 34 = .ok (.iinc 2 1, 3) := by decide +kernel
theorem dX0_payPlanned_37 : decode cX0_payPlanned 37 = .ok (.goto (-33), 3) := by decide +kernel
theorem dX0_payPlanned_40 : decode cX0_payPlanned 40 = .ok (.iconst 0, 1) := by decide +kernel
theorem dX0_payPlanned_41 : decode cX0_payPlanned 41 = .ok (.istore_n 2, 1) := by decide +kernel
theorem dX0_payPlanned_42 : decode cX0_payPlanned 42 = .ok (.iload_n 2, 1) := by decide +kernel
theorem dX0_payPlanned_43 : decode cX0_payPlanned 43 = .ok (.aload_n 0, 1) := by decide +kernel
theorem dX0_payPlanned_44 : decode cX0_payPlanned 44 = .ok (.getfield 30, 3) := by decide +kernel
theorem dX0_payPlanned_47 : decode cX0_payPlanned 47 = .ok (.if_icmp .ge 24, 3) := by decide +kernel
theorem dX0_payPlanned_50 : decode cX0_payPlanned 50 = .ok (.aload_n 0, 1) := by decide +kernel
theorem dX0_payPlanned_51 : decode cX0_payPlanned 51 = .ok (.getfield 21, 3) := by decide +kernel
theorem dX0_payPlanned_54 : decode cX0_payPlanned 54 = .ok (.iload_n 2, 1) := by decide +kernel
theorem dX0_payPlanned_55 : decode cX0_payPlanned 55 = .ok (.dup2, 1) := by decide +kernel
theorem dX0_payPlanned_56 : decode cX0_payPlanned 56 = .ok (.iaload, 1) := by decide +kernel
theorem dX0_payPlanned_57 : decode cX0_payPlanned 57 = .ok (.aload_n 0, 1) := by decide +kernel
theorem dX0_payPlanned_58 : decode cX0_payPlanned 58 = .ok (.getfield 18, 3) := by decide +kernel
theorem dX0_payPlanned_61 : decode cX0_payPlanned 61 = .ok (.iload_n 2, 1) := by decide +kernel
theorem dX0_payPlanned_62 : decode cX0_payPlanned 62 = .ok (.iaload, 1) := by decide +kernel
theorem dX0_payPlanned_63 : decode cX0_payPlanned 63 = .ok (.isub, 1) := by decide +kernel
theorem dX0_payPlanned_64 : decode cX0_payPlanned 64 = .ok (.iastore, 1) := by decide +kernel
theorem dX0_payPlanned_65 : decode cX0_payPlanned 65 = .ok (.iinc 2 1, 3) := by decide +kernel
theorem dX0_payPlanned_68 : decode cX0_payPlanned 68 = .ok (.goto (-26), 3) := by decide +kernel
theorem dX0_payPlanned_71 : decode cX0_payPlanned 71 = .ok (.iload_n 1, 1) := by decide +kernel
theorem dX0_payPlanned_72 : decode cX0_payPlanned 72 = .ok (.ireturn, 1) := by decide +kernel
theorem dX1_init_0 : decode cX1_init 0 = .ok (.aload_n 0, 1) := by decide +kernel
theorem dX1_init_1 : decode cX1_init 1 = .ok (.invokespecial 3, 3) := by decide +kernel
theorem dX1_init_4 : decode cX1_init 4 = .ok (.aload_n 0, 1) := by decide +kernel
theorem dX1_init_5 : decode cX1_init 5 = .ok (.bipush 16, 2) := by decide +kernel
theorem dX1_init_7 : decode cX1_init 7 = .ok (.newarray .int, 2) := by decide +kernel
theorem dX1_init_9 : decode cX1_init 9 = .ok (.putfield 11, 3) := by decide +kernel
theorem dX1_init_12 : decode cX1_init 12 = .ok (.aload_n 0, 1) := by decide +kernel
theorem dX1_init_13 : decode cX1_init 13 = .ok (.bipush 16, 2) := by decide +kernel
theorem dX1_init_15 : decode cX1_init 15 = .ok (.newarray .int, 2) := by decide +kernel
theorem dX1_init_17 : decode cX1_init 17 = .ok (.putfield 15, 3) := by decide +kernel
theorem dX1_init_20 : decode cX1_init 20 = .ok (.aload_n 0, 1) := by decide +kernel
theorem dX1_init_21 : decode cX1_init 21 = .ok (.bipush 16, 2) := by decide +kernel
theorem dX1_init_23 : decode cX1_init 23 = .ok (.newarray .int, 2) := by decide +kernel
theorem dX1_init_25 : decode cX1_init 25 = .ok (.putfield 18, 3) := by decide +kernel
theorem dX1_init_28 : decode cX1_init 28 = .ok (.aload_n 0, 1) := by decide +kernel
theorem dX1_init_29 : decode cX1_init 29 = .ok (.bipush 16, 2) := by decide +kernel
theorem dX1_init_31 : decode cX1_init 31 = .ok (.newarray .int, 2) := by decide +kernel
theorem dX1_init_33 : decode cX1_init 33 = .ok (.putfield 21, 3) := by decide +kernel
theorem dX1_init_36 : decode cX1_init 36 = .ok (.aload_n 0, 1) := by decide +kernel
theorem dX1_init_37 : decode cX1_init 37 = .ok (.bipush 16, 2) := by decide +kernel
theorem dX1_init_39 : decode cX1_init 39 = .ok (.newarray .int, 2) := by decide +kernel
theorem dX1_init_41 : decode cX1_init 41 = .ok (.putfield 24, 3) := by decide +kernel
theorem dX1_init_44 : decode cX1_init 44 = .ok (.aload_n 0, 1) := by decide +kernel
theorem dX1_init_45 : decode cX1_init 45 = .ok (.bipush 16, 2) := by decide +kernel
theorem dX1_init_47 : decode cX1_init 47 = .ok (.newarray .int, 2) := by decide +kernel
theorem dX1_init_49 : decode cX1_init 49 = .ok (.putfield 27, 3) := by decide +kernel
theorem dX1_init_52 : decode cX1_init 52 = .ok (.return_, 1) := by decide +kernel
theorem dX1_has_0 : decode cX1_has 0 = .ok (.iload_n 1, 1) := by decide +kernel
theorem dX1_has_1 : decode cX1_has 1 = .ok (.ifCond .lt 15, 3) := by decide +kernel
theorem dX1_has_4 : decode cX1_has 4 = .ok (.iload_n 1, 1) := by decide +kernel
theorem dX1_has_5 : decode cX1_has 5 = .ok (.aload_n 0, 1) := by decide +kernel
theorem dX1_has_6 : decode cX1_has 6 = .ok (.getfield 30, 3) := by decide +kernel
theorem dX1_has_9 : decode cX1_has 9 = .ok (.if_icmp .ge 7, 3) := by decide +kernel
theorem dX1_has_12 : decode cX1_has 12 = .ok (.iconst 1, 1) := by decide +kernel
theorem dX1_has_13 : decode cX1_has 13 = .ok (.goto 4, 3) := by decide +kernel
theorem dX1_has_16 : decode cX1_has 16 = .ok (.iconst 0, 1) := by decide +kernel
theorem dX1_has_17 : decode cX1_has 17 = .ok (.ireturn, 1) := by decide +kernel
theorem dX1_add_0 : decode cX1_add 0 = .ok (.aload_n 0, 1) := by decide +kernel
theorem dX1_add_1 : decode cX1_add 1 = .ok (.getfield 30, 3) := by decide +kernel
theorem dX1_add_4 : decode cX1_add 4 = .ok (.bipush 16, 2) := by decide +kernel
theorem dX1_add_6 : decode cX1_add 6 = .ok (.if_icmp .ge 14, 3) := by decide +kernel
theorem dX1_add_9 : decode cX1_add 9 = .ok (.iload_n 1, 1) := by decide +kernel
theorem dX1_add_10 : decode cX1_add 10 = .ok (.iload_n 2, 1) := by decide +kernel
theorem dX1_add_11 : decode cX1_add 11 = .ok (.iload_n 3, 1) := by decide +kernel
theorem dX1_add_12 : decode cX1_add 12 = .ok (.iload 4, 2) := by decide +kernel
theorem dX1_add_14 : decode cX1_add 14 = .ok (.invokestatic 34, 3) := by decide +kernel
theorem dX1_add_17 : decode cX1_add 17 = .ok (.ifCond .ne 5, 3) := by decide +kernel
theorem dX1_add_20 : decode cX1_add 20 = .ok (.iconst (-1), 1) := by decide +kernel
theorem dX1_add_21 : decode cX1_add 21 = .ok (.ireturn, 1) := by decide +kernel
theorem dX1_add_22 : decode cX1_add 22 = .ok (.aload_n 0, 1) := by decide +kernel
theorem dX1_add_23 : decode cX1_add 23 = .ok (.getfield 11, 3) := by decide +kernel
theorem dX1_add_26 : decode cX1_add 26 = .ok (.aload_n 0, 1) := by decide +kernel
theorem dX1_add_27 : decode cX1_add 27 = .ok (.getfield 30, 3) := by decide +kernel
theorem dX1_add_30 : decode cX1_add 30 = .ok (.iload_n 1, 1) := by decide +kernel
theorem dX1_add_31 : decode cX1_add 31 = .ok (.iastore, 1) := by decide +kernel
theorem dX1_add_32 : decode cX1_add 32 = .ok (.aload_n 0, 1) := by decide +kernel
theorem dX1_add_33 : decode cX1_add 33 = .ok (.getfield 15, 3) := by decide +kernel
theorem dX1_add_36 : decode cX1_add 36 = .ok (.aload_n 0, 1) := by decide +kernel
theorem dX1_add_37 : decode cX1_add 37 = .ok (.getfield 30, 3) := by decide +kernel
theorem dX1_add_40 : decode cX1_add 40 = .ok (.iload_n 2, 1) := by decide +kernel
theorem dX1_add_41 : decode cX1_add 41 = .ok (.iastore, 1) := by decide +kernel
theorem dX1_add_42 : decode cX1_add 42 = .ok (.aload_n 0, 1) := by decide +kernel
theorem dX1_add_43 : decode cX1_add 43 = .ok (.getfield 18, 3) := by decide +kernel
theorem dX1_add_46 : decode cX1_add 46 = .ok (.aload_n 0, 1) := by decide +kernel
theorem dX1_add_47 : decode cX1_add 47 = .ok (.getfield 30, 3) := by decide +kernel
theorem dX1_add_50 : decode cX1_add 50 = .ok (.iload_n 3, 1) := by decide +kernel
theorem dX1_add_51 : decode cX1_add 51 = .ok (.iastore, 1) := by decide +kernel
theorem dX1_add_52 : decode cX1_add 52 = .ok (.aload_n 0, 1) := by decide +kernel
theorem dX1_add_53 : decode cX1_add 53 = .ok (.getfield 21, 3) := by decide +kernel
theorem dX1_add_56 : decode cX1_add 56 = .ok (.aload_n 0, 1) := by decide +kernel
theorem dX1_add_57 : decode cX1_add 57 = .ok (.getfield 30, 3) := by decide +kernel
theorem dX1_add_60 : decode cX1_add 60 = .ok (.iload 4, 2) := by decide +kernel
theorem dX1_add_62 : decode cX1_add 62 = .ok (.iastore, 1) := by decide +kernel
theorem dX1_add_63 : decode cX1_add 63 = .ok (.aload_n 0, 1) := by decide +kernel
theorem dX1_add_64 : decode cX1_add 64 = .ok (.getfield 24, 3) := by decide +kernel
theorem dX1_add_67 : decode cX1_add 67 = .ok (.aload_n 0, 1) := by decide +kernel
theorem dX1_add_68 : decode cX1_add 68 = .ok (.getfield 30, 3) := by decide +kernel
theorem dX1_add_71 : decode cX1_add 71 = .ok (.iconst 0, 1) := by decide +kernel
theorem dX1_add_72 : decode cX1_add 72 = .ok (.iastore, 1) := by decide +kernel
theorem dX1_add_73 : decode cX1_add 73 = .ok (.aload_n 0, 1) := by decide +kernel
theorem dX1_add_74 : decode cX1_add 74 = .ok (.getfield 27, 3) := by decide +kernel
theorem dX1_add_77 : decode cX1_add 77 = .ok (.aload_n 0, 1) := by decide +kernel
theorem dX1_add_78 : decode cX1_add 78 = .ok (.getfield 30, 3) := by decide +kernel
theorem dX1_add_81 : decode cX1_add 81 = .ok (.iconst (-1), 1) := by decide +kernel
theorem dX1_add_82 : decode cX1_add 82 = .ok (.iastore, 1) := by decide +kernel
theorem dX1_add_83 : decode cX1_add 83 = .ok (.aload_n 0, 1) := by decide +kernel
theorem dX1_add_84 : decode cX1_add 84 = .ok (.dup, 1) := by decide +kernel
theorem dX1_add_85 : decode cX1_add 85 = .ok (.getfield 30, 3) := by decide +kernel
theorem dX1_add_88 : decode cX1_add 88 = .ok (.iconst 1, 1) := by decide +kernel
theorem dX1_add_89 : decode cX1_add 89 = .ok (.iadd, 1) := by decide +kernel
theorem dX1_add_90 : decode cX1_add 90 = .ok (.putfield 30, 3) := by decide +kernel
theorem dX1_add_93 : decode cX1_add 93 = .ok (.aload_n 0, 1) := by decide +kernel
theorem dX1_add_94 : decode cX1_add 94 = .ok (.getfield 30, 3) := by decide +kernel
theorem dX1_add_97 : decode cX1_add 97 = .ok (.iconst 1, 1) := by decide +kernel
theorem dX1_add_98 : decode cX1_add 98 = .ok (.isub, 1) := by decide +kernel
theorem dX1_add_99 : decode cX1_add 99 = .ok (.ireturn, 1) := by decide +kernel
theorem dX1_canBe_0 : decode cX1_canBe 0 = .ok (.iload_n 0, 1) := by decide +kernel
theorem dX1_canBe_1 : decode cX1_canBe 1 = .ok (.ifCond .lt 44, 3) := by decide +kernel
theorem dX1_canBe_4 : decode cX1_canBe 4 = .ok (.iload_n 0, 1) := by decide +kernel
theorem dX1_canBe_5 : decode cX1_canBe 5 = .ok (.bipush 20, 2) := by decide +kernel
theorem dX1_canBe_7 : decode cX1_canBe 7 = .ok (.if_icmp .gt 38, 3) := by decide +kernel
theorem dX1_canBe_10 : decode cX1_canBe 10 = .ok (.iload_n 1, 1) := by decide +kernel
theorem dX1_canBe_11 : decode cX1_canBe 11 = .ok (.ifCond .lt 34, 3) := by decide +kernel
theorem dX1_canBe_14 : decode cX1_canBe 14 = .ok (.iload_n 1, 1) := by decide +kernel
theorem dX1_canBe_15 : decode cX1_canBe 15 = .ok (.bipush 99, 2) := by decide +kernel
theorem dX1_canBe_17 : decode cX1_canBe 17 = .ok (.if_icmp .gt 28, 3) := by decide +kernel
theorem dX1_canBe_20 : decode cX1_canBe 20 = .ok (.iload_n 2, 1) := by decide +kernel
theorem dX1_canBe_21 : decode cX1_canBe 21 = .ok (.bipush 10, 2) := by decide +kernel
theorem dX1_canBe_23 : decode cX1_canBe 23 = .ok (.if_icmp .lt 22, 3) := by decide +kernel
theorem dX1_canBe_26 : decode cX1_canBe 26 = .ok (.iload_n 2, 1) := by decide +kernel
theorem dX1_canBe_27 : decode cX1_canBe 27 = .ok (.bipush 60, 2) := by decide +kernel
theorem dX1_canBe_29 : decode cX1_canBe 29 = .ok (.if_icmp .gt 16, 3) := by decide +kernel
theorem dX1_canBe_32 : decode cX1_canBe 32 = .ok (.iload_n 3, 1) := by decide +kernel
theorem dX1_canBe_33 : decode cX1_canBe 33 = .ok (.ifCond .lt 12, 3) := by decide +kernel
theorem dX1_canBe_36 : decode cX1_canBe 36 = .ok (.iload_n 3, 1) := by decide +kernel
theorem dX1_canBe_37 : decode cX1_canBe 37 = .ok (.iconst 4, 1) := by decide +kernel
theorem dX1_canBe_38 : decode cX1_canBe 38 = .ok (.if_icmp .gt 7, 3) := by decide +kernel
theorem dX1_canBe_41 : decode cX1_canBe 41 = .ok (.iconst 1, 1) := by decide +kernel
theorem dX1_canBe_42 : decode cX1_canBe 42 = .ok (.goto 4, 3) := by decide +kernel
theorem dX1_canBe_45 : decode cX1_canBe 45 = .ok (.iconst 0, 1) := by decide +kernel
theorem dX1_canBe_46 : decode cX1_canBe 46 = .ok (.ireturn, 1) := by decide +kernel
theorem dX1_in_0 : decode cX1_in 0 = .ok (.iconst 0, 1) := by decide +kernel
theorem dX1_in_1 : decode cX1_in 1 = .ok (.istore_n 1, 1) := by decide +kernel
theorem dX1_in_2 : decode cX1_in 2 = .ok (.iconst 0, 1) := by decide +kernel
theorem dX1_in_3 : decode cX1_in 3 = .ok (.istore_n 2, 1) := by decide +kernel
theorem dX1_in_4 : decode cX1_in 4 = .ok (.iload_n 2, 1) := by decide +kernel
theorem dX1_in_5 : decode cX1_in 5 = .ok (.aload_n 0, 1) := by decide +kernel
theorem dX1_in_6 : decode cX1_in 6 = .ok (.getfield 30, 3) := by decide +kernel
theorem dX1_in_9 : decode cX1_in 9 = .ok (.if_icmp .ge 22, 3) := by decide +kernel
theorem dX1_in_12 : decode cX1_in 12 = .ok (.aload_n 0, 1) := by decide +kernel
theorem dX1_in_13 : decode cX1_in 13 = .ok (.getfield 24, 3) := by decide +kernel
theorem dX1_in_16 : decode cX1_in 16 = .ok (.iload_n 2, 1) := by decide +kernel
theorem dX1_in_17 : decode cX1_in 17 = .ok (.iaload, 1) := by decide +kernel
theorem dX1_in_18 : decode cX1_in 18 = .ok (.iconst 1, 1) := by decide +kernel
theorem dX1_in_19 : decode cX1_in 19 = .ok (.if_icmp .ne 6, 3) := by decide +kernel
theorem dX1_in_22 : decode cX1_in 22 = .ok (.iinc 1 1, 3) := by decide +kernel
theorem dX1_in_25 : decode cX1_in 25 = .ok (.iinc 2 1, 3) := by decide +kernel
theorem dX1_in_28 : decode cX1_in 28 = .ok (.goto (-24), 3) := by decide +kernel
theorem dX1_in_31 : decode cX1_in 31 = .ok (.iload_n 1, 1) := by decide +kernel
theorem dX1_in_32 : decode cX1_in 32 = .ok (.ireturn, 1) := by decide +kernel
theorem dX1_grow_0 : decode cX1_grow 0 = .ok (.aload_n 0, 1) := by decide +kernel
theorem dX1_grow_1 : decode cX1_grow 1 = .ok (.iload_n 1, 1) := by decide +kernel
theorem dX1_grow_2 : decode cX1_grow 2 = .ok (.invokevirtual 38, 3) := by decide +kernel
theorem dX1_grow_5 : decode cX1_grow 5 = .ok (.ifCond .eq 46, 3) := by decide +kernel
theorem dX1_grow_8 : decode cX1_grow 8 = .ok (.aload_n 0, 1) := by decide +kernel
theorem dX1_grow_9 : decode cX1_grow 9 = .ok (.getfield 11, 3) := by decide +kernel
theorem dX1_grow_12 : decode cX1_grow 12 = .ok (.iload_n 1, 1) := by decide +kernel
theorem dX1_grow_13 : decode cX1_grow 13 = .ok (.bipush 99, 2) := by decide +kernel
theorem dX1_grow_15 : decode cX1_grow 15 = .ok (.aload_n 0, 1) := by decide +kernel
theorem dX1_grow_16 : decode cX1_grow 16 = .ok (.getfield 11, 3) := by decide +kernel
theorem dX1_grow_19 : decode cX1_grow 19 = .ok (.iload_n 1, 1) := by decide +kernel
theorem dX1_grow_20 : decode cX1_grow 20 = .ok (.iaload, 1) := by decide +kernel
theorem dX1_grow_21 : decode cX1_grow 21 = .ok (.iconst 1, 1) := by decide +kernel
theorem dX1_grow_22 : decode cX1_grow 22 = .ok (.iadd, 1) := by decide +kernel
theorem dX1_grow_23 : decode cX1_grow 23 = .ok (.invokestatic 42, 3) := by decide +kernel
theorem dX1_grow_26 : decode cX1_grow 26 = .ok (.iastore, 1) := by decide +kernel
theorem dX1_grow_27 : decode cX1_grow 27 = .ok (.aload_n 0, 1) := by decide +kernel
theorem dX1_grow_28 : decode cX1_grow 28 = .ok (.getfield 18, 3) := by decide +kernel
theorem dX1_grow_31 : decode cX1_grow 31 = .ok (.iload_n 1, 1) := by decide +kernel
theorem dX1_grow_32 : decode cX1_grow 32 = .ok (.bipush 99, 2) := by decide +kernel
theorem dX1_grow_34 : decode cX1_grow 34 = .ok (.aload_n 0, 1) := by decide +kernel
theorem dX1_grow_35 : decode cX1_grow 35 = .ok (.getfield 18, 3) := by decide +kernel
theorem dX1_grow_38 : decode cX1_grow 38 = .ok (.iload_n 1, 1) := by decide +kernel
theorem dX1_grow_39 : decode cX1_grow 39 = .ok (.iaload, 1) := by decide +kernel
theorem dX1_grow_40 : decode cX1_grow 40 = .ok (.aload_n 0, 1) := by decide +kernel
theorem dX1_grow_41 : decode cX1_grow 41 = .ok (.getfield 21, 3) := by decide +kernel
theorem dX1_grow_44 : decode cX1_grow 44 = .ok (.iload_n 1, 1) := by decide +kernel
theorem dX1_grow_45 : decode cX1_grow 45 = .ok (.iaload, 1) := by decide +kernel
theorem dX1_grow_46 : decode cX1_grow 46 = .ok (.iadd, 1) := by decide +kernel
theorem dX1_grow_47 : decode cX1_grow 47 = .ok (.invokestatic 42, 3) := by decide +kernel
theorem dX1_grow_50 : decode cX1_grow 50 = .ok (.iastore, 1) := by decide +kernel
theorem dX1_grow_51 : decode cX1_grow 51 = .ok (.return_, 1) := by decide +kernel
theorem dX2_init_0 : decode cX2_init 0 = .ok (.aload_n 0, 1) := by decide +kernel
theorem dX2_init_1 : decode cX2_init 1 = .ok (.invokespecial 3, 3) := by decide +kernel
theorem dX2_init_4 : decode cX2_init 4 = .ok (.aload_n 0, 1) := by decide +kernel
theorem dX2_init_5 : decode cX2_init 5 = .ok (.bipush 8, 2) := by decide +kernel
theorem dX2_init_7 : decode cX2_init 7 = .ok (.newarray .int, 2) := by decide +kernel
theorem dX2_init_9 : decode cX2_init 9 = .ok (.putfield 11, 3) := by decide +kernel
theorem dX2_init_12 : decode cX2_init 12 = .ok (.aload_n 0, 1) := by decide +kernel
theorem dX2_init_13 : decode cX2_init 13 = .ok (.bipush 8, 2) := by decide +kernel
theorem dX2_init_15 : decode cX2_init 15 = .ok (.newarray .int, 2) := by decide +kernel
theorem dX2_init_17 : decode cX2_init 17 = .ok (.putfield 15, 3) := by decide +kernel
theorem dX2_init_20 : decode cX2_init 20 = .ok (.aload_n 0, 1) := by decide +kernel
theorem dX2_init_21 : decode cX2_init 21 = .ok (.bipush 8, 2) := by decide +kernel
theorem dX2_init_23 : decode cX2_init 23 = .ok (.newarray .int, 2) := by decide +kernel
theorem dX2_init_25 : decode cX2_init 25 = .ok (.putfield 18, 3) := by decide +kernel
theorem dX2_init_28 : decode cX2_init 28 = .ok (.aload_n 0, 1) := by decide +kernel
theorem dX2_init_29 : decode cX2_init 29 = .ok (.sipush 256, 3) := by decide +kernel
theorem dX2_init_32 : decode cX2_init 32 = .ok (.newarray .long, 2) := by decide +kernel
theorem dX2_init_34 : decode cX2_init 34 = .ok (.putfield 21, 3) := by decide +kernel
theorem dX2_init_37 : decode cX2_init 37 = .ok (.return_, 1) := by decide +kernel
theorem dX2_plan_0 : decode cX2_plan 0 = .ok (.aload_n 0, 1) := by decide +kernel
theorem dX2_plan_1 : decode cX2_plan 1 = .ok (.aload_n 1, 1) := by decide +kernel
theorem dX2_plan_2 : decode cX2_plan 2 = .ok (.invokevirtual 25, 3) := by decide +kernel
theorem dX2_plan_5 : decode cX2_plan 5 = .ok (.aload_n 0, 1) := by decide +kernel
theorem dX2_plan_6 : decode cX2_plan 6 = .ok (.aload_n 2, 1) := by decide +kernel
theorem dX2_plan_7 : decode cX2_plan 7 = .ok (.iload_n 3, 1) := by decide +kernel
theorem dX2_plan_8 : decode cX2_plan 8 = .ok (.invokevirtual 29, 3) := by decide +kernel
theorem dX2_plan_11 : decode cX2_plan 11 = .ok (.aload_n 0, 1) := by decide +kernel
theorem dX2_plan_12 : decode cX2_plan 12 = .ok (.invokevirtual 33, 3) := by decide +kernel
theorem dX2_plan_15 : decode cX2_plan 15 = .ok (.aload_n 0, 1) := by decide +kernel
theorem dX2_plan_16 : decode cX2_plan 16 = .ok (.invokevirtual 36, 3) := by decide +kernel
theorem dX2_plan_19 : decode cX2_plan 19 = .ok (.return_, 1) := by decide +kernel
theorem dX2_newCoats_0 : decode cX2_newCoats 0 = .ok (.aload_n 0, 1) := by decide +kernel
theorem dX2_newCoats_1 : decode cX2_newCoats 1 = .ok (.getfield 39, 3) := by decide +kernel
theorem dX2_newCoats_4 : decode cX2_newCoats 4 = .ok (.aload_n 0, 1) := by decide +kernel
theorem dX2_newCoats_5 : decode cX2_newCoats 5 = .ok (.getfield 43, 3) := by decide +kernel
theorem dX2_newCoats_8 : decode cX2_newCoats 8 = .ok (.invokestatic 46, 3) := by decide +kernel
theorem dX2_newCoats_11 : decode cX2_newCoats 11 = .ok (.isub, 1) := by decide +kernel
theorem dX2_newCoats_12 : decode cX2_newCoats 12 = .ok (.ireturn, 1) := by decide +kernel
theorem dX2_gather_0 : decode cX2_gather 0 = .ok (.aload_n 0, 1) := by decide +kernel
theorem dX2_gather_1 : decode cX2_gather 1 = .ok (.iconst 0, 1) := by decide +kernel
theorem dX2_gather_2 : decode cX2_gather 2 = .ok (.putfield 39, 3) := by decide +kernel
theorem dX2_gather_5 : decode cX2_gather 5 = .ok (.iconst 0, 1) := by decide +kernel
theorem dX2_gather_6 : decode cX2_gather 6 = .ok (.istore_n 2, 1) := by decide +kernel
theorem dX2_gather_7 : decode cX2_gather 7 = .ok (.iload_n 2, 1) := by decide +kernel
theorem dX2_gather_8 : decode cX2_gather 8 = .ok (.aload_n 1, 1) := by decide +kernel
theorem dX2_gather_9 : decode cX2_gather 9 = .ok (.getfield 52, 3) := by decide +kernel
theorem dX2_gather_12 : decode cX2_gather 12 = .ok (.if_icmp .ge 63, 3) := by decide +kernel
theorem dX2_gather_15 : decode cX2_gather 15 = .ok (.aload_n 0, 1) := by decide +kernel
theorem dX2_gather_16 : decode cX2_gather 16 = .ok (.getfield 39, 3) := by decide +kernel
theorem dX2_gather_19 : decode cX2_gather 19 = .ok (.bipush 8, 2) := by decide +kernel
theorem dX2_gather_21 : decode cX2_gather 21 = .ok (.if_icmp .ge 54, 3) := by decide +kernel
theorem dX2_gather_24 : decode cX2_gather 24 = .ok (.aload_n 1, 1) := by decide +kernel
theorem dX2_gather_25 : decode cX2_gather 25 = .ok (.getfield 57, 3) := by decide +kernel
theorem dX2_gather_28 : decode cX2_gather 28 = .ok (.iload_n 2, 1) := by decide +kernel
theorem dX2_gather_29 : decode cX2_gather 29 = .ok (.iaload, 1) := by decide +kernel
theorem dX2_gather_30 : decode cX2_gather 30 = .ok (.iconst 1, 1) := by decide +kernel
theorem dX2_gather_31 : decode cX2_gather 31 = .ok (.if_icmp .ne 38, 3) := by decide +kernel
theorem dX2_gather_34 : decode cX2_gather 34 = .ok (.aload_n 0, 1) := by decide +kernel
theorem dX2_gather_35 : decode cX2_gather 35 = .ok (.getfield 11, 3) := by decide +kernel
theorem dX2_gather_38 : decode cX2_gather 38 = .ok (.aload_n 0, 1) := by decide +kernel
theorem dX2_gather_39 : decode cX2_gather 39 = .ok (.getfield 39, 3) := by decide +kernel
theorem dX2_gather_42 : decode cX2_gather 42 = .ok (.iload_n 2, 1) := by decide +kernel
theorem dX2_gather_43 : decode cX2_gather 43 = .ok (.iastore, 1) := by decide +kernel
theorem dX2_gather_44 : decode cX2_gather 44 = .ok (.aload_n 0, 1) := by decide +kernel
theorem dX2_gather_45 : decode cX2_gather 45 = .ok (.getfield 18, 3) := by decide +kernel
theorem dX2_gather_48 : decode cX2_gather 48 = .ok (.aload_n 0, 1) := by decide +kernel
theorem dX2_gather_49 : decode cX2_gather 49 = .ok (.getfield 39, 3) := by decide +kernel
theorem dX2_gather_52 : decode cX2_gather 52 = .ok (.aload_n 1, 1) := by decide +kernel
theorem dX2_gather_53 : decode cX2_gather 53 = .ok (.getfield 60, 3) := by decide +kernel
theorem dX2_gather_56 : decode cX2_gather 56 = .ok (.iload_n 2, 1) := by decide +kernel
theorem dX2_gather_57 : decode cX2_gather 57 = .ok (.iaload, 1) := by decide +kernel
theorem dX2_gather_58 : decode cX2_gather 58 = .ok (.iastore, 1) := by decide +kernel
theorem dX2_gather_59 : decode cX2_gather 59 = .ok (.aload_n 0, 1) := by decide +kernel
theorem dX2_gather_60 : decode cX2_gather 60 = .ok (.dup, 1) := by decide +kernel
theorem dX2_gather_61 : decode cX2_gather 61 = .ok (.getfield 39, 3) := by decide +kernel
theorem dX2_gather_64 : decode cX2_gather 64 = .ok (.iconst 1, 1) := by decide +kernel
theorem dX2_gather_65 : decode cX2_gather 65 = .ok (.iadd, 1) := by decide +kernel
theorem dX2_gather_66 : decode cX2_gather 66 = .ok (.putfield 39, 3) := by decide +kernel
theorem dX2_gather_69 : decode cX2_gather 69 = .ok (.iinc 2 1, 3) := by decide +kernel
theorem dX2_gather_72 : decode cX2_gather 72 = .ok (.goto (-65), 3) := by decide +kernel
theorem dX2_gather_75 : decode cX2_gather 75 = .ok (.return_, 1) := by decide +kernel
theorem dX2_measure_0 : decode cX2_measure 0 = .ok (.aload_n 0, 1) := by decide +kernel
theorem dX2_measure_1 : decode cX2_measure 1 = .ok (.getfield 21, 3) := by decide +kernel
theorem dX2_measure_4 : decode cX2_measure 4 = .ok (.iconst 0, 1) := by decide +kernel
theorem dX2_measure_5 : decode cX2_measure 5 = .ok (.lconst 0, 1) := by decide +kernel
theorem dX2_measure_6 : decode cX2_measure 6 = .ok (.lastore, 1) := by decide +kernel
theorem dX2_measure_7 : decode cX2_measure 7 = .ok (.iconst 0, 1) := by decide +kernel
theorem dX2_measure_8 : decode cX2_measure 8 = .ok (.istore_n 3, 1) := by decide +kernel
theorem dX2_measure_9 : decode cX2_measure 9 = .ok (.iload_n 3, 1) := by decide +kernel
theorem dX2_measure_10 : decode cX2_measure 10 = .ok (.aload_n 0, 1) := by decide +kernel
theorem dX2_measure_11 : decode cX2_measure 11 = .ok (.getfield 39, 3) := by decide +kernel
theorem dX2_measure_14 : decode cX2_measure 14 = .ok (.if_icmp .ge 60, 3) := by decide +kernel
theorem dX2_measure_17 : decode cX2_measure 17 = .ok (.aload_n 1, 1) := by decide +kernel
theorem dX2_measure_18 : decode cX2_measure 18 = .ok (.aload_n 0, 1) := by decide +kernel
theorem dX2_measure_19 : decode cX2_measure 19 = .ok (.getfield 18, 3) := by decide +kernel
theorem dX2_measure_22 : decode cX2_measure 22 = .ok (.iload_n 3, 1) := by decide +kernel
theorem dX2_measure_23 : decode cX2_measure 23 = .ok (.iaload, 1) := by decide +kernel
theorem dX2_measure_24 : decode cX2_measure 24 = .ok (.iload_n 2, 1) := by decide +kernel
theorem dX2_measure_25 : decode cX2_measure 25 = .ok (.invokevirtual 61, 3) := by decide +kernel
theorem dX2_measure_28 : decode cX2_measure 28 = .ok (.lstore 4, 2) := by decide +kernel
theorem dX2_measure_30 : decode cX2_measure 30 = .ok (.iconst 0, 1) := by decide +kernel
theorem dX2_measure_31 : decode cX2_measure 31 = .ok (.istore 6, 2) := by decide +kernel
theorem dX2_measure_33 : decode cX2_measure 33 = .ok (.iload 6, 2) := by decide +kernel
theorem dX2_measure_35 : decode cX2_measure 35 = .ok (.iconst 1, 1) := by decide +kernel
theorem dX2_measure_36 : decode cX2_measure 36 = .ok (.iload_n 3, 1) := by decide +kernel
theorem dX2_measure_37 : decode cX2_measure 37 = .ok (.ishl, 1) := by decide +kernel
theorem dX2_measure_38 : decode cX2_measure 38 = .ok (.if_icmp .ge 30, 3) := by decide +kernel
theorem dX2_measure_41 : decode cX2_measure 41 = .ok (.aload_n 0, 1) := by decide +kernel
theorem dX2_measure_42 : decode cX2_measure 42 = .ok (.getfield 21, 3) := by decide +kernel
theorem dX2_measure_45 : decode cX2_measure 45 = .ok (.iload 6, 2) := by decide +kernel
theorem dX2_measure_47 : decode cX2_measure 47 = .ok (.iconst 1, 1) := by decide +kernel
theorem dX2_measure_48 : decode cX2_measure 48 = .ok (.iload_n 3, 1) := by decide +kernel
theorem dX2_measure_49 : decode cX2_measure 49 = .ok (.ishl, 1) := by decide +kernel
theorem dX2_measure_50 : decode cX2_measure 50 = .ok (.ior, 1) := by decide +kernel
theorem dX2_measure_51 : decode cX2_measure 51 = .ok (.aload_n 0, 1) := by decide +kernel
theorem dX2_measure_52 : decode cX2_measure 52 = .ok (.getfield 21, 3) := by decide +kernel
theorem dX2_measure_55 : decode cX2_measure 55 = .ok (.iload 6, 2) := by decide +kernel
theorem dX2_measure_57 : decode cX2_measure 57 = .ok (.laload, 1) := by decide +kernel
theorem dX2_measure_58 : decode cX2_measure 58 = .ok (.lload 4, 2) := by decide +kernel
theorem dX2_measure_60 : decode cX2_measure 60 = .ok (.lor, 1) := by decide +kernel
theorem dX2_measure_61 : decode cX2_measure 61 = .ok (.lastore, 1) := by decide +kernel
theorem dX2_measure_62 : decode cX2_measure 62 = .ok (.iinc 6 1, 3) := by decide +kernel
theorem dX2_measure_65 : decode cX2_measure 65 = .ok (.goto (-32), 3) := by decide +kernel
theorem dX2_measure_68 : decode cX2_measure 68 = .ok (.iinc 3 1, 3) := by decide +kernel
theorem dX2_measure_71 : decode cX2_measure 71 = .ok (.goto (-62), 3) := by decide +kernel
theorem dX2_measure_74 : decode cX2_measure 74 = .ok (.return_, 1) := by decide +kernel
theorem dX2_chooseDressed_0 : decode cX2_chooseDressed 0 = .ok (.aload_n 0, 1) := by decide +kernel
theorem dX2_chooseDressed_1 : decode cX2_chooseDressed 1 = .ok (.iconst 0, 1) := by decide +kernel
theorem dX2_chooseDressed_2 : decode cX2_chooseDressed 2 = .ok (.putfield 43, 3) := by decide +kernel
theorem dX2_chooseDressed_5 : decode cX2_chooseDressed 5 = .ok (.iconst 0, 1) := by decide +kernel
theorem dX2_chooseDressed_6 : decode cX2_chooseDressed 6 = .ok (.istore_n 1, 1) := by decide +kernel
theorem dX2_chooseDressed_7 : decode cX2_chooseDressed 7 = .ok (.iconst 0, 1) := by decide +kernel
theorem dX2_chooseDressed_8 : decode cX2_chooseDressed 8 = .ok (.istore_n 2, 1) := by decide +kernel
theorem dX2_chooseDressed_9 : decode cX2_chooseDressed 9 = .ok (.iload_n 2, 1) := by decide +kernel
theorem dX2_chooseDressed_10 : decode cX2_chooseDressed 10 = .ok (.aload_n 0, 1) := by decide +kernel
theorem dX2_chooseDressed_11 : decode cX2_chooseDressed 11 = .ok (.getfield 39, 3) := by decide +kernel
theorem dX2_chooseDressed_14 : decode cX2_chooseDressed 14 = .ok (.if_icmp .ge 48, 3) := by decide +kernel
theorem dX2_chooseDressed_17 : decode cX2_chooseDressed 17 = .ok (.aload_n 0, 1) := by decide +kernel
theorem dX2_chooseDressed_18 : decode cX2_chooseDressed 18 = .ok (.iload_n 1, 1) := by decide +kernel
theorem dX2_chooseDressed_19 : decode cX2_chooseDressed 19 = .ok (.invokevirtual 66, 3) := by decide +kernel
theorem dX2_chooseDressed_22 : decode cX2_chooseDressed 22 = .ok (.istore_n 3, 1) := by decide +kernel
theorem dX2_chooseDressed_23 : decode cX2_chooseDressed 23 = .ok (.iload_n 1, 1) := by decide +kernel
theorem dX2_chooseDressed_24 : decode cX2_chooseDressed 24 = .ok (.iconst 1, 1) := by decide +kernel
theorem dX2_chooseDressed_25 : decode cX2_chooseDressed 25 = .ok (.iload_n 3, 1) := by decide +kernel
theorem dX2_chooseDressed_26 : decode cX2_chooseDressed 26 = .ok (.ishl, 1) := by decide +kernel
theorem dX2_chooseDressed_27 : decode cX2_chooseDressed 27 = .ok (.ior, 1) := by decide +kernel
theorem dX2_chooseDressed_28 : decode cX2_chooseDressed 28 = .ok (.istore_n 1, 1) := by decide +kernel
theorem dX2_chooseDressed_29 : decode cX2_chooseDressed 29 = .ok (.aload_n 0, 1) := by decide +kernel
theorem dX2_chooseDressed_30 : decode cX2_chooseDressed 30 = .ok (.aload_n 0, 1) := by decide +kernel
theorem dX2_chooseDressed_31 : decode cX2_chooseDressed 31 = .ok (.getfield 43, 3) := by decide +kernel
theorem dX2_chooseDressed_34 : decode cX2_chooseDressed 34 = .ok (.iconst 1, 1) := by decide +kernel
theorem dX2_chooseDressed_35 : decode cX2_chooseDressed 35 = .ok (.iload_n 3, 1) := by decide +kernel
theorem dX2_chooseDressed_36 : decode cX2_chooseDressed 36 = .ok (.ishl, 1) := by decide +kernel
theorem dX2_chooseDressed_37 : decode cX2_chooseDressed 37 = .ok (.ior, 1) := by decide +kernel
theorem dX2_chooseDressed_38 : decode cX2_chooseDressed 38 = .ok (.invokevirtual 69, 3) := by decide +kernel
theorem dX2_chooseDressed_41 : decode cX2_chooseDressed 41 = .ok (.ifCond .eq 15, 3) := by decide +kernel
theorem dX2_chooseDressed_44 : decode cX2_chooseDressed 44 = .ok (.aload_n 0, 1) := by decide +kernel
theorem dX2_chooseDressed_45 : decode cX2_chooseDressed 45 = .ok (.dup, 1) := by decide +kernel
theorem dX2_chooseDressed_46 : decode cX2_chooseDressed 46 = .ok (.getfield 43, 3) := by decide +kernel
theorem dX2_chooseDressed_49 : decode cX2_chooseDressed 49 = .ok (.iconst 1, 1) := by decide +kernel
theorem dX2_chooseDressed_50 : decode cX2_chooseDressed 50 = .ok (.iload_n 3, 1) := by decide +kernel
theorem dX2_chooseDressed_51 : decode cX2_chooseDressed 51 = .ok (.ishl, 1) := by decide +kernel
theorem dX2_chooseDressed_52 : decode cX2_chooseDressed 52 = .ok (.ior, 1) := by decide +kernel
theorem dX2_chooseDressed_53 : decode cX2_chooseDressed 53 = .ok (.putfield 43, 3) := by decide +kernel
theorem dX2_chooseDressed_56 : decode cX2_chooseDressed 56 = .ok (.iinc 2 1, 3) := by decide +kernel
theorem dX2_chooseDressed_59 : decode cX2_chooseDressed 59 = .ok (.goto (-50), 3) := by decide +kernel
theorem dX2_chooseDressed_62 : decode cX2_chooseDressed 62 = .ok (.return_, 1) := by decide +kernel
theorem dX2_greatestBut_0 : decode cX2_greatestBut 0 = .ok (.iconst 0, 1) := by decide +kernel
theorem dX2_greatestBut_1 : decode cX2_greatestBut 1 = .ok (.istore_n 2, 1) := by decide +kernel
theorem dX2_greatestBut_2 : decode cX2_greatestBut 2 = .ok (.iconst (-1), 1) := by decide +kernel
theorem dX2_greatestBut_3 : decode cX2_greatestBut 3 = .ok (.istore_n 3, 1) := by decide +kernel
theorem dX2_greatestBut_4 : decode cX2_greatestBut 4 = .ok (.iconst 0, 1) := by decide +kernel
theorem dX2_greatestBut_5 : decode cX2_greatestBut 5 = .ok (.istore 4, 2) := by decide +kernel
theorem dX2_greatestBut_7 : decode cX2_greatestBut 7 = .ok (.iload 4, 2) := by decide +kernel
theorem dX2_greatestBut_9 : decode cX2_greatestBut 9 = .ok (.aload_n 0, 1) := by decide +kernel
theorem dX2_greatestBut_10 : decode cX2_greatestBut 10 = .ok (.getfield 39, 3) := by decide +kernel
theorem dX2_greatestBut_13 : decode cX2_greatestBut 13 = .ok (.if_icmp .ge 40, 3) := by decide +kernel
theorem dX2_greatestBut_16 : decode cX2_greatestBut 16 = .ok (.iload_n 1, 1) := by decide +kernel
theorem dX2_greatestBut_17 : decode cX2_greatestBut 17 = .ok (.iconst 1, 1) := by decide +kernel
theorem dX2_greatestBut_18 : decode cX2_greatestBut 18 = .ok (.iload 4, 2) := by decide +kernel
theorem dX2_greatestBut_20 : decode cX2_greatestBut 20 = .ok (.ishl, 1) := by decide +kernel
theorem dX2_greatestBut_21 : decode cX2_greatestBut 21 = .ok (.iand, 1) := by decide +kernel
theorem dX2_greatestBut_22 : decode cX2_greatestBut 22 = .ok (.ifCond .ne 25, 3) := by decide +kernel
theorem dX2_greatestBut_25 : decode cX2_greatestBut 25 = .ok (.aload_n 0, 1) := by decide +kernel
theorem dX2_greatestBut_26 : decode cX2_greatestBut 26 = .ok (.getfield 18, 3) := by decide +kernel
theorem dX2_greatestBut_29 : decode cX2_greatestBut 29 = .ok (.iload 4, 2) := by decide +kernel
theorem dX2_greatestBut_31 : decode cX2_greatestBut 31 = .ok (.iaload, 1) := by decide +kernel
theorem dX2_greatestBut_32 : decode cX2_greatestBut 32 = .ok (.iload_n 3, 1) := by decide +kernel
theorem dX2_greatestBut_33 : decode cX2_greatestBut 33 = .ok (.if_icmp .le 14, 3) := by decide +kernel
theorem dX2_greatestBut_36 : decode cX2_greatestBut 36 = .ok (.iload 4, 2) := by decide +kernel
theorem dX2_greatestBut_38 : decode cX2_greatestBut 38 = .ok (.istore_n 2, 1) := by decide +kernel
theorem dX2_greatestBut_39 : decode cX2_greatestBut 39 = .ok (.aload_n 0, 1) := by decide +kernel
theorem dX2_greatestBut_40 : decode cX2_greatestBut 40 = .ok (.getfield 18, 3) := by decide +kernel
theorem dX2_greatestBut_43 : decode cX2_greatestBut 43 = .ok (.iload 4, 2) := by decide +kernel
theorem dX2_greatestBut_45 : decode cX2_greatestBut 45 = .ok (.iaload, 1) := by decide +kernel
theorem dX2_greatestBut_46 : decode cX2_greatestBut 46 = .ok (.istore_n 3, 1) := by decide +kernel
theorem dX2_greatestBut_47 : decode cX2_greatestBut 47 = .ok (.iinc 4 1, 3) := by decide +kernel
theorem dX2_greatestBut_50 : decode cX2_greatestBut 50 = .ok (.goto (-43), 3) := by decide +kernel
theorem dX2_greatestBut_53 : decode cX2_greatestBut 53 = .ok (.iload_n 2, 1) := by decide +kernel
theorem dX2_greatestBut_54 : decode cX2_greatestBut 54 = .ok (.ireturn, 1) := by decide +kernel
theorem dX2_canDress_0 : decode cX2_canDress 0 = .ok (.iconst 1, 1) := by decide +kernel
theorem dX2_canDress_1 : decode cX2_canDress 1 = .ok (.istore_n 2, 1) := by decide +kernel
theorem dX2_canDress_2 : decode cX2_canDress 2 = .ok (.iload_n 2, 1) := by decide +kernel
theorem dX2_canDress_3 : decode cX2_canDress 3 = .ok (.iconst 1, 1) := by decide +kernel
theorem dX2_canDress_4 : decode cX2_canDress 4 = .ok (.aload_n 0, 1) := by decide +kernel
theorem dX2_canDress_5 : decode cX2_canDress 5 = .ok (.getfield 39, 3) := by decide +kernel
theorem dX2_canDress_8 : decode cX2_canDress 8 = .ok (.ishl, 1) := by decide +kernel
theorem dX2_canDress_9 : decode cX2_canDress 9 = .ok (.if_icmp .ge 35, 3) := by decide +kernel
theorem dX2_canDress_12 : decode cX2_canDress 12 = .ok (.iload_n 2, 1) := by decide +kernel
theorem dX2_canDress_13 : decode cX2_canDress 13 = .ok (.iload_n 1, 1) := by decide +kernel
theorem dX2_canDress_14 : decode cX2_canDress 14 = .ok (.iconst (-1), 1) := by decide +kernel
theorem dX2_canDress_15 : decode cX2_canDress 15 = .ok (.ixor, 1) := by decide +kernel
theorem dX2_canDress_16 : decode cX2_canDress 16 = .ok (.iand, 1) := by decide +kernel
theorem dX2_canDress_17 : decode cX2_canDress 17 = .ok (.ifCond .ne 21, 3) := by decide +kernel
theorem dX2_canDress_20 : decode cX2_canDress 20 = .ok (.aload_n 0, 1) := by decide +kernel
theorem dX2_canDress_21 : decode cX2_canDress 21 = .ok (.getfield 21, 3) := by decide +kernel
theorem dX2_canDress_24 : decode cX2_canDress 24 = .ok (.iload_n 2, 1) := by decide +kernel
theorem dX2_canDress_25 : decode cX2_canDress 25 = .ok (.laload, 1) := by decide +kernel
theorem dX2_canDress_26 : decode cX2_canDress 26 = .ok (.invokestatic 73, 3) := by decide +kernel
theorem dX2_canDress_29 : decode cX2_canDress 29 = .ok (.iload_n 2, 1) := by decide +kernel
theorem dX2_canDress_30 : decode cX2_canDress 30 = .ok (.invokestatic 46, 3) := by decide +kernel
theorem dX2_canDress_33 : decode cX2_canDress 33 = .ok (.if_icmp .ge 5, 3) := by decide +kernel
theorem dX2_canDress_36 : decode cX2_canDress 36 = .ok (.iconst 0, 1) := by decide +kernel
theorem dX2_canDress_37 : decode cX2_canDress 37 = .ok (.ireturn, 1) := by decide +kernel
theorem dX2_canDress_38 : decode cX2_canDress 38 = .ok (.iinc 2 1, 3) := by decide +kernel
theorem dX2_canDress_41 : decode cX2_canDress 41 = .ok (.goto (-39), 3) := by decide +kernel
theorem dX2_canDress_44 : decode cX2_canDress 44 = .ok (.iconst 1, 1) := by decide +kernel
theorem dX2_canDress_45 : decode cX2_canDress 45 = .ok (.ireturn, 1) := by decide +kernel
theorem dX2_chooseCoats_0 : decode cX2_chooseCoats 0 = .ok (.aload_n 0, 1) := by decide +kernel
theorem dX2_chooseCoats_1 : decode cX2_chooseCoats 1 = .ok (.getfield 21, 3) := by decide +kernel
theorem dX2_chooseCoats_4 : decode cX2_chooseCoats 4 = .ok (.iconst 1, 1) := by decide +kernel
theorem dX2_chooseCoats_5 : decode cX2_chooseCoats 5 = .ok (.aload_n 0, 1) := by decide +kernel
theorem dX2_chooseCoats_6 : decode cX2_chooseCoats 6 = .ok (.getfield 39, 3) := by decide +kernel
theorem dX2_chooseCoats_9 : decode cX2_chooseCoats 9 = .ok (.ishl, 1) := by decide +kernel
theorem dX2_chooseCoats_10 : decode cX2_chooseCoats 10 = .ok (.iconst 1, 1) := by decide +kernel
theorem dX2_chooseCoats_11 : decode cX2_chooseCoats 11 = .ok (.isub, 1) := by decide +kernel
theorem dX2_chooseCoats_12 : decode cX2_chooseCoats 12 = .ok (.laload, 1) := by decide +kernel
theorem dX2_chooseCoats_13 : decode cX2_chooseCoats 13 = .ok (.lstore_n 1, 1) := by decide +kernel
theorem dX2_chooseCoats_14 : decode cX2_chooseCoats 14 = .ok (.iconst 0, 1) := by decide +kernel
theorem dX2_chooseCoats_15 : decode cX2_chooseCoats 15 = .ok (.istore_n 3, 1) := by decide +kernel
theorem dX2_chooseCoats_16 : decode cX2_chooseCoats 16 = .ok (.iload_n 3, 1) := by decide +kernel
theorem dX2_chooseCoats_17 : decode cX2_chooseCoats 17 = .ok (.aload_n 0, 1) := by decide +kernel
theorem dX2_chooseCoats_18 : decode cX2_chooseCoats 18 = .ok (.getfield 39, 3) := by decide +kernel
theorem dX2_chooseCoats_21 : decode cX2_chooseCoats 21 = .ok (.if_icmp .ge 86, 3) := by decide +kernel
theorem dX2_chooseCoats_24 : decode cX2_chooseCoats 24 = .ok (.aload_n 0, 1) := by decide +kernel
theorem dX2_chooseCoats_25 : decode cX2_chooseCoats 25 = .ok (.getfield 15, 3) := by decide +kernel
theorem dX2_chooseCoats_28 : decode cX2_chooseCoats 28 = .ok (.iload_n 3, 1) := by decide +kernel
theorem dX2_chooseCoats_29 : decode cX2_chooseCoats 29 = .ok (.iconst (-1), 1) := by decide +kernel
theorem dX2_chooseCoats_30 : decode cX2_chooseCoats 30 = .ok (.iastore, 1) := by decide +kernel
theorem dX2_chooseCoats_31 : decode cX2_chooseCoats 31 = .ok (.aload_n 0, 1) := by decide +kernel
theorem dX2_chooseCoats_32 : decode cX2_chooseCoats 32 = .ok (.getfield 43, 3) := by decide +kernel
theorem dX2_chooseCoats_35 : decode cX2_chooseCoats 35 = .ok (.iconst 1, 1) := by decide +kernel
theorem dX2_chooseCoats_36 : decode cX2_chooseCoats 36 = .ok (.iload_n 3, 1) := by decide +kernel
theorem dX2_chooseCoats_37 : decode cX2_chooseCoats 37 = .ok (.ishl, 1) := by decide +kernel
theorem dX2_chooseCoats_38 : decode cX2_chooseCoats 38 = .ok (.iand, 1) := by decide +kernel
theorem dX2_chooseCoats_39 : decode cX2_chooseCoats 39 = .ok (.ifCond .eq 62, 3) := by decide +kernel
theorem dX2_chooseCoats_42 : decode cX2_chooseCoats 42 = .ok (.aload_n 0, 1) := by decide +kernel
theorem dX2_chooseCoats_43 : decode cX2_chooseCoats 43 = .ok (.getfield 43, 3) := by decide +kernel
theorem dX2_chooseCoats_46 : decode cX2_chooseCoats 46 = .ok (.iconst 2, 1) := by decide +kernel
theorem dX2_chooseCoats_47 : decode cX2_chooseCoats 47 = .ok (.iload_n 3, 1) := by decide +kernel
theorem dX2_chooseCoats_48 : decode cX2_chooseCoats 48 = .ok (.ishl, 1) := by decide +kernel
theorem dX2_chooseCoats_49 : decode cX2_chooseCoats 49 = .ok (.ineg, 1) := by decide +kernel
theorem dX2_chooseCoats_50 : decode cX2_chooseCoats 50 = .ok (.iand, 1) := by decide +kernel
theorem dX2_chooseCoats_51 : decode cX2_chooseCoats 51 = .ok (.istore 4, 2) := by decide +kernel
theorem dX2_chooseCoats_53 : decode cX2_chooseCoats 53 = .ok (.aload_n 0, 1) := by decide +kernel
theorem dX2_chooseCoats_54 : decode cX2_chooseCoats 54 = .ok (.getfield 21, 3) := by decide +kernel
theorem dX2_chooseCoats_57 : decode cX2_chooseCoats 57 = .ok (.iconst 1, 1) := by decide +kernel
theorem dX2_chooseCoats_58 : decode cX2_chooseCoats 58 = .ok (.iload_n 3, 1) := by decide +kernel
theorem dX2_chooseCoats_59 : decode cX2_chooseCoats 59 = .ok (.ishl, 1) := by decide +kernel
theorem dX2_chooseCoats_60 : decode cX2_chooseCoats 60 = .ok (.laload, 1) := by decide +kernel
theorem dX2_chooseCoats_61 : decode cX2_chooseCoats 61 = .ok (.lload_n 1, 1) := by decide +kernel
theorem dX2_chooseCoats_62 : decode cX2_chooseCoats 62 = .ok (.land, 1) := by decide +kernel
theorem dX2_chooseCoats_63 : decode cX2_chooseCoats 63 = .ok (.aload_n 0, 1) := by decide +kernel
theorem dX2_chooseCoats_64 : decode cX2_chooseCoats 64 = .ok (.iload 4, 2) := by decide +kernel
theorem dX2_chooseCoats_66 : decode cX2_chooseCoats 66 = .ok (.lload_n 1, 1) := by decide +kernel
theorem dX2_chooseCoats_67 : decode cX2_chooseCoats 67 = .ok (.invokevirtual 78, 3) := by decide +kernel
theorem dX2_chooseCoats_70 : decode cX2_chooseCoats 70 = .ok (.ldc2_w 82, 3) := by decide +kernel
theorem dX2_chooseCoats_73 : decode cX2_chooseCoats 73 = .ok (.lxor, 1) := by decide +kernel
theorem dX2_chooseCoats_74 : decode cX2_chooseCoats 74 = .ok (.land, 1) := by decide +kernel
theorem dX2_chooseCoats_75 : decode cX2_chooseCoats 75 = .ok (.lstore 5, 2) := by decide +kernel
theorem dX2_chooseCoats_77 : decode cX2_chooseCoats 77 = .ok (.aload_n 0, 1) := by decide +kernel
theorem dX2_chooseCoats_78 : decode cX2_chooseCoats 78 = .ok (.getfield 15, 3) := by decide +kernel
theorem dX2_chooseCoats_81 : decode cX2_chooseCoats 81 = .ok (.iload_n 3, 1) := by decide +kernel
theorem dX2_chooseCoats_82 : decode cX2_chooseCoats 82 = .ok (.lload 5, 2) := by decide +kernel
theorem dX2_chooseCoats_84 : decode cX2_chooseCoats 84 = .ok (.invokestatic 84, 3) := by decide +kernel
theorem dX2_chooseCoats_87 : decode cX2_chooseCoats 87 = .ok (.iastore, 1) := by decide +kernel
theorem dX2_chooseCoats_88 : decode cX2_chooseCoats 88 = .ok (.lload_n 1, 1) := by decide +kernel
theorem dX2_chooseCoats_89 : decode cX2_chooseCoats 89 = .ok (.lload 5, 2) := by decide +kernel
theorem dX2_chooseCoats_91 : decode cX2_chooseCoats 91 = .ok (.lload 5, 2) := by decide +kernel
theorem dX2_chooseCoats_93 : decode cX2_chooseCoats 93 = .ok (.lneg, 1) := by decide +kernel
theorem dX2_chooseCoats_94 : decode cX2_chooseCoats 94 = .ok (.land, 1) := by decide +kernel
theorem dX2_chooseCoats_95 : decode cX2_chooseCoats 95 = .ok (.ldc2_w 82, 3) := by decide +kernel
theorem dX2_chooseCoats_98 : decode cX2_chooseCoats 98 = .ok (.lxor, 1) := by decide +kernel
theorem dX2_chooseCoats_99 : decode cX2_chooseCoats 99 = .ok (.land, 1) := by decide +kernel
theorem dX2_chooseCoats_100 : decode cX2_chooseCoats 100 = .ok (.lstore_n 1, 1) := by decide +kernel
theorem dX2_chooseCoats_101 : decode cX2_chooseCoats 101 = .ok (.iinc 3 1, 3) := by decide +kernel
theorem dX2_chooseCoats_104 : decode cX2_chooseCoats 104 = .ok (.goto (-88), 3) := by decide +kernel
theorem dX2_chooseCoats_107 : decode cX2_chooseCoats 107 = .ok (.return_, 1) := by decide +kernel
theorem dX2_neededBy_0 : decode cX2_neededBy 0 = .ok (.lconst 0, 1) := by decide +kernel
theorem dX2_neededBy_1 : decode cX2_neededBy 1 = .ok (.lstore 4, 2) := by decide +kernel
theorem dX2_neededBy_3 : decode cX2_neededBy 3 = .ok (.iconst 1, 1) := by decide +kernel
theorem dX2_neededBy_4 : decode cX2_neededBy 4 = .ok (.istore 6, 2) := by decide +kernel
theorem dX2_neededBy_6 : decode cX2_neededBy 6 = .ok (.iload 6, 2) := by decide +kernel
theorem dX2_neededBy_8 : decode cX2_neededBy 8 = .ok (.iconst 1, 1) := by decide +kernel
theorem dX2_neededBy_9 : decode cX2_neededBy 9 = .ok (.aload_n 0, 1) := by decide +kernel
theorem dX2_neededBy_10 : decode cX2_neededBy 10 = .ok (.getfield 39, 3) := by decide +kernel
theorem dX2_neededBy_13 : decode cX2_neededBy 13 = .ok (.ishl, 1) := by decide +kernel
theorem dX2_neededBy_14 : decode cX2_neededBy 14 = .ok (.if_icmp .ge 49, 3) := by decide +kernel
theorem dX2_neededBy_17 : decode cX2_neededBy 17 = .ok (.aload_n 0, 1) := by decide +kernel
theorem dX2_neededBy_18 : decode cX2_neededBy 18 = .ok (.getfield 21, 3) := by decide +kernel
theorem dX2_neededBy_21 : decode cX2_neededBy 21 = .ok (.iload 6, 2) := by decide +kernel
theorem dX2_neededBy_23 : decode cX2_neededBy 23 = .ok (.laload, 1) := by decide +kernel
theorem dX2_neededBy_24 : decode cX2_neededBy 24 = .ok (.lload_n 2, 1) := by decide +kernel
theorem dX2_neededBy_25 : decode cX2_neededBy 25 = .ok (.land, 1) := by decide +kernel
theorem dX2_neededBy_26 : decode cX2_neededBy 26 = .ok (.lstore 7, 2) := by decide +kernel
theorem dX2_neededBy_28 : decode cX2_neededBy 28 = .ok (.iload 6, 2) := by decide +kernel
theorem dX2_neededBy_30 : decode cX2_neededBy 30 = .ok (.iload_n 1, 1) := by decide +kernel
theorem dX2_neededBy_31 : decode cX2_neededBy 31 = .ok (.iconst (-1), 1) := by decide +kernel
theorem dX2_neededBy_32 : decode cX2_neededBy 32 = .ok (.ixor, 1) := by decide +kernel
theorem dX2_neededBy_33 : decode cX2_neededBy 33 = .ok (.iand, 1) := by decide +kernel
theorem dX2_neededBy_34 : decode cX2_neededBy 34 = .ok (.ifCond .ne 23, 3) := by decide +kernel
theorem dX2_neededBy_37 : decode cX2_neededBy 37 = .ok (.lload 7, 2) := by decide +kernel
theorem dX2_neededBy_39 : decode cX2_neededBy 39 = .ok (.invokestatic 73, 3) := by decide +kernel
theorem dX2_neededBy_42 : decode cX2_neededBy 42 = .ok (.iload 6, 2) := by decide +kernel
theorem dX2_neededBy_44 : decode cX2_neededBy 44 = .ok (.invokestatic 46, 3) := by decide +kernel
theorem dX2_neededBy_47 : decode cX2_neededBy 47 = .ok (.if_icmp .gt 10, 3) := by decide +kernel
theorem dX2_neededBy_50 : decode cX2_neededBy 50 = .ok (.lload 4, 2) := by decide +kernel
theorem dX2_neededBy_52 : decode cX2_neededBy 52 = .ok (.lload 7, 2) := by decide +kernel
theorem dX2_neededBy_54 : decode cX2_neededBy 54 = .ok (.lor, 1) := by decide +kernel
theorem dX2_neededBy_55 : decode cX2_neededBy 55 = .ok (.lstore 4, 2) := by decide +kernel
theorem dX2_neededBy_57 : decode cX2_neededBy 57 = .ok (.iinc 6 1, 3) := by decide +kernel
theorem dX2_neededBy_60 : decode cX2_neededBy 60 = .ok (.goto (-54), 3) := by decide +kernel
theorem dX2_neededBy_63 : decode cX2_neededBy 63 = .ok (.lload 4, 2) := by decide +kernel
theorem dX2_neededBy_65 : decode cX2_neededBy 65 = .ok (.lreturn, 1) := by decide +kernel
theorem dX2_leastOf_0 : decode cX2_leastOf 0 = .ok (.iconst 0, 1) := by decide +kernel
theorem dX2_leastOf_1 : decode cX2_leastOf 1 = .ok (.istore_n 2, 1) := by decide +kernel
theorem dX2_leastOf_2 : decode cX2_leastOf 2 = .ok (.iload_n 2, 1) := by decide +kernel
theorem dX2_leastOf_3 : decode cX2_leastOf 3 = .ok (.bipush 40, 2) := by decide +kernel
theorem dX2_leastOf_5 : decode cX2_leastOf 5 = .ok (.if_icmp .ge 21, 3) := by decide +kernel
theorem dX2_leastOf_8 : decode cX2_leastOf 8 = .ok (.lload_n 0, 1) := by decide +kernel
theorem dX2_leastOf_9 : decode cX2_leastOf 9 = .ok (.lconst 1, 1) := by decide +kernel
theorem dX2_leastOf_10 : decode cX2_leastOf 10 = .ok (.iload_n 2, 1) := by decide +kernel
theorem dX2_leastOf_11 : decode cX2_leastOf 11 = .ok (.lshl, 1) := by decide +kernel
theorem dX2_leastOf_12 : decode cX2_leastOf 12 = .ok (.land, 1) := by decide +kernel
theorem dX2_leastOf_13 : decode cX2_leastOf 13 = .ok (.lconst 0, 1) := by decide +kernel
theorem dX2_leastOf_14 : decode cX2_leastOf 14 = .ok (.lcmp, 1) := by decide +kernel
theorem dX2_leastOf_15 : decode cX2_leastOf 15 = .ok (.ifCond .eq 5, 3) := by decide +kernel
theorem dX2_leastOf_18 : decode cX2_leastOf 18 = .ok (.iload_n 2, 1) := by decide +kernel
theorem dX2_leastOf_19 : decode cX2_leastOf 19 = .ok (.ireturn, 1) := by decide +kernel
theorem dX2_leastOf_20 : decode cX2_leastOf 20 = .ok (.iinc 2 1, 3) := by decide +kernel
theorem dX2_leastOf_23 : decode cX2_leastOf 23 = .ok (.goto (-21), 3) := by decide +kernel
theorem dX2_leastOf_26 : decode cX2_leastOf 26 = .ok (.iconst (-1), 1) := by decide +kernel
theorem dX2_leastOf_27 : decode cX2_leastOf 27 = .ok (.ireturn, 1) := by decide +kernel
theorem dX3_init_0 : decode cX3_init 0 = .ok (.aload_n 0, 1) := by decide +kernel
theorem dX3_init_1 : decode cX3_init 1 = .ok (.invokespecial 3, 3) := by decide +kernel
theorem dX3_init_4 : decode cX3_init 4 = .ok (.aload_n 0, 1) := by decide +kernel
theorem dX3_init_5 : decode cX3_init 5 = .ok (.bipush 8, 2) := by decide +kernel
theorem dX3_init_7 : decode cX3_init 7 = .ok (.newarray .int, 2) := by decide +kernel
theorem dX3_init_9 : decode cX3_init 9 = .ok (.putfield 11, 3) := by decide +kernel
theorem dX3_init_12 : decode cX3_init 12 = .ok (.aload_n 0, 1) := by decide +kernel
theorem dX3_init_13 : decode cX3_init 13 = .ok (.bipush 8, 2) := by decide +kernel
theorem dX3_init_15 : decode cX3_init 15 = .ok (.newarray .int, 2) := by decide +kernel
theorem dX3_init_17 : decode cX3_init 17 = .ok (.putfield 15, 3) := by decide +kernel
theorem dX3_init_20 : decode cX3_init 20 = .ok (.return_, 1) := by decide +kernel
theorem dX3_has_0 : decode cX3_has 0 = .ok (.iload_n 1, 1) := by decide +kernel
theorem dX3_has_1 : decode cX3_has 1 = .ok (.ifCond .lt 15, 3) := by decide +kernel
theorem dX3_has_4 : decode cX3_has 4 = .ok (.iload_n 1, 1) := by decide +kernel
theorem dX3_has_5 : decode cX3_has 5 = .ok (.aload_n 0, 1) := by decide +kernel
theorem dX3_has_6 : decode cX3_has 6 = .ok (.getfield 18, 3) := by decide +kernel
theorem dX3_has_9 : decode cX3_has 9 = .ok (.if_icmp .ge 7, 3) := by decide +kernel
theorem dX3_has_12 : decode cX3_has 12 = .ok (.iconst 1, 1) := by decide +kernel
theorem dX3_has_13 : decode cX3_has 13 = .ok (.goto 4, 3) := by decide +kernel
theorem dX3_has_16 : decode cX3_has 16 = .ok (.iconst 0, 1) := by decide +kernel
theorem dX3_has_17 : decode cX3_has 17 = .ok (.ireturn, 1) := by decide +kernel
theorem dX3_add_0 : decode cX3_add 0 = .ok (.aload_n 0, 1) := by decide +kernel
theorem dX3_add_1 : decode cX3_add 1 = .ok (.getfield 18, 3) := by decide +kernel
theorem dX3_add_4 : decode cX3_add 4 = .ok (.bipush 8, 2) := by decide +kernel
theorem dX3_add_6 : decode cX3_add 6 = .ok (.if_icmp .lt 5, 3) := by decide +kernel
theorem dX3_add_9 : decode cX3_add 9 = .ok (.iconst (-1), 1) := by decide +kernel
theorem dX3_add_10 : decode cX3_add 10 = .ok (.ireturn, 1) := by decide +kernel
theorem dX3_add_11 : decode cX3_add 11 = .ok (.aload_n 0, 1) := by decide +kernel
theorem dX3_add_12 : decode cX3_add 12 = .ok (.getfield 11, 3) := by decide +kernel
theorem dX3_add_15 : decode cX3_add 15 = .ok (.aload_n 0, 1) := by decide +kernel
theorem dX3_add_16 : decode cX3_add 16 = .ok (.getfield 18, 3) := by decide +kernel
theorem dX3_add_19 : decode cX3_add 19 = .ok (.iconst 0, 1) := by decide +kernel
theorem dX3_add_20 : decode cX3_add 20 = .ok (.iastore, 1) := by decide +kernel
theorem dX3_add_21 : decode cX3_add 21 = .ok (.aload_n 0, 1) := by decide +kernel
theorem dX3_add_22 : decode cX3_add 22 = .ok (.getfield 15, 3) := by decide +kernel
theorem dX3_add_25 : decode cX3_add 25 = .ok (.aload_n 0, 1) := by decide +kernel
theorem dX3_add_26 : decode cX3_add 26 = .ok (.getfield 18, 3) := by decide +kernel
theorem dX3_add_29 : decode cX3_add 29 = .ok (.iconst (-1), 1) := by decide +kernel
theorem dX3_add_30 : decode cX3_add 30 = .ok (.iastore, 1) := by decide +kernel
theorem dX3_add_31 : decode cX3_add 31 = .ok (.aload_n 0, 1) := by decide +kernel
theorem dX3_add_32 : decode cX3_add 32 = .ok (.dup, 1) := by decide +kernel
theorem dX3_add_33 : decode cX3_add 33 = .ok (.getfield 18, 3) := by decide +kernel
theorem dX3_add_36 : decode cX3_add 36 = .ok (.iconst 1, 1) := by decide +kernel
theorem dX3_add_37 : decode cX3_add 37 = .ok (.iadd, 1) := by decide +kernel
theorem dX3_add_38 : decode cX3_add 38 = .ok (.putfield 18, 3) := by decide +kernel
theorem dX3_add_41 : decode cX3_add 41 = .ok (.aload_n 0, 1) := by decide +kernel
theorem dX3_add_42 : decode cX3_add 42 = .ok (.getfield 18, 3) := by decide +kernel
theorem dX3_add_45 : decode cX3_add 45 = .ok (.iconst 1, 1) := by decide +kernel
theorem dX3_add_46 : decode cX3_add 46 = .ok (.isub, 1) := by decide +kernel
theorem dX3_add_47 : decode cX3_add 47 = .ok (.ireturn, 1) := by decide +kernel
theorem dX3_take_0 : decode cX3_take 0 = .ok (.aload_n 0, 1) := by decide +kernel
theorem dX3_take_1 : decode cX3_take 1 = .ok (.iload_n 1, 1) := by decide +kernel
theorem dX3_take_2 : decode cX3_take 2 = .ok (.invokevirtual 22, 3) := by decide +kernel
theorem dX3_take_5 : decode cX3_take 5 = .ok (.ifCond .eq 16, 3) := by decide +kernel
theorem dX3_take_8 : decode cX3_take 8 = .ok (.iload_n 2, 1) := by decide +kernel
theorem dX3_take_9 : decode cX3_take 9 = .ok (.ldc 26, 2) := by decide +kernel
theorem dX3_take_11 : decode cX3_take 11 = .ok (.aload_n 0, 1) := by decide +kernel
theorem dX3_take_12 : decode cX3_take 12 = .ok (.getfield 11, 3) := by decide +kernel
theorem dX3_take_15 : decode cX3_take 15 = .ok (.iload_n 1, 1) := by decide +kernel
theorem dX3_take_16 : decode cX3_take 16 = .ok (.iaload, 1) := by decide +kernel
theorem dX3_take_17 : decode cX3_take 17 = .ok (.isub, 1) := by decide +kernel
theorem dX3_take_18 : decode cX3_take 18 = .ok (.if_icmp .le 5, 3) := by decide +kernel
theorem dX3_take_21 : decode cX3_take 21 = .ok (.iconst (-1), 1) := by decide +kernel
theorem dX3_take_22 : decode cX3_take 22 = .ok (.ireturn, 1) := by decide +kernel
theorem dX3_take_23 : decode cX3_take 23 = .ok (.aload_n 0, 1) := by decide +kernel
theorem dX3_take_24 : decode cX3_take 24 = .ok (.getfield 11, 3) := by decide +kernel
theorem dX3_take_27 : decode cX3_take 27 = .ok (.iload_n 1, 1) := by decide +kernel
theorem dX3_take_28 : decode cX3_take 28 = .ok (.dup2, 1) := by decide +kernel
theorem dX3_take_29 : decode cX3_take 29 = .ok (.iaload, 1) := by decide +kernel
theorem dX3_take_30 : decode cX3_take 30 = .ok (.iload_n 2, 1) := by decide +kernel
theorem dX3_take_31 : decode cX3_take 31 = .ok (.iadd, 1) := by decide +kernel
theorem dX3_take_32 : decode cX3_take 32 = .ok (.iastore, 1) := by decide +kernel
theorem dX3_take_33 : decode cX3_take 33 = .ok (.aload_n 0, 1) := by decide +kernel
theorem dX3_take_34 : decode cX3_take 34 = .ok (.getfield 11, 3) := by decide +kernel
theorem dX3_take_37 : decode cX3_take 37 = .ok (.iload_n 1, 1) := by decide +kernel
theorem dX3_take_38 : decode cX3_take 38 = .ok (.iaload, 1) := by decide +kernel
theorem dX3_take_39 : decode cX3_take 39 = .ok (.ireturn, 1) := by decide +kernel
theorem dX3_childOf_0 : decode cX3_childOf 0 = .ok (.aload_n 0, 1) := by decide +kernel
theorem dX3_childOf_1 : decode cX3_childOf 1 = .ok (.iload_n 1, 1) := by decide +kernel
theorem dX3_childOf_2 : decode cX3_childOf 2 = .ok (.invokevirtual 22, 3) := by decide +kernel
theorem dX3_childOf_5 : decode cX3_childOf 5 = .ok (.ifCond .eq 12, 3) := by decide +kernel
theorem dX3_childOf_8 : decode cX3_childOf 8 = .ok (.aload_n 0, 1) := by decide +kernel
theorem dX3_childOf_9 : decode cX3_childOf 9 = .ok (.getfield 15, 3) := by decide +kernel
theorem dX3_childOf_12 : decode cX3_childOf 12 = .ok (.iload_n 1, 1) := by decide +kernel
theorem dX3_childOf_13 : decode cX3_childOf 13 = .ok (.iaload, 1) := by decide +kernel
theorem dX3_childOf_14 : decode cX3_childOf 14 = .ok (.goto 4, 3) := by decide +kernel
theorem dX3_childOf_17 : decode cX3_childOf 17 = .ok (.iconst (-1), 1) := by decide +kernel
theorem dX3_childOf_18 : decode cX3_childOf 18 = .ok (.ireturn, 1) := by decide +kernel
theorem dX3_votesFor_0 : decode cX3_votesFor 0 = .ok (.iconst 0, 1) := by decide +kernel
theorem dX3_votesFor_1 : decode cX3_votesFor 1 = .ok (.istore_n 3, 1) := by decide +kernel
theorem dX3_votesFor_2 : decode cX3_votesFor 2 = .ok (.iconst 0, 1) := by decide +kernel
theorem dX3_votesFor_3 : decode cX3_votesFor 3 = .ok (.istore 4, 2) := by decide +kernel
theorem dX3_votesFor_5 : decode cX3_votesFor 5 = .ok (.iload 4, 2) := by decide +kernel
theorem dX3_votesFor_7 : decode cX3_votesFor 7 = .ok (.aload_n 0, 1) := by decide +kernel
theorem dX3_votesFor_8 : decode cX3_votesFor 8 = .ok (.getfield 18, 3) := by decide +kernel
theorem dX3_votesFor_11 : decode cX3_votesFor 11 = .ok (.if_icmp .ge 36, 3) := by decide +kernel
theorem dX3_votesFor_14 : decode cX3_votesFor 14 = .ok (.aload_n 0, 1) := by decide +kernel
theorem dX3_votesFor_15 : decode cX3_votesFor 15 = .ok (.getfield 15, 3) := by decide +kernel
theorem dX3_votesFor_18 : decode cX3_votesFor 18 = .ok (.iload 4, 2) := by decide +kernel
theorem dX3_votesFor_20 : decode cX3_votesFor 20 = .ok (.iaload, 1) := by decide +kernel
theorem dX3_votesFor_21 : decode cX3_votesFor 21 = .ok (.iload_n 1, 1) := by decide +kernel
theorem dX3_votesFor_22 : decode cX3_votesFor 22 = .ok (.if_icmp .ne 19, 3) := by decide +kernel
theorem dX3_votesFor_25 : decode cX3_votesFor 25 = .ok (.iload_n 2, 1) := by decide +kernel
theorem dX3_votesFor_26 : decode cX3_votesFor 26 = .ok (.ifCond .le 15, 3) := by decide +kernel
theorem dX3_votesFor_29 : decode cX3_votesFor 29 = .ok (.iload_n 3, 1) := by decide +kernel
theorem dX3_votesFor_30 : decode cX3_votesFor 30 = .ok (.aload_n 0, 1) := by decide +kernel
theorem dX3_votesFor_31 : decode cX3_votesFor 31 = .ok (.getfield 11, 3) := by decide +kernel
theorem dX3_votesFor_34 : decode cX3_votesFor 34 = .ok (.iload 4, 2) := by decide +kernel
theorem dX3_votesFor_36 : decode cX3_votesFor 36 = .ok (.iaload, 1) := by decide +kernel
theorem dX3_votesFor_37 : decode cX3_votesFor 37 = .ok (.iload_n 2, 1) := by decide +kernel
theorem dX3_votesFor_38 : decode cX3_votesFor 38 = .ok (.idiv, 1) := by decide +kernel
theorem dX3_votesFor_39 : decode cX3_votesFor 39 = .ok (.iadd, 1) := by decide +kernel
theorem dX3_votesFor_40 : decode cX3_votesFor 40 = .ok (.istore_n 3, 1) := by decide +kernel
theorem dX3_votesFor_41 : decode cX3_votesFor 41 = .ok (.iinc 4 1, 3) := by decide +kernel
theorem dX3_votesFor_44 : decode cX3_votesFor 44 = .ok (.goto (-39), 3) := by decide +kernel
theorem dX3_votesFor_47 : decode cX3_votesFor 47 = .ok (.iload_n 3, 1) := by decide +kernel
theorem dX3_votesFor_48 : decode cX3_votesFor 48 = .ok (.ireturn, 1) := by decide +kernel
theorem dX4_init_0 : decode cX4_init 0 = .ok (.aload_n 0, 1) := by decide +kernel
theorem dX4_init_1 : decode cX4_init 1 = .ok (.invokespecial 3, 3) := by decide +kernel
theorem dX4_init_4 : decode cX4_init 4 = .ok (.aload_n 0, 1) := by decide +kernel
theorem dX4_init_5 : decode cX4_init 5 = .ok (.new 9, 3) := by decide +kernel
theorem dX4_init_8 : decode cX4_init 8 = .ok (.dup, 1) := by decide +kernel
theorem dX4_init_9 : decode cX4_init 9 = .ok (.invokespecial 11, 3) := by decide +kernel
theorem dX4_init_12 : decode cX4_init 12 = .ok (.putfield 12, 3) := by decide +kernel
theorem dX4_init_15 : decode cX4_init 15 = .ok (.aload_n 0, 1) := by decide +kernel
theorem dX4_init_16 : decode cX4_init 16 = .ok (.iconst 0, 1) := by decide +kernel
theorem dX4_init_17 : decode cX4_init 17 = .ok (.putfield 18, 3) := by decide +kernel
theorem dX4_init_20 : decode cX4_init 20 = .ok (.aload_n 0, 1) := by decide +kernel
theorem dX4_init_21 : decode cX4_init 21 = .ok (.iconst (-1), 1) := by decide +kernel
theorem dX4_init_22 : decode cX4_init 22 = .ok (.putfield 22, 3) := by decide +kernel
theorem dX4_init_25 : decode cX4_init 25 = .ok (.aload_n 0, 1) := by decide +kernel
theorem dX4_init_26 : decode cX4_init 26 = .ok (.sipush 300, 3) := by decide +kernel
theorem dX4_init_29 : decode cX4_init 29 = .ok (.newarray .byte, 2) := by decide +kernel
theorem dX4_init_31 : decode cX4_init 31 = .ok (.putfield 25, 3) := by decide +kernel
theorem dX4_init_34 : decode cX4_init 34 = .ok (.return_, 1) := by decide +kernel
theorem dX4_append_0 : decode cX4_append 0 = .ok (.bipush 24, 2) := by decide +kernel
theorem dX4_append_2 : decode cX4_append 2 = .ok (.istore_n 2, 1) := by decide +kernel
theorem dX4_append_3 : decode cX4_append 3 = .ok (.iload_n 2, 1) := by decide +kernel
theorem dX4_append_4 : decode cX4_append 4 = .ok (.ifCond .lt 42, 3) := by decide +kernel
theorem dX4_append_7 : decode cX4_append 7 = .ok (.aload_n 0, 1) := by decide +kernel
theorem dX4_append_8 : decode cX4_append 8 = .ok (.getfield 29, 3) := by decide +kernel
theorem dX4_append_11 : decode cX4_append 11 = .ok (.sipush 300, 3) := by decide +kernel
theorem dX4_append_14 : decode cX4_append 14 = .ok (.if_icmp .ge 26, 3) := by decide +kernel
theorem dX4_append_17 : decode cX4_append 17 = .ok (.aload_n 0, 1) := by decide +kernel
theorem dX4_append_18 : decode cX4_append 18 = .ok (.getfield 25, 3) := by decide +kernel
theorem dX4_append_21 : decode cX4_append 21 = .ok (.aload_n 0, 1) := by decide +kernel
theorem dX4_append_22 : decode cX4_append 22 = .ok (.getfield 29, 3) := by decide +kernel
theorem dX4_append_25 : decode cX4_append 25 = .ok (.iload_n 1, 1) := by decide +kernel
theorem dX4_append_26 : decode cX4_append 26 = .ok (.iload_n 2, 1) := by decide +kernel
theorem dX4_append_27 : decode cX4_append 27 = .ok (.iushr, 1) := by decide +kernel
theorem dX4_append_28 : decode cX4_append 28 = .ok (.i2b, 1) := by decide +kernel
theorem dX4_append_29 : decode cX4_append 29 = .ok (.bastore, 1) := by decide +kernel
theorem dX4_append_30 : decode cX4_append 30 = .ok (.aload_n 0, 1) := by decide +kernel
theorem dX4_append_31 : decode cX4_append 31 = .ok (.dup, 1) := by decide +kernel
theorem dX4_append_32 : decode cX4_append 32 = .ok (.getfield 29, 3) := by decide +kernel
theorem dX4_append_35 : decode cX4_append 35 = .ok (.iconst 1, 1) := by decide +kernel
theorem dX4_append_36 : decode cX4_append 36 = .ok (.iadd, 1) := by decide +kernel
theorem dX4_append_37 : decode cX4_append 37 = .ok (.putfield 29, 3) := by decide +kernel
theorem dX4_append_40 : decode cX4_append 40 = .ok (.iinc 2 (-8), 3) := by decide +kernel
theorem dX4_append_43 : decode cX4_append 43 = .ok (.goto (-40), 3) := by decide +kernel
theorem dX4_append_46 : decode cX4_append 46 = .ok (.return_, 1) := by decide +kernel
theorem dX4_read_0 : decode cX4_read 0 = .ok (.aload_n 0, 1) := by decide +kernel
theorem dX4_read_1 : decode cX4_read 1 = .ok (.iload_n 1, 1) := by decide +kernel
theorem dX4_read_2 : decode cX4_read 2 = .ok (.aload_n 0, 1) := by decide +kernel
theorem dX4_read_3 : decode cX4_read 3 = .ok (.getfield 29, 3) := by decide +kernel
theorem dX4_read_6 : decode cX4_read 6 = .ok (.invokestatic 32, 3) := by decide +kernel
theorem dX4_read_9 : decode cX4_read 9 = .ok (.putfield 38, 3) := by decide +kernel
theorem dX4_read_12 : decode cX4_read 12 = .ok (.aload_n 0, 1) := by decide +kernel
theorem dX4_read_13 : decode cX4_read 13 = .ok (.iconst 0, 1) := by decide +kernel
theorem dX4_read_14 : decode cX4_read 14 = .ok (.putfield 29, 3) := by decide +kernel
theorem dX4_read_17 : decode cX4_read 17 = .ok (.aload_n 0, 1) := by decide +kernel
theorem dX4_read_18 : decode cX4_read 18 = .ok (.iconst 0, 1) := by decide +kernel
theorem dX4_read_19 : decode cX4_read 19 = .ok (.putfield 41, 3) := by decide +kernel
theorem dX4_read_22 : decode cX4_read 22 = .ok (.aload_n 0, 1) := by decide +kernel
theorem dX4_read_23 : decode cX4_read 23 = .ok (.iconst 0, 1) := by decide +kernel
theorem dX4_read_24 : decode cX4_read 24 = .ok (.putfield 44, 3) := by decide +kernel
theorem dX4_read_27 : decode cX4_read 27 = .ok (.aload_n 0, 1) := by decide +kernel
theorem dX4_read_28 : decode cX4_read 28 = .ok (.iconst 0, 1) := by decide +kernel
theorem dX4_read_29 : decode cX4_read 29 = .ok (.putfield 18, 3) := by decide +kernel
theorem dX4_read_32 : decode cX4_read 32 = .ok (.aload_n 0, 1) := by decide +kernel
theorem dX4_read_33 : decode cX4_read 33 = .ok (.iconst (-1), 1) := by decide +kernel
theorem dX4_read_34 : decode cX4_read 34 = .ok (.putfield 22, 3) := by decide +kernel
theorem dX4_read_37 : decode cX4_read 37 = .ok (.aload_n 0, 1) := by decide +kernel
theorem dX4_read_38 : decode cX4_read 38 = .ok (.getfield 12, 3) := by decide +kernel
theorem dX4_read_41 : decode cX4_read 41 = .ok (.invokevirtual 47, 3) := by decide +kernel
theorem dX4_read_44 : decode cX4_read 44 = .ok (.aload_n 0, 1) := by decide +kernel
theorem dX4_read_45 : decode cX4_read 45 = .ok (.invokevirtual 50, 3) := by decide +kernel
theorem dX4_read_48 : decode cX4_read 48 = .ok (.iconst 0, 1) := by decide +kernel
theorem dX4_read_49 : decode cX4_read 49 = .ok (.istore_n 2, 1) := by decide +kernel
theorem dX4_read_50 : decode cX4_read 50 = .ok (.aload_n 0, 1) := by decide +kernel
theorem dX4_read_51 : decode cX4_read 51 = .ok (.getfield 53, 3) := by decide +kernel
theorem dX4_read_54 : decode cX4_read 54 = .ok (.ifCond .eq 36, 3) := by decide +kernel
theorem dX4_read_57 : decode cX4_read 57 = .ok (.aload_n 0, 1) := by decide +kernel
theorem dX4_read_58 : decode cX4_read 58 = .ok (.getfield 18, 3) := by decide +kernel
theorem dX4_read_61 : decode cX4_read 61 = .ok (.ifCond .ne 29, 3) := by decide +kernel
theorem dX4_read_64 : decode cX4_read 64 = .ok (.iload_n 2, 1) := by decide +kernel
theorem dX4_read_65 : decode cX4_read 65 = .ok (.aload_n 0, 1) := by decide +kernel
theorem dX4_read_66 : decode cX4_read 66 = .ok (.getfield 38, 3) := by decide +kernel
theorem dX4_read_69 : decode cX4_read 69 = .ok (.if_icmp .ge 21, 3) := by decide +kernel
theorem dX4_read_72 : decode cX4_read 72 = .ok (.aload_n 0, 1) := by decide +kernel
theorem dX4_read_73 : decode cX4_read 73 = .ok (.aload_n 0, 1) := by decide +kernel
theorem dX4_read_74 : decode cX4_read 74 = .ok (.invokevirtual 56, 3) := by decide +kernel
theorem dX4_read_77 : decode cX4_read 77 = .ok (.invokevirtual 60, 3) := by decide +kernel
theorem dX4_read_80 : decode cX4_read 80 = .ok (.aload_n 0, 1) := by decide +kernel
theorem dX4_read_81 : decode cX4_read 81 = .ok (.invokevirtual 64, 3) := by decide +kernel
theorem dX4_read_84 : decode cX4_read 84 = .ok (.iinc 2 1, 3) := by decide +kernel
theorem dX4_read_87 : decode cX4_read 87 = .ok (.goto (-37), 3) := by decide +kernel
theorem dX4_read_90 : decode cX4_read 90 = .ok (.aload_n 0, 1) := by decide +kernel
theorem dX4_read_91 : decode cX4_read 91 = .ok (.getfield 18, 3) := by decide +kernel
theorem dX4_read_94 : decode cX4_read 94 = .ok (.ifCond .ne 7, 3) := by decide +kernel
theorem dX4_read_97 : decode cX4_read 97 = .ok (.iload_n 2, 1) := by decide +kernel
theorem dX4_read_98 : decode cX4_read 98 = .ok (.goto 4, 3) := by decide +kernel
theorem dX4_read_101 : decode cX4_read 101 = .ok (.iconst (-1), 1) := by decide +kernel
theorem dX4_read_102 : decode cX4_read 102 = .ok (.ireturn, 1) := by decide +kernel
theorem dX4_blame_0 : decode cX4_blame 0 = .ok (.aload_n 0, 1) := by decide +kernel
theorem dX4_blame_1 : decode cX4_blame 1 = .ok (.iload_n 1, 1) := by decide +kernel
theorem dX4_blame_2 : decode cX4_blame 2 = .ok (.putfield 18, 3) := by decide +kernel
theorem dX4_blame_5 : decode cX4_blame 5 = .ok (.aload_n 0, 1) := by decide +kernel
theorem dX4_blame_6 : decode cX4_blame 6 = .ok (.aload_n 0, 1) := by decide +kernel
theorem dX4_blame_7 : decode cX4_blame 7 = .ok (.getfield 67, 3) := by decide +kernel
theorem dX4_blame_10 : decode cX4_blame 10 = .ok (.putfield 22, 3) := by decide +kernel
theorem dX4_blame_13 : decode cX4_blame 13 = .ok (.return_, 1) := by decide +kernel
theorem dX4_begunLine_0 : decode cX4_begunLine 0 = .ok (.aload_n 0, 1) := by decide +kernel
theorem dX4_begunLine_1 : decode cX4_begunLine 1 = .ok (.invokevirtual 70, 3) := by decide +kernel
theorem dX4_begunLine_4 : decode cX4_begunLine 4 = .ok (.istore_n 1, 1) := by decide +kernel
theorem dX4_begunLine_5 : decode cX4_begunLine 5 = .ok (.iload_n 1, 1) := by decide +kernel
theorem dX4_begunLine_6 : decode cX4_begunLine 6 = .ok (.iconst (-1), 1) := by decide +kernel
theorem dX4_begunLine_7 : decode cX4_begunLine 7 = .ok (.if_icmp .ne 10, 3) := by decide +kernel
theorem dX4_begunLine_10 : decode cX4_begunLine 10 = .ok (.aload_n 0, 1) := by decide +kernel
theorem dX4_begunLine_11 : decode cX4_begunLine 11 = .ok (.iconst 1, 1) := by decide +kernel
theorem dX4_begunLine_12 : decode cX4_begunLine 12 = .ok (.invokevirtual 73, 3) := by decide +kernel
theorem dX4_begunLine_15 : decode cX4_begunLine 15 = .ok (.iconst (-1), 1) := by decide +kernel
theorem dX4_begunLine_16 : decode cX4_begunLine 16 = .ok (.ireturn, 1) := by decide +kernel
theorem dX4_begunLine_17 : decode cX4_begunLine 17 = .ok (.aload_n 0, 1) := by decide +kernel
theorem dX4_begunLine_18 : decode cX4_begunLine 18 = .ok (.getfield 44, 3) := by decide +kernel
theorem dX4_begunLine_21 : decode cX4_begunLine 21 = .ok (.iconst 1, 1) := by decide +kernel
theorem dX4_begunLine_22 : decode cX4_begunLine 22 = .ok (.iload_n 1, 1) := by decide +kernel
theorem dX4_begunLine_23 : decode cX4_begunLine 23 = .ok (.ishl, 1) := by decide +kernel
theorem dX4_begunLine_24 : decode cX4_begunLine 24 = .ok (.iand, 1) := by decide +kernel
theorem dX4_begunLine_25 : decode cX4_begunLine 25 = .ok (.ifCond .eq 10, 3) := by decide +kernel
theorem dX4_begunLine_28 : decode cX4_begunLine 28 = .ok (.aload_n 0, 1) := by decide +kernel
theorem dX4_begunLine_29 : decode cX4_begunLine 29 = .ok (.iconst 3, 1) := by decide +kernel
theorem dX4_begunLine_30 : decode cX4_begunLine 30 = .ok (.invokevirtual 73, 3) := by decide +kernel
theorem dX4_begunLine_33 : decode cX4_begunLine 33 = .ok (.iconst (-1), 1) := by decide +kernel
theorem dX4_begunLine_34 : decode cX4_begunLine 34 = .ok (.ireturn, 1) := by decide +kernel
theorem dX4_begunLine_35 : decode cX4_begunLine 35 = .ok (.aload_n 0, 1) := by decide +kernel
theorem dX4_begunLine_36 : decode cX4_begunLine 36 = .ok (.dup, 1) := by decide +kernel
theorem dX4_begunLine_37 : decode cX4_begunLine 37 = .ok (.getfield 44, 3) := by decide +kernel
theorem dX4_begunLine_40 : decode cX4_begunLine 40 = .ok (.iconst 1, 1) := by decide +kernel
theorem dX4_begunLine_41 : decode cX4_begunLine 41 = .ok (.iload_n 1, 1) := by decide +kernel
theorem dX4_begunLine_42 : decode cX4_begunLine 42 = .ok (.ishl, 1) := by decide +kernel
theorem dX4_begunLine_43 : decode cX4_begunLine 43 = .ok (.ior, 1) := by decide +kernel
theorem dX4_begunLine_44 : decode cX4_begunLine 44 = .ok (.putfield 44, 3) := by decide +kernel
theorem dX4_begunLine_47 : decode cX4_begunLine 47 = .ok (.aload_n 0, 1) := by decide +kernel
theorem dX4_begunLine_48 : decode cX4_begunLine 48 = .ok (.invokevirtual 50, 3) := by decide +kernel
theorem dX4_begunLine_51 : decode cX4_begunLine 51 = .ok (.iload_n 1, 1) := by decide +kernel
theorem dX4_begunLine_52 : decode cX4_begunLine 52 = .ok (.ireturn, 1) := by decide +kernel
theorem dX4_endLine_0 : decode cX4_endLine 0 = .ok (.aload_n 0, 1) := by decide +kernel
theorem dX4_endLine_1 : decode cX4_endLine 1 = .ok (.getfield 18, 3) := by decide +kernel
theorem dX4_endLine_4 : decode cX4_endLine 4 = .ok (.ifCond .eq 4, 3) := by decide +kernel
theorem dX4_endLine_7 : decode cX4_endLine 7 = .ok (.return_, 1) := by decide +kernel
theorem dX4_endLine_8 : decode cX4_endLine 8 = .ok (.aload_n 0, 1) := by decide +kernel
theorem dX4_endLine_9 : decode cX4_endLine 9 = .ok (.getfield 53, 3) := by decide +kernel
theorem dX4_endLine_12 : decode cX4_endLine 12 = .ok (.iconst 3, 1) := by decide +kernel
theorem dX4_endLine_13 : decode cX4_endLine 13 = .ok (.if_icmp .ne 10, 3) := by decide +kernel
theorem dX4_endLine_16 : decode cX4_endLine 16 = .ok (.aload_n 0, 1) := by decide +kernel
theorem dX4_endLine_17 : decode cX4_endLine 17 = .ok (.invokevirtual 50, 3) := by decide +kernel
theorem dX4_endLine_20 : decode cX4_endLine 20 = .ok (.goto 8, 3) := by decide +kernel
theorem dX4_endLine_23 : decode cX4_endLine 23 = .ok (.aload_n 0, 1) := by decide +kernel
theorem dX4_endLine_24 : decode cX4_endLine 24 = .ok (.iconst 1, 1) := by decide +kernel
theorem dX4_endLine_25 : decode cX4_endLine 25 = .ok (.invokevirtual 73, 3) := by decide +kernel
theorem dX4_endLine_28 : decode cX4_endLine 28 = .ok (.return_, 1) := by decide +kernel
theorem dX4_readRest_0 : decode cX4_readRest 0 = .ok (.iload_n 1, 1) := by decide +kernel
theorem dX4_readRest_1 : decode cX4_readRest 1 = .ok (.tableswitch 122 0 5 #[39, 46, 64, 71, 88, 105], 39) := by decide +kernel
theorem dX4_readRest_40 : decode cX4_readRest 40 = .ok (.aload_n 0, 1) := by decide +kernel
theorem dX4_readRest_41 : decode cX4_readRest 41 = .ok (.invokevirtual 76, 3) := by decide +kernel
theorem dX4_readRest_44 : decode cX4_readRest 44 = .ok (.goto 79, 3) := by decide +kernel
theorem dX4_readRest_47 : decode cX4_readRest 47 = .ok (.aload_n 0, 1) := by decide +kernel
theorem dX4_readRest_48 : decode cX4_readRest 48 = .ok (.getfield 12, 3) := by decide +kernel
theorem dX4_readRest_51 : decode cX4_readRest 51 = .ok (.aload_n 0, 1) := by decide +kernel
theorem dX4_readRest_52 : decode cX4_readRest 52 = .ok (.iconst 1, 1) := by decide +kernel
theorem dX4_readRest_53 : decode cX4_readRest 53 = .ok (.sipush 9999, 3) := by decide +kernel
theorem dX4_readRest_56 : decode cX4_readRest 56 = .ok (.invokevirtual 79, 3) := by decide +kernel
theorem dX4_readRest_59 : decode cX4_readRest 59 = .ok (.putfield 82, 3) := by decide +kernel
theorem dX4_readRest_62 : decode cX4_readRest 62 = .ok (.goto 61, 3) := by decide +kernel
theorem dX4_readRest_65 : decode cX4_readRest 65 = .ok (.aload_n 0, 1) := by decide +kernel
theorem dX4_readRest_66 : decode cX4_readRest 66 = .ok (.invokevirtual 85, 3) := by decide +kernel
theorem dX4_readRest_69 : decode cX4_readRest 69 = .ok (.goto 54, 3) := by decide +kernel
theorem dX4_readRest_72 : decode cX4_readRest 72 = .ok (.aload_n 0, 1) := by decide +kernel
theorem dX4_readRest_73 : decode cX4_readRest 73 = .ok (.getfield 12, 3) := by decide +kernel
theorem dX4_readRest_76 : decode cX4_readRest 76 = .ok (.aload_n 0, 1) := by decide +kernel
theorem dX4_readRest_77 : decode cX4_readRest 77 = .ok (.iconst 1, 1) := by decide +kernel
theorem dX4_readRest_78 : decode cX4_readRest 78 = .ok (.bipush 9, 2) := by decide +kernel
theorem dX4_readRest_80 : decode cX4_readRest 80 = .ok (.invokevirtual 79, 3) := by decide +kernel
theorem dX4_readRest_83 : decode cX4_readRest 83 = .ok (.putfield 88, 3) := by decide +kernel
theorem dX4_readRest_86 : decode cX4_readRest 86 = .ok (.goto 37, 3) := by decide +kernel
theorem dX4_readRest_89 : decode cX4_readRest 89 = .ok (.aload_n 0, 1) := by decide +kernel
theorem dX4_readRest_90 : decode cX4_readRest 90 = .ok (.getfield 12, 3) := by decide +kernel
theorem dX4_readRest_93 : decode cX4_readRest 93 = .ok (.aload_n 0, 1) := by decide +kernel
theorem dX4_readRest_94 : decode cX4_readRest 94 = .ok (.iconst 0, 1) := by decide +kernel
theorem dX4_readRest_95 : decode cX4_readRest 95 = .ok (.bipush 9, 2) := by decide +kernel
theorem dX4_readRest_97 : decode cX4_readRest 97 = .ok (.invokevirtual 79, 3) := by decide +kernel
theorem dX4_readRest_100 : decode cX4_readRest 100 = .ok (.putfield 91, 3) := by decide +kernel
theorem dX4_readRest_103 : decode cX4_readRest 103 = .ok (.goto 20, 3) := by decide +kernel
theorem dX4_readRest_106 : decode cX4_readRest 106 = .ok (.aload_n 0, 1) := by decide +kernel
theorem dX4_readRest_107 : decode cX4_readRest 107 = .ok (.getfield 12, 3) := by decide +kernel
theorem dX4_readRest_110 : decode cX4_readRest 110 = .ok (.aload_n 0, 1) := by decide +kernel
theorem dX4_readRest_111 : decode cX4_readRest 111 = .ok (.iconst 1, 1) := by decide +kernel
theorem dX4_readRest_112 : decode cX4_readRest 112 = .ok (.bipush 8, 2) := by decide +kernel
theorem dX4_readRest_114 : decode cX4_readRest 114 = .ok (.invokevirtual 79, 3) := by decide +kernel
theorem dX4_readRest_117 : decode cX4_readRest 117 = .ok (.putfield 94, 3) := by decide +kernel
theorem dX4_readRest_120 : decode cX4_readRest 120 = .ok (.goto 3, 3) := by decide +kernel
theorem dX4_readRest_123 : decode cX4_readRest 123 = .ok (.return_, 1) := by decide +kernel
theorem dX4_readWays_0 : decode cX4_readWays 0 = .ok (.aload_n 0, 1) := by decide +kernel
theorem dX4_readWays_1 : decode cX4_readWays 1 = .ok (.invokevirtual 97, 3) := by decide +kernel
theorem dX4_readWays_4 : decode cX4_readWays 4 = .ok (.iconst (-1), 1) := by decide +kernel
theorem dX4_readWays_5 : decode cX4_readWays 5 = .ok (.if_icmp .ne 9, 3) := by decide +kernel
theorem dX4_readWays_8 : decode cX4_readWays 8 = .ok (.aload_n 0, 1) := by decide +kernel
theorem dX4_readWays_9 : decode cX4_readWays 9 = .ok (.iconst 1, 1) := by decide +kernel
theorem dX4_readWays_10 : decode cX4_readWays 10 = .ok (.invokevirtual 73, 3) := by decide +kernel
theorem dX4_readWays_13 : decode cX4_readWays 13 = .ok (.return_, 1) := by decide +kernel
theorem dX4_readWays_14 : decode cX4_readWays 14 = .ok (.aload_n 0, 1) := by decide +kernel
theorem dX4_readWays_15 : decode cX4_readWays 15 = .ok (.getfield 12, 3) := by decide +kernel
theorem dX4_readWays_18 : decode cX4_readWays 18 = .ok (.iconst 0, 1) := by decide +kernel
theorem dX4_readWays_19 : decode cX4_readWays 19 = .ok (.putfield 100, 3) := by decide +kernel
theorem dX4_readWays_22 : decode cX4_readWays 22 = .ok (.iconst 0, 1) := by decide +kernel
theorem dX4_readWays_23 : decode cX4_readWays 23 = .ok (.istore_n 1, 1) := by decide +kernel
theorem dX4_readWays_24 : decode cX4_readWays 24 = .ok (.iload_n 1, 1) := by decide +kernel
theorem dX4_readWays_25 : decode cX4_readWays 25 = .ok (.bipush 8, 2) := by decide +kernel
theorem dX4_readWays_27 : decode cX4_readWays 27 = .ok (.if_icmp .ge 47, 3) := by decide +kernel
theorem dX4_readWays_30 : decode cX4_readWays 30 = .ok (.aload_n 0, 1) := by decide +kernel
theorem dX4_readWays_31 : decode cX4_readWays 31 = .ok (.invokevirtual 97, 3) := by decide +kernel
theorem dX4_readWays_34 : decode cX4_readWays 34 = .ok (.iconst (-1), 1) := by decide +kernel
theorem dX4_readWays_35 : decode cX4_readWays 35 = .ok (.if_icmp .eq 39, 3) := by decide +kernel
theorem dX4_readWays_38 : decode cX4_readWays 38 = .ok (.aload_n 0, 1) := by decide +kernel
theorem dX4_readWays_39 : decode cX4_readWays 39 = .ok (.getfield 12, 3) := by decide +kernel
theorem dX4_readWays_42 : decode cX4_readWays 42 = .ok (.getfield 103, 3) := by decide +kernel
theorem dX4_readWays_45 : decode cX4_readWays 45 = .ok (.iload_n 1, 1) := by decide +kernel
theorem dX4_readWays_46 : decode cX4_readWays 46 = .ok (.aload_n 0, 1) := by decide +kernel
theorem dX4_readWays_47 : decode cX4_readWays 47 = .ok (.invokevirtual 97, 3) := by decide +kernel
theorem dX4_readWays_50 : decode cX4_readWays 50 = .ok (.iastore, 1) := by decide +kernel
theorem dX4_readWays_51 : decode cX4_readWays 51 = .ok (.aload_n 0, 1) := by decide +kernel
theorem dX4_readWays_52 : decode cX4_readWays 52 = .ok (.getfield 12, 3) := by decide +kernel
theorem dX4_readWays_55 : decode cX4_readWays 55 = .ok (.dup, 1) := by decide +kernel
theorem dX4_readWays_56 : decode cX4_readWays 56 = .ok (.getfield 100, 3) := by decide +kernel
theorem dX4_readWays_59 : decode cX4_readWays 59 = .ok (.iconst 1, 1) := by decide +kernel
theorem dX4_readWays_60 : decode cX4_readWays 60 = .ok (.iadd, 1) := by decide +kernel
theorem dX4_readWays_61 : decode cX4_readWays 61 = .ok (.putfield 100, 3) := by decide +kernel
theorem dX4_readWays_64 : decode cX4_readWays 64 = .ok (.aload_n 0, 1) := by decide +kernel
theorem dX4_readWays_65 : decode cX4_readWays 65 = .ok (.invokevirtual 50, 3) := by decide +kernel
theorem dX4_readWays_68 : decode cX4_readWays 68 = .ok (.iinc 1 1, 3) := by decide +kernel
theorem dX4_readWays_71 : decode cX4_readWays 71 = .ok (.goto (-47), 3) := by decide +kernel
theorem dX4_readWays_74 : decode cX4_readWays 74 = .ok (.aload_n 0, 1) := by decide +kernel
theorem dX4_readWays_75 : decode cX4_readWays 75 = .ok (.invokevirtual 97, 3) := by decide +kernel
theorem dX4_readWays_78 : decode cX4_readWays 78 = .ok (.iconst (-1), 1) := by decide +kernel
theorem dX4_readWays_79 : decode cX4_readWays 79 = .ok (.if_icmp .eq 8, 3) := by decide +kernel
theorem dX4_readWays_82 : decode cX4_readWays 82 = .ok (.aload_n 0, 1) := by decide +kernel
theorem dX4_readWays_83 : decode cX4_readWays 83 = .ok (.iconst 2, 1) := by decide +kernel
theorem dX4_readWays_84 : decode cX4_readWays 84 = .ok (.invokevirtual 73, 3) := by decide +kernel
theorem dX4_readWays_87 : decode cX4_readWays 87 = .ok (.return_, 1) := by decide +kernel
theorem dX4_readAges_0 : decode cX4_readAges 0 = .ok (.aload_n 0, 1) := by decide +kernel
theorem dX4_readAges_1 : decode cX4_readAges 1 = .ok (.getfield 12, 3) := by decide +kernel
theorem dX4_readAges_4 : decode cX4_readAges 4 = .ok (.aload_n 0, 1) := by decide +kernel
theorem dX4_readAges_5 : decode cX4_readAges 5 = .ok (.iconst 0, 1) := by decide +kernel
theorem dX4_readAges_6 : decode cX4_readAges 6 = .ok (.bipush 20, 2) := by decide +kernel
theorem dX4_readAges_8 : decode cX4_readAges 8 = .ok (.invokevirtual 79, 3) := by decide +kernel
theorem dX4_readAges_11 : decode cX4_readAges 11 = .ok (.putfield 107, 3) := by decide +kernel
theorem dX4_readAges_14 : decode cX4_readAges 14 = .ok (.aload_n 0, 1) := by decide +kernel
theorem dX4_readAges_15 : decode cX4_readAges 15 = .ok (.getfield 18, 3) := by decide +kernel
theorem dX4_readAges_18 : decode cX4_readAges 18 = .ok (.ifCond .ne 23, 3) := by decide +kernel
theorem dX4_readAges_21 : decode cX4_readAges 21 = .ok (.aload_n 0, 1) := by decide +kernel
theorem dX4_readAges_22 : decode cX4_readAges 22 = .ok (.getfield 12, 3) := by decide +kernel
theorem dX4_readAges_25 : decode cX4_readAges 25 = .ok (.aload_n 0, 1) := by decide +kernel
theorem dX4_readAges_26 : decode cX4_readAges 26 = .ok (.aload_n 0, 1) := by decide +kernel
theorem dX4_readAges_27 : decode cX4_readAges 27 = .ok (.getfield 12, 3) := by decide +kernel
theorem dX4_readAges_30 : decode cX4_readAges 30 = .ok (.getfield 107, 3) := by decide +kernel
theorem dX4_readAges_33 : decode cX4_readAges 33 = .ok (.bipush 20, 2) := by decide +kernel
theorem dX4_readAges_35 : decode cX4_readAges 35 = .ok (.invokevirtual 79, 3) := by decide +kernel
theorem dX4_readAges_38 : decode cX4_readAges 38 = .ok (.putfield 110, 3) := by decide +kernel
theorem dX4_readAges_41 : decode cX4_readAges 41 = .ok (.return_, 1) := by decide +kernel
theorem dX4_readNumber_0 : decode cX4_readNumber 0 = .ok (.aload_n 0, 1) := by decide +kernel
theorem dX4_readNumber_1 : decode cX4_readNumber 1 = .ok (.getfield 53, 3) := by decide +kernel
theorem dX4_readNumber_4 : decode cX4_readNumber 4 = .ok (.iconst 2, 1) := by decide +kernel
theorem dX4_readNumber_5 : decode cX4_readNumber 5 = .ok (.if_icmp .eq 10, 3) := by decide +kernel
theorem dX4_readNumber_8 : decode cX4_readNumber 8 = .ok (.aload_n 0, 1) := by decide +kernel
theorem dX4_readNumber_9 : decode cX4_readNumber 9 = .ok (.iconst 1, 1) := by decide +kernel
theorem dX4_readNumber_10 : decode cX4_readNumber 10 = .ok (.invokevirtual 73, 3) := by decide +kernel
theorem dX4_readNumber_13 : decode cX4_readNumber 13 = .ok (.iload_n 1, 1) := by decide +kernel
theorem dX4_readNumber_14 : decode cX4_readNumber 14 = .ok (.ireturn, 1) := by decide +kernel
theorem dX4_readNumber_15 : decode cX4_readNumber 15 = .ok (.aload_n 0, 1) := by decide +kernel
theorem dX4_readNumber_16 : decode cX4_readNumber 16 = .ok (.getfield 113, 3) := by decide +kernel
theorem dX4_readNumber_19 : decode cX4_readNumber 19 = .ok (.iload_n 1, 1) := by decide +kernel
theorem dX4_readNumber_20 : decode cX4_readNumber 20 = .ok (.if_icmp .lt 11, 3) := by decide +kernel
theorem dX4_readNumber_23 : decode cX4_readNumber 23 = .ok (.aload_n 0, 1) := by decide +kernel
theorem dX4_readNumber_24 : decode cX4_readNumber 24 = .ok (.getfield 113, 3) := by decide +kernel
theorem dX4_readNumber_27 : decode cX4_readNumber 27 = .ok (.iload_n 2, 1) := by decide +kernel
theorem dX4_readNumber_28 : decode cX4_readNumber 28 = .ok (.if_icmp .le 10, 3) := by decide +kernel
theorem dX4_readNumber_31 : decode cX4_readNumber 31 = .ok (.aload_n 0, 1) := by decide +kernel
theorem dX4_readNumber_32 : decode cX4_readNumber 32 = .ok (.iconst 2, 1) := by decide +kernel
theorem dX4_readNumber_33 : decode cX4_readNumber 33 = .ok (.invokevirtual 73, 3) := by decide +kernel
theorem dX4_readNumber_36 : decode cX4_readNumber 36 = .ok (.iload_n 1, 1) := by decide +kernel
theorem dX4_readNumber_37 : decode cX4_readNumber 37 = .ok (.ireturn, 1) := by decide +kernel
theorem dX4_readNumber_38 : decode cX4_readNumber 38 = .ok (.aload_n 0, 1) := by decide +kernel
theorem dX4_readNumber_39 : decode cX4_readNumber 39 = .ok (.getfield 113, 3) := by decide +kernel
theorem dX4_readNumber_42 : decode cX4_readNumber 42 = .ok (.istore_n 3, 1) := by decide +kernel
theorem dX4_readNumber_43 : decode cX4_readNumber 43 = .ok (.aload_n 0, 1) := by decide +kernel
theorem dX4_readNumber_44 : decode cX4_readNumber 44 = .ok (.invokevirtual 50, 3) := by decide +kernel
theorem dX4_readNumber_47 : decode cX4_readNumber 47 = .ok (.iload_n 3, 1) := by decide +kernel
theorem dX4_readNumber_48 : decode cX4_readNumber 48 = .ok (.ireturn, 1) := by decide +kernel
theorem dX4_lineNamed_0 : decode cX4_lineNamed 0 = .ok (.aload_n 0, 1) := by decide +kernel
theorem dX4_lineNamed_1 : decode cX4_lineNamed 1 = .ok (.ldc 116, 2) := by decide +kernel
theorem dX4_lineNamed_3 : decode cX4_lineNamed 3 = .ok (.invokevirtual 117, 3) := by decide +kernel
theorem dX4_lineNamed_6 : decode cX4_lineNamed 6 = .ok (.ifCond .eq 5, 3) := by decide +kernel
theorem dX4_lineNamed_9 : decode cX4_lineNamed 9 = .ok (.iconst 0, 1) := by decide +kernel
theorem dX4_lineNamed_10 : decode cX4_lineNamed 10 = .ok (.ireturn, 1) := by decide +kernel
theorem dX4_lineNamed_11 : decode cX4_lineNamed 11 = .ok (.aload_n 0, 1) := by decide +kernel
theorem dX4_lineNamed_12 : decode cX4_lineNamed 12 = .ok (.ldc 121, 2) := by decide +kernel
theorem dX4_lineNamed_14 : decode cX4_lineNamed 14 = .ok (.invokevirtual 117, 3) := by decide +kernel
theorem dX4_lineNamed_17 : decode cX4_lineNamed 17 = .ok (.ifCond .eq 5, 3) := by decide +kernel
theorem dX4_lineNamed_20 : decode cX4_lineNamed 20 = .ok (.iconst 1, 1) := by decide +kernel
theorem dX4_lineNamed_21 : decode cX4_lineNamed 21 = .ok (.ireturn, 1) := by decide +kernel
theorem dX4_lineNamed_22 : decode cX4_lineNamed 22 = .ok (.aload_n 0, 1) := by decide +kernel
theorem dX4_lineNamed_23 : decode cX4_lineNamed 23 = .ok (.ldc 122, 2) := by decide +kernel
theorem dX4_lineNamed_25 : decode cX4_lineNamed 25 = .ok (.invokevirtual 117, 3) := by decide +kernel
theorem dX4_lineNamed_28 : decode cX4_lineNamed 28 = .ok (.ifCond .eq 5, 3) := by decide +kernel
theorem dX4_lineNamed_31 : decode cX4_lineNamed 31 = .ok (.iconst 2, 1) := by decide +kernel
theorem dX4_lineNamed_32 : decode cX4_lineNamed 32 = .ok (.ireturn, 1) := by decide +kernel
theorem dX4_lineNamed_33 : decode cX4_lineNamed 33 = .ok (.aload_n 0, 1) := by decide +kernel
theorem dX4_lineNamed_34 : decode cX4_lineNamed 34 = .ok (.ldc 124, 2) := by decide +kernel
theorem dX4_lineNamed_36 : decode cX4_lineNamed 36 = .ok (.invokevirtual 117, 3) := by decide +kernel
theorem dX4_lineNamed_39 : decode cX4_lineNamed 39 = .ok (.ifCond .eq 5, 3) := by decide +kernel
theorem dX4_lineNamed_42 : decode cX4_lineNamed 42 = .ok (.iconst 3, 1) := by decide +kernel
theorem dX4_lineNamed_43 : decode cX4_lineNamed 43 = .ok (.ireturn, 1) := by decide +kernel
theorem dX4_lineNamed_44 : decode cX4_lineNamed 44 = .ok (.aload_n 0, 1) := by decide +kernel
theorem dX4_lineNamed_45 : decode cX4_lineNamed 45 = .ok (.ldc 125, 2) := by decide +kernel
theorem dX4_lineNamed_47 : decode cX4_lineNamed 47 = .ok (.invokevirtual 117, 3) := by decide +kernel
theorem dX4_lineNamed_50 : decode cX4_lineNamed 50 = .ok (.ifCond .eq 5, 3) := by decide +kernel
theorem dX4_lineNamed_53 : decode cX4_lineNamed 53 = .ok (.iconst 4, 1) := by decide +kernel
theorem dX4_lineNamed_54 : decode cX4_lineNamed 54 = .ok (.ireturn, 1) := by decide +kernel
theorem dX4_lineNamed_55 : decode cX4_lineNamed 55 = .ok (.aload_n 0, 1) := by decide +kernel
theorem dX4_lineNamed_56 : decode cX4_lineNamed 56 = .ok (.ldc 126, 2) := by decide +kernel
theorem dX4_lineNamed_58 : decode cX4_lineNamed 58 = .ok (.invokevirtual 117, 3) := by decide +kernel
theorem dX4_lineNamed_61 : decode cX4_lineNamed 61 = .ok (.ifCond .eq 7, 3) := by decide +kernel
theorem dX4_lineNamed_64 : decode cX4_lineNamed 64 = .ok (.iconst 5, 1) := by decide +kernel
theorem dX4_lineNamed_65 : decode cX4_lineNamed 65 = .ok (.goto 4, 3) := by decide +kernel
theorem dX4_lineNamed_68 : decode cX4_lineNamed 68 = .ok (.iconst (-1), 1) := by decide +kernel
theorem dX4_lineNamed_69 : decode cX4_lineNamed 69 = .ok (.ireturn, 1) := by decide +kernel
theorem dX4_wayNamed_0 : decode cX4_wayNamed 0 = .ok (.aload_n 0, 1) := by decide +kernel
theorem dX4_wayNamed_1 : decode cX4_wayNamed 1 = .ok (.ldc 127, 2) := by decide +kernel
theorem dX4_wayNamed_3 : decode cX4_wayNamed 3 = .ok (.invokevirtual 117, 3) := by decide +kernel
theorem dX4_wayNamed_6 : decode cX4_wayNamed 6 = .ok (.ifCond .eq 5, 3) := by decide +kernel
theorem dX4_wayNamed_9 : decode cX4_wayNamed 9 = .ok (.iconst 0, 1) := by decide +kernel
theorem dX4_wayNamed_10 : decode cX4_wayNamed 10 = .ok (.ireturn, 1) := by decide +kernel
theorem dX4_wayNamed_11 : decode cX4_wayNamed 11 = .ok (.aload_n 0, 1) := by decide +kernel
theorem dX4_wayNamed_12 : decode cX4_wayNamed 12 = .ok (.ldc 121, 2) := by decide +kernel
theorem dX4_wayNamed_14 : decode cX4_wayNamed 14 = .ok (.invokevirtual 117, 3) := by decide +kernel
theorem dX4_wayNamed_17 : decode cX4_wayNamed 17 = .ok (.ifCond .eq 5, 3) := by decide +kernel
theorem dX4_wayNamed_20 : decode cX4_wayNamed 20 = .ok (.iconst 1, 1) := by decide +kernel
theorem dX4_wayNamed_21 : decode cX4_wayNamed 21 = .ok (.ireturn, 1) := by decide +kernel
theorem dX4_wayNamed_22 : decode cX4_wayNamed 22 = .ok (.aload_n 0, 1) := by decide +kernel
theorem dX4_wayNamed_23 : decode cX4_wayNamed 23 = .ok (.ldc 129, 2) := by decide +kernel
theorem dX4_wayNamed_25 : decode cX4_wayNamed 25 = .ok (.invokevirtual 117, 3) := by decide +kernel
theorem dX4_wayNamed_28 : decode cX4_wayNamed 28 = .ok (.ifCond .eq 7, 3) := by decide +kernel
theorem dX4_wayNamed_31 : decode cX4_wayNamed 31 = .ok (.iconst 2, 1) := by decide +kernel
theorem dX4_wayNamed_32 : decode cX4_wayNamed 32 = .ok (.goto 4, 3) := by decide +kernel
theorem dX4_wayNamed_35 : decode cX4_wayNamed 35 = .ok (.iconst (-1), 1) := by decide +kernel
theorem dX4_wayNamed_36 : decode cX4_wayNamed 36 = .ok (.ireturn, 1) := by decide +kernel
theorem dX4_isWord_0 : decode cX4_isWord 0 = .ok (.aload_n 0, 1) := by decide +kernel
theorem dX4_isWord_1 : decode cX4_isWord 1 = .ok (.getfield 53, 3) := by decide +kernel
theorem dX4_isWord_4 : decode cX4_isWord 4 = .ok (.iconst 1, 1) := by decide +kernel
theorem dX4_isWord_5 : decode cX4_isWord 5 = .ok (.if_icmp .ne 19, 3) := by decide +kernel
theorem dX4_isWord_8 : decode cX4_isWord 8 = .ok (.aload_n 0, 1) := by decide +kernel
theorem dX4_isWord_9 : decode cX4_isWord 9 = .ok (.getfield 41, 3) := by decide +kernel
theorem dX4_isWord_12 : decode cX4_isWord 12 = .ok (.aload_n 0, 1) := by decide +kernel
theorem dX4_isWord_13 : decode cX4_isWord 13 = .ok (.getfield 67, 3) := by decide +kernel
theorem dX4_isWord_16 : decode cX4_isWord 16 = .ok (.isub, 1) := by decide +kernel
theorem dX4_isWord_17 : decode cX4_isWord 17 = .ok (.aload_n 1, 1) := by decide +kernel
theorem dX4_isWord_18 : decode cX4_isWord 18 = .ok (.invokevirtual 131, 3) := by decide +kernel
theorem dX4_isWord_21 : decode cX4_isWord 21 = .ok (.if_icmp .eq 5, 3) := by decide +kernel
theorem dX4_isWord_24 : decode cX4_isWord 24 = .ok (.iconst 0, 1) := by decide +kernel
theorem dX4_isWord_25 : decode cX4_isWord 25 = .ok (.ireturn, 1) := by decide +kernel
theorem dX4_isWord_26 : decode cX4_isWord 26 = .ok (.iconst 0, 1) := by decide +kernel
theorem dX4_isWord_27 : decode cX4_isWord 27 = .ok (.istore_n 2, 1) := by decide +kernel
theorem dX4_isWord_28 : decode cX4_isWord 28 = .ok (.iload_n 2, 1) := by decide +kernel
theorem dX4_isWord_29 : decode cX4_isWord 29 = .ok (.aload_n 1, 1) := by decide +kernel
theorem dX4_isWord_30 : decode cX4_isWord 30 = .ok (.invokevirtual 131, 3) := by decide +kernel
theorem dX4_isWord_33 : decode cX4_isWord 33 = .ok (.if_icmp .ge 29, 3) := by decide +kernel
theorem dX4_isWord_36 : decode cX4_isWord 36 = .ok (.aload_n 0, 1) := by decide +kernel
theorem dX4_isWord_37 : decode cX4_isWord 37 = .ok (.aload_n 0, 1) := by decide +kernel
theorem dX4_isWord_38 : decode cX4_isWord 38 = .ok (.getfield 67, 3) := by decide +kernel
theorem dX4_isWord_41 : decode cX4_isWord 41 = .ok (.iload_n 2, 1) := by decide +kernel
theorem dX4_isWord_42 : decode cX4_isWord 42 = .ok (.iadd, 1) := by decide +kernel
theorem dX4_isWord_43 : decode cX4_isWord 43 = .ok (.invokevirtual 135, 3) := by decide +kernel
theorem dX4_isWord_46 : decode cX4_isWord 46 = .ok (.aload_n 1, 1) := by decide +kernel
theorem dX4_isWord_47 : decode cX4_isWord 47 = .ok (.iload_n 2, 1) := by decide +kernel
theorem dX4_isWord_48 : decode cX4_isWord 48 = .ok (.invokevirtual 139, 3) := by decide +kernel
theorem dX4_isWord_51 : decode cX4_isWord 51 = .ok (.if_icmp .eq 5, 3) := by decide +kernel
theorem dX4_isWord_54 : decode cX4_isWord 54 = .ok (.iconst 0, 1) := by decide +kernel
theorem dX4_isWord_55 : decode cX4_isWord 55 = .ok (.ireturn, 1) := by decide +kernel
theorem dX4_isWord_56 : decode cX4_isWord 56 = .ok (.iinc 2 1, 3) := by decide +kernel
theorem dX4_isWord_59 : decode cX4_isWord 59 = .ok (.goto (-31), 3) := by decide +kernel
theorem dX4_isWord_62 : decode cX4_isWord 62 = .ok (.iconst 1, 1) := by decide +kernel
theorem dX4_isWord_63 : decode cX4_isWord 63 = .ok (.ireturn, 1) := by decide +kernel
theorem dX4_advance_0 : decode cX4_advance 0 = .ok (.aload_n 0, 1) := by decide +kernel
theorem dX4_advance_1 : decode cX4_advance 1 = .ok (.aload_n 0, 1) := by decide +kernel
theorem dX4_advance_2 : decode cX4_advance 2 = .ok (.getfield 41, 3) := by decide +kernel
theorem dX4_advance_5 : decode cX4_advance 5 = .ok (.putfield 67, 3) := by decide +kernel
theorem dX4_advance_8 : decode cX4_advance 8 = .ok (.aload_n 0, 1) := by decide +kernel
theorem dX4_advance_9 : decode cX4_advance 9 = .ok (.getfield 67, 3) := by decide +kernel
theorem dX4_advance_12 : decode cX4_advance 12 = .ok (.aload_n 0, 1) := by decide +kernel
theorem dX4_advance_13 : decode cX4_advance 13 = .ok (.getfield 38, 3) := by decide +kernel
theorem dX4_advance_16 : decode cX4_advance 16 = .ok (.if_icmp .ge 30, 3) := by decide +kernel
theorem dX4_advance_19 : decode cX4_advance 19 = .ok (.aload_n 0, 1) := by decide +kernel
theorem dX4_advance_20 : decode cX4_advance 20 = .ok (.aload_n 0, 1) := by decide +kernel
theorem dX4_advance_21 : decode cX4_advance 21 = .ok (.getfield 67, 3) := by decide +kernel
theorem dX4_advance_24 : decode cX4_advance 24 = .ok (.invokevirtual 135, 3) := by decide +kernel
theorem dX4_advance_27 : decode cX4_advance 27 = .ok (.invokestatic 143, 3) := by decide +kernel
theorem dX4_advance_30 : decode cX4_advance 30 = .ok (.ifCond .eq 16, 3) := by decide +kernel
theorem dX4_advance_33 : decode cX4_advance 33 = .ok (.aload_n 0, 1) := by decide +kernel
theorem dX4_advance_34 : decode cX4_advance 34 = .ok (.dup, 1) := by decide +kernel
theorem dX4_advance_35 : decode cX4_advance 35 = .ok (.getfield 67, 3) := by decide +kernel
theorem dX4_advance_38 : decode cX4_advance 38 = .ok (.iconst 1, 1) := by decide +kernel
theorem dX4_advance_39 : decode cX4_advance 39 = .ok (.iadd, 1) := by decide +kernel
theorem dX4_advance_40 : decode cX4_advance 40 = .ok (.putfield 67, 3) := by decide +kernel
theorem dX4_advance_43 : decode cX4_advance 43 = .ok (.goto (-35), 3) := by decide +kernel
theorem dX4_advance_46 : decode cX4_advance 46 = .ok (.aload_n 0, 1) := by decide +kernel
theorem dX4_advance_47 : decode cX4_advance 47 = .ok (.aload_n 0, 1) := by decide +kernel
theorem dX4_advance_48 : decode cX4_advance 48 = .ok (.getfield 67, 3) := by decide +kernel
theorem dX4_advance_51 : decode cX4_advance 51 = .ok (.putfield 41, 3) := by decide +kernel
theorem dX4_advance_54 : decode cX4_advance 54 = .ok (.aload_n 0, 1) := by decide +kernel
theorem dX4_advance_55 : decode cX4_advance 55 = .ok (.getfield 67, 3) := by decide +kernel
theorem dX4_advance_58 : decode cX4_advance 58 = .ok (.aload_n 0, 1) := by decide +kernel
theorem dX4_advance_59 : decode cX4_advance 59 = .ok (.getfield 38, 3) := by decide +kernel
theorem dX4_advance_62 : decode cX4_advance 62 = .ok (.if_icmp .lt 9, 3) := by decide +kernel
theorem dX4_advance_65 : decode cX4_advance 65 = .ok (.aload_n 0, 1) := by decide +kernel
theorem dX4_advance_66 : decode cX4_advance 66 = .ok (.iconst 0, 1) := by decide +kernel
theorem dX4_advance_67 : decode cX4_advance 67 = .ok (.putfield 53, 3) := by decide +kernel
theorem dX4_advance_70 : decode cX4_advance 70 = .ok (.return_, 1) := by decide +kernel
theorem dX4_advance_71 : decode cX4_advance 71 = .ok (.aload_n 0, 1) := by decide +kernel
theorem dX4_advance_72 : decode cX4_advance 72 = .ok (.aload_n 0, 1) := by decide +kernel
theorem dX4_advance_73 : decode cX4_advance 73 = .ok (.getfield 67, 3) := by decide +kernel
theorem dX4_advance_76 : decode cX4_advance 76 = .ok (.invokevirtual 135, 3) := by decide +kernel
theorem dX4_advance_79 : decode cX4_advance 79 = .ok (.istore_n 1, 1) := by decide +kernel
theorem dX4_advance_80 : decode cX4_advance 80 = .ok (.iload_n 1, 1) := by decide +kernel
theorem dX4_advance_81 : decode cX4_advance 81 = .ok (.invokestatic 147, 3) := by decide +kernel
theorem dX4_advance_84 : decode cX4_advance 84 = .ok (.ifCond .eq 46, 3) := by decide +kernel
theorem dX4_advance_87 : decode cX4_advance 87 = .ok (.aload_n 0, 1) := by decide +kernel
theorem dX4_advance_88 : decode cX4_advance 88 = .ok (.iconst 1, 1) := by decide +kernel
theorem dX4_advance_89 : decode cX4_advance 89 = .ok (.putfield 53, 3) := by decide +kernel
theorem dX4_advance_92 : decode cX4_advance 92 = .ok (.aload_n 0, 1) := by decide +kernel
theorem dX4_advance_93 : decode cX4_advance 93 = .ok (.getfield 41, 3) := by decide +kernel
theorem dX4_advance_96 : decode cX4_advance 96 = .ok (.aload_n 0, 1) := by decide +kernel
theorem dX4_advance_97 : decode cX4_advance 97 = .ok (.getfield 38, 3) := by decide +kernel
theorem dX4_advance_100 : decode cX4_advance 100 = .ok (.if_icmp .ge 74, 3) := by decide +kernel
theorem dX4_advance_103 : decode cX4_advance 103 = .ok (.aload_n 0, 1) := by decide +kernel
theorem dX4_advance_104 : decode cX4_advance 104 = .ok (.aload_n 0, 1) := by decide +kernel
theorem dX4_advance_105 : decode cX4_advance 105 = .ok (.getfield 41, 3) := by decide +kernel
theorem dX4_advance_108 : decode cX4_advance 108 = .ok (.invokevirtual 135, 3) := by decide +kernel
theorem dX4_advance_111 : decode cX4_advance 111 = .ok (.invokestatic 147, 3) := by decide +kernel
theorem dX4_advance_114 : decode cX4_advance 114 = .ok (.ifCond .eq 60, 3) := by decide +kernel
theorem dX4_advance_117 : decode cX4_advance 117 = .ok (.aload_n 0, 1) := by decide +kernel
theorem dX4_advance_118 : decode cX4_advance 118 = .ok (.dup, 1) := by decide +kernel
theorem dX4_advance_119 : decode cX4_advance 119 = .ok (.getfield 41, 3) := by decide +kernel
theorem dX4_advance_122 : decode cX4_advance 122 = .ok (.iconst 1, 1) := by decide +kernel
theorem dX4_advance_123 : decode cX4_advance 123 = .ok (.iadd, 1) := by decide +kernel
theorem dX4_advance_124 : decode cX4_advance 124 = .ok (.putfield 41, 3) := by decide +kernel
theorem dX4_advance_127 : decode cX4_advance 127 = .ok (.goto (-35), 3) := by decide +kernel
theorem dX4_advance_130 : decode cX4_advance 130 = .ok (.iload_n 1, 1) := by decide +kernel
theorem dX4_advance_131 : decode cX4_advance 131 = .ok (.invokestatic 150, 3) := by decide +kernel
theorem dX4_advance_134 : decode cX4_advance 134 = .ok (.ifCond .eq 15, 3) := by decide +kernel
theorem dX4_advance_137 : decode cX4_advance 137 = .ok (.aload_n 0, 1) := by decide +kernel
theorem dX4_advance_138 : decode cX4_advance 138 = .ok (.iconst 2, 1) := by decide +kernel
theorem dX4_advance_139 : decode cX4_advance 139 = .ok (.putfield 53, 3) := by decide +kernel
theorem dX4_advance_142 : decode cX4_advance 142 = .ok (.aload_n 0, 1) := by decide +kernel
theorem dX4_advance_143 : decode cX4_advance 143 = .ok (.invokevirtual 153, 3) := by decide +kernel
theorem dX4_advance_146 : decode cX4_advance 146 = .ok (.goto 28, 3) := by decide +kernel
theorem dX4_advance_149 : decode cX4_advance 149 = .ok (.aload_n 0, 1) := by decide +kernel
theorem dX4_advance_150 : decode cX4_advance 150 = .ok (.iload_n 1, 1) := by decide +kernel
theorem dX4_advance_151 : decode cX4_advance 151 = .ok (.bipush 59, 2) := by decide +kernel
theorem dX4_advance_153 : decode cX4_advance 153 = .ok (.if_icmp .ne 7, 3) := by decide +kernel
theorem dX4_advance_156 : decode cX4_advance 156 = .ok (.iconst 3, 1) := by decide +kernel
theorem dX4_advance_157 : decode cX4_advance 157 = .ok (.goto 4, 3) := by decide +kernel
theorem dX4_advance_160 : decode cX4_advance 160 = .ok (.iconst 4, 1) := by decide +kernel
theorem dX4_advance_161 : decode cX4_advance 161 = .ok (.putfield 53, 3) := by decide +kernel
theorem dX4_advance_164 : decode cX4_advance 164 = .ok (.aload_n 0, 1) := by decide +kernel
theorem dX4_advance_165 : decode cX4_advance 165 = .ok (.aload_n 0, 1) := by decide +kernel
theorem dX4_advance_166 : decode cX4_advance 166 = .ok (.getfield 67, 3) := by decide +kernel
theorem dX4_advance_169 : decode cX4_advance 169 = .ok (.iconst 1, 1) := by decide +kernel
theorem dX4_advance_170 : decode cX4_advance 170 = .ok (.iadd, 1) := by decide +kernel
theorem dX4_advance_171 : decode cX4_advance 171 = .ok (.putfield 41, 3) := by decide +kernel
theorem dX4_advance_174 : decode cX4_advance 174 = .ok (.return_, 1) := by decide +kernel
theorem dX4_scanDigits_0 : decode cX4_scanDigits 0 = .ok (.aload_n 0, 1) := by decide +kernel
theorem dX4_scanDigits_1 : decode cX4_scanDigits 1 = .ok (.iconst 0, 1) := by decide +kernel
theorem dX4_scanDigits_2 : decode cX4_scanDigits 2 = .ok (.putfield 113, 3) := by decide +kernel
theorem dX4_scanDigits_5 : decode cX4_scanDigits 5 = .ok (.aload_n 0, 1) := by decide +kernel
theorem dX4_scanDigits_6 : decode cX4_scanDigits 6 = .ok (.getfield 41, 3) := by decide +kernel
theorem dX4_scanDigits_9 : decode cX4_scanDigits 9 = .ok (.aload_n 0, 1) := by decide +kernel
theorem dX4_scanDigits_10 : decode cX4_scanDigits 10 = .ok (.getfield 38, 3) := by decide +kernel
theorem dX4_scanDigits_13 : decode cX4_scanDigits 13 = .ok (.if_icmp .ge 58, 3) := by decide +kernel
theorem dX4_scanDigits_16 : decode cX4_scanDigits 16 = .ok (.aload_n 0, 1) := by decide +kernel
theorem dX4_scanDigits_17 : decode cX4_scanDigits 17 = .ok (.aload_n 0, 1) := by decide +kernel
theorem dX4_scanDigits_18 : decode cX4_scanDigits 18 = .ok (.getfield 41, 3) := by decide +kernel
theorem dX4_scanDigits_21 : decode cX4_scanDigits 21 = .ok (.invokevirtual 135, 3) := by decide +kernel
theorem dX4_scanDigits_24 : decode cX4_scanDigits 24 = .ok (.invokestatic 150, 3) := by decide +kernel
theorem dX4_scanDigits_27 : decode cX4_scanDigits 27 = .ok (.ifCond .eq 44, 3) := by decide +kernel
theorem dX4_scanDigits_30 : decode cX4_scanDigits 30 = .ok (.aload_n 0, 1) := by decide +kernel
theorem dX4_scanDigits_31 : decode cX4_scanDigits 31 = .ok (.ldc 156, 2) := by decide +kernel
theorem dX4_scanDigits_33 : decode cX4_scanDigits 33 = .ok (.aload_n 0, 1) := by decide +kernel
theorem dX4_scanDigits_34 : decode cX4_scanDigits 34 = .ok (.getfield 113, 3) := by decide +kernel
theorem dX4_scanDigits_37 : decode cX4_scanDigits 37 = .ok (.bipush 10, 2) := by decide +kernel
theorem dX4_scanDigits_39 : decode cX4_scanDigits 39 = .ok (.imul, 1) := by decide +kernel
theorem dX4_scanDigits_40 : decode cX4_scanDigits 40 = .ok (.aload_n 0, 1) := by decide +kernel
theorem dX4_scanDigits_41 : decode cX4_scanDigits 41 = .ok (.aload_n 0, 1) := by decide +kernel
theorem dX4_scanDigits_42 : decode cX4_scanDigits 42 = .ok (.getfield 41, 3) := by decide +kernel
theorem dX4_scanDigits_45 : decode cX4_scanDigits 45 = .ok (.invokevirtual 135, 3) := by decide +kernel
theorem dX4_scanDigits_48 : decode cX4_scanDigits 48 = .ok (.iadd, 1) := by decide +kernel
theorem dX4_scanDigits_49 : decode cX4_scanDigits 49 = .ok (.bipush 48, 2) := by decide +kernel
theorem dX4_scanDigits_51 : decode cX4_scanDigits 51 = .ok (.isub, 1) := by decide +kernel
theorem dX4_scanDigits_52 : decode cX4_scanDigits 52 = .ok (.invokestatic 32, 3) := by decide +kernel
theorem dX4_scanDigits_55 : decode cX4_scanDigits 55 = .ok (.putfield 113, 3) := by decide +kernel
theorem dX4_scanDigits_58 : decode cX4_scanDigits 58 = .ok (.aload_n 0, 1) := by decide +kernel
theorem dX4_scanDigits_59 : decode cX4_scanDigits 59 = .ok (.dup, 1) := by decide +kernel
theorem dX4_scanDigits_60 : decode cX4_scanDigits 60 = .ok (.getfield 41, 3) := by decide +kernel
theorem dX4_scanDigits_63 : decode cX4_scanDigits 63 = .ok (.iconst 1, 1) := by decide +kernel
theorem dX4_scanDigits_64 : decode cX4_scanDigits 64 = .ok (.iadd, 1) := by decide +kernel
theorem dX4_scanDigits_65 : decode cX4_scanDigits 65 = .ok (.putfield 41, 3) := by decide +kernel
theorem dX4_scanDigits_68 : decode cX4_scanDigits 68 = .ok (.goto (-63), 3) := by decide +kernel
theorem dX4_scanDigits_71 : decode cX4_scanDigits 71 = .ok (.return_, 1) := by decide +kernel
theorem dX4_signAt_0 : decode cX4_signAt 0 = .ok (.iload_n 1, 1) := by decide +kernel
theorem dX4_signAt_1 : decode cX4_signAt 1 = .ok (.ifCond .lt 24, 3) := by decide +kernel
theorem dX4_signAt_4 : decode cX4_signAt 4 = .ok (.iload_n 1, 1) := by decide +kernel
theorem dX4_signAt_5 : decode cX4_signAt 5 = .ok (.aload_n 0, 1) := by decide +kernel
theorem dX4_signAt_6 : decode cX4_signAt 6 = .ok (.getfield 38, 3) := by decide +kernel
theorem dX4_signAt_9 : decode cX4_signAt 9 = .ok (.if_icmp .ge 16, 3) := by decide +kernel
theorem dX4_signAt_12 : decode cX4_signAt 12 = .ok (.aload_n 0, 1) := by decide +kernel
theorem dX4_signAt_13 : decode cX4_signAt 13 = .ok (.getfield 25, 3) := by decide +kernel
theorem dX4_signAt_16 : decode cX4_signAt 16 = .ok (.iload_n 1, 1) := by decide +kernel
theorem dX4_signAt_17 : decode cX4_signAt 17 = .ok (.baload, 1) := by decide +kernel
theorem dX4_signAt_18 : decode cX4_signAt 18 = .ok (.sipush 255, 3) := by decide +kernel
theorem dX4_signAt_21 : decode cX4_signAt 21 = .ok (.iand, 1) := by decide +kernel
theorem dX4_signAt_22 : decode cX4_signAt 22 = .ok (.goto 4, 3) := by decide +kernel
theorem dX4_signAt_25 : decode cX4_signAt 25 = .ok (.iconst 0, 1) := by decide +kernel
theorem dX4_signAt_26 : decode cX4_signAt 26 = .ok (.ireturn, 1) := by decide +kernel
theorem dX4_isBlank_0 : decode cX4_isBlank 0 = .ok (.iload_n 0, 1) := by decide +kernel
theorem dX4_isBlank_1 : decode cX4_isBlank 1 = .ok (.bipush 10, 2) := by decide +kernel
theorem dX4_isBlank_3 : decode cX4_isBlank 3 = .ok (.if_icmp .eq 9, 3) := by decide +kernel
theorem dX4_isBlank_6 : decode cX4_isBlank 6 = .ok (.iload_n 0, 1) := by decide +kernel
theorem dX4_isBlank_7 : decode cX4_isBlank 7 = .ok (.bipush 32, 2) := by decide +kernel
theorem dX4_isBlank_9 : decode cX4_isBlank 9 = .ok (.if_icmp .ne 7, 3) := by decide +kernel
theorem dX4_isBlank_12 : decode cX4_isBlank 12 = .ok (.iconst 1, 1) := by decide +kernel
theorem dX4_isBlank_13 : decode cX4_isBlank 13 = .ok (.goto 4, 3) := by decide +kernel
theorem dX4_isBlank_16 : decode cX4_isBlank 16 = .ok (.iconst 0, 1) := by decide +kernel
theorem dX4_isBlank_17 : decode cX4_isBlank 17 = .ok (.ireturn, 1) := by decide +kernel
theorem dX4_isLetter_0 : decode cX4_isLetter 0 = .ok (.iload_n 0, 1) := by decide +kernel
theorem dX4_isLetter_1 : decode cX4_isLetter 1 = .ok (.bipush 97, 2) := by decide +kernel
theorem dX4_isLetter_3 : decode cX4_isLetter 3 = .ok (.if_icmp .lt 13, 3) := by decide +kernel
theorem dX4_isLetter_6 : decode cX4_isLetter 6 = .ok (.iload_n 0, 1) := by decide +kernel
theorem dX4_isLetter_7 : decode cX4_isLetter 7 = .ok (.bipush 122, 2) := by decide +kernel
theorem dX4_isLetter_9 : decode cX4_isLetter 9 = .ok (.if_icmp .gt 7, 3) := by decide +kernel
theorem dX4_isLetter_12 : decode cX4_isLetter 12 = .ok (.iconst 1, 1) := by decide +kernel
theorem dX4_isLetter_13 : decode cX4_isLetter 13 = .ok (.goto 4, 3) := by decide +kernel
theorem dX4_isLetter_16 : decode cX4_isLetter 16 = .ok (.iconst 0, 1) := by decide +kernel
theorem dX4_isLetter_17 : decode cX4_isLetter 17 = .ok (.ireturn, 1) := by decide +kernel
theorem dX4_isDigit_0 : decode cX4_isDigit 0 = .ok (.iload_n 0, 1) := by decide +kernel
theorem dX4_isDigit_1 : decode cX4_isDigit 1 = .ok (.bipush 48, 2) := by decide +kernel
theorem dX4_isDigit_3 : decode cX4_isDigit 3 = .ok (.if_icmp .lt 13, 3) := by decide +kernel
theorem dX4_isDigit_6 : decode cX4_isDigit 6 = .ok (.iload_n 0, 1) := by decide +kernel
theorem dX4_isDigit_7 : decode cX4_isDigit 7 = .ok (.bipush 57, 2) := by decide +kernel
theorem dX4_isDigit_9 : decode cX4_isDigit 9 = .ok (.if_icmp .gt 7, 3) := by decide +kernel
theorem dX4_isDigit_12 : decode cX4_isDigit 12 = .ok (.iconst 1, 1) := by decide +kernel
theorem dX4_isDigit_13 : decode cX4_isDigit 13 = .ok (.goto 4, 3) := by decide +kernel
theorem dX4_isDigit_16 : decode cX4_isDigit 16 = .ok (.iconst 0, 1) := by decide +kernel
theorem dX4_isDigit_17 : decode cX4_isDigit 17 = .ok (.ireturn, 1) := by decide +kernel
theorem dX5_init_0 : decode cX5_init 0 = .ok (.aload_n 0, 1) := by decide +kernel
theorem dX5_init_1 : decode cX5_init 1 = .ok (.invokespecial 3, 3) := by decide +kernel
theorem dX5_init_4 : decode cX5_init 4 = .ok (.aload_n 0, 1) := by decide +kernel
theorem dX5_init_5 : decode cX5_init 5 = .ok (.bipush 8, 2) := by decide +kernel
theorem dX5_init_7 : decode cX5_init 7 = .ok (.newarray .int, 2) := by decide +kernel
theorem dX5_init_9 : decode cX5_init 9 = .ok (.putfield 11, 3) := by decide +kernel
theorem dX5_init_12 : decode cX5_init 12 = .ok (.aload_n 0, 1) := by decide +kernel
theorem dX5_init_13 : decode cX5_init 13 = .ok (.invokevirtual 15, 3) := by decide +kernel
theorem dX5_init_16 : decode cX5_init 16 = .ok (.return_, 1) := by decide +kernel
theorem dX5_sayNothing_0 : decode cX5_sayNothing 0 = .ok (.aload_n 0, 1) := by decide +kernel
theorem dX5_sayNothing_1 : decode cX5_sayNothing 1 = .ok (.getfield 11, 3) := by decide +kernel
theorem dX5_sayNothing_4 : decode cX5_sayNothing 4 = .ok (.iconst 0, 1) := by decide +kernel
theorem dX5_sayNothing_5 : decode cX5_sayNothing 5 = .ok (.iconst 2, 1) := by decide +kernel
theorem dX5_sayNothing_6 : decode cX5_sayNothing 6 = .ok (.iastore, 1) := by decide +kernel
theorem dX5_sayNothing_7 : decode cX5_sayNothing 7 = .ok (.aload_n 0, 1) := by decide +kernel
theorem dX5_sayNothing_8 : decode cX5_sayNothing 8 = .ok (.iconst 1, 1) := by decide +kernel
theorem dX5_sayNothing_9 : decode cX5_sayNothing 9 = .ok (.putfield 18, 3) := by decide +kernel
theorem dX5_sayNothing_12 : decode cX5_sayNothing 12 = .ok (.aload_n 0, 1) := by decide +kernel
theorem dX5_sayNothing_13 : decode cX5_sayNothing 13 = .ok (.iconst 0, 1) := by decide +kernel
theorem dX5_sayNothing_14 : decode cX5_sayNothing 14 = .ok (.putfield 22, 3) := by decide +kernel
theorem dX5_sayNothing_17 : decode cX5_sayNothing 17 = .ok (.aload_n 0, 1) := by decide +kernel
theorem dX5_sayNothing_18 : decode cX5_sayNothing 18 = .ok (.bipush 100, 2) := by decide +kernel
theorem dX5_sayNothing_20 : decode cX5_sayNothing 20 = .ok (.putfield 25, 3) := by decide +kernel
theorem dX5_sayNothing_23 : decode cX5_sayNothing 23 = .ok (.aload_n 0, 1) := by decide +kernel
theorem dX5_sayNothing_24 : decode cX5_sayNothing 24 = .ok (.bipush 7, 2) := by decide +kernel
theorem dX5_sayNothing_26 : decode cX5_sayNothing 26 = .ok (.putfield 28, 3) := by decide +kernel
theorem dX5_sayNothing_29 : decode cX5_sayNothing 29 = .ok (.aload_n 0, 1) := by decide +kernel
theorem dX5_sayNothing_30 : decode cX5_sayNothing 30 = .ok (.bipush 14, 2) := by decide +kernel
theorem dX5_sayNothing_32 : decode cX5_sayNothing 32 = .ok (.putfield 31, 3) := by decide +kernel
theorem dX5_sayNothing_35 : decode cX5_sayNothing 35 = .ok (.aload_n 0, 1) := by decide +kernel
theorem dX5_sayNothing_36 : decode cX5_sayNothing 36 = .ok (.iconst 3, 1) := by decide +kernel
theorem dX5_sayNothing_37 : decode cX5_sayNothing 37 = .ok (.putfield 34, 3) := by decide +kernel
theorem dX5_sayNothing_40 : decode cX5_sayNothing 40 = .ok (.aload_n 0, 1) := by decide +kernel
theorem dX5_sayNothing_41 : decode cX5_sayNothing 41 = .ok (.iconst 1, 1) := by decide +kernel
theorem dX5_sayNothing_42 : decode cX5_sayNothing 42 = .ok (.putfield 37, 3) := by decide +kernel
theorem dX5_sayNothing_45 : decode cX5_sayNothing 45 = .ok (.aload_n 0, 1) := by decide +kernel
theorem dX5_sayNothing_46 : decode cX5_sayNothing 46 = .ok (.bipush 8, 2) := by decide +kernel
theorem dX5_sayNothing_48 : decode cX5_sayNothing 48 = .ok (.putfield 40, 3) := by decide +kernel
theorem dX5_sayNothing_51 : decode cX5_sayNothing 51 = .ok (.return_, 1) := by decide +kernel
theorem dX5_takeOver_0 : decode cX5_takeOver 0 = .ok (.aload_n 1, 1) := by decide +kernel
theorem dX5_takeOver_1 : decode cX5_takeOver 1 = .ok (.getfield 11, 3) := by decide +kernel
theorem dX5_takeOver_4 : decode cX5_takeOver 4 = .ok (.iconst 0, 1) := by decide +kernel
theorem dX5_takeOver_5 : decode cX5_takeOver 5 = .ok (.aload_n 0, 1) := by decide +kernel
theorem dX5_takeOver_6 : decode cX5_takeOver 6 = .ok (.getfield 11, 3) := by decide +kernel
theorem dX5_takeOver_9 : decode cX5_takeOver 9 = .ok (.iconst 0, 1) := by decide +kernel
theorem dX5_takeOver_10 : decode cX5_takeOver 10 = .ok (.bipush 8, 2) := by decide +kernel
theorem dX5_takeOver_12 : decode cX5_takeOver 12 = .ok (.invokestatic 43, 3) := by decide +kernel
theorem dX5_takeOver_15 : decode cX5_takeOver 15 = .ok (.aload_n 0, 1) := by decide +kernel
theorem dX5_takeOver_16 : decode cX5_takeOver 16 = .ok (.aload_n 1, 1) := by decide +kernel
theorem dX5_takeOver_17 : decode cX5_takeOver 17 = .ok (.getfield 18, 3) := by decide +kernel
theorem dX5_takeOver_20 : decode cX5_takeOver 20 = .ok (.putfield 18, 3) := by decide +kernel
theorem dX5_takeOver_23 : decode cX5_takeOver 23 = .ok (.aload_n 0, 1) := by decide +kernel
theorem dX5_takeOver_24 : decode cX5_takeOver 24 = .ok (.iconst 0, 1) := by decide +kernel
theorem dX5_takeOver_25 : decode cX5_takeOver 25 = .ok (.putfield 22, 3) := by decide +kernel
theorem dX5_takeOver_28 : decode cX5_takeOver 28 = .ok (.aload_n 0, 1) := by decide +kernel
theorem dX5_takeOver_29 : decode cX5_takeOver 29 = .ok (.aload_n 1, 1) := by decide +kernel
theorem dX5_takeOver_30 : decode cX5_takeOver 30 = .ok (.getfield 25, 3) := by decide +kernel
theorem dX5_takeOver_33 : decode cX5_takeOver 33 = .ok (.putfield 25, 3) := by decide +kernel
theorem dX5_takeOver_36 : decode cX5_takeOver 36 = .ok (.aload_n 0, 1) := by decide +kernel
theorem dX5_takeOver_37 : decode cX5_takeOver 37 = .ok (.aload_n 1, 1) := by decide +kernel
theorem dX5_takeOver_38 : decode cX5_takeOver 38 = .ok (.getfield 28, 3) := by decide +kernel
theorem dX5_takeOver_41 : decode cX5_takeOver 41 = .ok (.putfield 28, 3) := by decide +kernel
theorem dX5_takeOver_44 : decode cX5_takeOver 44 = .ok (.aload_n 0, 1) := by decide +kernel
theorem dX5_takeOver_45 : decode cX5_takeOver 45 = .ok (.aload_n 1, 1) := by decide +kernel
theorem dX5_takeOver_46 : decode cX5_takeOver 46 = .ok (.getfield 31, 3) := by decide +kernel
theorem dX5_takeOver_49 : decode cX5_takeOver 49 = .ok (.putfield 31, 3) := by decide +kernel
theorem dX5_takeOver_52 : decode cX5_takeOver 52 = .ok (.aload_n 0, 1) := by decide +kernel
theorem dX5_takeOver_53 : decode cX5_takeOver 53 = .ok (.aload_n 1, 1) := by decide +kernel
theorem dX5_takeOver_54 : decode cX5_takeOver 54 = .ok (.getfield 34, 3) := by decide +kernel
theorem dX5_takeOver_57 : decode cX5_takeOver 57 = .ok (.putfield 34, 3) := by decide +kernel
theorem dX5_takeOver_60 : decode cX5_takeOver 60 = .ok (.aload_n 0, 1) := by decide +kernel
theorem dX5_takeOver_61 : decode cX5_takeOver 61 = .ok (.aload_n 1, 1) := by decide +kernel
theorem dX5_takeOver_62 : decode cX5_takeOver 62 = .ok (.getfield 37, 3) := by decide +kernel
theorem dX5_takeOver_65 : decode cX5_takeOver 65 = .ok (.putfield 37, 3) := by decide +kernel
theorem dX5_takeOver_68 : decode cX5_takeOver 68 = .ok (.aload_n 0, 1) := by decide +kernel
theorem dX5_takeOver_69 : decode cX5_takeOver 69 = .ok (.aload_n 1, 1) := by decide +kernel
theorem dX5_takeOver_70 : decode cX5_takeOver 70 = .ok (.getfield 40, 3) := by decide +kernel
theorem dX5_takeOver_73 : decode cX5_takeOver 73 = .ok (.putfield 40, 3) := by decide +kernel
theorem dX5_takeOver_76 : decode cX5_takeOver 76 = .ok (.return_, 1) := by decide +kernel
theorem dX5_wayNext_0 : decode cX5_wayNext 0 = .ok (.aload_n 0, 1) := by decide +kernel
theorem dX5_wayNext_1 : decode cX5_wayNext 1 = .ok (.getfield 22, 3) := by decide +kernel
theorem dX5_wayNext_4 : decode cX5_wayNext 4 = .ok (.ifCond .lt 24, 3) := by decide +kernel
theorem dX5_wayNext_7 : decode cX5_wayNext 7 = .ok (.aload_n 0, 1) := by decide +kernel
theorem dX5_wayNext_8 : decode cX5_wayNext 8 = .ok (.getfield 22, 3) := by decide +kernel
theorem dX5_wayNext_11 : decode cX5_wayNext 11 = .ok (.bipush 8, 2) := by decide +kernel
theorem dX5_wayNext_13 : decode cX5_wayNext 13 = .ok (.if_icmp .ge 15, 3) := by decide +kernel
theorem dX5_wayNext_16 : decode cX5_wayNext 16 = .ok (.aload_n 0, 1) := by decide +kernel
theorem dX5_wayNext_17 : decode cX5_wayNext 17 = .ok (.getfield 11, 3) := by decide +kernel
theorem dX5_wayNext_20 : decode cX5_wayNext 20 = .ok (.aload_n 0, 1) := by decide +kernel
theorem dX5_wayNext_21 : decode cX5_wayNext 21 = .ok (.getfield 22, 3) := by decide +kernel
theorem dX5_wayNext_24 : decode cX5_wayNext 24 = .ok (.iaload, 1) := by decide +kernel
theorem dX5_wayNext_25 : decode cX5_wayNext 25 = .ok (.goto 4, 3) := by decide +kernel
theorem dX5_wayNext_28 : decode cX5_wayNext 28 = .ok (.iconst 2, 1) := by decide +kernel
theorem dX5_wayNext_29 : decode cX5_wayNext 29 = .ok (.ireturn, 1) := by decide +kernel
theorem dX5_goOn_0 : decode cX5_goOn 0 = .ok (.aload_n 0, 1) := by decide +kernel
theorem dX5_goOn_1 : decode cX5_goOn 1 = .ok (.aload_n 0, 1) := by decide +kernel
theorem dX5_goOn_2 : decode cX5_goOn 2 = .ok (.getfield 22, 3) := by decide +kernel
theorem dX5_goOn_5 : decode cX5_goOn 5 = .ok (.iconst 1, 1) := by decide +kernel
theorem dX5_goOn_6 : decode cX5_goOn 6 = .ok (.iadd, 1) := by decide +kernel
theorem dX5_goOn_7 : decode cX5_goOn 7 = .ok (.aload_n 0, 1) := by decide +kernel
theorem dX5_goOn_8 : decode cX5_goOn 8 = .ok (.getfield 18, 3) := by decide +kernel
theorem dX5_goOn_11 : decode cX5_goOn 11 = .ok (.if_icmp .ge 12, 3) := by decide +kernel
theorem dX5_goOn_14 : decode cX5_goOn 14 = .ok (.aload_n 0, 1) := by decide +kernel
theorem dX5_goOn_15 : decode cX5_goOn 15 = .ok (.getfield 22, 3) := by decide +kernel
theorem dX5_goOn_18 : decode cX5_goOn 18 = .ok (.iconst 1, 1) := by decide +kernel
theorem dX5_goOn_19 : decode cX5_goOn 19 = .ok (.iadd, 1) := by decide +kernel
theorem dX5_goOn_20 : decode cX5_goOn 20 = .ok (.goto 4, 3) := by decide +kernel
theorem dX5_goOn_23 : decode cX5_goOn 23 = .ok (.iconst 0, 1) := by decide +kernel
theorem dX5_goOn_24 : decode cX5_goOn 24 = .ok (.putfield 22, 3) := by decide +kernel
theorem dX5_goOn_27 : decode cX5_goOn 27 = .ok (.return_, 1) := by decide +kernel
theorem dX6_init_0 : decode cX6_init 0 = .ok (.aload_n 0, 1) := by decide +kernel
theorem dX6_init_1 : decode cX6_init 1 = .ok (.invokespecial 3, 3) := by decide +kernel
theorem dX6_init_4 : decode cX6_init 4 = .ok (.aload_n 0, 1) := by decide +kernel
theorem dX6_init_5 : decode cX6_init 5 = .ok (.bipush 40, 2) := by decide +kernel
theorem dX6_init_7 : decode cX6_init 7 = .ok (.newarray .int, 2) := by decide +kernel
theorem dX6_init_9 : decode cX6_init 9 = .ok (.putfield 11, 3) := by decide +kernel
theorem dX6_init_12 : decode cX6_init 12 = .ok (.aload_n 0, 1) := by decide +kernel
theorem dX6_init_13 : decode cX6_init 13 = .ok (.bipush 40, 2) := by decide +kernel
theorem dX6_init_15 : decode cX6_init 15 = .ok (.newarray .int, 2) := by decide +kernel
theorem dX6_init_17 : decode cX6_init 17 = .ok (.putfield 15, 3) := by decide +kernel
theorem dX6_init_20 : decode cX6_init 20 = .ok (.aload_n 0, 1) := by decide +kernel
theorem dX6_init_21 : decode cX6_init 21 = .ok (.bipush 40, 2) := by decide +kernel
theorem dX6_init_23 : decode cX6_init 23 = .ok (.newarray .boolean, 2) := by decide +kernel
theorem dX6_init_25 : decode cX6_init 25 = .ok (.putfield 18, 3) := by decide +kernel
theorem dX6_init_28 : decode cX6_init 28 = .ok (.aload_n 0, 1) := by decide +kernel
theorem dX6_init_29 : decode cX6_init 29 = .ok (.bipush 40, 2) := by decide +kernel
theorem dX6_init_31 : decode cX6_init 31 = .ok (.newarray .int, 2) := by decide +kernel
theorem dX6_init_33 : decode cX6_init 33 = .ok (.putfield 22, 3) := by decide +kernel
theorem dX6_init_36 : decode cX6_init 36 = .ok (.return_, 1) := by decide +kernel
theorem dX6_has_0 : decode cX6_has 0 = .ok (.iload_n 1, 1) := by decide +kernel
theorem dX6_has_1 : decode cX6_has 1 = .ok (.ifCond .lt 15, 3) := by decide +kernel
theorem dX6_has_4 : decode cX6_has 4 = .ok (.iload_n 1, 1) := by decide +kernel
theorem dX6_has_5 : decode cX6_has 5 = .ok (.aload_n 0, 1) := by decide +kernel
theorem dX6_has_6 : decode cX6_has 6 = .ok (.getfield 25, 3) := by decide +kernel
theorem dX6_has_9 : decode cX6_has 9 = .ok (.if_icmp .ge 7, 3) := by decide +kernel
theorem dX6_has_12 : decode cX6_has 12 = .ok (.iconst 1, 1) := by decide +kernel
theorem dX6_has_13 : decode cX6_has 13 = .ok (.goto 4, 3) := by decide +kernel
theorem dX6_has_16 : decode cX6_has 16 = .ok (.iconst 0, 1) := by decide +kernel
theorem dX6_has_17 : decode cX6_has 17 = .ok (.ireturn, 1) := by decide +kernel
theorem dX6_cut_0 : decode cX6_cut 0 = .ok (.aload_n 0, 1) := by decide +kernel
theorem dX6_cut_1 : decode cX6_cut 1 = .ok (.getfield 25, 3) := by decide +kernel
theorem dX6_cut_4 : decode cX6_cut 4 = .ok (.bipush 40, 2) := by decide +kernel
theorem dX6_cut_6 : decode cX6_cut 6 = .ok (.if_icmp .lt 5, 3) := by decide +kernel
theorem dX6_cut_9 : decode cX6_cut 9 = .ok (.iconst (-1), 1) := by decide +kernel
theorem dX6_cut_10 : decode cX6_cut 10 = .ok (.ireturn, 1) := by decide +kernel
theorem dX6_cut_11 : decode cX6_cut 11 = .ok (.aload_n 0, 1) := by decide +kernel
theorem dX6_cut_12 : decode cX6_cut 12 = .ok (.getfield 11, 3) := by decide +kernel
theorem dX6_cut_15 : decode cX6_cut 15 = .ok (.aload_n 0, 1) := by decide +kernel
theorem dX6_cut_16 : decode cX6_cut 16 = .ok (.getfield 25, 3) := by decide +kernel
theorem dX6_cut_19 : decode cX6_cut 19 = .ok (.iload_n 1, 1) := by decide +kernel
theorem dX6_cut_20 : decode cX6_cut 20 = .ok (.iastore, 1) := by decide +kernel
theorem dX6_cut_21 : decode cX6_cut 21 = .ok (.aload_n 0, 1) := by decide +kernel
theorem dX6_cut_22 : decode cX6_cut 22 = .ok (.getfield 15, 3) := by decide +kernel
theorem dX6_cut_25 : decode cX6_cut 25 = .ok (.aload_n 0, 1) := by decide +kernel
theorem dX6_cut_26 : decode cX6_cut 26 = .ok (.getfield 25, 3) := by decide +kernel
theorem dX6_cut_29 : decode cX6_cut 29 = .ok (.iconst 0, 1) := by decide +kernel
theorem dX6_cut_30 : decode cX6_cut 30 = .ok (.iastore, 1) := by decide +kernel
theorem dX6_cut_31 : decode cX6_cut 31 = .ok (.aload_n 0, 1) := by decide +kernel
theorem dX6_cut_32 : decode cX6_cut 32 = .ok (.getfield 18, 3) := by decide +kernel
theorem dX6_cut_35 : decode cX6_cut 35 = .ok (.aload_n 0, 1) := by decide +kernel
theorem dX6_cut_36 : decode cX6_cut 36 = .ok (.getfield 25, 3) := by decide +kernel
theorem dX6_cut_39 : decode cX6_cut 39 = .ok (.iconst 0, 1) := by decide +kernel
theorem dX6_cut_40 : decode cX6_cut 40 = .ok (.bastore, 1) := by decide +kernel
theorem dX6_cut_41 : decode cX6_cut 41 = .ok (.aload_n 0, 1) := by decide +kernel
theorem dX6_cut_42 : decode cX6_cut 42 = .ok (.getfield 22, 3) := by decide +kernel
theorem dX6_cut_45 : decode cX6_cut 45 = .ok (.aload_n 0, 1) := by decide +kernel
theorem dX6_cut_46 : decode cX6_cut 46 = .ok (.getfield 25, 3) := by decide +kernel
theorem dX6_cut_49 : decode cX6_cut 49 = .ok (.iconst (-1), 1) := by decide +kernel
theorem dX6_cut_50 : decode cX6_cut 50 = .ok (.iastore, 1) := by decide +kernel
theorem dX6_cut_51 : decode cX6_cut 51 = .ok (.aload_n 0, 1) := by decide +kernel
theorem dX6_cut_52 : decode cX6_cut 52 = .ok (.dup, 1) := by decide +kernel
theorem dX6_cut_53 : decode cX6_cut 53 = .ok (.getfield 25, 3) := by decide +kernel
theorem dX6_cut_56 : decode cX6_cut 56 = .ok (.iconst 1, 1) := by decide +kernel
theorem dX6_cut_57 : decode cX6_cut 57 = .ok (.iadd, 1) := by decide +kernel
theorem dX6_cut_58 : decode cX6_cut 58 = .ok (.putfield 25, 3) := by decide +kernel
theorem dX6_cut_61 : decode cX6_cut 61 = .ok (.aload_n 0, 1) := by decide +kernel
theorem dX6_cut_62 : decode cX6_cut 62 = .ok (.getfield 25, 3) := by decide +kernel
theorem dX6_cut_65 : decode cX6_cut 65 = .ok (.iconst 1, 1) := by decide +kernel
theorem dX6_cut_66 : decode cX6_cut 66 = .ok (.isub, 1) := by decide +kernel
theorem dX6_cut_67 : decode cX6_cut 67 = .ok (.ireturn, 1) := by decide +kernel
theorem dX6_wearOut_0 : decode cX6_wearOut 0 = .ok (.aload_n 0, 1) := by decide +kernel
theorem dX6_wearOut_1 : decode cX6_wearOut 1 = .ok (.iload_n 1, 1) := by decide +kernel
theorem dX6_wearOut_2 : decode cX6_wearOut 2 = .ok (.invokevirtual 29, 3) := by decide +kernel
theorem dX6_wearOut_5 : decode cX6_wearOut 5 = .ok (.ifCond .ne 5, 3) := by decide +kernel
theorem dX6_wearOut_8 : decode cX6_wearOut 8 = .ok (.iconst 0, 1) := by decide +kernel
theorem dX6_wearOut_9 : decode cX6_wearOut 9 = .ok (.ireturn, 1) := by decide +kernel
theorem dX6_wearOut_10 : decode cX6_wearOut 10 = .ok (.aload_n 0, 1) := by decide +kernel
theorem dX6_wearOut_11 : decode cX6_wearOut 11 = .ok (.getfield 15, 3) := by decide +kernel
theorem dX6_wearOut_14 : decode cX6_wearOut 14 = .ok (.iload_n 1, 1) := by decide +kernel
theorem dX6_wearOut_15 : decode cX6_wearOut 15 = .ok (.dup2, 1) := by decide +kernel
theorem dX6_wearOut_16 : decode cX6_wearOut 16 = .ok (.iaload, 1) := by decide +kernel
theorem dX6_wearOut_17 : decode cX6_wearOut 17 = .ok (.iconst 1, 1) := by decide +kernel
theorem dX6_wearOut_18 : decode cX6_wearOut 18 = .ok (.iadd, 1) := by decide +kernel
theorem dX6_wearOut_19 : decode cX6_wearOut 19 = .ok (.iastore, 1) := by decide +kernel
theorem dX6_wearOut_20 : decode cX6_wearOut 20 = .ok (.aload_n 0, 1) := by decide +kernel
theorem dX6_wearOut_21 : decode cX6_wearOut 21 = .ok (.getfield 15, 3) := by decide +kernel
theorem dX6_wearOut_24 : decode cX6_wearOut 24 = .ok (.iload_n 1, 1) := by decide +kernel
theorem dX6_wearOut_25 : decode cX6_wearOut 25 = .ok (.iaload, 1) := by decide +kernel
theorem dX6_wearOut_26 : decode cX6_wearOut 26 = .ok (.iload_n 2, 1) := by decide +kernel
theorem dX6_wearOut_27 : decode cX6_wearOut 27 = .ok (.if_icmp .lt 10, 3) := by decide +kernel
theorem dX6_wearOut_30 : decode cX6_wearOut 30 = .ok (.aload_n 0, 1) := by decide +kernel
theorem dX6_wearOut_31 : decode cX6_wearOut 31 = .ok (.getfield 18, 3) := by decide +kernel
theorem dX6_wearOut_34 : decode cX6_wearOut 34 = .ok (.iload_n 1, 1) := by decide +kernel
theorem dX6_wearOut_35 : decode cX6_wearOut 35 = .ok (.iconst 1, 1) := by decide +kernel
theorem dX6_wearOut_36 : decode cX6_wearOut 36 = .ok (.bastore, 1) := by decide +kernel
theorem dX6_wearOut_37 : decode cX6_wearOut 37 = .ok (.aload_n 0, 1) := by decide +kernel
theorem dX6_wearOut_38 : decode cX6_wearOut 38 = .ok (.getfield 18, 3) := by decide +kernel
theorem dX6_wearOut_41 : decode cX6_wearOut 41 = .ok (.iload_n 1, 1) := by decide +kernel
theorem dX6_wearOut_42 : decode cX6_wearOut 42 = .ok (.baload, 1) := by decide +kernel
theorem dX6_wearOut_43 : decode cX6_wearOut 43 = .ok (.ireturn, 1) := by decide +kernel
theorem dX6_fitting_0 : decode cX6_fitting 0 = .ok (.lconst 0, 1) := by decide +kernel
theorem dX6_fitting_1 : decode cX6_fitting 1 = .ok (.lstore_n 3, 1) := by decide +kernel
theorem dX6_fitting_2 : decode cX6_fitting 2 = .ok (.iconst 0, 1) := by decide +kernel
theorem dX6_fitting_3 : decode cX6_fitting 3 = .ok (.istore 5, 2) := by decide +kernel
theorem dX6_fitting_5 : decode cX6_fitting 5 = .ok (.iload 5, 2) := by decide +kernel
theorem dX6_fitting_7 : decode cX6_fitting 7 = .ok (.aload_n 0, 1) := by decide +kernel
theorem dX6_fitting_8 : decode cX6_fitting 8 = .ok (.getfield 25, 3) := by decide +kernel
theorem dX6_fitting_11 : decode cX6_fitting 11 = .ok (.if_icmp .ge 50, 3) := by decide +kernel
theorem dX6_fitting_14 : decode cX6_fitting 14 = .ok (.aload_n 0, 1) := by decide +kernel
theorem dX6_fitting_15 : decode cX6_fitting 15 = .ok (.getfield 18, 3) := by decide +kernel
theorem dX6_fitting_18 : decode cX6_fitting 18 = .ok (.iload 5, 2) := by decide +kernel
theorem dX6_fitting_20 : decode cX6_fitting 20 = .ok (.baload, 1) := by decide +kernel
theorem dX6_fitting_21 : decode cX6_fitting 21 = .ok (.ifCond .ne 34, 3) := by decide +kernel
theorem dX6_fitting_24 : decode cX6_fitting 24 = .ok (.aload_n 0, 1) := by decide +kernel
theorem dX6_fitting_25 : decode cX6_fitting 25 = .ok (.getfield 11, 3) := by decide +kernel
theorem dX6_fitting_28 : decode cX6_fitting 28 = .ok (.iload 5, 2) := by decide +kernel
theorem dX6_fitting_30 : decode cX6_fitting 30 = .ok (.iaload, 1) := by decide +kernel
theorem dX6_fitting_31 : decode cX6_fitting 31 = .ok (.iload_n 1, 1) := by decide +kernel
theorem dX6_fitting_32 : decode cX6_fitting 32 = .ok (.if_icmp .lt 23, 3) := by decide +kernel
theorem dX6_fitting_35 : decode cX6_fitting 35 = .ok (.aload_n 0, 1) := by decide +kernel
theorem dX6_fitting_36 : decode cX6_fitting 36 = .ok (.getfield 11, 3) := by decide +kernel
theorem dX6_fitting_39 : decode cX6_fitting 39 = .ok (.iload 5, 2) := by decide +kernel
theorem dX6_fitting_41 : decode cX6_fitting 41 = .ok (.iaload, 1) := by decide +kernel
theorem dX6_fitting_42 : decode cX6_fitting 42 = .ok (.iload_n 1, 1) := by decide +kernel
theorem dX6_fitting_43 : decode cX6_fitting 43 = .ok (.iload_n 2, 1) := by decide +kernel
theorem dX6_fitting_44 : decode cX6_fitting 44 = .ok (.iadd, 1) := by decide +kernel
theorem dX6_fitting_45 : decode cX6_fitting 45 = .ok (.if_icmp .gt 10, 3) := by decide +kernel
theorem dX6_fitting_48 : decode cX6_fitting 48 = .ok (.lload_n 3, 1) := by decide +kernel
theorem dX6_fitting_49 : decode cX6_fitting 49 = .ok (.lconst 1, 1) := by decide +kernel
theorem dX6_fitting_50 : decode cX6_fitting 50 = .ok (.iload 5, 2) := by decide +kernel
theorem dX6_fitting_52 : decode cX6_fitting 52 = .ok (.lshl, 1) := by decide +kernel
theorem dX6_fitting_53 : decode cX6_fitting 53 = .ok (.lor, 1) := by decide +kernel
theorem dX6_fitting_54 : decode cX6_fitting 54 = .ok (.lstore_n 3, 1) := by decide +kernel
theorem dX6_fitting_55 : decode cX6_fitting 55 = .ok (.iinc 5 1, 3) := by decide +kernel
theorem dX6_fitting_58 : decode cX6_fitting 58 = .ok (.goto (-53), 3) := by decide +kernel
theorem dX6_fitting_61 : decode cX6_fitting 61 = .ok (.lload_n 3, 1) := by decide +kernel
theorem dX6_fitting_62 : decode cX6_fitting 62 = .ok (.lreturn, 1) := by decide +kernel
theorem dX7_init_0 : decode cX7_init 0 = .ok (.aload_n 0, 1) := by decide +kernel
theorem dX7_init_1 : decode cX7_init 1 = .ok (.invokespecial 1, 3) := by decide +kernel
theorem dX7_init_4 : decode cX7_init 4 = .ok (.aload_n 0, 1) := by decide +kernel
theorem dX7_init_5 : decode cX7_init 5 = .ok (.new 7, 3) := by decide +kernel
theorem dX7_init_8 : decode cX7_init 8 = .ok (.dup, 1) := by decide +kernel
theorem dX7_init_9 : decode cX7_init 9 = .ok (.invokespecial 9, 3) := by decide +kernel
theorem dX7_init_12 : decode cX7_init 12 = .ok (.putfield 10, 3) := by decide +kernel
theorem dX7_init_15 : decode cX7_init 15 = .ok (.aload_n 0, 1) := by decide +kernel
theorem dX7_init_16 : decode cX7_init 16 = .ok (.new 16, 3) := by decide +kernel
theorem dX7_init_19 : decode cX7_init 19 = .ok (.dup, 1) := by decide +kernel
theorem dX7_init_20 : decode cX7_init 20 = .ok (.invokespecial 18, 3) := by decide +kernel
theorem dX7_init_23 : decode cX7_init 23 = .ok (.putfield 19, 3) := by decide +kernel
theorem dX7_init_26 : decode cX7_init 26 = .ok (.aload_n 0, 1) := by decide +kernel
theorem dX7_init_27 : decode cX7_init 27 = .ok (.new 23, 3) := by decide +kernel
theorem dX7_init_30 : decode cX7_init 30 = .ok (.dup, 1) := by decide +kernel
theorem dX7_init_31 : decode cX7_init 31 = .ok (.invokespecial 25, 3) := by decide +kernel
theorem dX7_init_34 : decode cX7_init 34 = .ok (.putfield 26, 3) := by decide +kernel
theorem dX7_init_37 : decode cX7_init 37 = .ok (.aload_n 0, 1) := by decide +kernel
theorem dX7_init_38 : decode cX7_init 38 = .ok (.new 30, 3) := by decide +kernel
theorem dX7_init_41 : decode cX7_init 41 = .ok (.dup, 1) := by decide +kernel
theorem dX7_init_42 : decode cX7_init 42 = .ok (.invokespecial 32, 3) := by decide +kernel
theorem dX7_init_45 : decode cX7_init 45 = .ok (.putfield 33, 3) := by decide +kernel
theorem dX7_init_48 : decode cX7_init 48 = .ok (.aload_n 0, 1) := by decide +kernel
theorem dX7_init_49 : decode cX7_init 49 = .ok (.new 37, 3) := by decide +kernel
theorem dX7_init_52 : decode cX7_init 52 = .ok (.dup, 1) := by decide +kernel
theorem dX7_init_53 : decode cX7_init 53 = .ok (.invokespecial 39, 3) := by decide +kernel
theorem dX7_init_56 : decode cX7_init 56 = .ok (.putfield 40, 3) := by decide +kernel
theorem dX7_init_59 : decode cX7_init 59 = .ok (.aload_n 0, 1) := by decide +kernel
theorem dX7_init_60 : decode cX7_init 60 = .ok (.new 44, 3) := by decide +kernel
theorem dX7_init_63 : decode cX7_init 63 = .ok (.dup, 1) := by decide +kernel
theorem dX7_init_64 : decode cX7_init 64 = .ok (.invokespecial 46, 3) := by decide +kernel
theorem dX7_init_67 : decode cX7_init 67 = .ok (.putfield 47, 3) := by decide +kernel
theorem dX7_init_70 : decode cX7_init 70 = .ok (.aload_n 0, 1) := by decide +kernel
theorem dX7_init_71 : decode cX7_init 71 = .ok (.new 51, 3) := by decide +kernel
theorem dX7_init_74 : decode cX7_init 74 = .ok (.dup, 1) := by decide +kernel
theorem dX7_init_75 : decode cX7_init 75 = .ok (.invokespecial 53, 3) := by decide +kernel
theorem dX7_init_78 : decode cX7_init 78 = .ok (.putfield 54, 3) := by decide +kernel
theorem dX7_init_81 : decode cX7_init 81 = .ok (.aload_n 0, 1) := by decide +kernel
theorem dX7_init_82 : decode cX7_init 82 = .ok (.iconst 0, 1) := by decide +kernel
theorem dX7_init_83 : decode cX7_init 83 = .ok (.putfield 58, 3) := by decide +kernel
theorem dX7_init_86 : decode cX7_init 86 = .ok (.return_, 1) := by decide +kernel
theorem dX7_feed_0 : decode cX7_feed 0 = .ok (.aload_n 0, 1) := by decide +kernel
theorem dX7_feed_1 : decode cX7_feed 1 = .ok (.getfield 10, 3) := by decide +kernel
theorem dX7_feed_4 : decode cX7_feed 4 = .ok (.getfield 62, 3) := by decide +kernel
theorem dX7_feed_7 : decode cX7_feed 7 = .ok (.bipush 20, 2) := by decide +kernel
theorem dX7_feed_9 : decode cX7_feed 9 = .ok (.iadd, 1) := by decide +kernel
theorem dX7_feed_10 : decode cX7_feed 10 = .ok (.sipush 300, 3) := by decide +kernel
theorem dX7_feed_13 : decode cX7_feed 13 = .ok (.if_icmp .le 5, 3) := by decide +kernel
theorem dX7_feed_16 : decode cX7_feed 16 = .ok (.iconst (-1), 1) := by decide +kernel
theorem dX7_feed_17 : decode cX7_feed 17 = .ok (.ireturn, 1) := by decide +kernel
theorem dX7_feed_18 : decode cX7_feed 18 = .ok (.aload_n 0, 1) := by decide +kernel
theorem dX7_feed_19 : decode cX7_feed 19 = .ok (.getfield 10, 3) := by decide +kernel
theorem dX7_feed_22 : decode cX7_feed 22 = .ok (.iload_n 1, 1) := by decide +kernel
theorem dX7_feed_23 : decode cX7_feed 23 = .ok (.invokevirtual 65, 3) := by decide +kernel
theorem dX7_feed_26 : decode cX7_feed 26 = .ok (.aload_n 0, 1) := by decide +kernel
theorem dX7_feed_27 : decode cX7_feed 27 = .ok (.getfield 10, 3) := by decide +kernel
theorem dX7_feed_30 : decode cX7_feed 30 = .ok (.iload_n 2, 1) := by decide +kernel
theorem dX7_feed_31 : decode cX7_feed 31 = .ok (.invokevirtual 65, 3) := by decide +kernel
theorem dX7_feed_34 : decode cX7_feed 34 = .ok (.aload_n 0, 1) := by decide +kernel
theorem dX7_feed_35 : decode cX7_feed 35 = .ok (.getfield 10, 3) := by decide +kernel
theorem dX7_feed_38 : decode cX7_feed 38 = .ok (.iload_n 3, 1) := by decide +kernel
theorem dX7_feed_39 : decode cX7_feed 39 = .ok (.invokevirtual 65, 3) := by decide +kernel
theorem dX7_feed_42 : decode cX7_feed 42 = .ok (.aload_n 0, 1) := by decide +kernel
theorem dX7_feed_43 : decode cX7_feed 43 = .ok (.getfield 10, 3) := by decide +kernel
theorem dX7_feed_46 : decode cX7_feed 46 = .ok (.iload 4, 2) := by decide +kernel
theorem dX7_feed_48 : decode cX7_feed 48 = .ok (.invokevirtual 65, 3) := by decide +kernel
theorem dX7_feed_51 : decode cX7_feed 51 = .ok (.aload_n 0, 1) := by decide +kernel
theorem dX7_feed_52 : decode cX7_feed 52 = .ok (.getfield 10, 3) := by decide +kernel
theorem dX7_feed_55 : decode cX7_feed 55 = .ok (.iload 5, 2) := by decide +kernel
theorem dX7_feed_57 : decode cX7_feed 57 = .ok (.invokevirtual 65, 3) := by decide +kernel
theorem dX7_feed_60 : decode cX7_feed 60 = .ok (.aload_n 0, 1) := by decide +kernel
theorem dX7_feed_61 : decode cX7_feed 61 = .ok (.getfield 10, 3) := by decide +kernel
theorem dX7_feed_64 : decode cX7_feed 64 = .ok (.getfield 62, 3) := by decide +kernel
theorem dX7_feed_67 : decode cX7_feed 67 = .ok (.ireturn, 1) := by decide +kernel
theorem dX7_statutes_0 : decode cX7_statutes 0 = .ok (.iload_n 1, 1) := by decide +kernel
theorem dX7_statutes_1 : decode cX7_statutes 1 = .ok (.ifCond .lt 14, 3) := by decide +kernel
theorem dX7_statutes_4 : decode cX7_statutes 4 = .ok (.iload_n 1, 1) := by decide +kernel
theorem dX7_statutes_5 : decode cX7_statutes 5 = .ok (.aload_n 0, 1) := by decide +kernel
theorem dX7_statutes_6 : decode cX7_statutes 6 = .ok (.getfield 10, 3) := by decide +kernel
theorem dX7_statutes_9 : decode cX7_statutes 9 = .ok (.getfield 62, 3) := by decide +kernel
theorem dX7_statutes_12 : decode cX7_statutes 12 = .ok (.if_icmp .le 6, 3) := by decide +kernel
theorem dX7_statutes_15 : decode cX7_statutes 15 = .ok (.bipush (-2), 2) := by decide +kernel
theorem dX7_statutes_17 : decode cX7_statutes 17 = .ok (.ireturn, 1) := by decide +kernel
theorem dX7_statutes_18 : decode cX7_statutes 18 = .ok (.aload_n 0, 1) := by decide +kernel
theorem dX7_statutes_19 : decode cX7_statutes 19 = .ok (.getfield 10, 3) := by decide +kernel
theorem dX7_statutes_22 : decode cX7_statutes 22 = .ok (.iload_n 1, 1) := by decide +kernel
theorem dX7_statutes_23 : decode cX7_statutes 23 = .ok (.invokevirtual 69, 3) := by decide +kernel
theorem dX7_statutes_26 : decode cX7_statutes 26 = .ok (.istore_n 2, 1) := by decide +kernel
theorem dX7_statutes_27 : decode cX7_statutes 27 = .ok (.iload_n 2, 1) := by decide +kernel
theorem dX7_statutes_28 : decode cX7_statutes 28 = .ok (.iconst (-1), 1) := by decide +kernel
theorem dX7_statutes_29 : decode cX7_statutes 29 = .ok (.if_icmp .eq 17, 3) := by decide +kernel
theorem dX7_statutes_32 : decode cX7_statutes 32 = .ok (.aload_n 0, 1) := by decide +kernel
theorem dX7_statutes_33 : decode cX7_statutes 33 = .ok (.getfield 19, 3) := by decide +kernel
theorem dX7_statutes_36 : decode cX7_statutes 36 = .ok (.aload_n 0, 1) := by decide +kernel
theorem dX7_statutes_37 : decode cX7_statutes 37 = .ok (.getfield 10, 3) := by decide +kernel
theorem dX7_statutes_40 : decode cX7_statutes 40 = .ok (.getfield 73, 3) := by decide +kernel
theorem dX7_statutes_43 : decode cX7_statutes 43 = .ok (.invokevirtual 76, 3) := by decide +kernel
theorem dX7_statutes_46 : decode cX7_statutes 46 = .ok (.iload_n 2, 1) := by decide +kernel
theorem dX7_statutes_47 : decode cX7_statutes 47 = .ok (.ireturn, 1) := by decide +kernel
theorem dX7_fault_0 : decode cX7_fault 0 = .ok (.iload_n 1, 1) := by decide +kernel
theorem dX7_fault_1 : decode cX7_fault 1 = .ok (.lookupswitch 43 #[(0, 27), (1, 35)], 27) := by decide +kernel
theorem dX7_fault_28 : decode cX7_fault 28 = .ok (.aload_n 0, 1) := by decide +kernel
theorem dX7_fault_29 : decode cX7_fault 29 = .ok (.getfield 10, 3) := by decide +kernel
theorem dX7_fault_32 : decode cX7_fault 32 = .ok (.getfield 80, 3) := by decide +kernel
theorem dX7_fault_35 : decode cX7_fault 35 = .ok (.ireturn, 1) := by decide +kernel
theorem dX7_fault_36 : decode cX7_fault 36 = .ok (.aload_n 0, 1) := by decide +kernel
theorem dX7_fault_37 : decode cX7_fault 37 = .ok (.getfield 10, 3) := by decide +kernel
theorem dX7_fault_40 : decode cX7_fault 40 = .ok (.getfield 83, 3) := by decide +kernel
theorem dX7_fault_43 : decode cX7_fault 43 = .ok (.ireturn, 1) := by decide +kernel
theorem dX7_fault_44 : decode cX7_fault 44 = .ok (.iconst (-1), 1) := by decide +kernel
theorem dX7_fault_45 : decode cX7_fault 45 = .ok (.ireturn, 1) := by decide +kernel
theorem dX7_giver_0 : decode cX7_giver 0 = .ok (.aload_n 0, 1) := by decide +kernel
theorem dX7_giver_1 : decode cX7_giver 1 = .ok (.getfield 26, 3) := by decide +kernel
theorem dX7_giver_4 : decode cX7_giver 4 = .ok (.invokevirtual 86, 3) := by decide +kernel
theorem dX7_giver_7 : decode cX7_giver 7 = .ok (.ireturn, 1) := by decide +kernel
theorem dX7_gift_0 : decode cX7_gift 0 = .ok (.aload_n 0, 1) := by decide +kernel
theorem dX7_gift_1 : decode cX7_gift 1 = .ok (.getfield 26, 3) := by decide +kernel
theorem dX7_gift_4 : decode cX7_gift 4 = .ok (.iload_n 1, 1) := by decide +kernel
theorem dX7_gift_5 : decode cX7_gift 5 = .ok (.invokevirtual 90, 3) := by decide +kernel
theorem dX7_gift_8 : decode cX7_gift 8 = .ok (.ifCond .eq 8, 3) := by decide +kernel
theorem dX7_gift_11 : decode cX7_gift 11 = .ok (.iload_n 2, 1) := by decide +kernel
theorem dX7_gift_12 : decode cX7_gift 12 = .ok (.iconst 1, 1) := by decide +kernel
theorem dX7_gift_13 : decode cX7_gift 13 = .ok (.if_icmp .ge 5, 3) := by decide +kernel
theorem dX7_gift_16 : decode cX7_gift 16 = .ok (.iconst (-1), 1) := by decide +kernel
theorem dX7_gift_17 : decode cX7_gift 17 = .ok (.ireturn, 1) := by decide +kernel
theorem dX7_gift_18 : decode cX7_gift 18 = .ok (.aload_n 0, 1) := by decide +kernel
theorem dX7_gift_19 : decode cX7_gift 19 = .ok (.getfield 26, 3) := by decide +kernel
theorem dX7_gift_22 : decode cX7_gift 22 = .ok (.iload_n 1, 1) := by decide +kernel
theorem dX7_gift_23 : decode cX7_gift 23 = .ok (.iload_n 2, 1) := by decide +kernel
theorem dX7_gift_24 : decode cX7_gift 24 = .ok (.invokevirtual 94, 3) := by decide +kernel
theorem dX7_gift_27 : decode cX7_gift 27 = .ok (.ireturn, 1) := by decide +kernel
theorem dX7_support_0 : decode cX7_support 0 = .ok (.aload_n 0, 1) := by decide +kernel
theorem dX7_support_1 : decode cX7_support 1 = .ok (.getfield 26, 3) := by decide +kernel
theorem dX7_support_4 : decode cX7_support 4 = .ok (.iload_n 1, 1) := by decide +kernel
theorem dX7_support_5 : decode cX7_support 5 = .ok (.invokevirtual 90, 3) := by decide +kernel
theorem dX7_support_8 : decode cX7_support 8 = .ok (.ifCond .eq 19, 3) := by decide +kernel
theorem dX7_support_11 : decode cX7_support 11 = .ok (.iload_n 2, 1) := by decide +kernel
theorem dX7_support_12 : decode cX7_support 12 = .ok (.iconst (-1), 1) := by decide +kernel
theorem dX7_support_13 : decode cX7_support 13 = .ok (.if_icmp .eq 16, 3) := by decide +kernel
theorem dX7_support_16 : decode cX7_support 16 = .ok (.aload_n 0, 1) := by decide +kernel
theorem dX7_support_17 : decode cX7_support 17 = .ok (.getfield 33, 3) := by decide +kernel
theorem dX7_support_20 : decode cX7_support 20 = .ok (.iload_n 2, 1) := by decide +kernel
theorem dX7_support_21 : decode cX7_support 21 = .ok (.invokevirtual 98, 3) := by decide +kernel
theorem dX7_support_24 : decode cX7_support 24 = .ok (.ifCond .ne 5, 3) := by decide +kernel
theorem dX7_support_27 : decode cX7_support 27 = .ok (.iconst 0, 1) := by decide +kernel
theorem dX7_support_28 : decode cX7_support 28 = .ok (.ireturn, 1) := by decide +kernel
theorem dX7_support_29 : decode cX7_support 29 = .ok (.aload_n 0, 1) := by decide +kernel
theorem dX7_support_30 : decode cX7_support 30 = .ok (.getfield 26, 3) := by decide +kernel
theorem dX7_support_33 : decode cX7_support 33 = .ok (.getfield 99, 3) := by decide +kernel
theorem dX7_support_36 : decode cX7_support 36 = .ok (.iload_n 1, 1) := by decide +kernel
theorem dX7_support_37 : decode cX7_support 37 = .ok (.iload_n 2, 1) := by decide +kernel
theorem dX7_support_38 : decode cX7_support 38 = .ok (.iastore, 1) := by decide +kernel
theorem dX7_support_39 : decode cX7_support 39 = .ok (.iconst 1, 1) := by decide +kernel
theorem dX7_support_40 : decode cX7_support 40 = .ok (.ireturn, 1) := by decide +kernel
theorem dX7_child_0 : decode cX7_child 0 = .ok (.aload_n 0, 1) := by decide +kernel
theorem dX7_child_1 : decode cX7_child 1 = .ok (.getfield 33, 3) := by decide +kernel
theorem dX7_child_4 : decode cX7_child 4 = .ok (.iload_n 1, 1) := by decide +kernel
theorem dX7_child_5 : decode cX7_child 5 = .ok (.iload_n 2, 1) := by decide +kernel
theorem dX7_child_6 : decode cX7_child 6 = .ok (.iload_n 3, 1) := by decide +kernel
theorem dX7_child_7 : decode cX7_child 7 = .ok (.iload 4, 2) := by decide +kernel
theorem dX7_child_9 : decode cX7_child 9 = .ok (.invokevirtual 103, 3) := by decide +kernel
theorem dX7_child_12 : decode cX7_child 12 = .ok (.ireturn, 1) := by decide +kernel
theorem dX7_fill_0 : decode cX7_fill 0 = .ok (.aload_n 0, 1) := by decide +kernel
theorem dX7_fill_1 : decode cX7_fill 1 = .ok (.getfield 33, 3) := by decide +kernel
theorem dX7_fill_4 : decode cX7_fill 4 = .ok (.invokevirtual 106, 3) := by decide +kernel
theorem dX7_fill_7 : decode cX7_fill 7 = .ok (.aload_n 0, 1) := by decide +kernel
theorem dX7_fill_8 : decode cX7_fill 8 = .ok (.getfield 19, 3) := by decide +kernel
theorem dX7_fill_11 : decode cX7_fill 11 = .ok (.getfield 109, 3) := by decide +kernel
theorem dX7_fill_14 : decode cX7_fill 14 = .ok (.if_icmp .lt 5, 3) := by decide +kernel
theorem dX7_fill_17 : decode cX7_fill 17 = .ok (.iconst (-1), 1) := by decide +kernel
theorem dX7_fill_18 : decode cX7_fill 18 = .ok (.ireturn, 1) := by decide +kernel
theorem dX7_fill_19 : decode cX7_fill 19 = .ok (.aload_n 0, 1) := by decide +kernel
theorem dX7_fill_20 : decode cX7_fill 20 = .ok (.aload_n 0, 1) := by decide +kernel
theorem dX7_fill_21 : decode cX7_fill 21 = .ok (.getfield 19, 3) := by decide +kernel
theorem dX7_fill_24 : decode cX7_fill 24 = .ok (.invokevirtual 112, 3) := by decide +kernel
theorem dX7_fill_27 : decode cX7_fill 27 = .ok (.invokevirtual 115, 3) := by decide +kernel
theorem dX7_fill_30 : decode cX7_fill 30 = .ok (.istore_n 1, 1) := by decide +kernel
theorem dX7_fill_31 : decode cX7_fill 31 = .ok (.aload_n 0, 1) := by decide +kernel
theorem dX7_fill_32 : decode cX7_fill 32 = .ok (.getfield 33, 3) := by decide +kernel
theorem dX7_fill_35 : decode cX7_fill 35 = .ok (.iload_n 1, 1) := by decide +kernel
theorem dX7_fill_36 : decode cX7_fill 36 = .ok (.invokevirtual 98, 3) := by decide +kernel
theorem dX7_fill_39 : decode cX7_fill 39 = .ok (.ifCond .eq 20, 3) := by decide +kernel
theorem dX7_fill_42 : decode cX7_fill 42 = .ok (.aload_n 0, 1) := by decide +kernel
theorem dX7_fill_43 : decode cX7_fill 43 = .ok (.getfield 33, 3) := by decide +kernel
theorem dX7_fill_46 : decode cX7_fill 46 = .ok (.getfield 118, 3) := by decide +kernel
theorem dX7_fill_49 : decode cX7_fill 49 = .ok (.iload_n 1, 1) := by decide +kernel
theorem dX7_fill_50 : decode cX7_fill 50 = .ok (.iconst 1, 1) := by decide +kernel
theorem dX7_fill_51 : decode cX7_fill 51 = .ok (.iastore, 1) := by decide +kernel
theorem dX7_fill_52 : decode cX7_fill 52 = .ok (.aload_n 0, 1) := by decide +kernel
theorem dX7_fill_53 : decode cX7_fill 53 = .ok (.getfield 19, 3) := by decide +kernel
theorem dX7_fill_56 : decode cX7_fill 56 = .ok (.invokevirtual 121, 3) := by decide +kernel
theorem dX7_fill_59 : decode cX7_fill 59 = .ok (.iload_n 1, 1) := by decide +kernel
theorem dX7_fill_60 : decode cX7_fill 60 = .ok (.ireturn, 1) := by decide +kernel
theorem dX7_chosenBy_0 : decode cX7_chosenBy 0 = .ok (.iload_n 1, 1) := by decide +kernel
theorem dX7_chosenBy_1 : decode cX7_chosenBy 1 = .ok (.lookupswitch 37 #[(0, 27), (1, 32)], 27) := by decide +kernel
theorem dX7_chosenBy_28 : decode cX7_chosenBy 28 = .ok (.aload_n 0, 1) := by decide +kernel
theorem dX7_chosenBy_29 : decode cX7_chosenBy 29 = .ok (.invokevirtual 124, 3) := by decide +kernel
theorem dX7_chosenBy_32 : decode cX7_chosenBy 32 = .ok (.ireturn, 1) := by decide +kernel
theorem dX7_chosenBy_33 : decode cX7_chosenBy 33 = .ok (.aload_n 0, 1) := by decide +kernel
theorem dX7_chosenBy_34 : decode cX7_chosenBy 34 = .ok (.invokevirtual 127, 3) := by decide +kernel
theorem dX7_chosenBy_37 : decode cX7_chosenBy 37 = .ok (.ireturn, 1) := by decide +kernel
theorem dX7_chosenBy_38 : decode cX7_chosenBy 38 = .ok (.aload_n 0, 1) := by decide +kernel
theorem dX7_chosenBy_39 : decode cX7_chosenBy 39 = .ok (.invokevirtual 130, 3) := by decide +kernel
theorem dX7_chosenBy_42 : decode cX7_chosenBy 42 = .ok (.ireturn, 1) := by decide +kernel
theorem dX7_chosenByTurn_0 : decode cX7_chosenByTurn 0 = .ok (.aload_n 0, 1) := by decide +kernel
theorem dX7_chosenByTurn_1 : decode cX7_chosenByTurn 1 = .ok (.getfield 26, 3) := by decide +kernel
theorem dX7_chosenByTurn_4 : decode cX7_chosenByTurn 4 = .ok (.getfield 133, 3) := by decide +kernel
theorem dX7_chosenByTurn_7 : decode cX7_chosenByTurn 7 = .ok (.istore_n 1, 1) := by decide +kernel
theorem dX7_chosenByTurn_8 : decode cX7_chosenByTurn 8 = .ok (.iconst 0, 1) := by decide +kernel
theorem dX7_chosenByTurn_9 : decode cX7_chosenByTurn 9 = .ok (.istore_n 2, 1) := by decide +kernel
theorem dX7_chosenByTurn_10 : decode cX7_chosenByTurn 10 = .ok (.iload_n 2, 1) := by decide +kernel
theorem dX7_chosenByTurn_11 : decode cX7_chosenByTurn 11 = .ok (.aload_n 0, 1) := by decide +kernel
theorem dX7_chosenByTurn_12 : decode cX7_chosenByTurn 12 = .ok (.getfield 26, 3) := by decide +kernel
theorem dX7_chosenByTurn_15 : decode cX7_chosenByTurn 15 = .ok (.getfield 136, 3) := by decide +kernel
theorem dX7_chosenByTurn_18 : decode cX7_chosenByTurn 18 = .ok (.if_icmp .ge 62, 3) := by decide +kernel
theorem dX7_chosenByTurn_21 : decode cX7_chosenByTurn 21 = .ok (.aload_n 0, 1) := by decide +kernel
theorem dX7_chosenByTurn_22 : decode cX7_chosenByTurn 22 = .ok (.getfield 26, 3) := by decide +kernel
theorem dX7_chosenByTurn_25 : decode cX7_chosenByTurn 25 = .ok (.iload_n 1, 1) := by decide +kernel
theorem dX7_chosenByTurn_26 : decode cX7_chosenByTurn 26 = .ok (.invokevirtual 139, 3) := by decide +kernel
theorem dX7_chosenByTurn_29 : decode cX7_chosenByTurn 29 = .ok (.istore_n 3, 1) := by decide +kernel
theorem dX7_chosenByTurn_30 : decode cX7_chosenByTurn 30 = .ok (.iload_n 1, 1) := by decide +kernel
theorem dX7_chosenByTurn_31 : decode cX7_chosenByTurn 31 = .ok (.iconst 1, 1) := by decide +kernel
theorem dX7_chosenByTurn_32 : decode cX7_chosenByTurn 32 = .ok (.iadd, 1) := by decide +kernel
theorem dX7_chosenByTurn_33 : decode cX7_chosenByTurn 33 = .ok (.aload_n 0, 1) := by decide +kernel
theorem dX7_chosenByTurn_34 : decode cX7_chosenByTurn 34 = .ok (.getfield 26, 3) := by decide +kernel
theorem dX7_chosenByTurn_37 : decode cX7_chosenByTurn 37 = .ok (.getfield 136, 3) := by decide +kernel
theorem dX7_chosenByTurn_40 : decode cX7_chosenByTurn 40 = .ok (.if_icmp .ge 9, 3) := by decide +kernel
theorem dX7_chosenByTurn_43 : decode cX7_chosenByTurn 43 = .ok (.iload_n 1, 1) := by decide +kernel
theorem dX7_chosenByTurn_44 : decode cX7_chosenByTurn 44 = .ok (.iconst 1, 1) := by decide +kernel
theorem dX7_chosenByTurn_45 : decode cX7_chosenByTurn 45 = .ok (.iadd, 1) := by decide +kernel
theorem dX7_chosenByTurn_46 : decode cX7_chosenByTurn 46 = .ok (.goto 4, 3) := by decide +kernel
theorem dX7_chosenByTurn_49 : decode cX7_chosenByTurn 49 = .ok (.iconst 0, 1) := by decide +kernel
theorem dX7_chosenByTurn_50 : decode cX7_chosenByTurn 50 = .ok (.istore 4, 2) := by decide +kernel
theorem dX7_chosenByTurn_52 : decode cX7_chosenByTurn 52 = .ok (.aload_n 0, 1) := by decide +kernel
theorem dX7_chosenByTurn_53 : decode cX7_chosenByTurn 53 = .ok (.iload_n 3, 1) := by decide +kernel
theorem dX7_chosenByTurn_54 : decode cX7_chosenByTurn 54 = .ok (.invokevirtual 142, 3) := by decide +kernel
theorem dX7_chosenByTurn_57 : decode cX7_chosenByTurn 57 = .ok (.ifCond .eq 14, 3) := by decide +kernel
theorem dX7_chosenByTurn_60 : decode cX7_chosenByTurn 60 = .ok (.aload_n 0, 1) := by decide +kernel
theorem dX7_chosenByTurn_61 : decode cX7_chosenByTurn 61 = .ok (.getfield 26, 3) := by decide +kernel
theorem dX7_chosenByTurn_64 : decode cX7_chosenByTurn 64 = .ok (.iload 4, 2) := by decide +kernel
theorem dX7_chosenByTurn_66 : decode cX7_chosenByTurn 66 = .ok (.putfield 133, 3) := by decide +kernel
theorem dX7_chosenByTurn_69 : decode cX7_chosenByTurn 69 = .ok (.iload_n 3, 1) := by decide +kernel
theorem dX7_chosenByTurn_70 : decode cX7_chosenByTurn 70 = .ok (.ireturn, 1) := by decide +kernel
theorem dX7_chosenByTurn_71 : decode cX7_chosenByTurn 71 = .ok (.iload 4, 2) := by decide +kernel
theorem dX7_chosenByTurn_73 : decode cX7_chosenByTurn 73 = .ok (.istore_n 1, 1) := by decide +kernel
theorem dX7_chosenByTurn_74 : decode cX7_chosenByTurn 74 = .ok (.iinc 2 1, 3) := by decide +kernel
theorem dX7_chosenByTurn_77 : decode cX7_chosenByTurn 77 = .ok (.goto (-67), 3) := by decide +kernel
theorem dX7_chosenByTurn_80 : decode cX7_chosenByTurn 80 = .ok (.iconst (-1), 1) := by decide +kernel
theorem dX7_chosenByTurn_81 : decode cX7_chosenByTurn 81 = .ok (.ireturn, 1) := by decide +kernel
theorem dX7_chosenByVote_0 : decode cX7_chosenByVote 0 = .ok (.iconst (-1), 1) := by decide +kernel
theorem dX7_chosenByVote_1 : decode cX7_chosenByVote 1 = .ok (.istore_n 1, 1) := by decide +kernel
theorem dX7_chosenByVote_2 : decode cX7_chosenByVote 2 = .ok (.iconst 0, 1) := by decide +kernel
theorem dX7_chosenByVote_3 : decode cX7_chosenByVote 3 = .ok (.istore_n 2, 1) := by decide +kernel
theorem dX7_chosenByVote_4 : decode cX7_chosenByVote 4 = .ok (.iconst 0, 1) := by decide +kernel
theorem dX7_chosenByVote_5 : decode cX7_chosenByVote 5 = .ok (.istore_n 3, 1) := by decide +kernel
theorem dX7_chosenByVote_6 : decode cX7_chosenByVote 6 = .ok (.iload_n 3, 1) := by decide +kernel
theorem dX7_chosenByVote_7 : decode cX7_chosenByVote 7 = .ok (.aload_n 0, 1) := by decide +kernel
theorem dX7_chosenByVote_8 : decode cX7_chosenByVote 8 = .ok (.getfield 33, 3) := by decide +kernel
theorem dX7_chosenByVote_11 : decode cX7_chosenByVote 11 = .ok (.getfield 145, 3) := by decide +kernel
theorem dX7_chosenByVote_14 : decode cX7_chosenByVote 14 = .ok (.if_icmp .ge 92, 3) := by decide +kernel
theorem dX7_chosenByVote_17 : decode cX7_chosenByVote 17 = .ok (.aload_n 0, 1) := by decide +kernel
theorem dX7_chosenByVote_18 : decode cX7_chosenByVote 18 = .ok (.iload_n 3, 1) := by decide +kernel
theorem dX7_chosenByVote_19 : decode cX7_chosenByVote 19 = .ok (.invokevirtual 142, 3) := by decide +kernel
theorem dX7_chosenByVote_22 : decode cX7_chosenByVote 22 = .ok (.ifCond .ne 6, 3) := by decide +kernel
theorem dX7_chosenByVote_25 : decode cX7_chosenByVote 25 = .ok (.goto 75, 3) := by decide +kernel
theorem dX7_chosenByVote_28 : decode cX7_chosenByVote 28 = .ok (.aload_n 0, 1) := by decide +kernel
theorem dX7_chosenByVote_29 : decode cX7_chosenByVote 29 = .ok (.getfield 26, 3) := by decide +kernel
theorem dX7_chosenByVote_32 : decode cX7_chosenByVote 32 = .ok (.iload_n 3, 1) := by decide +kernel
theorem dX7_chosenByVote_33 : decode cX7_chosenByVote 33 = .ok (.aload_n 0, 1) := by decide +kernel
theorem dX7_chosenByVote_34 : decode cX7_chosenByVote 34 = .ok (.getfield 19, 3) := by decide +kernel
theorem dX7_chosenByVote_37 : decode cX7_chosenByVote 37 = .ok (.getfield 146, 3) := by decide +kernel
theorem dX7_chosenByVote_40 : decode cX7_chosenByVote 40 = .ok (.invokevirtual 149, 3) := by decide +kernel
theorem dX7_chosenByVote_43 : decode cX7_chosenByVote 43 = .ok (.istore 4, 2) := by decide +kernel
theorem dX7_chosenByVote_45 : decode cX7_chosenByVote 45 = .ok (.iload_n 1, 1) := by decide +kernel
theorem dX7_chosenByVote_46 : decode cX7_chosenByVote 46 = .ok (.iconst (-1), 1) := by decide +kernel
theorem dX7_chosenByVote_47 : decode cX7_chosenByVote 47 = .ok (.if_icmp .eq 34, 3) := by decide +kernel
theorem dX7_chosenByVote_50 : decode cX7_chosenByVote 50 = .ok (.iload 4, 2) := by decide +kernel
theorem dX7_chosenByVote_52 : decode cX7_chosenByVote 52 = .ok (.iload_n 2, 1) := by decide +kernel
theorem dX7_chosenByVote_53 : decode cX7_chosenByVote 53 = .ok (.if_icmp .ne 28, 3) := by decide +kernel
theorem dX7_chosenByVote_56 : decode cX7_chosenByVote 56 = .ok (.aload_n 0, 1) := by decide +kernel
theorem dX7_chosenByVote_57 : decode cX7_chosenByVote 57 = .ok (.getfield 33, 3) := by decide +kernel
theorem dX7_chosenByVote_60 : decode cX7_chosenByVote 60 = .ok (.getfield 152, 3) := by decide +kernel
theorem dX7_chosenByVote_63 : decode cX7_chosenByVote 63 = .ok (.iload_n 3, 1) := by decide +kernel
theorem dX7_chosenByVote_64 : decode cX7_chosenByVote 64 = .ok (.iaload, 1) := by decide +kernel
theorem dX7_chosenByVote_65 : decode cX7_chosenByVote 65 = .ok (.aload_n 0, 1) := by decide +kernel
theorem dX7_chosenByVote_66 : decode cX7_chosenByVote 66 = .ok (.getfield 33, 3) := by decide +kernel
theorem dX7_chosenByVote_69 : decode cX7_chosenByVote 69 = .ok (.getfield 152, 3) := by decide +kernel
theorem dX7_chosenByVote_72 : decode cX7_chosenByVote 72 = .ok (.iload_n 1, 1) := by decide +kernel
theorem dX7_chosenByVote_73 : decode cX7_chosenByVote 73 = .ok (.iaload, 1) := by decide +kernel
theorem dX7_chosenByVote_74 : decode cX7_chosenByVote 74 = .ok (.if_icmp .le 7, 3) := by decide +kernel
theorem dX7_chosenByVote_77 : decode cX7_chosenByVote 77 = .ok (.iconst 1, 1) := by decide +kernel
theorem dX7_chosenByVote_78 : decode cX7_chosenByVote 78 = .ok (.goto 4, 3) := by decide +kernel
theorem dX7_chosenByVote_81 : decode cX7_chosenByVote 81 = .ok (.iconst 0, 1) := by decide +kernel
theorem dX7_chosenByVote_82 : decode cX7_chosenByVote 82 = .ok (.istore 5, 2) := by decide +kernel
theorem dX7_chosenByVote_84 : decode cX7_chosenByVote 84 = .ok (.iload 4, 2) := by decide +kernel
theorem dX7_chosenByVote_86 : decode cX7_chosenByVote 86 = .ok (.iload_n 2, 1) := by decide +kernel
theorem dX7_chosenByVote_87 : decode cX7_chosenByVote 87 = .ok (.if_icmp .gt 8, 3) := by decide +kernel
theorem dX7_chosenByVote_90 : decode cX7_chosenByVote 90 = .ok (.iload 5, 2) := by decide +kernel
theorem dX7_chosenByVote_92 : decode cX7_chosenByVote 92 = .ok (.ifCond .eq 8, 3) := by decide +kernel
theorem dX7_chosenByVote_95 : decode cX7_chosenByVote 95 = .ok (.iload_n 3, 1) := by decide +kernel
theorem dX7_chosenByVote_96 : decode cX7_chosenByVote 96 = .ok (.istore_n 1, 1) := by decide +kernel
theorem dX7_chosenByVote_97 : decode cX7_chosenByVote 97 = .ok (.iload 4, 2) := by decide +kernel
theorem dX7_chosenByVote_99 : decode cX7_chosenByVote 99 = .ok (.istore_n 2, 1) := by decide +kernel
theorem dX7_chosenByVote_100 : decode cX7_chosenByVote 100 = .ok (.iinc 3 1, 3) := by decide +kernel
theorem dX7_chosenByVote_103 : decode cX7_chosenByVote 103 = .ok (.goto (-97), 3) := by decide +kernel
theorem dX7_chosenByVote_106 : decode cX7_chosenByVote 106 = .ok (.iload_n 1, 1) := by decide +kernel
theorem dX7_chosenByVote_107 : decode cX7_chosenByVote 107 = .ok (.ireturn, 1) := by decide +kernel
theorem dX7_chosenByNeed_0 : decode cX7_chosenByNeed 0 = .ok (.iconst (-1), 1) := by decide +kernel
theorem dX7_chosenByNeed_1 : decode cX7_chosenByNeed 1 = .ok (.istore_n 1, 1) := by decide +kernel
theorem dX7_chosenByNeed_2 : decode cX7_chosenByNeed 2 = .ok (.iconst 0, 1) := by decide +kernel
theorem dX7_chosenByNeed_3 : decode cX7_chosenByNeed 3 = .ok (.istore_n 2, 1) := by decide +kernel
theorem dX7_chosenByNeed_4 : decode cX7_chosenByNeed 4 = .ok (.iload_n 2, 1) := by decide +kernel
theorem dX7_chosenByNeed_5 : decode cX7_chosenByNeed 5 = .ok (.aload_n 0, 1) := by decide +kernel
theorem dX7_chosenByNeed_6 : decode cX7_chosenByNeed 6 = .ok (.getfield 33, 3) := by decide +kernel
theorem dX7_chosenByNeed_9 : decode cX7_chosenByNeed 9 = .ok (.getfield 145, 3) := by decide +kernel
theorem dX7_chosenByNeed_12 : decode cX7_chosenByNeed 12 = .ok (.if_icmp .ge 45, 3) := by decide +kernel
theorem dX7_chosenByNeed_15 : decode cX7_chosenByNeed 15 = .ok (.aload_n 0, 1) := by decide +kernel
theorem dX7_chosenByNeed_16 : decode cX7_chosenByNeed 16 = .ok (.iload_n 2, 1) := by decide +kernel
theorem dX7_chosenByNeed_17 : decode cX7_chosenByNeed 17 = .ok (.invokevirtual 142, 3) := by decide +kernel
theorem dX7_chosenByNeed_20 : decode cX7_chosenByNeed 20 = .ok (.ifCond .eq 31, 3) := by decide +kernel
theorem dX7_chosenByNeed_23 : decode cX7_chosenByNeed 23 = .ok (.iload_n 1, 1) := by decide +kernel
theorem dX7_chosenByNeed_24 : decode cX7_chosenByNeed 24 = .ok (.iconst (-1), 1) := by decide +kernel
theorem dX7_chosenByNeed_25 : decode cX7_chosenByNeed 25 = .ok (.if_icmp .eq 24, 3) := by decide +kernel
theorem dX7_chosenByNeed_28 : decode cX7_chosenByNeed 28 = .ok (.aload_n 0, 1) := by decide +kernel
theorem dX7_chosenByNeed_29 : decode cX7_chosenByNeed 29 = .ok (.getfield 33, 3) := by decide +kernel
theorem dX7_chosenByNeed_32 : decode cX7_chosenByNeed 32 = .ok (.getfield 152, 3) := by decide +kernel
theorem dX7_chosenByNeed_35 : decode cX7_chosenByNeed 35 = .ok (.iload_n 2, 1) := by decide +kernel
theorem dX7_chosenByNeed_36 : decode cX7_chosenByNeed 36 = .ok (.iaload, 1) := by decide +kernel
theorem dX7_chosenByNeed_37 : decode cX7_chosenByNeed 37 = .ok (.aload_n 0, 1) := by decide +kernel
theorem dX7_chosenByNeed_38 : decode cX7_chosenByNeed 38 = .ok (.getfield 33, 3) := by decide +kernel
theorem dX7_chosenByNeed_41 : decode cX7_chosenByNeed 41 = .ok (.getfield 152, 3) := by decide +kernel
theorem dX7_chosenByNeed_44 : decode cX7_chosenByNeed 44 = .ok (.iload_n 1, 1) := by decide +kernel
theorem dX7_chosenByNeed_45 : decode cX7_chosenByNeed 45 = .ok (.iaload, 1) := by decide +kernel
theorem dX7_chosenByNeed_46 : decode cX7_chosenByNeed 46 = .ok (.if_icmp .le 5, 3) := by decide +kernel
theorem dX7_chosenByNeed_49 : decode cX7_chosenByNeed 49 = .ok (.iload_n 2, 1) := by decide +kernel
theorem dX7_chosenByNeed_50 : decode cX7_chosenByNeed 50 = .ok (.istore_n 1, 1) := by decide +kernel
theorem dX7_chosenByNeed_51 : decode cX7_chosenByNeed 51 = .ok (.iinc 2 1, 3) := by decide +kernel
theorem dX7_chosenByNeed_54 : decode cX7_chosenByNeed 54 = .ok (.goto (-50), 3) := by decide +kernel
theorem dX7_chosenByNeed_57 : decode cX7_chosenByNeed 57 = .ok (.iload_n 1, 1) := by decide +kernel
theorem dX7_chosenByNeed_58 : decode cX7_chosenByNeed 58 = .ok (.ireturn, 1) := by decide +kernel
theorem dX7_mayCome_0 : decode cX7_mayCome 0 = .ok (.aload_n 0, 1) := by decide +kernel
theorem dX7_mayCome_1 : decode cX7_mayCome 1 = .ok (.getfield 33, 3) := by decide +kernel
theorem dX7_mayCome_4 : decode cX7_mayCome 4 = .ok (.iload_n 1, 1) := by decide +kernel
theorem dX7_mayCome_5 : decode cX7_mayCome 5 = .ok (.invokevirtual 98, 3) := by decide +kernel
theorem dX7_mayCome_8 : decode cX7_mayCome 8 = .ok (.ifCond .eq 57, 3) := by decide +kernel
theorem dX7_mayCome_11 : decode cX7_mayCome 11 = .ok (.aload_n 0, 1) := by decide +kernel
theorem dX7_mayCome_12 : decode cX7_mayCome 12 = .ok (.getfield 33, 3) := by decide +kernel
theorem dX7_mayCome_15 : decode cX7_mayCome 15 = .ok (.getfield 118, 3) := by decide +kernel
theorem dX7_mayCome_18 : decode cX7_mayCome 18 = .ok (.iload_n 1, 1) := by decide +kernel
theorem dX7_mayCome_19 : decode cX7_mayCome 19 = .ok (.iaload, 1) := by decide +kernel
theorem dX7_mayCome_20 : decode cX7_mayCome 20 = .ok (.ifCond .ne 45, 3) := by decide +kernel
theorem dX7_mayCome_23 : decode cX7_mayCome 23 = .ok (.aload_n 0, 1) := by decide +kernel
theorem dX7_mayCome_24 : decode cX7_mayCome 24 = .ok (.getfield 33, 3) := by decide +kernel
theorem dX7_mayCome_27 : decode cX7_mayCome 27 = .ok (.getfield 155, 3) := by decide +kernel
theorem dX7_mayCome_30 : decode cX7_mayCome 30 = .ok (.iload_n 1, 1) := by decide +kernel
theorem dX7_mayCome_31 : decode cX7_mayCome 31 = .ok (.iaload, 1) := by decide +kernel
theorem dX7_mayCome_32 : decode cX7_mayCome 32 = .ok (.aload_n 0, 1) := by decide +kernel
theorem dX7_mayCome_33 : decode cX7_mayCome 33 = .ok (.getfield 19, 3) := by decide +kernel
theorem dX7_mayCome_36 : decode cX7_mayCome 36 = .ok (.getfield 158, 3) := by decide +kernel
theorem dX7_mayCome_39 : decode cX7_mayCome 39 = .ok (.if_icmp .lt 26, 3) := by decide +kernel
theorem dX7_mayCome_42 : decode cX7_mayCome 42 = .ok (.aload_n 0, 1) := by decide +kernel
theorem dX7_mayCome_43 : decode cX7_mayCome 43 = .ok (.getfield 33, 3) := by decide +kernel
theorem dX7_mayCome_46 : decode cX7_mayCome 46 = .ok (.getfield 155, 3) := by decide +kernel
theorem dX7_mayCome_49 : decode cX7_mayCome 49 = .ok (.iload_n 1, 1) := by decide +kernel
theorem dX7_mayCome_50 : decode cX7_mayCome 50 = .ok (.iaload, 1) := by decide +kernel
theorem dX7_mayCome_51 : decode cX7_mayCome 51 = .ok (.aload_n 0, 1) := by decide +kernel
theorem dX7_mayCome_52 : decode cX7_mayCome 52 = .ok (.getfield 19, 3) := by decide +kernel
theorem dX7_mayCome_55 : decode cX7_mayCome 55 = .ok (.getfield 161, 3) := by decide +kernel
theorem dX7_mayCome_58 : decode cX7_mayCome 58 = .ok (.if_icmp .ge 7, 3) := by decide +kernel
theorem dX7_mayCome_61 : decode cX7_mayCome 61 = .ok (.iconst 1, 1) := by decide +kernel
theorem dX7_mayCome_62 : decode cX7_mayCome 62 = .ok (.goto 4, 3) := by decide +kernel
theorem dX7_mayCome_65 : decode cX7_mayCome 65 = .ok (.iconst 0, 1) := by decide +kernel
theorem dX7_mayCome_66 : decode cX7_mayCome 66 = .ok (.ireturn, 1) := by decide +kernel
theorem dX7_year_0 : decode cX7_year 0 = .ok (.aload_n 0, 1) := by decide +kernel
theorem dX7_year_1 : decode cX7_year 1 = .ok (.dup, 1) := by decide +kernel
theorem dX7_year_2 : decode cX7_year 2 = .ok (.getfield 58, 3) := by decide +kernel
theorem dX7_year_5 : decode cX7_year 5 = .ok (.iconst 1, 1) := by decide +kernel
theorem dX7_year_6 : decode cX7_year 6 = .ok (.iadd, 1) := by decide +kernel
theorem dX7_year_7 : decode cX7_year 7 = .ok (.putfield 58, 3) := by decide +kernel
theorem dX7_year_10 : decode cX7_year 10 = .ok (.iconst 0, 1) := by decide +kernel
theorem dX7_year_11 : decode cX7_year 11 = .ok (.istore_n 1, 1) := by decide +kernel
theorem dX7_year_12 : decode cX7_year 12 = .ok (.iconst 0, 1) := by decide +kernel
theorem dX7_year_13 : decode cX7_year 13 = .ok (.istore_n 2, 1) := by decide +kernel
theorem dX7_year_14 : decode cX7_year 14 = .ok (.iload_n 2, 1) := by decide +kernel
theorem dX7_year_15 : decode cX7_year 15 = .ok (.aload_n 0, 1) := by decide +kernel
theorem dX7_year_16 : decode cX7_year 16 = .ok (.getfield 33, 3) := by decide +kernel
theorem dX7_year_19 : decode cX7_year 19 = .ok (.getfield 145, 3) := by decide +kernel
theorem dX7_year_22 : decode cX7_year 22 = .ok (.if_icmp .ge 75, 3) := by decide +kernel
theorem dX7_year_25 : decode cX7_year 25 = .ok (.aload_n 0, 1) := by decide +kernel
theorem dX7_year_26 : decode cX7_year 26 = .ok (.getfield 33, 3) := by decide +kernel
theorem dX7_year_29 : decode cX7_year 29 = .ok (.iload_n 2, 1) := by decide +kernel
theorem dX7_year_30 : decode cX7_year 30 = .ok (.invokevirtual 164, 3) := by decide +kernel
theorem dX7_year_33 : decode cX7_year 33 = .ok (.aload_n 0, 1) := by decide +kernel
theorem dX7_year_34 : decode cX7_year 34 = .ok (.getfield 33, 3) := by decide +kernel
theorem dX7_year_37 : decode cX7_year 37 = .ok (.getfield 118, 3) := by decide +kernel
theorem dX7_year_40 : decode cX7_year 40 = .ok (.iload_n 2, 1) := by decide +kernel
theorem dX7_year_41 : decode cX7_year 41 = .ok (.iaload, 1) := by decide +kernel
theorem dX7_year_42 : decode cX7_year 42 = .ok (.iconst 1, 1) := by decide +kernel
theorem dX7_year_43 : decode cX7_year 43 = .ok (.if_icmp .ne 48, 3) := by decide +kernel
theorem dX7_year_46 : decode cX7_year 46 = .ok (.aload_n 0, 1) := by decide +kernel
theorem dX7_year_47 : decode cX7_year 47 = .ok (.getfield 33, 3) := by decide +kernel
theorem dX7_year_50 : decode cX7_year 50 = .ok (.getfield 155, 3) := by decide +kernel
theorem dX7_year_53 : decode cX7_year 53 = .ok (.iload_n 2, 1) := by decide +kernel
theorem dX7_year_54 : decode cX7_year 54 = .ok (.iaload, 1) := by decide +kernel
theorem dX7_year_55 : decode cX7_year 55 = .ok (.aload_n 0, 1) := by decide +kernel
theorem dX7_year_56 : decode cX7_year 56 = .ok (.getfield 19, 3) := by decide +kernel
theorem dX7_year_59 : decode cX7_year 59 = .ok (.getfield 161, 3) := by decide +kernel
theorem dX7_year_62 : decode cX7_year 62 = .ok (.if_icmp .lt 29, 3) := by decide +kernel
theorem dX7_year_65 : decode cX7_year 65 = .ok (.aload_n 0, 1) := by decide +kernel
theorem dX7_year_66 : decode cX7_year 66 = .ok (.getfield 33, 3) := by decide +kernel
theorem dX7_year_69 : decode cX7_year 69 = .ok (.getfield 118, 3) := by decide +kernel
theorem dX7_year_72 : decode cX7_year 72 = .ok (.iload_n 2, 1) := by decide +kernel
theorem dX7_year_73 : decode cX7_year 73 = .ok (.iconst 2, 1) := by decide +kernel
theorem dX7_year_74 : decode cX7_year 74 = .ok (.iastore, 1) := by decide +kernel
theorem dX7_year_75 : decode cX7_year 75 = .ok (.aload_n 0, 1) := by decide +kernel
theorem dX7_year_76 : decode cX7_year 76 = .ok (.aload_n 0, 1) := by decide +kernel
theorem dX7_year_77 : decode cX7_year 77 = .ok (.getfield 33, 3) := by decide +kernel
theorem dX7_year_80 : decode cX7_year 80 = .ok (.getfield 167, 3) := by decide +kernel
theorem dX7_year_83 : decode cX7_year 83 = .ok (.iload_n 2, 1) := by decide +kernel
theorem dX7_year_84 : decode cX7_year 84 = .ok (.iaload, 1) := by decide +kernel
theorem dX7_year_85 : decode cX7_year 85 = .ok (.invokevirtual 170, 3) := by decide +kernel
theorem dX7_year_88 : decode cX7_year 88 = .ok (.iinc 1 1, 3) := by decide +kernel
theorem dX7_year_91 : decode cX7_year 91 = .ok (.iinc 2 1, 3) := by decide +kernel
theorem dX7_year_94 : decode cX7_year 94 = .ok (.goto (-80), 3) := by decide +kernel
theorem dX7_year_97 : decode cX7_year 97 = .ok (.iconst 0, 1) := by decide +kernel
theorem dX7_year_98 : decode cX7_year 98 = .ok (.istore_n 2, 1) := by decide +kernel
theorem dX7_year_99 : decode cX7_year 99 = .ok (.iload_n 2, 1) := by decide +kernel
theorem dX7_year_100 : decode cX7_year 100 = .ok (.aload_n 0, 1) := by decide +kernel
theorem dX7_year_101 : decode cX7_year 101 = .ok (.getfield 40, 3) := by decide +kernel
theorem dX7_year_104 : decode cX7_year 104 = .ok (.getfield 173, 3) := by decide +kernel
theorem dX7_year_107 : decode cX7_year 107 = .ok (.if_icmp .ge 32, 3) := by decide +kernel
theorem dX7_year_110 : decode cX7_year 110 = .ok (.aload_n 0, 1) := by decide +kernel
theorem dX7_year_111 : decode cX7_year 111 = .ok (.getfield 40, 3) := by decide +kernel
theorem dX7_year_114 : decode cX7_year 114 = .ok (.iload_n 2, 1) := by decide +kernel
theorem dX7_year_115 : decode cX7_year 115 = .ok (.aload_n 0, 1) := by decide +kernel
theorem dX7_year_116 : decode cX7_year 116 = .ok (.getfield 19, 3) := by decide +kernel
theorem dX7_year_119 : decode cX7_year 119 = .ok (.getfield 174, 3) := by decide +kernel
theorem dX7_year_122 : decode cX7_year 122 = .ok (.invokevirtual 177, 3) := by decide +kernel
theorem dX7_year_125 : decode cX7_year 125 = .ok (.ifCond .eq 8, 3) := by decide +kernel
theorem dX7_year_128 : decode cX7_year 128 = .ok (.aload_n 0, 1) := by decide +kernel
theorem dX7_year_129 : decode cX7_year 129 = .ok (.iload_n 2, 1) := by decide +kernel
theorem dX7_year_130 : decode cX7_year 130 = .ok (.invokevirtual 170, 3) := by decide +kernel
theorem dX7_year_133 : decode cX7_year 133 = .ok (.iinc 2 1, 3) := by decide +kernel
theorem dX7_year_136 : decode cX7_year 136 = .ok (.goto (-37), 3) := by decide +kernel
theorem dX7_year_139 : decode cX7_year 139 = .ok (.iload_n 1, 1) := by decide +kernel
theorem dX7_year_140 : decode cX7_year 140 = .ok (.ireturn, 1) := by decide +kernel
theorem dX7_handIn_0 : decode cX7_handIn 0 = .ok (.aload_n 0, 1) := by decide +kernel
theorem dX7_handIn_1 : decode cX7_handIn 1 = .ok (.getfield 40, 3) := by decide +kernel
theorem dX7_handIn_4 : decode cX7_handIn 4 = .ok (.iload_n 1, 1) := by decide +kernel
theorem dX7_handIn_5 : decode cX7_handIn 5 = .ok (.invokevirtual 181, 3) := by decide +kernel
theorem dX7_handIn_8 : decode cX7_handIn 8 = .ok (.ifCond .ne 4, 3) := by decide +kernel
theorem dX7_handIn_11 : decode cX7_handIn 11 = .ok (.return_, 1) := by decide +kernel
theorem dX7_handIn_12 : decode cX7_handIn 12 = .ok (.aload_n 0, 1) := by decide +kernel
theorem dX7_handIn_13 : decode cX7_handIn 13 = .ok (.getfield 40, 3) := by decide +kernel
theorem dX7_handIn_16 : decode cX7_handIn 16 = .ok (.getfield 182, 3) := by decide +kernel
theorem dX7_handIn_19 : decode cX7_handIn 19 = .ok (.iload_n 1, 1) := by decide +kernel
theorem dX7_handIn_20 : decode cX7_handIn 20 = .ok (.iaload, 1) := by decide +kernel
theorem dX7_handIn_21 : decode cX7_handIn 21 = .ok (.istore_n 2, 1) := by decide +kernel
theorem dX7_handIn_22 : decode cX7_handIn 22 = .ok (.aload_n 0, 1) := by decide +kernel
theorem dX7_handIn_23 : decode cX7_handIn 23 = .ok (.getfield 40, 3) := by decide +kernel
theorem dX7_handIn_26 : decode cX7_handIn 26 = .ok (.getfield 182, 3) := by decide +kernel
theorem dX7_handIn_29 : decode cX7_handIn 29 = .ok (.iload_n 1, 1) := by decide +kernel
theorem dX7_handIn_30 : decode cX7_handIn 30 = .ok (.iconst (-1), 1) := by decide +kernel
theorem dX7_handIn_31 : decode cX7_handIn 31 = .ok (.iastore, 1) := by decide +kernel
theorem dX7_handIn_32 : decode cX7_handIn 32 = .ok (.aload_n 0, 1) := by decide +kernel
theorem dX7_handIn_33 : decode cX7_handIn 33 = .ok (.getfield 33, 3) := by decide +kernel
theorem dX7_handIn_36 : decode cX7_handIn 36 = .ok (.iload_n 2, 1) := by decide +kernel
theorem dX7_handIn_37 : decode cX7_handIn 37 = .ok (.invokevirtual 98, 3) := by decide +kernel
theorem dX7_handIn_40 : decode cX7_handIn 40 = .ok (.ifCond .eq 13, 3) := by decide +kernel
theorem dX7_handIn_43 : decode cX7_handIn 43 = .ok (.aload_n 0, 1) := by decide +kernel
theorem dX7_handIn_44 : decode cX7_handIn 44 = .ok (.getfield 33, 3) := by decide +kernel
theorem dX7_handIn_47 : decode cX7_handIn 47 = .ok (.getfield 167, 3) := by decide +kernel
theorem dX7_handIn_50 : decode cX7_handIn 50 = .ok (.iload_n 2, 1) := by decide +kernel
theorem dX7_handIn_51 : decode cX7_handIn 51 = .ok (.iconst (-1), 1) := by decide +kernel
theorem dX7_handIn_52 : decode cX7_handIn 52 = .ok (.iastore, 1) := by decide +kernel
theorem dX7_handIn_53 : decode cX7_handIn 53 = .ok (.return_, 1) := by decide +kernel
theorem dX7_handOut_0 : decode cX7_handOut 0 = .ok (.aload_n 0, 1) := by decide +kernel
theorem dX7_handOut_1 : decode cX7_handOut 1 = .ok (.getfield 40, 3) := by decide +kernel
theorem dX7_handOut_4 : decode cX7_handOut 4 = .ok (.iload_n 1, 1) := by decide +kernel
theorem dX7_handOut_5 : decode cX7_handOut 5 = .ok (.invokevirtual 181, 3) := by decide +kernel
theorem dX7_handOut_8 : decode cX7_handOut 8 = .ok (.ifCond .eq 34, 3) := by decide +kernel
theorem dX7_handOut_11 : decode cX7_handOut 11 = .ok (.aload_n 0, 1) := by decide +kernel
theorem dX7_handOut_12 : decode cX7_handOut 12 = .ok (.getfield 33, 3) := by decide +kernel
theorem dX7_handOut_15 : decode cX7_handOut 15 = .ok (.iload_n 2, 1) := by decide +kernel
theorem dX7_handOut_16 : decode cX7_handOut 16 = .ok (.invokevirtual 98, 3) := by decide +kernel
theorem dX7_handOut_19 : decode cX7_handOut 19 = .ok (.ifCond .eq 23, 3) := by decide +kernel
theorem dX7_handOut_22 : decode cX7_handOut 22 = .ok (.aload_n 0, 1) := by decide +kernel
theorem dX7_handOut_23 : decode cX7_handOut 23 = .ok (.getfield 40, 3) := by decide +kernel
theorem dX7_handOut_26 : decode cX7_handOut 26 = .ok (.getfield 182, 3) := by decide +kernel
theorem dX7_handOut_29 : decode cX7_handOut 29 = .ok (.iload_n 1, 1) := by decide +kernel
theorem dX7_handOut_30 : decode cX7_handOut 30 = .ok (.iload_n 2, 1) := by decide +kernel
theorem dX7_handOut_31 : decode cX7_handOut 31 = .ok (.iastore, 1) := by decide +kernel
theorem dX7_handOut_32 : decode cX7_handOut 32 = .ok (.aload_n 0, 1) := by decide +kernel
theorem dX7_handOut_33 : decode cX7_handOut 33 = .ok (.getfield 33, 3) := by decide +kernel
theorem dX7_handOut_36 : decode cX7_handOut 36 = .ok (.getfield 167, 3) := by decide +kernel
theorem dX7_handOut_39 : decode cX7_handOut 39 = .ok (.iload_n 2, 1) := by decide +kernel
theorem dX7_handOut_40 : decode cX7_handOut 40 = .ok (.iload_n 1, 1) := by decide +kernel
theorem dX7_handOut_41 : decode cX7_handOut 41 = .ok (.iastore, 1) := by decide +kernel
theorem dX7_handOut_42 : decode cX7_handOut 42 = .ok (.return_, 1) := by decide +kernel
theorem dX7_feast_0 : decode cX7_feast 0 = .ok (.aload_n 0, 1) := by decide +kernel
theorem dX7_feast_1 : decode cX7_feast 1 = .ok (.getfield 47, 3) := by decide +kernel
theorem dX7_feast_4 : decode cX7_feast 4 = .ok (.aload_n 0, 1) := by decide +kernel
theorem dX7_feast_5 : decode cX7_feast 5 = .ok (.getfield 33, 3) := by decide +kernel
theorem dX7_feast_8 : decode cX7_feast 8 = .ok (.aload_n 0, 1) := by decide +kernel
theorem dX7_feast_9 : decode cX7_feast 9 = .ok (.getfield 40, 3) := by decide +kernel
theorem dX7_feast_12 : decode cX7_feast 12 = .ok (.aload_n 0, 1) := by decide +kernel
theorem dX7_feast_13 : decode cX7_feast 13 = .ok (.getfield 19, 3) := by decide +kernel
theorem dX7_feast_16 : decode cX7_feast 16 = .ok (.getfield 185, 3) := by decide +kernel
theorem dX7_feast_19 : decode cX7_feast 19 = .ok (.invokevirtual 188, 3) := by decide +kernel
theorem dX7_feast_22 : decode cX7_feast 22 = .ok (.aload_n 0, 1) := by decide +kernel
theorem dX7_feast_23 : decode cX7_feast 23 = .ok (.getfield 40, 3) := by decide +kernel
theorem dX7_feast_26 : decode cX7_feast 26 = .ok (.getfield 173, 3) := by decide +kernel
theorem dX7_feast_29 : decode cX7_feast 29 = .ok (.aload_n 0, 1) := by decide +kernel
theorem dX7_feast_30 : decode cX7_feast 30 = .ok (.getfield 47, 3) := by decide +kernel
theorem dX7_feast_33 : decode cX7_feast 33 = .ok (.invokevirtual 192, 3) := by decide +kernel
theorem dX7_feast_36 : decode cX7_feast 36 = .ok (.iadd, 1) := by decide +kernel
theorem dX7_feast_37 : decode cX7_feast 37 = .ok (.bipush 40, 2) := by decide +kernel
theorem dX7_feast_39 : decode cX7_feast 39 = .ok (.if_icmp .le 5, 3) := by decide +kernel
theorem dX7_feast_42 : decode cX7_feast 42 = .ok (.iconst (-1), 1) := by decide +kernel
theorem dX7_feast_43 : decode cX7_feast 43 = .ok (.ireturn, 1) := by decide +kernel
theorem dX7_feast_44 : decode cX7_feast 44 = .ok (.iconst 0, 1) := by decide +kernel
theorem dX7_feast_45 : decode cX7_feast 45 = .ok (.istore_n 1, 1) := by decide +kernel
theorem dX7_feast_46 : decode cX7_feast 46 = .ok (.iload_n 1, 1) := by decide +kernel
theorem dX7_feast_47 : decode cX7_feast 47 = .ok (.aload_n 0, 1) := by decide +kernel
theorem dX7_feast_48 : decode cX7_feast 48 = .ok (.getfield 40, 3) := by decide +kernel
theorem dX7_feast_51 : decode cX7_feast 51 = .ok (.getfield 173, 3) := by decide +kernel
theorem dX7_feast_54 : decode cX7_feast 54 = .ok (.if_icmp .ge 14, 3) := by decide +kernel
theorem dX7_feast_57 : decode cX7_feast 57 = .ok (.aload_n 0, 1) := by decide +kernel
theorem dX7_feast_58 : decode cX7_feast 58 = .ok (.iload_n 1, 1) := by decide +kernel
theorem dX7_feast_59 : decode cX7_feast 59 = .ok (.invokevirtual 170, 3) := by decide +kernel
theorem dX7_feast_62 : decode cX7_feast 62 = .ok (.iinc 1 1, 3) := by decide +kernel
theorem dX7_feast_65 : decode cX7_feast 65 = .ok (.goto (-19), 3) := by decide +kernel
theorem dX7_feast_68 : decode cX7_feast 68 = .ok (.iconst 0, 1) := by decide +kernel
theorem dX7_feast_69 : decode cX7_feast 69 = .ok (.istore_n 1, 1) := by decide +kernel
theorem dX7_feast_70 : decode cX7_feast 70 = .ok (.iconst 0, 1) := by decide +kernel
theorem dX7_feast_71 : decode cX7_feast 71 = .ok (.istore_n 2, 1) := by decide +kernel
theorem dX7_feast_72 : decode cX7_feast 72 = .ok (.iload_n 2, 1) := by decide +kernel
theorem dX7_feast_73 : decode cX7_feast 73 = .ok (.aload_n 0, 1) := by decide +kernel
theorem dX7_feast_74 : decode cX7_feast 74 = .ok (.getfield 47, 3) := by decide +kernel
theorem dX7_feast_77 : decode cX7_feast 77 = .ok (.getfield 195, 3) := by decide +kernel
theorem dX7_feast_80 : decode cX7_feast 80 = .ok (.if_icmp .ge 73, 3) := by decide +kernel
theorem dX7_feast_83 : decode cX7_feast 83 = .ok (.aload_n 0, 1) := by decide +kernel
theorem dX7_feast_84 : decode cX7_feast 84 = .ok (.getfield 47, 3) := by decide +kernel
theorem dX7_feast_87 : decode cX7_feast 87 = .ok (.getfield 198, 3) := by decide +kernel
theorem dX7_feast_90 : decode cX7_feast 90 = .ok (.iload_n 2, 1) := by decide +kernel
theorem dX7_feast_91 : decode cX7_feast 91 = .ok (.iaload, 1) := by decide +kernel
theorem dX7_feast_92 : decode cX7_feast 92 = .ok (.istore_n 3, 1) := by decide +kernel
theorem dX7_feast_93 : decode cX7_feast 93 = .ok (.aload_n 0, 1) := by decide +kernel
theorem dX7_feast_94 : decode cX7_feast 94 = .ok (.getfield 47, 3) := by decide +kernel
theorem dX7_feast_97 : decode cX7_feast 97 = .ok (.getfield 201, 3) := by decide +kernel
theorem dX7_feast_100 : decode cX7_feast 100 = .ok (.iload_n 2, 1) := by decide +kernel
theorem dX7_feast_101 : decode cX7_feast 101 = .ok (.iaload, 1) := by decide +kernel
theorem dX7_feast_102 : decode cX7_feast 102 = .ok (.istore 4, 2) := by decide +kernel
theorem dX7_feast_104 : decode cX7_feast 104 = .ok (.iload 4, 2) := by decide +kernel
theorem dX7_feast_106 : decode cX7_feast 106 = .ok (.iconst (-1), 1) := by decide +kernel
theorem dX7_feast_107 : decode cX7_feast 107 = .ok (.if_icmp .ne 33, 3) := by decide +kernel
theorem dX7_feast_110 : decode cX7_feast 110 = .ok (.aload_n 0, 1) := by decide +kernel
theorem dX7_feast_111 : decode cX7_feast 111 = .ok (.getfield 40, 3) := by decide +kernel
theorem dX7_feast_114 : decode cX7_feast 114 = .ok (.aload_n 0, 1) := by decide +kernel
theorem dX7_feast_115 : decode cX7_feast 115 = .ok (.getfield 33, 3) := by decide +kernel
theorem dX7_feast_118 : decode cX7_feast 118 = .ok (.getfield 204, 3) := by decide +kernel
theorem dX7_feast_121 : decode cX7_feast 121 = .ok (.iload_n 3, 1) := by decide +kernel
theorem dX7_feast_122 : decode cX7_feast 122 = .ok (.iaload, 1) := by decide +kernel
theorem dX7_feast_123 : decode cX7_feast 123 = .ok (.invokevirtual 207, 3) := by decide +kernel
theorem dX7_feast_126 : decode cX7_feast 126 = .ok (.istore 4, 2) := by decide +kernel
theorem dX7_feast_128 : decode cX7_feast 128 = .ok (.iload_n 1, 1) := by decide +kernel
theorem dX7_feast_129 : decode cX7_feast 129 = .ok (.aload_n 0, 1) := by decide +kernel
theorem dX7_feast_130 : decode cX7_feast 130 = .ok (.getfield 33, 3) := by decide +kernel
theorem dX7_feast_133 : decode cX7_feast 133 = .ok (.getfield 204, 3) := by decide +kernel
theorem dX7_feast_136 : decode cX7_feast 136 = .ok (.iload_n 3, 1) := by decide +kernel
theorem dX7_feast_137 : decode cX7_feast 137 = .ok (.iaload, 1) := by decide +kernel
theorem dX7_feast_138 : decode cX7_feast 138 = .ok (.iadd, 1) := by decide +kernel
theorem dX7_feast_139 : decode cX7_feast 139 = .ok (.istore_n 1, 1) := by decide +kernel
theorem dX7_feast_140 : decode cX7_feast 140 = .ok (.aload_n 0, 1) := by decide +kernel
theorem dX7_feast_141 : decode cX7_feast 141 = .ok (.iload 4, 2) := by decide +kernel
theorem dX7_feast_143 : decode cX7_feast 143 = .ok (.iload_n 3, 1) := by decide +kernel
theorem dX7_feast_144 : decode cX7_feast 144 = .ok (.invokevirtual 210, 3) := by decide +kernel
theorem dX7_feast_147 : decode cX7_feast 147 = .ok (.iinc 2 1, 3) := by decide +kernel
theorem dX7_feast_150 : decode cX7_feast 150 = .ok (.goto (-78), 3) := by decide +kernel
theorem dX7_feast_153 : decode cX7_feast 153 = .ok (.iload_n 1, 1) := by decide +kernel
theorem dX7_feast_154 : decode cX7_feast 154 = .ok (.ireturn, 1) := by decide +kernel
theorem dX7_legacy_0 : decode cX7_legacy 0 = .ok (.aload_n 0, 1) := by decide +kernel
theorem dX7_legacy_1 : decode cX7_legacy 1 = .ok (.getfield 54, 3) := by decide +kernel
theorem dX7_legacy_4 : decode cX7_legacy 4 = .ok (.iload_n 1, 1) := by decide +kernel
theorem dX7_legacy_5 : decode cX7_legacy 5 = .ok (.iload_n 2, 1) := by decide +kernel
theorem dX7_legacy_6 : decode cX7_legacy 6 = .ok (.invokevirtual 214, 3) := by decide +kernel
theorem dX7_legacy_9 : decode cX7_legacy 9 = .ok (.ireturn, 1) := by decide +kernel
theorem dX7_need_0 : decode cX7_need 0 = .ok (.iload_n 1, 1) := by decide +kernel
theorem dX7_need_1 : decode cX7_need 1 = .ok (.ifCond .lt 20, 3) := by decide +kernel
theorem dX7_need_4 : decode cX7_need 4 = .ok (.iload_n 1, 1) := by decide +kernel
theorem dX7_need_5 : decode cX7_need 5 = .ok (.bipush 6, 2) := by decide +kernel
theorem dX7_need_7 : decode cX7_need 7 = .ok (.if_icmp .ge 14, 3) := by decide +kernel
theorem dX7_need_10 : decode cX7_need 10 = .ok (.iload_n 2, 1) := by decide +kernel
theorem dX7_need_11 : decode cX7_need 11 = .ok (.ifCond .lt 10, 3) := by decide +kernel
theorem dX7_need_14 : decode cX7_need 14 = .ok (.iload_n 2, 1) := by decide +kernel
theorem dX7_need_15 : decode cX7_need 15 = .ok (.sipush 9999, 3) := by decide +kernel
theorem dX7_need_18 : decode cX7_need 18 = .ok (.if_icmp .le 5, 3) := by decide +kernel
theorem dX7_need_21 : decode cX7_need 21 = .ok (.iconst 0, 1) := by decide +kernel
theorem dX7_need_22 : decode cX7_need 22 = .ok (.ireturn, 1) := by decide +kernel
theorem dX7_need_23 : decode cX7_need 23 = .ok (.aload_n 0, 1) := by decide +kernel
theorem dX7_need_24 : decode cX7_need 24 = .ok (.getfield 54, 3) := by decide +kernel
theorem dX7_need_27 : decode cX7_need 27 = .ok (.getfield 216, 3) := by decide +kernel
theorem dX7_need_30 : decode cX7_need 30 = .ok (.iload_n 1, 1) := by decide +kernel
theorem dX7_need_31 : decode cX7_need 31 = .ok (.iload_n 2, 1) := by decide +kernel
theorem dX7_need_32 : decode cX7_need 32 = .ok (.iastore, 1) := by decide +kernel
theorem dX7_need_33 : decode cX7_need 33 = .ok (.iconst 1, 1) := by decide +kernel
theorem dX7_need_34 : decode cX7_need 34 = .ok (.ireturn, 1) := by decide +kernel
theorem dX7_owed_0 : decode cX7_owed 0 = .ok (.aload_n 0, 1) := by decide +kernel
theorem dX7_owed_1 : decode cX7_owed 1 = .ok (.getfield 54, 3) := by decide +kernel
theorem dX7_owed_4 : decode cX7_owed 4 = .ok (.invokevirtual 217, 3) := by decide +kernel
theorem dX7_owed_7 : decode cX7_owed 7 = .ok (.iload_n 1, 1) := by decide +kernel
theorem dX7_owed_8 : decode cX7_owed 8 = .ok (.tableswitch 101 0 3 #[32, 56, 85, 93], 32) := by decide +kernel
theorem dX7_owed_40 : decode cX7_owed 40 = .ok (.iload_n 2, 1) := by decide +kernel
theorem dX7_owed_41 : decode cX7_owed 41 = .ok (.ifCond .lt 21, 3) := by decide +kernel
theorem dX7_owed_44 : decode cX7_owed 44 = .ok (.iload_n 2, 1) := by decide +kernel
theorem dX7_owed_45 : decode cX7_owed 45 = .ok (.bipush 6, 2) := by decide +kernel
theorem dX7_owed_47 : decode cX7_owed 47 = .ok (.if_icmp .ge 15, 3) := by decide +kernel
theorem dX7_owed_50 : decode cX7_owed 50 = .ok (.aload_n 0, 1) := by decide +kernel
theorem dX7_owed_51 : decode cX7_owed 51 = .ok (.getfield 54, 3) := by decide +kernel
theorem dX7_owed_54 : decode cX7_owed 54 = .ok (.getfield 219, 3) := by decide +kernel
theorem dX7_owed_57 : decode cX7_owed 57 = .ok (.iload_n 2, 1) := by decide +kernel
theorem dX7_owed_58 : decode cX7_owed 58 = .ok (.iaload, 1) := by decide +kernel
theorem dX7_owed_59 : decode cX7_owed 59 = .ok (.goto 4, 3) := by decide +kernel
theorem dX7_owed_62 : decode cX7_owed 62 = .ok (.iconst (-1), 1) := by decide +kernel
theorem dX7_owed_63 : decode cX7_owed 63 = .ok (.ireturn, 1) := by decide +kernel
theorem dX7_owed_64 : decode cX7_owed 64 = .ok (.iload_n 2, 1) := by decide +kernel
theorem dX7_owed_65 : decode cX7_owed 65 = .ok (.ifCond .lt 26, 3) := by decide +kernel
theorem dX7_owed_68 : decode cX7_owed 68 = .ok (.iload_n 2, 1) := by decide +kernel
theorem dX7_owed_69 : decode cX7_owed 69 = .ok (.aload_n 0, 1) := by decide +kernel
theorem dX7_owed_70 : decode cX7_owed 70 = .ok (.getfield 54, 3) := by decide +kernel
theorem dX7_owed_73 : decode cX7_owed 73 = .ok (.getfield 222, 3) := by decide +kernel
theorem dX7_owed_76 : decode cX7_owed 76 = .ok (.if_icmp .ge 15, 3) := by decide +kernel
theorem dX7_owed_79 : decode cX7_owed 79 = .ok (.aload_n 0, 1) := by decide +kernel
theorem dX7_owed_80 : decode cX7_owed 80 = .ok (.getfield 54, 3) := by decide +kernel
theorem dX7_owed_83 : decode cX7_owed 83 = .ok (.getfield 223, 3) := by decide +kernel
theorem dX7_owed_86 : decode cX7_owed 86 = .ok (.iload_n 2, 1) := by decide +kernel
theorem dX7_owed_87 : decode cX7_owed 87 = .ok (.iaload, 1) := by decide +kernel
theorem dX7_owed_88 : decode cX7_owed 88 = .ok (.goto 4, 3) := by decide +kernel
theorem dX7_owed_91 : decode cX7_owed 91 = .ok (.iconst (-1), 1) := by decide +kernel
theorem dX7_owed_92 : decode cX7_owed 92 = .ok (.ireturn, 1) := by decide +kernel
theorem dX7_owed_93 : decode cX7_owed 93 = .ok (.aload_n 0, 1) := by decide +kernel
theorem dX7_owed_94 : decode cX7_owed 94 = .ok (.getfield 54, 3) := by decide +kernel
theorem dX7_owed_97 : decode cX7_owed 97 = .ok (.getfield 226, 3) := by decide +kernel
theorem dX7_owed_100 : decode cX7_owed 100 = .ok (.ireturn, 1) := by decide +kernel
theorem dX7_owed_101 : decode cX7_owed 101 = .ok (.aload_n 0, 1) := by decide +kernel
theorem dX7_owed_102 : decode cX7_owed 102 = .ok (.getfield 54, 3) := by decide +kernel
theorem dX7_owed_105 : decode cX7_owed 105 = .ok (.getfield 229, 3) := by decide +kernel
theorem dX7_owed_108 : decode cX7_owed 108 = .ok (.ireturn, 1) := by decide +kernel
theorem dX7_owed_109 : decode cX7_owed 109 = .ok (.iconst (-1), 1) := by decide +kernel
theorem dX7_owed_110 : decode cX7_owed 110 = .ok (.ireturn, 1) := by decide +kernel
theorem dX7_pay_0 : decode cX7_pay 0 = .ok (.aload_n 0, 1) := by decide +kernel
theorem dX7_pay_1 : decode cX7_pay 1 = .ok (.getfield 54, 3) := by decide +kernel
theorem dX7_pay_4 : decode cX7_pay 4 = .ok (.invokevirtual 217, 3) := by decide +kernel
theorem dX7_pay_7 : decode cX7_pay 7 = .ok (.aload_n 0, 1) := by decide +kernel
theorem dX7_pay_8 : decode cX7_pay 8 = .ok (.getfield 54, 3) := by decide +kernel
theorem dX7_pay_11 : decode cX7_pay 11 = .ok (.invokevirtual 232, 3) := by decide +kernel
theorem dX7_pay_14 : decode cX7_pay 14 = .ok (.ireturn, 1) := by decide +kernel
theorem dX7_look_0 : decode cX7_look 0 = .ok (.aload_n 0, 1) := by decide +kernel
theorem dX7_look_1 : decode cX7_look 1 = .ok (.getfield 33, 3) := by decide +kernel
theorem dX7_look_4 : decode cX7_look 4 = .ok (.iload_n 1, 1) := by decide +kernel
theorem dX7_look_5 : decode cX7_look 5 = .ok (.invokevirtual 98, 3) := by decide +kernel
theorem dX7_look_8 : decode cX7_look 8 = .ok (.ifCond .ne 13, 3) := by decide +kernel
theorem dX7_look_11 : decode cX7_look 11 = .ok (.new 235, 3) := by decide +kernel
theorem dX7_look_14 : decode cX7_look 14 = .ok (.dup, 1) := by decide +kernel
theorem dX7_look_15 : decode cX7_look 15 = .ok (.ldc 237, 2) := by decide +kernel
theorem dX7_look_17 : decode cX7_look 17 = .ok (.invokespecial 239, 3) := by decide +kernel
theorem dX7_look_20 : decode cX7_look 20 = .ok (.athrow, 1) := by decide +kernel
theorem dX7_look_21 : decode cX7_look 21 = .ok (.iload_n 2, 1) := by decide +kernel
theorem dX7_look_22 : decode cX7_look 22 = .ok (.tableswitch 104 0 5 #[38, 48, 58, 68, 78, 88], 38) := by decide +kernel
theorem dX7_look_60 : decode cX7_look 60 = .ok (.aload_n 0, 1) := by decide +kernel
theorem dX7_look_61 : decode cX7_look 61 = .ok (.getfield 33, 3) := by decide +kernel
theorem dX7_look_64 : decode cX7_look 64 = .ok (.getfield 155, 3) := by decide +kernel
theorem dX7_look_67 : decode cX7_look 67 = .ok (.iload_n 1, 1) := by decide +kernel
theorem dX7_look_68 : decode cX7_look 68 = .ok (.iaload, 1) := by decide +kernel
theorem dX7_look_69 : decode cX7_look 69 = .ok (.ireturn, 1) := by decide +kernel
theorem dX7_look_70 : decode cX7_look 70 = .ok (.aload_n 0, 1) := by decide +kernel
theorem dX7_look_71 : decode cX7_look 71 = .ok (.getfield 33, 3) := by decide +kernel
theorem dX7_look_74 : decode cX7_look 74 = .ok (.getfield 152, 3) := by decide +kernel
theorem dX7_look_77 : decode cX7_look 77 = .ok (.iload_n 1, 1) := by decide +kernel
theorem dX7_look_78 : decode cX7_look 78 = .ok (.iaload, 1) := by decide +kernel
theorem dX7_look_79 : decode cX7_look 79 = .ok (.ireturn, 1) := by decide +kernel
theorem dX7_look_80 : decode cX7_look 80 = .ok (.aload_n 0, 1) := by decide +kernel
theorem dX7_look_81 : decode cX7_look 81 = .ok (.getfield 33, 3) := by decide +kernel
theorem dX7_look_84 : decode cX7_look 84 = .ok (.getfield 204, 3) := by decide +kernel
theorem dX7_look_87 : decode cX7_look 87 = .ok (.iload_n 1, 1) := by decide +kernel
theorem dX7_look_88 : decode cX7_look 88 = .ok (.iaload, 1) := by decide +kernel
theorem dX7_look_89 : decode cX7_look 89 = .ok (.ireturn, 1) := by decide +kernel
theorem dX7_look_90 : decode cX7_look 90 = .ok (.aload_n 0, 1) := by decide +kernel
theorem dX7_look_91 : decode cX7_look 91 = .ok (.getfield 33, 3) := by decide +kernel
theorem dX7_look_94 : decode cX7_look 94 = .ok (.getfield 118, 3) := by decide +kernel
theorem dX7_look_97 : decode cX7_look 97 = .ok (.iload_n 1, 1) := by decide +kernel
theorem dX7_look_98 : decode cX7_look 98 = .ok (.iaload, 1) := by decide +kernel
theorem dX7_look_99 : decode cX7_look 99 = .ok (.ireturn, 1) := by decide +kernel
theorem dX7_look_100 : decode cX7_look 100 = .ok (.aload_n 0, 1) := by decide +kernel
theorem dX7_look_101 : decode cX7_look 101 = .ok (.getfield 33, 3) := by decide +kernel
theorem dX7_look_104 : decode cX7_look 104 = .ok (.getfield 167, 3) := by decide +kernel
theorem dX7_look_107 : decode cX7_look 107 = .ok (.iload_n 1, 1) := by decide +kernel
theorem dX7_look_108 : decode cX7_look 108 = .ok (.iaload, 1) := by decide +kernel
theorem dX7_look_109 : decode cX7_look 109 = .ok (.ireturn, 1) := by decide +kernel
theorem dX7_look_110 : decode cX7_look 110 = .ok (.aload_n 0, 1) := by decide +kernel
theorem dX7_look_111 : decode cX7_look 111 = .ok (.getfield 26, 3) := by decide +kernel
theorem dX7_look_114 : decode cX7_look 114 = .ok (.iload_n 1, 1) := by decide +kernel
theorem dX7_look_115 : decode cX7_look 115 = .ok (.aload_n 0, 1) := by decide +kernel
theorem dX7_look_116 : decode cX7_look 116 = .ok (.getfield 19, 3) := by decide +kernel
theorem dX7_look_119 : decode cX7_look 119 = .ok (.getfield 146, 3) := by decide +kernel
theorem dX7_look_122 : decode cX7_look 122 = .ok (.invokevirtual 149, 3) := by decide +kernel
theorem dX7_look_125 : decode cX7_look 125 = .ok (.ireturn, 1) := by decide +kernel
theorem dX7_look_126 : decode cX7_look 126 = .ok (.new 242, 3) := by decide +kernel
theorem dX7_look_129 : decode cX7_look 129 = .ok (.dup, 1) := by decide +kernel
theorem dX7_look_130 : decode cX7_look 130 = .ok (.ldc 244, 2) := by decide +kernel
theorem dX7_look_132 : decode cX7_look 132 = .ok (.invokespecial 246, 3) := by decide +kernel
theorem dX7_look_135 : decode cX7_look 135 = .ok (.athrow, 1) := by decide +kernel
theorem dX7_coat_0 : decode cX7_coat 0 = .ok (.aload_n 0, 1) := by decide +kernel
theorem dX7_coat_1 : decode cX7_coat 1 = .ok (.getfield 40, 3) := by decide +kernel
theorem dX7_coat_4 : decode cX7_coat 4 = .ok (.iload_n 1, 1) := by decide +kernel
theorem dX7_coat_5 : decode cX7_coat 5 = .ok (.invokevirtual 181, 3) := by decide +kernel
theorem dX7_coat_8 : decode cX7_coat 8 = .ok (.ifCond .ne 5, 3) := by decide +kernel
theorem dX7_coat_11 : decode cX7_coat 11 = .ok (.iconst (-1), 1) := by decide +kernel
theorem dX7_coat_12 : decode cX7_coat 12 = .ok (.ireturn, 1) := by decide +kernel
theorem dX7_coat_13 : decode cX7_coat 13 = .ok (.iload_n 2, 1) := by decide +kernel
theorem dX7_coat_14 : decode cX7_coat 14 = .ok (.tableswitch 78 0 3 #[30, 40, 50, 68], 30) := by decide +kernel
theorem dX7_coat_44 : decode cX7_coat 44 = .ok (.aload_n 0, 1) := by decide +kernel
theorem dX7_coat_45 : decode cX7_coat 45 = .ok (.getfield 40, 3) := by decide +kernel
theorem dX7_coat_48 : decode cX7_coat 48 = .ok (.getfield 247, 3) := by decide +kernel
theorem dX7_coat_51 : decode cX7_coat 51 = .ok (.iload_n 1, 1) := by decide +kernel
theorem dX7_coat_52 : decode cX7_coat 52 = .ok (.iaload, 1) := by decide +kernel
theorem dX7_coat_53 : decode cX7_coat 53 = .ok (.ireturn, 1) := by decide +kernel
theorem dX7_coat_54 : decode cX7_coat 54 = .ok (.aload_n 0, 1) := by decide +kernel
theorem dX7_coat_55 : decode cX7_coat 55 = .ok (.getfield 40, 3) := by decide +kernel
theorem dX7_coat_58 : decode cX7_coat 58 = .ok (.getfield 248, 3) := by decide +kernel
theorem dX7_coat_61 : decode cX7_coat 61 = .ok (.iload_n 1, 1) := by decide +kernel
theorem dX7_coat_62 : decode cX7_coat 62 = .ok (.iaload, 1) := by decide +kernel
theorem dX7_coat_63 : decode cX7_coat 63 = .ok (.ireturn, 1) := by decide +kernel
theorem dX7_coat_64 : decode cX7_coat 64 = .ok (.aload_n 0, 1) := by decide +kernel
theorem dX7_coat_65 : decode cX7_coat 65 = .ok (.getfield 40, 3) := by decide +kernel
theorem dX7_coat_68 : decode cX7_coat 68 = .ok (.getfield 251, 3) := by decide +kernel
theorem dX7_coat_71 : decode cX7_coat 71 = .ok (.iload_n 1, 1) := by decide +kernel
theorem dX7_coat_72 : decode cX7_coat 72 = .ok (.baload, 1) := by decide +kernel
theorem dX7_coat_73 : decode cX7_coat 73 = .ok (.ifCond .eq 7, 3) := by decide +kernel
theorem dX7_coat_76 : decode cX7_coat 76 = .ok (.iconst 1, 1) := by decide +kernel
theorem dX7_coat_77 : decode cX7_coat 77 = .ok (.goto 4, 3) := by decide +kernel
theorem dX7_coat_80 : decode cX7_coat 80 = .ok (.iconst 0, 1) := by decide +kernel
theorem dX7_coat_81 : decode cX7_coat 81 = .ok (.ireturn, 1) := by decide +kernel
theorem dX7_coat_82 : decode cX7_coat 82 = .ok (.aload_n 0, 1) := by decide +kernel
theorem dX7_coat_83 : decode cX7_coat 83 = .ok (.getfield 40, 3) := by decide +kernel
theorem dX7_coat_86 : decode cX7_coat 86 = .ok (.getfield 182, 3) := by decide +kernel
theorem dX7_coat_89 : decode cX7_coat 89 = .ok (.iload_n 1, 1) := by decide +kernel
theorem dX7_coat_90 : decode cX7_coat 90 = .ok (.iaload, 1) := by decide +kernel
theorem dX7_coat_91 : decode cX7_coat 91 = .ok (.ireturn, 1) := by decide +kernel
theorem dX7_coat_92 : decode cX7_coat 92 = .ok (.iconst (-1), 1) := by decide +kernel
theorem dX7_coat_93 : decode cX7_coat 93 = .ok (.ireturn, 1) := by decide +kernel
theorem dX7_count_0 : decode cX7_count 0 = .ok (.iload_n 1, 1) := by decide +kernel
theorem dX7_count_1 : decode cX7_count 1 = .ok (.tableswitch 108 0 7 #[47, 55, 63, 71, 79, 87, 95, 103], 47) := by decide +kernel
theorem dX7_count_48 : decode cX7_count 48 = .ok (.aload_n 0, 1) := by decide +kernel
theorem dX7_count_49 : decode cX7_count 49 = .ok (.getfield 26, 3) := by decide +kernel
theorem dX7_count_52 : decode cX7_count 52 = .ok (.getfield 136, 3) := by decide +kernel
theorem dX7_count_55 : decode cX7_count 55 = .ok (.ireturn, 1) := by decide +kernel
theorem dX7_count_56 : decode cX7_count 56 = .ok (.aload_n 0, 1) := by decide +kernel
theorem dX7_count_57 : decode cX7_count 57 = .ok (.getfield 33, 3) := by decide +kernel
theorem dX7_count_60 : decode cX7_count 60 = .ok (.getfield 145, 3) := by decide +kernel
theorem dX7_count_63 : decode cX7_count 63 = .ok (.ireturn, 1) := by decide +kernel
theorem dX7_count_64 : decode cX7_count 64 = .ok (.aload_n 0, 1) := by decide +kernel
theorem dX7_count_65 : decode cX7_count 65 = .ok (.getfield 33, 3) := by decide +kernel
theorem dX7_count_68 : decode cX7_count 68 = .ok (.invokevirtual 106, 3) := by decide +kernel
theorem dX7_count_71 : decode cX7_count 71 = .ok (.ireturn, 1) := by decide +kernel
theorem dX7_count_72 : decode cX7_count 72 = .ok (.aload_n 0, 1) := by decide +kernel
theorem dX7_count_73 : decode cX7_count 73 = .ok (.getfield 40, 3) := by decide +kernel
theorem dX7_count_76 : decode cX7_count 76 = .ok (.getfield 173, 3) := by decide +kernel
theorem dX7_count_79 : decode cX7_count 79 = .ok (.ireturn, 1) := by decide +kernel
theorem dX7_count_80 : decode cX7_count 80 = .ok (.aload_n 0, 1) := by decide +kernel
theorem dX7_count_81 : decode cX7_count 81 = .ok (.getfield 54, 3) := by decide +kernel
theorem dX7_count_84 : decode cX7_count 84 = .ok (.getfield 222, 3) := by decide +kernel
theorem dX7_count_87 : decode cX7_count 87 = .ok (.ireturn, 1) := by decide +kernel
theorem dX7_count_88 : decode cX7_count 88 = .ok (.aload_n 0, 1) := by decide +kernel
theorem dX7_count_89 : decode cX7_count 89 = .ok (.getfield 26, 3) := by decide +kernel
theorem dX7_count_92 : decode cX7_count 92 = .ok (.getfield 133, 3) := by decide +kernel
theorem dX7_count_95 : decode cX7_count 95 = .ok (.ireturn, 1) := by decide +kernel
theorem dX7_count_96 : decode cX7_count 96 = .ok (.aload_n 0, 1) := by decide +kernel
theorem dX7_count_97 : decode cX7_count 97 = .ok (.getfield 19, 3) := by decide +kernel
theorem dX7_count_100 : decode cX7_count 100 = .ok (.invokevirtual 112, 3) := by decide +kernel
theorem dX7_count_103 : decode cX7_count 103 = .ok (.ireturn, 1) := by decide +kernel
theorem dX7_count_104 : decode cX7_count 104 = .ok (.aload_n 0, 1) := by decide +kernel
theorem dX7_count_105 : decode cX7_count 105 = .ok (.getfield 58, 3) := by decide +kernel
theorem dX7_count_108 : decode cX7_count 108 = .ok (.ireturn, 1) := by decide +kernel
theorem dX7_count_109 : decode cX7_count 109 = .ok (.iconst (-1), 1) := by decide +kernel
theorem dX7_count_110 : decode cX7_count 110 = .ok (.ireturn, 1) := by decide +kernel
