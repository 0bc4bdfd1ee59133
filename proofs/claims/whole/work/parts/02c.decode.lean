theorem dX10_init_0 : decode cX10_init 0 = .ok (.aload_n 0, 1) := by decide +kernel
theorem dX10_init_1 : decode cX10_init 1 = .ok (.invokespecial 3, 3) := by decide +kernel
theorem dX10_init_4 : decode cX10_init 4 = .ok (.aload_n 0, 1) := by decide +kernel
theorem dX10_init_5 : decode cX10_init 5 = .ok (.new 9, 3) := by decide +kernel
theorem dX10_init_8 : decode cX10_init 8 = .ok (.dup, 1) := by decide +kernel
theorem dX10_init_9 : decode cX10_init 9 = .ok (.invokespecial 11, 3) := by decide +kernel
theorem dX10_init_12 : decode cX10_init 12 = .ok (.putfield 12, 3) := by decide +kernel
theorem dX10_init_15 : decode cX10_init 15 = .ok (.aload_n 0, 1) := by decide +kernel
theorem dX10_init_16 : decode cX10_init 16 = .ok (.new 18, 3) := by decide +kernel
theorem dX10_init_19 : decode cX10_init 19 = .ok (.dup, 1) := by decide +kernel
theorem dX10_init_20 : decode cX10_init 20 = .ok (.invokespecial 20, 3) := by decide +kernel
theorem dX10_init_23 : decode cX10_init 23 = .ok (.putfield 21, 3) := by decide +kernel
theorem dX10_init_26 : decode cX10_init 26 = .ok (.aload_n 0, 1) := by decide +kernel
theorem dX10_init_27 : decode cX10_init 27 = .ok (.new 25, 3) := by decide +kernel
theorem dX10_init_30 : decode cX10_init 30 = .ok (.dup, 1) := by decide +kernel
theorem dX10_init_31 : decode cX10_init 31 = .ok (.aload_n 0, 1) := by decide +kernel
theorem dX10_init_32 : decode cX10_init 32 = .ok (.getfield 12, 3) := by decide +kernel
theorem dX10_init_35 : decode cX10_init 35 = .ok (.invokespecial 27, 3) := by decide +kernel
theorem dX10_init_38 : decode cX10_init 38 = .ok (.putfield 30, 3) := by decide +kernel
theorem dX10_init_41 : decode cX10_init 41 = .ok (.aload_n 0, 1) := by decide +kernel
theorem dX10_init_42 : decode cX10_init 42 = .ok (.new 34, 3) := by decide +kernel
theorem dX10_init_45 : decode cX10_init 45 = .ok (.dup, 1) := by decide +kernel
theorem dX10_init_46 : decode cX10_init 46 = .ok (.aload_n 0, 1) := by decide +kernel
theorem dX10_init_47 : decode cX10_init 47 = .ok (.getfield 30, 3) := by decide +kernel
theorem dX10_init_50 : decode cX10_init 50 = .ok (.invokespecial 36, 3) := by decide +kernel
theorem dX10_init_53 : decode cX10_init 53 = .ok (.putfield 39, 3) := by decide +kernel
theorem dX10_init_56 : decode cX10_init 56 = .ok (.aload_n 0, 1) := by decide +kernel
theorem dX10_init_57 : decode cX10_init 57 = .ok (.new 43, 3) := by decide +kernel
theorem dX10_init_60 : decode cX10_init 60 = .ok (.dup, 1) := by decide +kernel
theorem dX10_init_61 : decode cX10_init 61 = .ok (.invokespecial 45, 3) := by decide +kernel
theorem dX10_init_64 : decode cX10_init 64 = .ok (.putfield 46, 3) := by decide +kernel
theorem dX10_init_67 : decode cX10_init 67 = .ok (.aload_n 0, 1) := by decide +kernel
theorem dX10_init_68 : decode cX10_init 68 = .ok (.new 43, 3) := by decide +kernel
theorem dX10_init_71 : decode cX10_init 71 = .ok (.dup, 1) := by decide +kernel
theorem dX10_init_72 : decode cX10_init 72 = .ok (.invokespecial 45, 3) := by decide +kernel
theorem dX10_init_75 : decode cX10_init 75 = .ok (.putfield 50, 3) := by decide +kernel
theorem dX10_init_78 : decode cX10_init 78 = .ok (.aload_n 0, 1) := by decide +kernel
theorem dX10_init_79 : decode cX10_init 79 = .ok (.iconst 0, 1) := by decide +kernel
theorem dX10_init_80 : decode cX10_init 80 = .ok (.putfield 53, 3) := by decide +kernel
theorem dX10_init_83 : decode cX10_init 83 = .ok (.aload_n 0, 1) := by decide +kernel
theorem dX10_init_84 : decode cX10_init 84 = .ok (.new 57, 3) := by decide +kernel
theorem dX10_init_87 : decode cX10_init 87 = .ok (.dup, 1) := by decide +kernel
theorem dX10_init_88 : decode cX10_init 88 = .ok (.invokespecial 59, 3) := by decide +kernel
theorem dX10_init_91 : decode cX10_init 91 = .ok (.putfield 60, 3) := by decide +kernel
theorem dX10_init_94 : decode cX10_init 94 = .ok (.aload_n 0, 1) := by decide +kernel
theorem dX10_init_95 : decode cX10_init 95 = .ok (.new 64, 3) := by decide +kernel
theorem dX10_init_98 : decode cX10_init 98 = .ok (.dup, 1) := by decide +kernel
theorem dX10_init_99 : decode cX10_init 99 = .ok (.aload_n 0, 1) := by decide +kernel
theorem dX10_init_100 : decode cX10_init 100 = .ok (.getfield 12, 3) := by decide +kernel
theorem dX10_init_103 : decode cX10_init 103 = .ok (.invokespecial 66, 3) := by decide +kernel
theorem dX10_init_106 : decode cX10_init 106 = .ok (.putfield 67, 3) := by decide +kernel
theorem dX10_init_109 : decode cX10_init 109 = .ok (.aload_n 0, 1) := by decide +kernel
theorem dX10_init_110 : decode cX10_init 110 = .ok (.new 71, 3) := by decide +kernel
theorem dX10_init_113 : decode cX10_init 113 = .ok (.dup, 1) := by decide +kernel
theorem dX10_init_114 : decode cX10_init 114 = .ok (.aload_n 0, 1) := by decide +kernel
theorem dX10_init_115 : decode cX10_init 115 = .ok (.getfield 12, 3) := by decide +kernel
theorem dX10_init_118 : decode cX10_init 118 = .ok (.invokespecial 73, 3) := by decide +kernel
theorem dX10_init_121 : decode cX10_init 121 = .ok (.putfield 74, 3) := by decide +kernel
theorem dX10_init_124 : decode cX10_init 124 = .ok (.aload_n 0, 1) := by decide +kernel
theorem dX10_init_125 : decode cX10_init 125 = .ok (.new 78, 3) := by decide +kernel
theorem dX10_init_128 : decode cX10_init 128 = .ok (.dup, 1) := by decide +kernel
theorem dX10_init_129 : decode cX10_init 129 = .ok (.invokespecial 80, 3) := by decide +kernel
theorem dX10_init_132 : decode cX10_init 132 = .ok (.putfield 81, 3) := by decide +kernel
theorem dX10_init_135 : decode cX10_init 135 = .ok (.return_, 1) := by decide +kernel
theorem dX10_field_0 : decode cX10_field 0 = .ok (.iload_n 1, 1) := by decide +kernel
theorem dX10_field_1 : decode cX10_field 1 = .ok (.bipush 16, 2) := by decide +kernel
theorem dX10_field_3 : decode cX10_field 3 = .ok (.if_icmp .lt 16, 3) := by decide +kernel
theorem dX10_field_6 : decode cX10_field 6 = .ok (.iload_n 1, 1) := by decide +kernel
theorem dX10_field_7 : decode cX10_field 7 = .ok (.bipush 31, 2) := by decide +kernel
theorem dX10_field_9 : decode cX10_field 9 = .ok (.if_icmp .gt 10, 3) := by decide +kernel
theorem dX10_field_12 : decode cX10_field 12 = .ok (.iload_n 1, 1) := by decide +kernel
theorem dX10_field_13 : decode cX10_field 13 = .ok (.invokestatic 85, 3) := by decide +kernel
theorem dX10_field_16 : decode cX10_field 16 = .ok (.ifCond .ne 6, 3) := by decide +kernel
theorem dX10_field_19 : decode cX10_field 19 = .ok (.bipush (-2), 2) := by decide +kernel
theorem dX10_field_21 : decode cX10_field 21 = .ok (.ireturn, 1) := by decide +kernel
theorem dX10_field_22 : decode cX10_field 22 = .ok (.aload_n 0, 1) := by decide +kernel
theorem dX10_field_23 : decode cX10_field 23 = .ok (.getfield 46, 3) := by decide +kernel
theorem dX10_field_26 : decode cX10_field 26 = .ok (.getfield 89, 3) := by decide +kernel
theorem dX10_field_29 : decode cX10_field 29 = .ok (.getfield 92, 3) := by decide +kernel
theorem dX10_field_32 : decode cX10_field 32 = .ok (.ifCond .le 6, 3) := by decide +kernel
theorem dX10_field_35 : decode cX10_field 35 = .ok (.bipush (-3), 2) := by decide +kernel
theorem dX10_field_37 : decode cX10_field 37 = .ok (.ireturn, 1) := by decide +kernel
theorem dX10_field_38 : decode cX10_field 38 = .ok (.aload_n 0, 1) := by decide +kernel
theorem dX10_field_39 : decode cX10_field 39 = .ok (.getfield 12, 3) := by decide +kernel
theorem dX10_field_42 : decode cX10_field 42 = .ok (.iload_n 1, 1) := by decide +kernel
theorem dX10_field_43 : decode cX10_field 43 = .ok (.invokevirtual 96, 3) := by decide +kernel
theorem dX10_field_46 : decode cX10_field 46 = .ok (.aload_n 0, 1) := by decide +kernel
theorem dX10_field_47 : decode cX10_field 47 = .ok (.getfield 12, 3) := by decide +kernel
theorem dX10_field_50 : decode cX10_field 50 = .ok (.getfield 100, 3) := by decide +kernel
theorem dX10_field_53 : decode cX10_field 53 = .ok (.ireturn, 1) := by decide +kernel
theorem dX10_calc_0 : decode cX10_calc 0 = .ok (.iload_n 1, 1) := by decide +kernel
theorem dX10_calc_1 : decode cX10_calc 1 = .ok (.ifCond .lt 8, 3) := by decide +kernel
theorem dX10_calc_4 : decode cX10_calc 4 = .ok (.iload_n 1, 1) := by decide +kernel
theorem dX10_calc_5 : decode cX10_calc 5 = .ok (.iconst 5, 1) := by decide +kernel
theorem dX10_calc_6 : decode cX10_calc 6 = .ok (.if_icmp .le 5, 3) := by decide +kernel
theorem dX10_calc_9 : decode cX10_calc 9 = .ok (.iconst (-1), 1) := by decide +kernel
theorem dX10_calc_10 : decode cX10_calc 10 = .ok (.ireturn, 1) := by decide +kernel
theorem dX10_calc_11 : decode cX10_calc 11 = .ok (.iload_n 1, 1) := by decide +kernel
theorem dX10_calc_12 : decode cX10_calc 12 = .ok (.iload_n 2, 1) := by decide +kernel
theorem dX10_calc_13 : decode cX10_calc 13 = .ok (.iload_n 3, 1) := by decide +kernel
theorem dX10_calc_14 : decode cX10_calc 14 = .ok (.invokestatic 103, 3) := by decide +kernel
theorem dX10_calc_17 : decode cX10_calc 17 = .ok (.ifCond .ne 6, 3) := by decide +kernel
theorem dX10_calc_20 : decode cX10_calc 20 = .ok (.bipush (-2), 2) := by decide +kernel
theorem dX10_calc_22 : decode cX10_calc 22 = .ok (.ireturn, 1) := by decide +kernel
theorem dX10_calc_23 : decode cX10_calc 23 = .ok (.iload_n 1, 1) := by decide +kernel
theorem dX10_calc_24 : decode cX10_calc 24 = .ok (.tableswitch 93 0 4 #[36, 40, 50, 67, 77], 36) := by decide +kernel
theorem dX10_calc_60 : decode cX10_calc 60 = .ok (.iload_n 2, 1) := by decide +kernel
theorem dX10_calc_61 : decode cX10_calc 61 = .ok (.iload_n 3, 1) := by decide +kernel
theorem dX10_calc_62 : decode cX10_calc 62 = .ok (.ixor, 1) := by decide +kernel
theorem dX10_calc_63 : decode cX10_calc 63 = .ok (.ireturn, 1) := by decide +kernel
theorem dX10_calc_64 : decode cX10_calc 64 = .ok (.aload_n 0, 1) := by decide +kernel
theorem dX10_calc_65 : decode cX10_calc 65 = .ok (.getfield 12, 3) := by decide +kernel
theorem dX10_calc_68 : decode cX10_calc 68 = .ok (.iload_n 2, 1) := by decide +kernel
theorem dX10_calc_69 : decode cX10_calc 69 = .ok (.iload_n 3, 1) := by decide +kernel
theorem dX10_calc_70 : decode cX10_calc 70 = .ok (.invokevirtual 107, 3) := by decide +kernel
theorem dX10_calc_73 : decode cX10_calc 73 = .ok (.ireturn, 1) := by decide +kernel
theorem dX10_calc_74 : decode cX10_calc 74 = .ok (.aload_n 0, 1) := by decide +kernel
theorem dX10_calc_75 : decode cX10_calc 75 = .ok (.getfield 12, 3) := by decide +kernel
theorem dX10_calc_78 : decode cX10_calc 78 = .ok (.iload_n 2, 1) := by decide +kernel
theorem dX10_calc_79 : decode cX10_calc 79 = .ok (.aload_n 0, 1) := by decide +kernel
theorem dX10_calc_80 : decode cX10_calc 80 = .ok (.getfield 12, 3) := by decide +kernel
theorem dX10_calc_83 : decode cX10_calc 83 = .ok (.iload_n 3, 1) := by decide +kernel
theorem dX10_calc_84 : decode cX10_calc 84 = .ok (.invokevirtual 111, 3) := by decide +kernel
theorem dX10_calc_87 : decode cX10_calc 87 = .ok (.invokevirtual 107, 3) := by decide +kernel
theorem dX10_calc_90 : decode cX10_calc 90 = .ok (.ireturn, 1) := by decide +kernel
theorem dX10_calc_91 : decode cX10_calc 91 = .ok (.aload_n 0, 1) := by decide +kernel
theorem dX10_calc_92 : decode cX10_calc 92 = .ok (.getfield 12, 3) := by decide +kernel
theorem dX10_calc_95 : decode cX10_calc 95 = .ok (.iload_n 2, 1) := by decide +kernel
theorem dX10_calc_96 : decode cX10_calc 96 = .ok (.iload_n 3, 1) := by decide +kernel
theorem dX10_calc_97 : decode cX10_calc 97 = .ok (.invokevirtual 115, 3) := by decide +kernel
theorem dX10_calc_100 : decode cX10_calc 100 = .ok (.ireturn, 1) := by decide +kernel
theorem dX10_calc_101 : decode cX10_calc 101 = .ok (.aload_n 0, 1) := by decide +kernel
theorem dX10_calc_102 : decode cX10_calc 102 = .ok (.getfield 12, 3) := by decide +kernel
theorem dX10_calc_105 : decode cX10_calc 105 = .ok (.aload_n 0, 1) := by decide +kernel
theorem dX10_calc_106 : decode cX10_calc 106 = .ok (.getfield 12, 3) := by decide +kernel
theorem dX10_calc_109 : decode cX10_calc 109 = .ok (.getfield 100, 3) := by decide +kernel
theorem dX10_calc_112 : decode cX10_calc 112 = .ok (.iload_n 2, 1) := by decide +kernel
theorem dX10_calc_113 : decode cX10_calc 113 = .ok (.invokevirtual 115, 3) := by decide +kernel
theorem dX10_calc_116 : decode cX10_calc 116 = .ok (.ireturn, 1) := by decide +kernel
theorem dX10_calc_117 : decode cX10_calc 117 = .ok (.aload_n 0, 1) := by decide +kernel
theorem dX10_calc_118 : decode cX10_calc 118 = .ok (.getfield 12, 3) := by decide +kernel
theorem dX10_calc_121 : decode cX10_calc 121 = .ok (.iload_n 2, 1) := by decide +kernel
theorem dX10_calc_122 : decode cX10_calc 122 = .ok (.invokevirtual 118, 3) := by decide +kernel
theorem dX10_calc_125 : decode cX10_calc 125 = .ok (.ireturn, 1) := by decide +kernel
theorem dX10_canCalc_0 : decode cX10_canCalc 0 = .ok (.iload_n 0, 1) := by decide +kernel
theorem dX10_canCalc_1 : decode cX10_canCalc 1 = .ok (.tableswitch 118 0 4 #[35, 35, 55, 79, 102], 35) := by decide +kernel
theorem dX10_canCalc_36 : decode cX10_canCalc 36 = .ok (.iload_n 1, 1) := by decide +kernel
theorem dX10_canCalc_37 : decode cX10_canCalc 37 = .ok (.invokestatic 121, 3) := by decide +kernel
theorem dX10_canCalc_40 : decode cX10_canCalc 40 = .ok (.ifCond .eq 14, 3) := by decide +kernel
theorem dX10_canCalc_43 : decode cX10_canCalc 43 = .ok (.iload_n 2, 1) := by decide +kernel
theorem dX10_canCalc_44 : decode cX10_canCalc 44 = .ok (.invokestatic 121, 3) := by decide +kernel
theorem dX10_canCalc_47 : decode cX10_canCalc 47 = .ok (.ifCond .eq 7, 3) := by decide +kernel
theorem dX10_canCalc_50 : decode cX10_canCalc 50 = .ok (.iconst 1, 1) := by decide +kernel
theorem dX10_canCalc_51 : decode cX10_canCalc 51 = .ok (.goto 4, 3) := by decide +kernel
theorem dX10_canCalc_54 : decode cX10_canCalc 54 = .ok (.iconst 0, 1) := by decide +kernel
theorem dX10_canCalc_55 : decode cX10_canCalc 55 = .ok (.ireturn, 1) := by decide +kernel
theorem dX10_canCalc_56 : decode cX10_canCalc 56 = .ok (.iload_n 1, 1) := by decide +kernel
theorem dX10_canCalc_57 : decode cX10_canCalc 57 = .ok (.invokestatic 121, 3) := by decide +kernel
theorem dX10_canCalc_60 : decode cX10_canCalc 60 = .ok (.ifCond .eq 18, 3) := by decide +kernel
theorem dX10_canCalc_63 : decode cX10_canCalc 63 = .ok (.iload_n 2, 1) := by decide +kernel
theorem dX10_canCalc_64 : decode cX10_canCalc 64 = .ok (.invokestatic 121, 3) := by decide +kernel
theorem dX10_canCalc_67 : decode cX10_canCalc 67 = .ok (.ifCond .eq 11, 3) := by decide +kernel
theorem dX10_canCalc_70 : decode cX10_canCalc 70 = .ok (.iload_n 2, 1) := by decide +kernel
theorem dX10_canCalc_71 : decode cX10_canCalc 71 = .ok (.ifCond .eq 7, 3) := by decide +kernel
theorem dX10_canCalc_74 : decode cX10_canCalc 74 = .ok (.iconst 1, 1) := by decide +kernel
theorem dX10_canCalc_75 : decode cX10_canCalc 75 = .ok (.goto 4, 3) := by decide +kernel
theorem dX10_canCalc_78 : decode cX10_canCalc 78 = .ok (.iconst 0, 1) := by decide +kernel
theorem dX10_canCalc_79 : decode cX10_canCalc 79 = .ok (.ireturn, 1) := by decide +kernel
theorem dX10_canCalc_80 : decode cX10_canCalc 80 = .ok (.iload_n 1, 1) := by decide +kernel
theorem dX10_canCalc_81 : decode cX10_canCalc 81 = .ok (.invokestatic 121, 3) := by decide +kernel
theorem dX10_canCalc_84 : decode cX10_canCalc 84 = .ok (.ifCond .eq 17, 3) := by decide +kernel
theorem dX10_canCalc_87 : decode cX10_canCalc 87 = .ok (.iload_n 2, 1) := by decide +kernel
theorem dX10_canCalc_88 : decode cX10_canCalc 88 = .ok (.ifCond .lt 13, 3) := by decide +kernel
theorem dX10_canCalc_91 : decode cX10_canCalc 91 = .ok (.iload_n 2, 1) := by decide +kernel
theorem dX10_canCalc_92 : decode cX10_canCalc 92 = .ok (.bipush 99, 2) := by decide +kernel
theorem dX10_canCalc_94 : decode cX10_canCalc 94 = .ok (.if_icmp .gt 7, 3) := by decide +kernel
theorem dX10_canCalc_97 : decode cX10_canCalc 97 = .ok (.iconst 1, 1) := by decide +kernel
theorem dX10_canCalc_98 : decode cX10_canCalc 98 = .ok (.goto 4, 3) := by decide +kernel
theorem dX10_canCalc_101 : decode cX10_canCalc 101 = .ok (.iconst 0, 1) := by decide +kernel
theorem dX10_canCalc_102 : decode cX10_canCalc 102 = .ok (.ireturn, 1) := by decide +kernel
theorem dX10_canCalc_103 : decode cX10_canCalc 103 = .ok (.iload_n 1, 1) := by decide +kernel
theorem dX10_canCalc_104 : decode cX10_canCalc 104 = .ok (.ifCond .lt 13, 3) := by decide +kernel
theorem dX10_canCalc_107 : decode cX10_canCalc 107 = .ok (.iload_n 1, 1) := by decide +kernel
theorem dX10_canCalc_108 : decode cX10_canCalc 108 = .ok (.bipush 14, 2) := by decide +kernel
theorem dX10_canCalc_110 : decode cX10_canCalc 110 = .ok (.if_icmp .gt 7, 3) := by decide +kernel
theorem dX10_canCalc_113 : decode cX10_canCalc 113 = .ok (.iconst 1, 1) := by decide +kernel
theorem dX10_canCalc_114 : decode cX10_canCalc 114 = .ok (.goto 4, 3) := by decide +kernel
theorem dX10_canCalc_117 : decode cX10_canCalc 117 = .ok (.iconst 0, 1) := by decide +kernel
theorem dX10_canCalc_118 : decode cX10_canCalc 118 = .ok (.ireturn, 1) := by decide +kernel
theorem dX10_canCalc_119 : decode cX10_canCalc 119 = .ok (.iload_n 1, 1) := by decide +kernel
theorem dX10_canCalc_120 : decode cX10_canCalc 120 = .ok (.invokestatic 121, 3) := by decide +kernel
theorem dX10_canCalc_123 : decode cX10_canCalc 123 = .ok (.ifCond .eq 11, 3) := by decide +kernel
theorem dX10_canCalc_126 : decode cX10_canCalc 126 = .ok (.iload_n 1, 1) := by decide +kernel
theorem dX10_canCalc_127 : decode cX10_canCalc 127 = .ok (.ifCond .eq 7, 3) := by decide +kernel
theorem dX10_canCalc_130 : decode cX10_canCalc 130 = .ok (.iconst 1, 1) := by decide +kernel
theorem dX10_canCalc_131 : decode cX10_canCalc 131 = .ok (.goto 4, 3) := by decide +kernel
theorem dX10_canCalc_134 : decode cX10_canCalc 134 = .ok (.iconst 0, 1) := by decide +kernel
theorem dX10_canCalc_135 : decode cX10_canCalc 135 = .ok (.ireturn, 1) := by decide +kernel
theorem dX10_isNumber_0 : decode cX10_isNumber 0 = .ok (.iload_n 0, 1) := by decide +kernel
theorem dX10_isNumber_1 : decode cX10_isNumber 1 = .ok (.ifCond .lt 13, 3) := by decide +kernel
theorem dX10_isNumber_4 : decode cX10_isNumber 4 = .ok (.iload_n 0, 1) := by decide +kernel
theorem dX10_isNumber_5 : decode cX10_isNumber 5 = .ok (.bipush 15, 2) := by decide +kernel
theorem dX10_isNumber_7 : decode cX10_isNumber 7 = .ok (.if_icmp .gt 7, 3) := by decide +kernel
theorem dX10_isNumber_10 : decode cX10_isNumber 10 = .ok (.iconst 1, 1) := by decide +kernel
theorem dX10_isNumber_11 : decode cX10_isNumber 11 = .ok (.goto 4, 3) := by decide +kernel
theorem dX10_isNumber_14 : decode cX10_isNumber 14 = .ok (.iconst 0, 1) := by decide +kernel
theorem dX10_isNumber_15 : decode cX10_isNumber 15 = .ok (.ireturn, 1) := by decide +kernel
theorem dX10_data_0 : decode cX10_data 0 = .ok (.iload_n 1, 1) := by decide +kernel
theorem dX10_data_1 : decode cX10_data 1 = .ok (.invokestatic 124, 3) := by decide +kernel
theorem dX10_data_4 : decode cX10_data 4 = .ok (.ifCond .ne 5, 3) := by decide +kernel
theorem dX10_data_7 : decode cX10_data 7 = .ok (.iconst (-1), 1) := by decide +kernel
theorem dX10_data_8 : decode cX10_data 8 = .ok (.ireturn, 1) := by decide +kernel
theorem dX10_data_9 : decode cX10_data 9 = .ok (.iload_n 2, 1) := by decide +kernel
theorem dX10_data_10 : decode cX10_data 10 = .ok (.invokestatic 127, 3) := by decide +kernel
theorem dX10_data_13 : decode cX10_data 13 = .ok (.ifCond .ne 6, 3) := by decide +kernel
theorem dX10_data_16 : decode cX10_data 16 = .ok (.bipush (-2), 2) := by decide +kernel
theorem dX10_data_18 : decode cX10_data 18 = .ok (.ireturn, 1) := by decide +kernel
theorem dX10_data_19 : decode cX10_data 19 = .ok (.aload_n 0, 1) := by decide +kernel
theorem dX10_data_20 : decode cX10_data 20 = .ok (.getfield 46, 3) := by decide +kernel
theorem dX10_data_23 : decode cX10_data 23 = .ok (.getfield 89, 3) := by decide +kernel
theorem dX10_data_26 : decode cX10_data 26 = .ok (.getfield 130, 3) := by decide +kernel
theorem dX10_data_29 : decode cX10_data 29 = .ok (.iconst 5, 1) := by decide +kernel
theorem dX10_data_30 : decode cX10_data 30 = .ok (.if_icmp .lt 6, 3) := by decide +kernel
theorem dX10_data_33 : decode cX10_data 33 = .ok (.bipush (-4), 2) := by decide +kernel
theorem dX10_data_35 : decode cX10_data 35 = .ok (.ireturn, 1) := by decide +kernel
theorem dX10_data_36 : decode cX10_data 36 = .ok (.aload_n 0, 1) := by decide +kernel
theorem dX10_data_37 : decode cX10_data 37 = .ok (.getfield 46, 3) := by decide +kernel
theorem dX10_data_40 : decode cX10_data 40 = .ok (.getfield 89, 3) := by decide +kernel
theorem dX10_data_43 : decode cX10_data 43 = .ok (.iload_n 1, 1) := by decide +kernel
theorem dX10_data_44 : decode cX10_data 44 = .ok (.iload_n 2, 1) := by decide +kernel
theorem dX10_data_45 : decode cX10_data 45 = .ok (.invokevirtual 133, 3) := by decide +kernel
theorem dX10_data_48 : decode cX10_data 48 = .ok (.istore_n 3, 1) := by decide +kernel
theorem dX10_data_49 : decode cX10_data 49 = .ok (.aload_n 0, 1) := by decide +kernel
theorem dX10_data_50 : decode cX10_data 50 = .ok (.getfield 30, 3) := by decide +kernel
theorem dX10_data_53 : decode cX10_data 53 = .ok (.aload_n 0, 1) := by decide +kernel
theorem dX10_data_54 : decode cX10_data 54 = .ok (.getfield 46, 3) := by decide +kernel
theorem dX10_data_57 : decode cX10_data 57 = .ok (.getfield 89, 3) := by decide +kernel
theorem dX10_data_60 : decode cX10_data 60 = .ok (.iload_n 3, 1) := by decide +kernel
theorem dX10_data_61 : decode cX10_data 61 = .ok (.invokevirtual 136, 3) := by decide +kernel
theorem dX10_data_64 : decode cX10_data 64 = .ok (.iload_n 3, 1) := by decide +kernel
theorem dX10_data_65 : decode cX10_data 65 = .ok (.ireturn, 1) := by decide +kernel
theorem dX10_feed_0 : decode cX10_feed 0 = .ok (.iload_n 1, 1) := by decide +kernel
theorem dX10_feed_1 : decode cX10_feed 1 = .ok (.ifCond .lt 9, 3) := by decide +kernel
theorem dX10_feed_4 : decode cX10_feed 4 = .ok (.iload_n 1, 1) := by decide +kernel
theorem dX10_feed_5 : decode cX10_feed 5 = .ok (.bipush 127, 2) := by decide +kernel
theorem dX10_feed_7 : decode cX10_feed 7 = .ok (.if_icmp .le 6, 3) := by decide +kernel
theorem dX10_feed_10 : decode cX10_feed 10 = .ok (.bipush (-2), 2) := by decide +kernel
theorem dX10_feed_12 : decode cX10_feed 12 = .ok (.ireturn, 1) := by decide +kernel
theorem dX10_feed_13 : decode cX10_feed 13 = .ok (.aload_n 0, 1) := by decide +kernel
theorem dX10_feed_14 : decode cX10_feed 14 = .ok (.getfield 21, 3) := by decide +kernel
theorem dX10_feed_17 : decode cX10_feed 17 = .ok (.iload_n 1, 1) := by decide +kernel
theorem dX10_feed_18 : decode cX10_feed 18 = .ok (.invokevirtual 140, 3) := by decide +kernel
theorem dX10_feed_21 : decode cX10_feed 21 = .ok (.ifCond .eq 13, 3) := by decide +kernel
theorem dX10_feed_24 : decode cX10_feed 24 = .ok (.aload_n 0, 1) := by decide +kernel
theorem dX10_feed_25 : decode cX10_feed 25 = .ok (.getfield 21, 3) := by decide +kernel
theorem dX10_feed_28 : decode cX10_feed 28 = .ok (.getfield 143, 3) := by decide +kernel
theorem dX10_feed_31 : decode cX10_feed 31 = .ok (.goto 5, 3) := by decide +kernel
theorem dX10_feed_34 : decode cX10_feed 34 = .ok (.bipush (-4), 2) := by decide +kernel
theorem dX10_feed_36 : decode cX10_feed 36 = .ok (.ireturn, 1) := by decide +kernel
theorem dX10_parity_0 : decode cX10_parity 0 = .ok (.iload_n 1, 1) := by decide +kernel
theorem dX10_parity_1 : decode cX10_parity 1 = .ok (.invokestatic 124, 3) := by decide +kernel
theorem dX10_parity_4 : decode cX10_parity 4 = .ok (.ifCond .ne 5, 3) := by decide +kernel
theorem dX10_parity_7 : decode cX10_parity 7 = .ok (.iconst (-1), 1) := by decide +kernel
theorem dX10_parity_8 : decode cX10_parity 8 = .ok (.ireturn, 1) := by decide +kernel
theorem dX10_parity_9 : decode cX10_parity 9 = .ok (.iload_n 2, 1) := by decide +kernel
theorem dX10_parity_10 : decode cX10_parity 10 = .ok (.invokestatic 127, 3) := by decide +kernel
theorem dX10_parity_13 : decode cX10_parity 13 = .ok (.ifCond .ne 6, 3) := by decide +kernel
theorem dX10_parity_16 : decode cX10_parity 16 = .ok (.bipush (-2), 2) := by decide +kernel
theorem dX10_parity_18 : decode cX10_parity 18 = .ok (.ireturn, 1) := by decide +kernel
theorem dX10_parity_19 : decode cX10_parity 19 = .ok (.aload_n 0, 1) := by decide +kernel
theorem dX10_parity_20 : decode cX10_parity 20 = .ok (.getfield 46, 3) := by decide +kernel
theorem dX10_parity_23 : decode cX10_parity 23 = .ok (.getfield 89, 3) := by decide +kernel
theorem dX10_parity_26 : decode cX10_parity 26 = .ok (.getfield 92, 3) := by decide +kernel
theorem dX10_parity_29 : decode cX10_parity 29 = .ok (.aload_n 0, 1) := by decide +kernel
theorem dX10_parity_30 : decode cX10_parity 30 = .ok (.getfield 46, 3) := by decide +kernel
theorem dX10_parity_33 : decode cX10_parity 33 = .ok (.getfield 89, 3) := by decide +kernel
theorem dX10_parity_36 : decode cX10_parity 36 = .ok (.getfield 130, 3) := by decide +kernel
theorem dX10_parity_39 : decode cX10_parity 39 = .ok (.isub, 1) := by decide +kernel
theorem dX10_parity_40 : decode cX10_parity 40 = .ok (.iconst 5, 1) := by decide +kernel
theorem dX10_parity_41 : decode cX10_parity 41 = .ok (.if_icmp .lt 6, 3) := by decide +kernel
theorem dX10_parity_44 : decode cX10_parity 44 = .ok (.bipush (-4), 2) := by decide +kernel
theorem dX10_parity_46 : decode cX10_parity 46 = .ok (.ireturn, 1) := by decide +kernel
theorem dX10_parity_47 : decode cX10_parity 47 = .ok (.aload_n 0, 1) := by decide +kernel
theorem dX10_parity_48 : decode cX10_parity 48 = .ok (.getfield 21, 3) := by decide +kernel
theorem dX10_parity_51 : decode cX10_parity 51 = .ok (.aload_n 0, 1) := by decide +kernel
theorem dX10_parity_52 : decode cX10_parity 52 = .ok (.getfield 12, 3) := by decide +kernel
theorem dX10_parity_55 : decode cX10_parity 55 = .ok (.invokevirtual 144, 3) := by decide +kernel
theorem dX10_parity_58 : decode cX10_parity 58 = .ok (.istore_n 3, 1) := by decide +kernel
theorem dX10_parity_59 : decode cX10_parity 59 = .ok (.aload_n 0, 1) := by decide +kernel
theorem dX10_parity_60 : decode cX10_parity 60 = .ok (.getfield 21, 3) := by decide +kernel
theorem dX10_parity_63 : decode cX10_parity 63 = .ok (.iconst 0, 1) := by decide +kernel
theorem dX10_parity_64 : decode cX10_parity 64 = .ok (.putfield 143, 3) := by decide +kernel
theorem dX10_parity_67 : decode cX10_parity 67 = .ok (.iload_n 3, 1) := by decide +kernel
theorem dX10_parity_68 : decode cX10_parity 68 = .ok (.ifCond .ne 14, 3) := by decide +kernel
theorem dX10_parity_71 : decode cX10_parity 71 = .ok (.bipush (-10), 2) := by decide +kernel
theorem dX10_parity_73 : decode cX10_parity 73 = .ok (.aload_n 0, 1) := by decide +kernel
theorem dX10_parity_74 : decode cX10_parity 74 = .ok (.getfield 21, 3) := by decide +kernel
theorem dX10_parity_77 : decode cX10_parity 77 = .ok (.getfield 148, 3) := by decide +kernel
theorem dX10_parity_80 : decode cX10_parity 80 = .ok (.isub, 1) := by decide +kernel
theorem dX10_parity_81 : decode cX10_parity 81 = .ok (.ireturn, 1) := by decide +kernel
theorem dX10_parity_82 : decode cX10_parity 82 = .ok (.aload_n 0, 1) := by decide +kernel
theorem dX10_parity_83 : decode cX10_parity 83 = .ok (.getfield 46, 3) := by decide +kernel
theorem dX10_parity_86 : decode cX10_parity 86 = .ok (.getfield 89, 3) := by decide +kernel
theorem dX10_parity_89 : decode cX10_parity 89 = .ok (.aload_n 0, 1) := by decide +kernel
theorem dX10_parity_90 : decode cX10_parity 90 = .ok (.getfield 21, 3) := by decide +kernel
theorem dX10_parity_93 : decode cX10_parity 93 = .ok (.getfield 151, 3) := by decide +kernel
theorem dX10_parity_96 : decode cX10_parity 96 = .ok (.invokevirtual 154, 3) := by decide +kernel
theorem dX10_parity_99 : decode cX10_parity 99 = .ok (.ifCond .eq 6, 3) := by decide +kernel
theorem dX10_parity_102 : decode cX10_parity 102 = .ok (.bipush (-3), 2) := by decide +kernel
theorem dX10_parity_104 : decode cX10_parity 104 = .ok (.ireturn, 1) := by decide +kernel
theorem dX10_parity_105 : decode cX10_parity 105 = .ok (.aload_n 0, 1) := by decide +kernel
theorem dX10_parity_106 : decode cX10_parity 106 = .ok (.getfield 46, 3) := by decide +kernel
theorem dX10_parity_109 : decode cX10_parity 109 = .ok (.getfield 89, 3) := by decide +kernel
theorem dX10_parity_112 : decode cX10_parity 112 = .ok (.iload_n 1, 1) := by decide +kernel
theorem dX10_parity_113 : decode cX10_parity 113 = .ok (.iload_n 2, 1) := by decide +kernel
theorem dX10_parity_114 : decode cX10_parity 114 = .ok (.aload_n 0, 1) := by decide +kernel
theorem dX10_parity_115 : decode cX10_parity 115 = .ok (.getfield 21, 3) := by decide +kernel
theorem dX10_parity_118 : decode cX10_parity 118 = .ok (.getfield 151, 3) := by decide +kernel
theorem dX10_parity_121 : decode cX10_parity 121 = .ok (.invokevirtual 157, 3) := by decide +kernel
theorem dX10_parity_124 : decode cX10_parity 124 = .ok (.istore 4, 2) := by decide +kernel
theorem dX10_parity_126 : decode cX10_parity 126 = .ok (.aload_n 0, 1) := by decide +kernel
theorem dX10_parity_127 : decode cX10_parity 127 = .ok (.getfield 30, 3) := by decide +kernel
theorem dX10_parity_130 : decode cX10_parity 130 = .ok (.aload_n 0, 1) := by decide +kernel
theorem dX10_parity_131 : decode cX10_parity 131 = .ok (.getfield 46, 3) := by decide +kernel
theorem dX10_parity_134 : decode cX10_parity 134 = .ok (.getfield 89, 3) := by decide +kernel
theorem dX10_parity_137 : decode cX10_parity 137 = .ok (.iload 4, 2) := by decide +kernel
theorem dX10_parity_139 : decode cX10_parity 139 = .ok (.invokevirtual 136, 3) := by decide +kernel
theorem dX10_parity_142 : decode cX10_parity 142 = .ok (.iload 4, 2) := by decide +kernel
theorem dX10_parity_144 : decode cX10_parity 144 = .ok (.ireturn, 1) := by decide +kernel
theorem dX10_isKind_0 : decode cX10_isKind 0 = .ok (.iload_n 0, 1) := by decide +kernel
theorem dX10_isKind_1 : decode cX10_isKind 1 = .ok (.ifCond .lt 15, 3) := by decide +kernel
theorem dX10_isKind_4 : decode cX10_isKind 4 = .ok (.iload_n 0, 1) := by decide +kernel
theorem dX10_isKind_5 : decode cX10_isKind 5 = .ok (.getstatic 161, 3) := by decide +kernel
theorem dX10_isKind_8 : decode cX10_isKind 8 = .ok (.arraylength, 1) := by decide +kernel
theorem dX10_isKind_9 : decode cX10_isKind 9 = .ok (.if_icmp .ge 7, 3) := by decide +kernel
theorem dX10_isKind_12 : decode cX10_isKind 12 = .ok (.iconst 1, 1) := by decide +kernel
theorem dX10_isKind_13 : decode cX10_isKind 13 = .ok (.goto 4, 3) := by decide +kernel
theorem dX10_isKind_16 : decode cX10_isKind 16 = .ok (.iconst 0, 1) := by decide +kernel
theorem dX10_isKind_17 : decode cX10_isKind 17 = .ok (.ireturn, 1) := by decide +kernel
theorem dX10_isDigit_0 : decode cX10_isDigit 0 = .ok (.iload_n 0, 1) := by decide +kernel
theorem dX10_isDigit_1 : decode cX10_isDigit 1 = .ok (.ifCond .lt 13, 3) := by decide +kernel
theorem dX10_isDigit_4 : decode cX10_isDigit 4 = .ok (.iload_n 0, 1) := by decide +kernel
theorem dX10_isDigit_5 : decode cX10_isDigit 5 = .ok (.bipush 9, 2) := by decide +kernel
theorem dX10_isDigit_7 : decode cX10_isDigit 7 = .ok (.if_icmp .gt 7, 3) := by decide +kernel
theorem dX10_isDigit_10 : decode cX10_isDigit 10 = .ok (.iconst 1, 1) := by decide +kernel
theorem dX10_isDigit_11 : decode cX10_isDigit 11 = .ok (.goto 4, 3) := by decide +kernel
theorem dX10_isDigit_14 : decode cX10_isDigit 14 = .ok (.iconst 0, 1) := by decide +kernel
theorem dX10_isDigit_15 : decode cX10_isDigit 15 = .ok (.ireturn, 1) := by decide +kernel
theorem dX10_row_0 : decode cX10_row 0 = .ok (.aload_n 0, 1) := by decide +kernel
theorem dX10_row_1 : decode cX10_row 1 = .ok (.getfield 46, 3) := by decide +kernel
theorem dX10_row_4 : decode cX10_row 4 = .ok (.getfield 89, 3) := by decide +kernel
theorem dX10_row_7 : decode cX10_row 7 = .ok (.iload_n 1, 1) := by decide +kernel
theorem dX10_row_8 : decode cX10_row 8 = .ok (.invokevirtual 165, 3) := by decide +kernel
theorem dX10_row_11 : decode cX10_row 11 = .ok (.ifCond .eq 12, 3) := by decide +kernel
theorem dX10_row_14 : decode cX10_row 14 = .ok (.iload_n 2, 1) := by decide +kernel
theorem dX10_row_15 : decode cX10_row 15 = .ok (.ifCond .lt 8, 3) := by decide +kernel
theorem dX10_row_18 : decode cX10_row 18 = .ok (.iload_n 2, 1) := by decide +kernel
theorem dX10_row_19 : decode cX10_row 19 = .ok (.iconst 4, 1) := by decide +kernel
theorem dX10_row_20 : decode cX10_row 20 = .ok (.if_icmp .lt 5, 3) := by decide +kernel
theorem dX10_row_23 : decode cX10_row 23 = .ok (.iconst (-1), 1) := by decide +kernel
theorem dX10_row_24 : decode cX10_row 24 = .ok (.ireturn, 1) := by decide +kernel
theorem dX10_row_25 : decode cX10_row 25 = .ok (.iload_n 3, 1) := by decide +kernel
theorem dX10_row_26 : decode cX10_row 26 = .ok (.invokestatic 127, 3) := by decide +kernel
theorem dX10_row_29 : decode cX10_row 29 = .ok (.ifCond .ne 6, 3) := by decide +kernel
theorem dX10_row_32 : decode cX10_row 32 = .ok (.bipush (-2), 2) := by decide +kernel
theorem dX10_row_34 : decode cX10_row 34 = .ok (.ireturn, 1) := by decide +kernel
theorem dX10_row_35 : decode cX10_row 35 = .ok (.aload_n 0, 1) := by decide +kernel
theorem dX10_row_36 : decode cX10_row 36 = .ok (.getfield 46, 3) := by decide +kernel
theorem dX10_row_39 : decode cX10_row 39 = .ok (.getfield 89, 3) := by decide +kernel
theorem dX10_row_42 : decode cX10_row 42 = .ok (.getfield 168, 3) := by decide +kernel
theorem dX10_row_45 : decode cX10_row 45 = .ok (.iload_n 1, 1) := by decide +kernel
theorem dX10_row_46 : decode cX10_row 46 = .ok (.iaload, 1) := by decide +kernel
theorem dX10_row_47 : decode cX10_row 47 = .ok (.bipush 6, 2) := by decide +kernel
theorem dX10_row_49 : decode cX10_row 49 = .ok (.if_icmp .eq 6, 3) := by decide +kernel
theorem dX10_row_52 : decode cX10_row 52 = .ok (.bipush (-3), 2) := by decide +kernel
theorem dX10_row_54 : decode cX10_row 54 = .ok (.ireturn, 1) := by decide +kernel
theorem dX10_row_55 : decode cX10_row 55 = .ok (.aload_n 0, 1) := by decide +kernel
theorem dX10_row_56 : decode cX10_row 56 = .ok (.getfield 46, 3) := by decide +kernel
theorem dX10_row_59 : decode cX10_row 59 = .ok (.getfield 89, 3) := by decide +kernel
theorem dX10_row_62 : decode cX10_row 62 = .ok (.getfield 171, 3) := by decide +kernel
theorem dX10_row_65 : decode cX10_row 65 = .ok (.iload_n 1, 1) := by decide +kernel
theorem dX10_row_66 : decode cX10_row 66 = .ok (.aaload, 1) := by decide +kernel
theorem dX10_row_67 : decode cX10_row 67 = .ok (.iload_n 2, 1) := by decide +kernel
theorem dX10_row_68 : decode cX10_row 68 = .ok (.iaload, 1) := by decide +kernel
theorem dX10_row_69 : decode cX10_row 69 = .ok (.istore 4, 2) := by decide +kernel
theorem dX10_row_71 : decode cX10_row 71 = .ok (.aload_n 0, 1) := by decide +kernel
theorem dX10_row_72 : decode cX10_row 72 = .ok (.getfield 46, 3) := by decide +kernel
theorem dX10_row_75 : decode cX10_row 75 = .ok (.getfield 89, 3) := by decide +kernel
theorem dX10_row_78 : decode cX10_row 78 = .ok (.getfield 171, 3) := by decide +kernel
theorem dX10_row_81 : decode cX10_row 81 = .ok (.iload_n 1, 1) := by decide +kernel
theorem dX10_row_82 : decode cX10_row 82 = .ok (.aaload, 1) := by decide +kernel
theorem dX10_row_83 : decode cX10_row 83 = .ok (.iload_n 2, 1) := by decide +kernel
theorem dX10_row_84 : decode cX10_row 84 = .ok (.iload_n 3, 1) := by decide +kernel
theorem dX10_row_85 : decode cX10_row 85 = .ok (.iastore, 1) := by decide +kernel
theorem dX10_row_86 : decode cX10_row 86 = .ok (.iload 4, 2) := by decide +kernel
theorem dX10_row_88 : decode cX10_row 88 = .ok (.ireturn, 1) := by decide +kernel
theorem dX10_of_0 : decode cX10_of 0 = .ok (.aload_n 0, 1) := by decide +kernel
theorem dX10_of_1 : decode cX10_of 1 = .ok (.getfield 46, 3) := by decide +kernel
theorem dX10_of_4 : decode cX10_of 4 = .ok (.getfield 89, 3) := by decide +kernel
theorem dX10_of_7 : decode cX10_of 7 = .ok (.astore_n 3, 1) := by decide +kernel
theorem dX10_of_8 : decode cX10_of 8 = .ok (.aload_n 3, 1) := by decide +kernel
theorem dX10_of_9 : decode cX10_of 9 = .ok (.iload_n 1, 1) := by decide +kernel
theorem dX10_of_10 : decode cX10_of 10 = .ok (.invokevirtual 165, 3) := by decide +kernel
theorem dX10_of_13 : decode cX10_of 13 = .ok (.ifCond .ne 5, 3) := by decide +kernel
theorem dX10_of_16 : decode cX10_of 16 = .ok (.iconst (-1), 1) := by decide +kernel
theorem dX10_of_17 : decode cX10_of 17 = .ok (.ireturn, 1) := by decide +kernel
theorem dX10_of_18 : decode cX10_of 18 = .ok (.iload_n 2, 1) := by decide +kernel
theorem dX10_of_19 : decode cX10_of 19 = .ok (.tableswitch 136 0 8 #[49, 56, 63, 70, 77, 83, 106, 116, 130], 49) := by decide +kernel
theorem dX10_of_68 : decode cX10_of 68 = .ok (.aload_n 3, 1) := by decide +kernel
theorem dX10_of_69 : decode cX10_of 69 = .ok (.getfield 168, 3) := by decide +kernel
theorem dX10_of_72 : decode cX10_of 72 = .ok (.iload_n 1, 1) := by decide +kernel
theorem dX10_of_73 : decode cX10_of 73 = .ok (.iaload, 1) := by decide +kernel
theorem dX10_of_74 : decode cX10_of 74 = .ok (.ireturn, 1) := by decide +kernel
theorem dX10_of_75 : decode cX10_of 75 = .ok (.aload_n 3, 1) := by decide +kernel
theorem dX10_of_76 : decode cX10_of 76 = .ok (.getfield 175, 3) := by decide +kernel
theorem dX10_of_79 : decode cX10_of 79 = .ok (.iload_n 1, 1) := by decide +kernel
theorem dX10_of_80 : decode cX10_of 80 = .ok (.iaload, 1) := by decide +kernel
theorem dX10_of_81 : decode cX10_of 81 = .ok (.ireturn, 1) := by decide +kernel
theorem dX10_of_82 : decode cX10_of 82 = .ok (.aload_n 3, 1) := by decide +kernel
theorem dX10_of_83 : decode cX10_of 83 = .ok (.getfield 178, 3) := by decide +kernel
theorem dX10_of_86 : decode cX10_of 86 = .ok (.iload_n 1, 1) := by decide +kernel
theorem dX10_of_87 : decode cX10_of 87 = .ok (.iaload, 1) := by decide +kernel
theorem dX10_of_88 : decode cX10_of 88 = .ok (.ireturn, 1) := by decide +kernel
theorem dX10_of_89 : decode cX10_of 89 = .ok (.aload_n 3, 1) := by decide +kernel
theorem dX10_of_90 : decode cX10_of 90 = .ok (.getfield 181, 3) := by decide +kernel
theorem dX10_of_93 : decode cX10_of 93 = .ok (.iload_n 1, 1) := by decide +kernel
theorem dX10_of_94 : decode cX10_of 94 = .ok (.iaload, 1) := by decide +kernel
theorem dX10_of_95 : decode cX10_of 95 = .ok (.ireturn, 1) := by decide +kernel
theorem dX10_of_96 : decode cX10_of 96 = .ok (.aload_n 3, 1) := by decide +kernel
theorem dX10_of_97 : decode cX10_of 97 = .ok (.iload_n 1, 1) := by decide +kernel
theorem dX10_of_98 : decode cX10_of 98 = .ok (.invokevirtual 184, 3) := by decide +kernel
theorem dX10_of_101 : decode cX10_of 101 = .ok (.ireturn, 1) := by decide +kernel
theorem dX10_of_102 : decode cX10_of 102 = .ok (.aload_n 3, 1) := by decide +kernel
theorem dX10_of_103 : decode cX10_of 103 = .ok (.iload_n 1, 1) := by decide +kernel
theorem dX10_of_104 : decode cX10_of 104 = .ok (.invokevirtual 187, 3) := by decide +kernel
theorem dX10_of_107 : decode cX10_of 107 = .ok (.ifCond .eq 8, 3) := by decide +kernel
theorem dX10_of_110 : decode cX10_of 110 = .ok (.bipush (-5), 2) := by decide +kernel
theorem dX10_of_112 : decode cX10_of 112 = .ok (.goto 12, 3) := by decide +kernel
theorem dX10_of_115 : decode cX10_of 115 = .ok (.aload_n 3, 1) := by decide +kernel
theorem dX10_of_116 : decode cX10_of 116 = .ok (.aload_n 0, 1) := by decide +kernel
theorem dX10_of_117 : decode cX10_of 117 = .ok (.getfield 12, 3) := by decide +kernel
theorem dX10_of_120 : decode cX10_of 120 = .ok (.iload_n 1, 1) := by decide +kernel
theorem dX10_of_121 : decode cX10_of 121 = .ok (.invokevirtual 190, 3) := by decide +kernel
theorem dX10_of_124 : decode cX10_of 124 = .ok (.ireturn, 1) := by decide +kernel
theorem dX10_of_125 : decode cX10_of 125 = .ok (.aload_n 0, 1) := by decide +kernel
theorem dX10_of_126 : decode cX10_of 126 = .ok (.getfield 39, 3) := by decide +kernel
theorem dX10_of_129 : decode cX10_of 129 = .ok (.aload_n 3, 1) := by decide +kernel
theorem dX10_of_130 : decode cX10_of 130 = .ok (.iload_n 1, 1) := by decide +kernel
theorem dX10_of_131 : decode cX10_of 131 = .ok (.invokevirtual 194, 3) := by decide +kernel
theorem dX10_of_134 : decode cX10_of 134 = .ok (.ireturn, 1) := by decide +kernel
theorem dX10_of_135 : decode cX10_of 135 = .ok (.aload_n 3, 1) := by decide +kernel
theorem dX10_of_136 : decode cX10_of 136 = .ok (.aload_n 0, 1) := by decide +kernel
theorem dX10_of_137 : decode cX10_of 137 = .ok (.getfield 39, 3) := by decide +kernel
theorem dX10_of_140 : decode cX10_of 140 = .ok (.aload_n 3, 1) := by decide +kernel
theorem dX10_of_141 : decode cX10_of 141 = .ok (.iload_n 1, 1) := by decide +kernel
theorem dX10_of_142 : decode cX10_of 142 = .ok (.invokevirtual 194, 3) := by decide +kernel
theorem dX10_of_145 : decode cX10_of 145 = .ok (.invokevirtual 198, 3) := by decide +kernel
theorem dX10_of_148 : decode cX10_of 148 = .ok (.ireturn, 1) := by decide +kernel
theorem dX10_of_149 : decode cX10_of 149 = .ok (.aload_n 0, 1) := by decide +kernel
theorem dX10_of_150 : decode cX10_of 150 = .ok (.iload_n 1, 1) := by decide +kernel
theorem dX10_of_151 : decode cX10_of 151 = .ok (.invokevirtual 201, 3) := by decide +kernel
theorem dX10_of_154 : decode cX10_of 154 = .ok (.ireturn, 1) := by decide +kernel
theorem dX10_of_155 : decode cX10_of 155 = .ok (.iload_n 2, 1) := by decide +kernel
theorem dX10_of_156 : decode cX10_of 156 = .ok (.bipush 10, 2) := by decide +kernel
theorem dX10_of_158 : decode cX10_of 158 = .ok (.if_icmp .lt 25, 3) := by decide +kernel
theorem dX10_of_161 : decode cX10_of 161 = .ok (.iload_n 2, 1) := by decide +kernel
theorem dX10_of_162 : decode cX10_of 162 = .ok (.bipush 15, 2) := by decide +kernel
theorem dX10_of_164 : decode cX10_of 164 = .ok (.if_icmp .ge 19, 3) := by decide +kernel
theorem dX10_of_167 : decode cX10_of 167 = .ok (.aload_n 3, 1) := by decide +kernel
theorem dX10_of_168 : decode cX10_of 168 = .ok (.getfield 204, 3) := by decide +kernel
theorem dX10_of_171 : decode cX10_of 171 = .ok (.iload_n 1, 1) := by decide +kernel
theorem dX10_of_172 : decode cX10_of 172 = .ok (.iaload, 1) := by decide +kernel
theorem dX10_of_173 : decode cX10_of 173 = .ok (.iload_n 2, 1) := by decide +kernel
theorem dX10_of_174 : decode cX10_of 174 = .ok (.bipush 10, 2) := by decide +kernel
theorem dX10_of_176 : decode cX10_of 176 = .ok (.isub, 1) := by decide +kernel
theorem dX10_of_177 : decode cX10_of 177 = .ok (.invokestatic 207, 3) := by decide +kernel
theorem dX10_of_180 : decode cX10_of 180 = .ok (.goto 4, 3) := by decide +kernel
theorem dX10_of_183 : decode cX10_of 183 = .ok (.iconst (-1), 1) := by decide +kernel
theorem dX10_of_184 : decode cX10_of 184 = .ok (.ireturn, 1) := by decide +kernel
theorem dX10_fewestTellers_0 : decode cX10_fewestTellers 0 = .ok (.aload_n 0, 1) := by decide +kernel
theorem dX10_fewestTellers_1 : decode cX10_fewestTellers 1 = .ok (.getfield 46, 3) := by decide +kernel
theorem dX10_fewestTellers_4 : decode cX10_fewestTellers 4 = .ok (.getfield 89, 3) := by decide +kernel
theorem dX10_fewestTellers_7 : decode cX10_fewestTellers 7 = .ok (.invokevirtual 210, 3) := by decide +kernel
theorem dX10_fewestTellers_10 : decode cX10_fewestTellers 10 = .ok (.iconst 1, 1) := by decide +kernel
theorem dX10_fewestTellers_11 : decode cX10_fewestTellers 11 = .ok (.iload_n 1, 1) := by decide +kernel
theorem dX10_fewestTellers_12 : decode cX10_fewestTellers 12 = .ok (.ishl, 1) := by decide +kernel
theorem dX10_fewestTellers_13 : decode cX10_fewestTellers 13 = .ok (.iconst (-1), 1) := by decide +kernel
theorem dX10_fewestTellers_14 : decode cX10_fewestTellers 14 = .ok (.ixor, 1) := by decide +kernel
theorem dX10_fewestTellers_15 : decode cX10_fewestTellers 15 = .ok (.iand, 1) := by decide +kernel
theorem dX10_fewestTellers_16 : decode cX10_fewestTellers 16 = .ok (.istore_n 2, 1) := by decide +kernel
theorem dX10_fewestTellers_17 : decode cX10_fewestTellers 17 = .ok (.bipush (-5), 2) := by decide +kernel
theorem dX10_fewestTellers_19 : decode cX10_fewestTellers 19 = .ok (.istore_n 3, 1) := by decide +kernel
theorem dX10_fewestTellers_20 : decode cX10_fewestTellers 20 = .ok (.iconst 0, 1) := by decide +kernel
theorem dX10_fewestTellers_21 : decode cX10_fewestTellers 21 = .ok (.istore 4, 2) := by decide +kernel
theorem dX10_fewestTellers_23 : decode cX10_fewestTellers 23 = .ok (.iload 4, 2) := by decide +kernel
theorem dX10_fewestTellers_25 : decode cX10_fewestTellers 25 = .ok (.iload_n 2, 1) := by decide +kernel
theorem dX10_fewestTellers_26 : decode cX10_fewestTellers 26 = .ok (.if_icmp .gt 65, 3) := by decide +kernel
theorem dX10_fewestTellers_29 : decode cX10_fewestTellers 29 = .ok (.iload 4, 2) := by decide +kernel
theorem dX10_fewestTellers_31 : decode cX10_fewestTellers 31 = .ok (.invokestatic 214, 3) := by decide +kernel
theorem dX10_fewestTellers_34 : decode cX10_fewestTellers 34 = .ok (.istore 5, 2) := by decide +kernel
theorem dX10_fewestTellers_36 : decode cX10_fewestTellers 36 = .ok (.iload_n 3, 1) := by decide +kernel
theorem dX10_fewestTellers_37 : decode cX10_fewestTellers 37 = .ok (.bipush (-5), 2) := by decide +kernel
theorem dX10_fewestTellers_39 : decode cX10_fewestTellers 39 = .ok (.if_icmp .eq 9, 3) := by decide +kernel
theorem dX10_fewestTellers_42 : decode cX10_fewestTellers 42 = .ok (.iload 5, 2) := by decide +kernel
theorem dX10_fewestTellers_44 : decode cX10_fewestTellers 44 = .ok (.iload_n 3, 1) := by decide +kernel
theorem dX10_fewestTellers_45 : decode cX10_fewestTellers 45 = .ok (.if_icmp .ge 7, 3) := by decide +kernel
theorem dX10_fewestTellers_48 : decode cX10_fewestTellers 48 = .ok (.iconst 1, 1) := by decide +kernel
theorem dX10_fewestTellers_49 : decode cX10_fewestTellers 49 = .ok (.goto 4, 3) := by decide +kernel
theorem dX10_fewestTellers_52 : decode cX10_fewestTellers 52 = .ok (.iconst 0, 1) := by decide +kernel
theorem dX10_fewestTellers_53 : decode cX10_fewestTellers 53 = .ok (.istore 6, 2) := by decide +kernel
theorem dX10_fewestTellers_55 : decode cX10_fewestTellers 55 = .ok (.iload 4, 2) := by decide +kernel
theorem dX10_fewestTellers_57 : decode cX10_fewestTellers 57 = .ok (.iload_n 2, 1) := by decide +kernel
theorem dX10_fewestTellers_58 : decode cX10_fewestTellers 58 = .ok (.iconst (-1), 1) := by decide +kernel
theorem dX10_fewestTellers_59 : decode cX10_fewestTellers 59 = .ok (.ixor, 1) := by decide +kernel
theorem dX10_fewestTellers_60 : decode cX10_fewestTellers 60 = .ok (.iand, 1) := by decide +kernel
theorem dX10_fewestTellers_61 : decode cX10_fewestTellers 61 = .ok (.ifCond .ne 24, 3) := by decide +kernel
theorem dX10_fewestTellers_64 : decode cX10_fewestTellers 64 = .ok (.iload 6, 2) := by decide +kernel
theorem dX10_fewestTellers_66 : decode cX10_fewestTellers 66 = .ok (.ifCond .eq 19, 3) := by decide +kernel
theorem dX10_fewestTellers_69 : decode cX10_fewestTellers 69 = .ok (.aload_n 0, 1) := by decide +kernel
theorem dX10_fewestTellers_70 : decode cX10_fewestTellers 70 = .ok (.getfield 30, 3) := by decide +kernel
theorem dX10_fewestTellers_73 : decode cX10_fewestTellers 73 = .ok (.iload 4, 2) := by decide +kernel
theorem dX10_fewestTellers_75 : decode cX10_fewestTellers 75 = .ok (.iload_n 1, 1) := by decide +kernel
theorem dX10_fewestTellers_76 : decode cX10_fewestTellers 76 = .ok (.invokevirtual 219, 3) := by decide +kernel
theorem dX10_fewestTellers_79 : decode cX10_fewestTellers 79 = .ok (.ifCond .eq 6, 3) := by decide +kernel
theorem dX10_fewestTellers_82 : decode cX10_fewestTellers 82 = .ok (.iload 5, 2) := by decide +kernel
theorem dX10_fewestTellers_84 : decode cX10_fewestTellers 84 = .ok (.istore_n 3, 1) := by decide +kernel
theorem dX10_fewestTellers_85 : decode cX10_fewestTellers 85 = .ok (.iinc 4 1, 3) := by decide +kernel
theorem dX10_fewestTellers_88 : decode cX10_fewestTellers 88 = .ok (.goto (-65), 3) := by decide +kernel
theorem dX10_fewestTellers_91 : decode cX10_fewestTellers 91 = .ok (.iload_n 3, 1) := by decide +kernel
theorem dX10_fewestTellers_92 : decode cX10_fewestTellers 92 = .ok (.ireturn, 1) := by decide +kernel
theorem dX10_numberAt_0 : decode cX10_numberAt 0 = .ok (.iload_n 0, 1) := by decide +kernel
theorem dX10_numberAt_1 : decode cX10_numberAt 1 = .ok (.iconst 4, 1) := by decide +kernel
theorem dX10_numberAt_2 : decode cX10_numberAt 2 = .ok (.iload_n 1, 1) := by decide +kernel
theorem dX10_numberAt_3 : decode cX10_numberAt 3 = .ok (.imul, 1) := by decide +kernel
theorem dX10_numberAt_4 : decode cX10_numberAt 4 = .ok (.iushr, 1) := by decide +kernel
theorem dX10_numberAt_5 : decode cX10_numberAt 5 = .ok (.bipush 15, 2) := by decide +kernel
theorem dX10_numberAt_7 : decode cX10_numberAt 7 = .ok (.iand, 1) := by decide +kernel
theorem dX10_numberAt_8 : decode cX10_numberAt 8 = .ok (.ireturn, 1) := by decide +kernel
theorem dX10_write_0 : decode cX10_write 0 = .ok (.aload_n 0, 1) := by decide +kernel
theorem dX10_write_1 : decode cX10_write 1 = .ok (.getfield 46, 3) := by decide +kernel
theorem dX10_write_4 : decode cX10_write 4 = .ok (.getfield 89, 3) := by decide +kernel
theorem dX10_write_7 : decode cX10_write 7 = .ok (.astore_n 3, 1) := by decide +kernel
theorem dX10_write_8 : decode cX10_write 8 = .ok (.iload_n 1, 1) := by decide +kernel
theorem dX10_write_9 : decode cX10_write 9 = .ok (.ifCond .lt 11, 3) := by decide +kernel
theorem dX10_write_12 : decode cX10_write 12 = .ok (.iload_n 1, 1) := by decide +kernel
theorem dX10_write_13 : decode cX10_write 13 = .ok (.aload_n 3, 1) := by decide +kernel
theorem dX10_write_14 : decode cX10_write 14 = .ok (.getfield 130, 3) := by decide +kernel
theorem dX10_write_17 : decode cX10_write 17 = .ok (.if_icmp .lt 5, 3) := by decide +kernel
theorem dX10_write_20 : decode cX10_write 20 = .ok (.iconst (-1), 1) := by decide +kernel
theorem dX10_write_21 : decode cX10_write 21 = .ok (.ireturn, 1) := by decide +kernel
theorem dX10_write_22 : decode cX10_write 22 = .ok (.iload_n 2, 1) := by decide +kernel
theorem dX10_write_23 : decode cX10_write 23 = .ok (.invokestatic 121, 3) := by decide +kernel
theorem dX10_write_26 : decode cX10_write 26 = .ok (.ifCond .ne 6, 3) := by decide +kernel
theorem dX10_write_29 : decode cX10_write 29 = .ok (.bipush (-2), 2) := by decide +kernel
theorem dX10_write_31 : decode cX10_write 31 = .ok (.ireturn, 1) := by decide +kernel
theorem dX10_write_32 : decode cX10_write 32 = .ok (.aload_n 3, 1) := by decide +kernel
theorem dX10_write_33 : decode cX10_write 33 = .ok (.iload_n 1, 1) := by decide +kernel
theorem dX10_write_34 : decode cX10_write 34 = .ok (.invokevirtual 223, 3) := by decide +kernel
theorem dX10_write_37 : decode cX10_write 37 = .ok (.ifCond .eq 6, 3) := by decide +kernel
theorem dX10_write_40 : decode cX10_write 40 = .ok (.bipush (-3), 2) := by decide +kernel
theorem dX10_write_42 : decode cX10_write 42 = .ok (.ireturn, 1) := by decide +kernel
theorem dX10_write_43 : decode cX10_write 43 = .ok (.aload_n 3, 1) := by decide +kernel
theorem dX10_write_44 : decode cX10_write 44 = .ok (.getfield 226, 3) := by decide +kernel
theorem dX10_write_47 : decode cX10_write 47 = .ok (.iload_n 1, 1) := by decide +kernel
theorem dX10_write_48 : decode cX10_write 48 = .ok (.iaload, 1) := by decide +kernel
theorem dX10_write_49 : decode cX10_write 49 = .ok (.istore 4, 2) := by decide +kernel
theorem dX10_write_51 : decode cX10_write 51 = .ok (.aload_n 3, 1) := by decide +kernel
theorem dX10_write_52 : decode cX10_write 52 = .ok (.getfield 226, 3) := by decide +kernel
theorem dX10_write_55 : decode cX10_write 55 = .ok (.iload_n 1, 1) := by decide +kernel
theorem dX10_write_56 : decode cX10_write 56 = .ok (.iload_n 2, 1) := by decide +kernel
theorem dX10_write_57 : decode cX10_write 57 = .ok (.iastore, 1) := by decide +kernel
theorem dX10_write_58 : decode cX10_write 58 = .ok (.iload 4, 2) := by decide +kernel
theorem dX10_write_60 : decode cX10_write 60 = .ok (.ireturn, 1) := by decide +kernel
theorem dX10_lose_0 : decode cX10_lose 0 = .ok (.aload_n 0, 1) := by decide +kernel
theorem dX10_lose_1 : decode cX10_lose 1 = .ok (.getfield 46, 3) := by decide +kernel
theorem dX10_lose_4 : decode cX10_lose 4 = .ok (.getfield 89, 3) := by decide +kernel
theorem dX10_lose_7 : decode cX10_lose 7 = .ok (.iload_n 1, 1) := by decide +kernel
theorem dX10_lose_8 : decode cX10_lose 8 = .ok (.invokevirtual 165, 3) := by decide +kernel
theorem dX10_lose_11 : decode cX10_lose 11 = .ok (.ifCond .ne 5, 3) := by decide +kernel
theorem dX10_lose_14 : decode cX10_lose 14 = .ok (.iconst (-1), 1) := by decide +kernel
theorem dX10_lose_15 : decode cX10_lose 15 = .ok (.ireturn, 1) := by decide +kernel
theorem dX10_lose_16 : decode cX10_lose 16 = .ok (.aload_n 0, 1) := by decide +kernel
theorem dX10_lose_17 : decode cX10_lose 17 = .ok (.getfield 46, 3) := by decide +kernel
theorem dX10_lose_20 : decode cX10_lose 20 = .ok (.getfield 89, 3) := by decide +kernel
theorem dX10_lose_23 : decode cX10_lose 23 = .ok (.iload_n 1, 1) := by decide +kernel
theorem dX10_lose_24 : decode cX10_lose 24 = .ok (.invokevirtual 187, 3) := by decide +kernel
theorem dX10_lose_27 : decode cX10_lose 27 = .ok (.ifCond .eq 6, 3) := by decide +kernel
theorem dX10_lose_30 : decode cX10_lose 30 = .ok (.bipush (-3), 2) := by decide +kernel
theorem dX10_lose_32 : decode cX10_lose 32 = .ok (.ireturn, 1) := by decide +kernel
theorem dX10_lose_33 : decode cX10_lose 33 = .ok (.aload_n 0, 1) := by decide +kernel
theorem dX10_lose_34 : decode cX10_lose 34 = .ok (.getfield 46, 3) := by decide +kernel
theorem dX10_lose_37 : decode cX10_lose 37 = .ok (.getfield 89, 3) := by decide +kernel
theorem dX10_lose_40 : decode cX10_lose 40 = .ok (.dup, 1) := by decide +kernel
theorem dX10_lose_41 : decode cX10_lose 41 = .ok (.getfield 229, 3) := by decide +kernel
theorem dX10_lose_44 : decode cX10_lose 44 = .ok (.iconst 1, 1) := by decide +kernel
theorem dX10_lose_45 : decode cX10_lose 45 = .ok (.iload_n 1, 1) := by decide +kernel
theorem dX10_lose_46 : decode cX10_lose 46 = .ok (.ishl, 1) := by decide +kernel
theorem dX10_lose_47 : decode cX10_lose 47 = .ok (.ior, 1) := by decide +kernel
theorem dX10_lose_48 : decode cX10_lose 48 = .ok (.putfield 229, 3) := by decide +kernel
theorem dX10_lose_51 : decode cX10_lose 51 = .ok (.aload_n 0, 1) := by decide +kernel
theorem dX10_lose_52 : decode cX10_lose 52 = .ok (.getfield 46, 3) := by decide +kernel
theorem dX10_lose_55 : decode cX10_lose 55 = .ok (.getfield 89, 3) := by decide +kernel
theorem dX10_lose_58 : decode cX10_lose 58 = .ok (.aload_n 0, 1) := by decide +kernel
theorem dX10_lose_59 : decode cX10_lose 59 = .ok (.getfield 12, 3) := by decide +kernel
theorem dX10_lose_62 : decode cX10_lose 62 = .ok (.iload_n 1, 1) := by decide +kernel
theorem dX10_lose_63 : decode cX10_lose 63 = .ok (.invokevirtual 190, 3) := by decide +kernel
theorem dX10_lose_66 : decode cX10_lose 66 = .ok (.ireturn, 1) := by decide +kernel
theorem dX10_repair_0 : decode cX10_repair 0 = .ok (.aload_n 0, 1) := by decide +kernel
theorem dX10_repair_1 : decode cX10_repair 1 = .ok (.getfield 46, 3) := by decide +kernel
theorem dX10_repair_4 : decode cX10_repair 4 = .ok (.getfield 89, 3) := by decide +kernel
theorem dX10_repair_7 : decode cX10_repair 7 = .ok (.iload_n 1, 1) := by decide +kernel
theorem dX10_repair_8 : decode cX10_repair 8 = .ok (.invokevirtual 165, 3) := by decide +kernel
theorem dX10_repair_11 : decode cX10_repair 11 = .ok (.ifCond .ne 5, 3) := by decide +kernel
theorem dX10_repair_14 : decode cX10_repair 14 = .ok (.iconst (-1), 1) := by decide +kernel
theorem dX10_repair_15 : decode cX10_repair 15 = .ok (.ireturn, 1) := by decide +kernel
theorem dX10_repair_16 : decode cX10_repair 16 = .ok (.aload_n 0, 1) := by decide +kernel
theorem dX10_repair_17 : decode cX10_repair 17 = .ok (.getfield 39, 3) := by decide +kernel
theorem dX10_repair_20 : decode cX10_repair 20 = .ok (.aload_n 0, 1) := by decide +kernel
theorem dX10_repair_21 : decode cX10_repair 21 = .ok (.getfield 46, 3) := by decide +kernel
theorem dX10_repair_24 : decode cX10_repair 24 = .ok (.getfield 89, 3) := by decide +kernel
theorem dX10_repair_27 : decode cX10_repair 27 = .ok (.iload_n 1, 1) := by decide +kernel
theorem dX10_repair_28 : decode cX10_repair 28 = .ok (.invokevirtual 232, 3) := by decide +kernel
theorem dX10_repair_31 : decode cX10_repair 31 = .ok (.bipush (-5), 2) := by decide +kernel
theorem dX10_repair_33 : decode cX10_repair 33 = .ok (.if_icmp .ne 6, 3) := by decide +kernel
theorem dX10_repair_36 : decode cX10_repair 36 = .ok (.bipush (-3), 2) := by decide +kernel
theorem dX10_repair_38 : decode cX10_repair 38 = .ok (.ireturn, 1) := by decide +kernel
theorem dX10_repair_39 : decode cX10_repair 39 = .ok (.aload_n 0, 1) := by decide +kernel
theorem dX10_repair_40 : decode cX10_repair 40 = .ok (.getfield 46, 3) := by decide +kernel
theorem dX10_repair_43 : decode cX10_repair 43 = .ok (.getfield 89, 3) := by decide +kernel
theorem dX10_repair_46 : decode cX10_repair 46 = .ok (.aload_n 0, 1) := by decide +kernel
theorem dX10_repair_47 : decode cX10_repair 47 = .ok (.getfield 12, 3) := by decide +kernel
theorem dX10_repair_50 : decode cX10_repair 50 = .ok (.iload_n 1, 1) := by decide +kernel
theorem dX10_repair_51 : decode cX10_repair 51 = .ok (.invokevirtual 190, 3) := by decide +kernel
theorem dX10_repair_54 : decode cX10_repair 54 = .ok (.ireturn, 1) := by decide +kernel
theorem dX10_told_0 : decode cX10_told 0 = .ok (.aload_n 0, 1) := by decide +kernel
theorem dX10_told_1 : decode cX10_told 1 = .ok (.getfield 46, 3) := by decide +kernel
theorem dX10_told_4 : decode cX10_told 4 = .ok (.getfield 89, 3) := by decide +kernel
theorem dX10_told_7 : decode cX10_told 7 = .ok (.astore_n 2, 1) := by decide +kernel
theorem dX10_told_8 : decode cX10_told 8 = .ok (.iload_n 1, 1) := by decide +kernel
theorem dX10_told_9 : decode cX10_told 9 = .ok (.tableswitch 103 0 6 #[43, 51, 59, 64, 69, 81, 98], 43) := by decide +kernel
theorem dX10_told_52 : decode cX10_told 52 = .ok (.aload_n 0, 1) := by decide +kernel
theorem dX10_told_53 : decode cX10_told 53 = .ok (.getfield 12, 3) := by decide +kernel
theorem dX10_told_56 : decode cX10_told 56 = .ok (.getfield 235, 3) := by decide +kernel
theorem dX10_told_59 : decode cX10_told 59 = .ok (.ireturn, 1) := by decide +kernel
theorem dX10_told_60 : decode cX10_told 60 = .ok (.aload_n 0, 1) := by decide +kernel
theorem dX10_told_61 : decode cX10_told 61 = .ok (.getfield 12, 3) := by decide +kernel
theorem dX10_told_64 : decode cX10_told 64 = .ok (.getfield 100, 3) := by decide +kernel
theorem dX10_told_67 : decode cX10_told 67 = .ok (.ireturn, 1) := by decide +kernel
theorem dX10_told_68 : decode cX10_told 68 = .ok (.aload_n 2, 1) := by decide +kernel
theorem dX10_told_69 : decode cX10_told 69 = .ok (.getfield 229, 3) := by decide +kernel
theorem dX10_told_72 : decode cX10_told 72 = .ok (.ireturn, 1) := by decide +kernel
theorem dX10_told_73 : decode cX10_told 73 = .ok (.aload_n 0, 1) := by decide +kernel
theorem dX10_told_74 : decode cX10_told 74 = .ok (.invokevirtual 238, 3) := by decide +kernel
theorem dX10_told_77 : decode cX10_told 77 = .ok (.ireturn, 1) := by decide +kernel
theorem dX10_told_78 : decode cX10_told 78 = .ok (.aload_n 0, 1) := by decide +kernel
theorem dX10_told_79 : decode cX10_told 79 = .ok (.getfield 30, 3) := by decide +kernel
theorem dX10_told_82 : decode cX10_told 82 = .ok (.aload_n 2, 1) := by decide +kernel
theorem dX10_told_83 : decode cX10_told 83 = .ok (.invokevirtual 241, 3) := by decide +kernel
theorem dX10_told_86 : decode cX10_told 86 = .ok (.invokevirtual 244, 3) := by decide +kernel
theorem dX10_told_89 : decode cX10_told 89 = .ok (.ireturn, 1) := by decide +kernel
theorem dX10_told_90 : decode cX10_told 90 = .ok (.aload_n 0, 1) := by decide +kernel
theorem dX10_told_91 : decode cX10_told 91 = .ok (.aload_n 2, 1) := by decide +kernel
theorem dX10_told_92 : decode cX10_told 92 = .ok (.invokevirtual 241, 3) := by decide +kernel
theorem dX10_told_95 : decode cX10_told 95 = .ok (.invokevirtual 247, 3) := by decide +kernel
theorem dX10_told_98 : decode cX10_told 98 = .ok (.ifCond .eq 7, 3) := by decide +kernel
theorem dX10_told_101 : decode cX10_told 101 = .ok (.iconst 1, 1) := by decide +kernel
theorem dX10_told_102 : decode cX10_told 102 = .ok (.goto 4, 3) := by decide +kernel
theorem dX10_told_105 : decode cX10_told 105 = .ok (.iconst 0, 1) := by decide +kernel
theorem dX10_told_106 : decode cX10_told 106 = .ok (.ireturn, 1) := by decide +kernel
theorem dX10_told_107 : decode cX10_told 107 = .ok (.aload_n 0, 1) := by decide +kernel
theorem dX10_told_108 : decode cX10_told 108 = .ok (.invokevirtual 250, 3) := by decide +kernel
theorem dX10_told_111 : decode cX10_told 111 = .ok (.ireturn, 1) := by decide +kernel
theorem dX10_told_112 : decode cX10_told 112 = .ok (.iconst (-1), 1) := by decide +kernel
theorem dX10_told_113 : decode cX10_told 113 = .ok (.ireturn, 1) := by decide +kernel
theorem dX10_missingWithHelp_0 : decode cX10_missingWithHelp 0 = .ok (.aload_n 0, 1) := by decide +kernel
theorem dX10_missingWithHelp_1 : decode cX10_missingWithHelp 1 = .ok (.getfield 46, 3) := by decide +kernel
theorem dX10_missingWithHelp_4 : decode cX10_missingWithHelp 4 = .ok (.getfield 89, 3) := by decide +kernel
theorem dX10_missingWithHelp_7 : decode cX10_missingWithHelp 7 = .ok (.astore_n 1, 1) := by decide +kernel
theorem dX10_missingWithHelp_8 : decode cX10_missingWithHelp 8 = .ok (.iconst 0, 1) := by decide +kernel
theorem dX10_missingWithHelp_9 : decode cX10_missingWithHelp 9 = .ok (.istore_n 2, 1) := by decide +kernel
theorem dX10_missingWithHelp_10 : decode cX10_missingWithHelp 10 = .ok (.iconst 0, 1) := by decide +kernel
theorem dX10_missingWithHelp_11 : decode cX10_missingWithHelp 11 = .ok (.istore_n 3, 1) := by decide +kernel
theorem dX10_missingWithHelp_12 : decode cX10_missingWithHelp 12 = .ok (.iload_n 3, 1) := by decide +kernel
theorem dX10_missingWithHelp_13 : decode cX10_missingWithHelp 13 = .ok (.aload_n 1, 1) := by decide +kernel
theorem dX10_missingWithHelp_14 : decode cX10_missingWithHelp 14 = .ok (.getfield 92, 3) := by decide +kernel
theorem dX10_missingWithHelp_17 : decode cX10_missingWithHelp 17 = .ok (.if_icmp .ge 38, 3) := by decide +kernel
theorem dX10_missingWithHelp_20 : decode cX10_missingWithHelp 20 = .ok (.aload_n 1, 1) := by decide +kernel
theorem dX10_missingWithHelp_21 : decode cX10_missingWithHelp 21 = .ok (.iload_n 3, 1) := by decide +kernel
theorem dX10_missingWithHelp_22 : decode cX10_missingWithHelp 22 = .ok (.invokevirtual 187, 3) := by decide +kernel
theorem dX10_missingWithHelp_25 : decode cX10_missingWithHelp 25 = .ok (.ifCond .eq 24, 3) := by decide +kernel
theorem dX10_missingWithHelp_28 : decode cX10_missingWithHelp 28 = .ok (.aload_n 0, 1) := by decide +kernel
theorem dX10_missingWithHelp_29 : decode cX10_missingWithHelp 29 = .ok (.getfield 30, 3) := by decide +kernel
theorem dX10_missingWithHelp_32 : decode cX10_missingWithHelp 32 = .ok (.aload_n 1, 1) := by decide +kernel
theorem dX10_missingWithHelp_33 : decode cX10_missingWithHelp 33 = .ok (.invokevirtual 241, 3) := by decide +kernel
theorem dX10_missingWithHelp_36 : decode cX10_missingWithHelp 36 = .ok (.iload_n 3, 1) := by decide +kernel
theorem dX10_missingWithHelp_37 : decode cX10_missingWithHelp 37 = .ok (.invokevirtual 219, 3) := by decide +kernel
theorem dX10_missingWithHelp_40 : decode cX10_missingWithHelp 40 = .ok (.ifCond .eq 9, 3) := by decide +kernel
theorem dX10_missingWithHelp_43 : decode cX10_missingWithHelp 43 = .ok (.iload_n 2, 1) := by decide +kernel
theorem dX10_missingWithHelp_44 : decode cX10_missingWithHelp 44 = .ok (.iconst 1, 1) := by decide +kernel
theorem dX10_missingWithHelp_45 : decode cX10_missingWithHelp 45 = .ok (.iload_n 3, 1) := by decide +kernel
theorem dX10_missingWithHelp_46 : decode cX10_missingWithHelp 46 = .ok (.ishl, 1) := by decide +kernel
theorem dX10_missingWithHelp_47 : decode cX10_missingWithHelp 47 = .ok (.ior, 1) := by decide +kernel
theorem dX10_missingWithHelp_48 : decode cX10_missingWithHelp 48 = .ok (.istore_n 2, 1) := by decide +kernel
theorem dX10_missingWithHelp_49 : decode cX10_missingWithHelp 49 = .ok (.iinc 3 1, 3) := by decide +kernel
theorem dX10_missingWithHelp_52 : decode cX10_missingWithHelp 52 = .ok (.goto (-40), 3) := by decide +kernel
theorem dX10_missingWithHelp_55 : decode cX10_missingWithHelp 55 = .ok (.iload_n 2, 1) := by decide +kernel
theorem dX10_missingWithHelp_56 : decode cX10_missingWithHelp 56 = .ok (.ireturn, 1) := by decide +kernel
theorem dX10_tellAllData_0 : decode cX10_tellAllData 0 = .ok (.aload_n 0, 1) := by decide +kernel
theorem dX10_tellAllData_1 : decode cX10_tellAllData 1 = .ok (.getfield 30, 3) := by decide +kernel
theorem dX10_tellAllData_4 : decode cX10_tellAllData 4 = .ok (.iload_n 1, 1) := by decide +kernel
theorem dX10_tellAllData_5 : decode cX10_tellAllData 5 = .ok (.aload_n 0, 1) := by decide +kernel
theorem dX10_tellAllData_6 : decode cX10_tellAllData 6 = .ok (.getfield 46, 3) := by decide +kernel
theorem dX10_tellAllData_9 : decode cX10_tellAllData 9 = .ok (.getfield 89, 3) := by decide +kernel
theorem dX10_tellAllData_12 : decode cX10_tellAllData 12 = .ok (.getfield 253, 3) := by decide +kernel
theorem dX10_tellAllData_15 : decode cX10_tellAllData 15 = .ok (.ior, 1) := by decide +kernel
theorem dX10_tellAllData_16 : decode cX10_tellAllData 16 = .ok (.invokevirtual 244, 3) := by decide +kernel
theorem dX10_tellAllData_19 : decode cX10_tellAllData 19 = .ok (.aload_n 0, 1) := by decide +kernel
theorem dX10_tellAllData_20 : decode cX10_tellAllData 20 = .ok (.getfield 30, 3) := by decide +kernel
theorem dX10_tellAllData_23 : decode cX10_tellAllData 23 = .ok (.iload_n 1, 1) := by decide +kernel
theorem dX10_tellAllData_24 : decode cX10_tellAllData 24 = .ok (.invokevirtual 244, 3) := by decide +kernel
theorem dX10_tellAllData_27 : decode cX10_tellAllData 27 = .ok (.if_icmp .ne 7, 3) := by decide +kernel
theorem dX10_tellAllData_30 : decode cX10_tellAllData 30 = .ok (.iconst 1, 1) := by decide +kernel
theorem dX10_tellAllData_31 : decode cX10_tellAllData 31 = .ok (.goto 4, 3) := by decide +kernel
theorem dX10_tellAllData_34 : decode cX10_tellAllData 34 = .ok (.iconst 0, 1) := by decide +kernel
theorem dX10_tellAllData_35 : decode cX10_tellAllData 35 = .ok (.ireturn, 1) := by decide +kernel
theorem dX10_distance_0 : decode cX10_distance 0 = .ok (.aload_n 0, 1) := by decide +kernel
theorem dX10_distance_1 : decode cX10_distance 1 = .ok (.getfield 46, 3) := by decide +kernel
theorem dX10_distance_4 : decode cX10_distance 4 = .ok (.getfield 89, 3) := by decide +kernel
theorem dX10_distance_7 : decode cX10_distance 7 = .ok (.getfield 130, 3) := by decide +kernel
theorem dX10_distance_10 : decode cX10_distance 10 = .ok (.ifCond .ne 6, 3) := by decide +kernel
theorem dX10_distance_13 : decode cX10_distance 13 = .ok (.bipush (-5), 2) := by decide +kernel
theorem dX10_distance_15 : decode cX10_distance 15 = .ok (.ireturn, 1) := by decide +kernel
theorem dX10_distance_16 : decode cX10_distance 16 = .ok (.iconst 0, 1) := by decide +kernel
theorem dX10_distance_17 : decode cX10_distance 17 = .ok (.istore_n 1, 1) := by decide +kernel
theorem dX10_distance_18 : decode cX10_distance 18 = .ok (.iload_n 1, 1) := by decide +kernel
theorem dX10_distance_19 : decode cX10_distance 19 = .ok (.aload_n 0, 1) := by decide +kernel
theorem dX10_distance_20 : decode cX10_distance 20 = .ok (.getfield 46, 3) := by decide +kernel
theorem dX10_distance_23 : decode cX10_distance 23 = .ok (.getfield 89, 3) := by decide +kernel
theorem dX10_distance_26 : decode cX10_distance 26 = .ok (.getfield 92, 3) := by decide +kernel
theorem dX10_distance_29 : decode cX10_distance 29 = .ok (.if_icmp .gt 24, 3) := by decide +kernel
theorem dX10_distance_32 : decode cX10_distance 32 = .ok (.aload_n 0, 1) := by decide +kernel
theorem dX10_distance_33 : decode cX10_distance 33 = .ok (.iload_n 1, 1) := by decide +kernel
theorem dX10_distance_34 : decode cX10_distance 34 = .ok (.invokevirtual 256, 3) := by decide +kernel
theorem dX10_distance_37 : decode cX10_distance 37 = .ok (.aload_n 0, 1) := by decide +kernel
theorem dX10_distance_38 : decode cX10_distance 38 = .ok (.iload_n 1, 1) := by decide +kernel
theorem dX10_distance_39 : decode cX10_distance 39 = .ok (.invokevirtual 259, 3) := by decide +kernel
theorem dX10_distance_42 : decode cX10_distance 42 = .ok (.if_icmp .eq 5, 3) := by decide +kernel
theorem dX10_distance_45 : decode cX10_distance 45 = .ok (.iload_n 1, 1) := by decide +kernel
theorem dX10_distance_46 : decode cX10_distance 46 = .ok (.ireturn, 1) := by decide +kernel
theorem dX10_distance_47 : decode cX10_distance 47 = .ok (.iinc 1 1, 3) := by decide +kernel
theorem dX10_distance_50 : decode cX10_distance 50 = .ok (.goto (-32), 3) := by decide +kernel
theorem dX10_distance_53 : decode cX10_distance 53 = .ok (.bipush (-5), 2) := by decide +kernel
theorem dX10_distance_55 : decode cX10_distance 55 = .ok (.ireturn, 1) := by decide +kernel
theorem dX10_safeSets_0 : decode cX10_safeSets 0 = .ok (.aload_n 0, 1) := by decide +kernel
theorem dX10_safeSets_1 : decode cX10_safeSets 1 = .ok (.getfield 46, 3) := by decide +kernel
theorem dX10_safeSets_4 : decode cX10_safeSets 4 = .ok (.getfield 89, 3) := by decide +kernel
theorem dX10_safeSets_7 : decode cX10_safeSets 7 = .ok (.invokevirtual 210, 3) := by decide +kernel
theorem dX10_safeSets_10 : decode cX10_safeSets 10 = .ok (.istore_n 2, 1) := by decide +kernel
theorem dX10_safeSets_11 : decode cX10_safeSets 11 = .ok (.iconst 0, 1) := by decide +kernel
theorem dX10_safeSets_12 : decode cX10_safeSets 12 = .ok (.istore_n 3, 1) := by decide +kernel
theorem dX10_safeSets_13 : decode cX10_safeSets 13 = .ok (.iconst 0, 1) := by decide +kernel
theorem dX10_safeSets_14 : decode cX10_safeSets 14 = .ok (.istore 4, 2) := by decide +kernel
theorem dX10_safeSets_16 : decode cX10_safeSets 16 = .ok (.iload 4, 2) := by decide +kernel
theorem dX10_safeSets_18 : decode cX10_safeSets 18 = .ok (.iload_n 2, 1) := by decide +kernel
theorem dX10_safeSets_19 : decode cX10_safeSets 19 = .ok (.if_icmp .gt 34, 3) := by decide +kernel
theorem dX10_safeSets_22 : decode cX10_safeSets 22 = .ok (.iload 4, 2) := by decide +kernel
theorem dX10_safeSets_24 : decode cX10_safeSets 24 = .ok (.invokestatic 214, 3) := by decide +kernel
theorem dX10_safeSets_27 : decode cX10_safeSets 27 = .ok (.iload_n 1, 1) := by decide +kernel
theorem dX10_safeSets_28 : decode cX10_safeSets 28 = .ok (.if_icmp .ne 19, 3) := by decide +kernel
theorem dX10_safeSets_31 : decode cX10_safeSets 31 = .ok (.aload_n 0, 1) := by decide +kernel
theorem dX10_safeSets_32 : decode cX10_safeSets 32 = .ok (.iload_n 2, 1) := by decide +kernel
theorem dX10_safeSets_33 : decode cX10_safeSets 33 = .ok (.iload 4, 2) := by decide +kernel
theorem dX10_safeSets_35 : decode cX10_safeSets 35 = .ok (.iconst (-1), 1) := by decide +kernel
theorem dX10_safeSets_36 : decode cX10_safeSets 36 = .ok (.ixor, 1) := by decide +kernel
theorem dX10_safeSets_37 : decode cX10_safeSets 37 = .ok (.iand, 1) := by decide +kernel
theorem dX10_safeSets_38 : decode cX10_safeSets 38 = .ok (.invokevirtual 247, 3) := by decide +kernel
theorem dX10_safeSets_41 : decode cX10_safeSets 41 = .ok (.ifCond .eq 6, 3) := by decide +kernel
theorem dX10_safeSets_44 : decode cX10_safeSets 44 = .ok (.iinc 3 1, 3) := by decide +kernel
theorem dX10_safeSets_47 : decode cX10_safeSets 47 = .ok (.iinc 4 1, 3) := by decide +kernel
theorem dX10_safeSets_50 : decode cX10_safeSets 50 = .ok (.goto (-34), 3) := by decide +kernel
theorem dX10_safeSets_53 : decode cX10_safeSets 53 = .ok (.iload_n 3, 1) := by decide +kernel
theorem dX10_safeSets_54 : decode cX10_safeSets 54 = .ok (.ireturn, 1) := by decide +kernel
theorem dX10_allSets_0 : decode cX10_allSets 0 = .ok (.iconst 1, 1) := by decide +kernel
theorem dX10_allSets_1 : decode cX10_allSets 1 = .ok (.istore_n 2, 1) := by decide +kernel
theorem dX10_allSets_2 : decode cX10_allSets 2 = .ok (.iconst 0, 1) := by decide +kernel
theorem dX10_allSets_3 : decode cX10_allSets 3 = .ok (.istore_n 3, 1) := by decide +kernel
theorem dX10_allSets_4 : decode cX10_allSets 4 = .ok (.iload_n 3, 1) := by decide +kernel
theorem dX10_allSets_5 : decode cX10_allSets 5 = .ok (.iload_n 1, 1) := by decide +kernel
theorem dX10_allSets_6 : decode cX10_allSets 6 = .ok (.if_icmp .ge 28, 3) := by decide +kernel
theorem dX10_allSets_9 : decode cX10_allSets 9 = .ok (.iload_n 2, 1) := by decide +kernel
theorem dX10_allSets_10 : decode cX10_allSets 10 = .ok (.aload_n 0, 1) := by decide +kernel
theorem dX10_allSets_11 : decode cX10_allSets 11 = .ok (.getfield 46, 3) := by decide +kernel
theorem dX10_allSets_14 : decode cX10_allSets 14 = .ok (.getfield 89, 3) := by decide +kernel
theorem dX10_allSets_17 : decode cX10_allSets 17 = .ok (.getfield 92, 3) := by decide +kernel
theorem dX10_allSets_20 : decode cX10_allSets 20 = .ok (.iload_n 3, 1) := by decide +kernel
theorem dX10_allSets_21 : decode cX10_allSets 21 = .ok (.isub, 1) := by decide +kernel
theorem dX10_allSets_22 : decode cX10_allSets 22 = .ok (.imul, 1) := by decide +kernel
theorem dX10_allSets_23 : decode cX10_allSets 23 = .ok (.iload_n 3, 1) := by decide +kernel
theorem dX10_allSets_24 : decode cX10_allSets 24 = .ok (.iconst 1, 1) := by decide +kernel
theorem dX10_allSets_25 : decode cX10_allSets 25 = .ok (.iadd, 1) := by decide +kernel
theorem dX10_allSets_26 : decode cX10_allSets 26 = .ok (.idiv, 1) := by decide +kernel
theorem dX10_allSets_27 : decode cX10_allSets 27 = .ok (.istore_n 2, 1) := by decide +kernel
theorem dX10_allSets_28 : decode cX10_allSets 28 = .ok (.iinc 3 1, 3) := by decide +kernel
theorem dX10_allSets_31 : decode cX10_allSets 31 = .ok (.goto (-27), 3) := by decide +kernel
theorem dX10_allSets_34 : decode cX10_allSets 34 = .ok (.iload_n 2, 1) := by decide +kernel
theorem dX10_allSets_35 : decode cX10_allSets 35 = .ok (.ireturn, 1) := by decide +kernel
theorem dX10_rank_0 : decode cX10_rank 0 = .ok (.iload_n 1, 1) := by decide +kernel
theorem dX10_rank_1 : decode cX10_rank 1 = .ok (.ifCond .lt 17, 3) := by decide +kernel
theorem dX10_rank_4 : decode cX10_rank 4 = .ok (.iload_n 1, 1) := by decide +kernel
theorem dX10_rank_5 : decode cX10_rank 5 = .ok (.aload_n 0, 1) := by decide +kernel
theorem dX10_rank_6 : decode cX10_rank 6 = .ok (.getfield 46, 3) := by decide +kernel
theorem dX10_rank_9 : decode cX10_rank 9 = .ok (.getfield 89, 3) := by decide +kernel
theorem dX10_rank_12 : decode cX10_rank 12 = .ok (.invokevirtual 210, 3) := by decide +kernel
theorem dX10_rank_15 : decode cX10_rank 15 = .ok (.if_icmp .le 7, 3) := by decide +kernel
theorem dX10_rank_18 : decode cX10_rank 18 = .ok (.iconst (-1), 1) := by decide +kernel
theorem dX10_rank_19 : decode cX10_rank 19 = .ok (.goto 11, 3) := by decide +kernel
theorem dX10_rank_22 : decode cX10_rank 22 = .ok (.aload_n 0, 1) := by decide +kernel
theorem dX10_rank_23 : decode cX10_rank 23 = .ok (.getfield 30, 3) := by decide +kernel
theorem dX10_rank_26 : decode cX10_rank 26 = .ok (.iload_n 1, 1) := by decide +kernel
theorem dX10_rank_27 : decode cX10_rank 27 = .ok (.invokevirtual 244, 3) := by decide +kernel
theorem dX10_rank_30 : decode cX10_rank 30 = .ok (.ireturn, 1) := by decide +kernel
theorem dX10_safe_0 : decode cX10_safe 0 = .ok (.iload_n 1, 1) := by decide +kernel
theorem dX10_safe_1 : decode cX10_safe 1 = .ok (.invokestatic 262, 3) := by decide +kernel
theorem dX10_safe_4 : decode cX10_safe 4 = .ok (.ifCond .eq 11, 3) := by decide +kernel
theorem dX10_safe_7 : decode cX10_safe 7 = .ok (.aload_n 0, 1) := by decide +kernel
theorem dX10_safe_8 : decode cX10_safe 8 = .ok (.iload_n 1, 1) := by decide +kernel
theorem dX10_safe_9 : decode cX10_safe 9 = .ok (.invokevirtual 256, 3) := by decide +kernel
theorem dX10_safe_12 : decode cX10_safe 12 = .ok (.goto 5, 3) := by decide +kernel
theorem dX10_safe_15 : decode cX10_safe 15 = .ok (.bipush (-2), 2) := by decide +kernel
theorem dX10_safe_17 : decode cX10_safe 17 = .ok (.ireturn, 1) := by decide +kernel
theorem dX10_isSetSize_0 : decode cX10_isSetSize 0 = .ok (.iload_n 0, 1) := by decide +kernel
theorem dX10_isSetSize_1 : decode cX10_isSetSize 1 = .ok (.ifCond .lt 13, 3) := by decide +kernel
theorem dX10_isSetSize_4 : decode cX10_isSetSize 4 = .ok (.iload_n 0, 1) := by decide +kernel
theorem dX10_isSetSize_5 : decode cX10_isSetSize 5 = .ok (.bipush 10, 2) := by decide +kernel
theorem dX10_isSetSize_7 : decode cX10_isSetSize 7 = .ok (.if_icmp .gt 7, 3) := by decide +kernel
theorem dX10_isSetSize_10 : decode cX10_isSetSize 10 = .ok (.iconst 1, 1) := by decide +kernel
theorem dX10_isSetSize_11 : decode cX10_isSetSize 11 = .ok (.goto 4, 3) := by decide +kernel
theorem dX10_isSetSize_14 : decode cX10_isSetSize 14 = .ok (.iconst 0, 1) := by decide +kernel
theorem dX10_isSetSize_15 : decode cX10_isSetSize 15 = .ok (.ireturn, 1) := by decide +kernel
theorem dX10_best_0 : decode cX10_best 0 = .ok (.aload_n 0, 1) := by decide +kernel
theorem dX10_best_1 : decode cX10_best 1 = .ok (.getfield 46, 3) := by decide +kernel
theorem dX10_best_4 : decode cX10_best 4 = .ok (.getfield 89, 3) := by decide +kernel
theorem dX10_best_7 : decode cX10_best 7 = .ok (.iload_n 1, 1) := by decide +kernel
theorem dX10_best_8 : decode cX10_best 8 = .ok (.invokevirtual 165, 3) := by decide +kernel
theorem dX10_best_11 : decode cX10_best 11 = .ok (.ifCond .eq 26, 3) := by decide +kernel
theorem dX10_best_14 : decode cX10_best 14 = .ok (.aload_n 0, 1) := by decide +kernel
theorem dX10_best_15 : decode cX10_best 15 = .ok (.getfield 46, 3) := by decide +kernel
theorem dX10_best_18 : decode cX10_best 18 = .ok (.getfield 89, 3) := by decide +kernel
theorem dX10_best_21 : decode cX10_best 21 = .ok (.iload_n 1, 1) := by decide +kernel
theorem dX10_best_22 : decode cX10_best 22 = .ok (.invokevirtual 265, 3) := by decide +kernel
theorem dX10_best_25 : decode cX10_best 25 = .ok (.ifCond .eq 12, 3) := by decide +kernel
theorem dX10_best_28 : decode cX10_best 28 = .ok (.iload_n 2, 1) := by decide +kernel
theorem dX10_best_29 : decode cX10_best 29 = .ok (.ifCond .lt 8, 3) := by decide +kernel
theorem dX10_best_32 : decode cX10_best 32 = .ok (.iload_n 2, 1) := by decide +kernel
theorem dX10_best_33 : decode cX10_best 33 = .ok (.iconst 5, 1) := by decide +kernel
theorem dX10_best_34 : decode cX10_best 34 = .ok (.if_icmp .lt 5, 3) := by decide +kernel
theorem dX10_best_37 : decode cX10_best 37 = .ok (.iconst (-1), 1) := by decide +kernel
theorem dX10_best_38 : decode cX10_best 38 = .ok (.ireturn, 1) := by decide +kernel
theorem dX10_best_39 : decode cX10_best 39 = .ok (.iload_n 3, 1) := by decide +kernel
theorem dX10_best_40 : decode cX10_best 40 = .ok (.invokestatic 262, 3) := by decide +kernel
theorem dX10_best_43 : decode cX10_best 43 = .ok (.ifCond .ne 6, 3) := by decide +kernel
theorem dX10_best_46 : decode cX10_best 46 = .ok (.bipush (-2), 2) := by decide +kernel
theorem dX10_best_48 : decode cX10_best 48 = .ok (.ireturn, 1) := by decide +kernel
theorem dX10_best_49 : decode cX10_best 49 = .ok (.aload_n 0, 1) := by decide +kernel
theorem dX10_best_50 : decode cX10_best 50 = .ok (.getfield 74, 3) := by decide +kernel
theorem dX10_best_53 : decode cX10_best 53 = .ok (.aload_n 0, 1) := by decide +kernel
theorem dX10_best_54 : decode cX10_best 54 = .ok (.getfield 46, 3) := by decide +kernel
theorem dX10_best_57 : decode cX10_best 57 = .ok (.getfield 89, 3) := by decide +kernel
theorem dX10_best_60 : decode cX10_best 60 = .ok (.iload_n 1, 1) := by decide +kernel
theorem dX10_best_61 : decode cX10_best 61 = .ok (.iload_n 2, 1) := by decide +kernel
theorem dX10_best_62 : decode cX10_best 62 = .ok (.iload_n 3, 1) := by decide +kernel
theorem dX10_best_63 : decode cX10_best 63 = .ok (.invokevirtual 268, 3) := by decide +kernel
theorem dX10_best_66 : decode cX10_best 66 = .ok (.ireturn, 1) := by decide +kernel
theorem dX10_see_0 : decode cX10_see 0 = .ok (.aload_n 0, 1) := by decide +kernel
theorem dX10_see_1 : decode cX10_see 1 = .ok (.aload_n 0, 1) := by decide +kernel
theorem dX10_see_2 : decode cX10_see 2 = .ok (.getfield 46, 3) := by decide +kernel
theorem dX10_see_5 : decode cX10_see 5 = .ok (.getfield 272, 3) := by decide +kernel
theorem dX10_see_8 : decode cX10_see 8 = .ok (.iload_n 1, 1) := by decide +kernel
theorem dX10_see_9 : decode cX10_see 9 = .ok (.iload_n 2, 1) := by decide +kernel
theorem dX10_see_10 : decode cX10_see 10 = .ok (.invokevirtual 276, 3) := by decide +kernel
theorem dX10_see_13 : decode cX10_see 13 = .ok (.ireturn, 1) := by decide +kernel
theorem dX10_tellSymbol_0 : decode cX10_tellSymbol 0 = .ok (.iload_n 2, 1) := by decide +kernel
theorem dX10_tellSymbol_1 : decode cX10_tellSymbol 1 = .ok (.iconst (-1), 1) := by decide +kernel
theorem dX10_tellSymbol_2 : decode cX10_tellSymbol 2 = .ok (.if_icmp .ne 10, 3) := by decide +kernel
theorem dX10_tellSymbol_5 : decode cX10_tellSymbol 5 = .ok (.aload_n 1, 1) := by decide +kernel
theorem dX10_tellSymbol_6 : decode cX10_tellSymbol 6 = .ok (.iconst 0, 1) := by decide +kernel
theorem dX10_tellSymbol_7 : decode cX10_tellSymbol 7 = .ok (.putfield 280, 3) := by decide +kernel
theorem dX10_tellSymbol_10 : decode cX10_tellSymbol 10 = .ok (.iconst 0, 1) := by decide +kernel
theorem dX10_tellSymbol_11 : decode cX10_tellSymbol 11 = .ok (.ireturn, 1) := by decide +kernel
theorem dX10_tellSymbol_12 : decode cX10_tellSymbol 12 = .ok (.aload_n 0, 1) := by decide +kernel
theorem dX10_tellSymbol_13 : decode cX10_tellSymbol 13 = .ok (.getfield 46, 3) := by decide +kernel
theorem dX10_tellSymbol_16 : decode cX10_tellSymbol 16 = .ok (.getfield 89, 3) := by decide +kernel
theorem dX10_tellSymbol_19 : decode cX10_tellSymbol 19 = .ok (.iload_n 2, 1) := by decide +kernel
theorem dX10_tellSymbol_20 : decode cX10_tellSymbol 20 = .ok (.invokevirtual 165, 3) := by decide +kernel
theorem dX10_tellSymbol_23 : decode cX10_tellSymbol 23 = .ok (.ifCond .ne 5, 3) := by decide +kernel
theorem dX10_tellSymbol_26 : decode cX10_tellSymbol 26 = .ok (.iconst (-1), 1) := by decide +kernel
theorem dX10_tellSymbol_27 : decode cX10_tellSymbol 27 = .ok (.ireturn, 1) := by decide +kernel
theorem dX10_tellSymbol_28 : decode cX10_tellSymbol 28 = .ok (.iload_n 3, 1) := by decide +kernel
theorem dX10_tellSymbol_29 : decode cX10_tellSymbol 29 = .ok (.invokestatic 121, 3) := by decide +kernel
theorem dX10_tellSymbol_32 : decode cX10_tellSymbol 32 = .ok (.ifCond .ne 6, 3) := by decide +kernel
theorem dX10_tellSymbol_35 : decode cX10_tellSymbol 35 = .ok (.bipush (-2), 2) := by decide +kernel
theorem dX10_tellSymbol_37 : decode cX10_tellSymbol 37 = .ok (.ireturn, 1) := by decide +kernel
theorem dX10_tellSymbol_38 : decode cX10_tellSymbol 38 = .ok (.aload_n 1, 1) := by decide +kernel
theorem dX10_tellSymbol_39 : decode cX10_tellSymbol 39 = .ok (.iload_n 2, 1) := by decide +kernel
theorem dX10_tellSymbol_40 : decode cX10_tellSymbol 40 = .ok (.iload_n 3, 1) := by decide +kernel
theorem dX10_tellSymbol_41 : decode cX10_tellSymbol 41 = .ok (.invokevirtual 283, 3) := by decide +kernel
theorem dX10_tellSymbol_44 : decode cX10_tellSymbol 44 = .ok (.ifCond .eq 10, 3) := by decide +kernel
theorem dX10_tellSymbol_47 : decode cX10_tellSymbol 47 = .ok (.aload_n 1, 1) := by decide +kernel
theorem dX10_tellSymbol_48 : decode cX10_tellSymbol 48 = .ok (.getfield 280, 3) := by decide +kernel
theorem dX10_tellSymbol_51 : decode cX10_tellSymbol 51 = .ok (.goto 5, 3) := by decide +kernel
theorem dX10_tellSymbol_54 : decode cX10_tellSymbol 54 = .ok (.bipush (-4), 2) := by decide +kernel
theorem dX10_tellSymbol_56 : decode cX10_tellSymbol 56 = .ok (.ireturn, 1) := by decide +kernel
theorem dX10_ways_0 : decode cX10_ways 0 = .ok (.aload_n 0, 1) := by decide +kernel
theorem dX10_ways_1 : decode cX10_ways 1 = .ok (.invokevirtual 285, 3) := by decide +kernel
theorem dX10_ways_4 : decode cX10_ways 4 = .ok (.istore_n 2, 1) := by decide +kernel
theorem dX10_ways_5 : decode cX10_ways 5 = .ok (.iload_n 1, 1) := by decide +kernel
theorem dX10_ways_6 : decode cX10_ways 6 = .ok (.ifCond .ne 34, 3) := by decide +kernel
theorem dX10_ways_9 : decode cX10_ways 9 = .ok (.iload_n 2, 1) := by decide +kernel
theorem dX10_ways_10 : decode cX10_ways 10 = .ok (.ifCond .eq 28, 3) := by decide +kernel
theorem dX10_ways_13 : decode cX10_ways 13 = .ok (.lconst 1, 1) := by decide +kernel
theorem dX10_ways_14 : decode cX10_ways 14 = .ok (.iconst 4, 1) := by decide +kernel
theorem dX10_ways_15 : decode cX10_ways 15 = .ok (.aload_n 0, 1) := by decide +kernel
theorem dX10_ways_16 : decode cX10_ways 16 = .ok (.getfield 46, 3) := by decide +kernel
theorem dX10_ways_19 : decode cX10_ways 19 = .ok (.getfield 89, 3) := by decide +kernel
theorem dX10_ways_22 : decode cX10_ways 22 = .ok (.getfield 130, 3) := by decide +kernel
theorem dX10_ways_25 : decode cX10_ways 25 = .ok (.aload_n 0, 1) := by decide +kernel
theorem dX10_ways_26 : decode cX10_ways 26 = .ok (.getfield 67, 3) := by decide +kernel
theorem dX10_ways_29 : decode cX10_ways 29 = .ok (.getfield 289, 3) := by decide +kernel
theorem dX10_ways_32 : decode cX10_ways 32 = .ok (.isub, 1) := by decide +kernel
theorem dX10_ways_33 : decode cX10_ways 33 = .ok (.imul, 1) := by decide +kernel
theorem dX10_ways_34 : decode cX10_ways 34 = .ok (.lshl, 1) := by decide +kernel
theorem dX10_ways_35 : decode cX10_ways 35 = .ok (.goto 4, 3) := by decide +kernel
theorem dX10_ways_38 : decode cX10_ways 38 = .ok (.lconst 0, 1) := by decide +kernel
theorem dX10_ways_39 : decode cX10_ways 39 = .ok (.lreturn, 1) := by decide +kernel
theorem dX10_ways_40 : decode cX10_ways 40 = .ok (.iload_n 1, 1) := by decide +kernel
theorem dX10_ways_41 : decode cX10_ways 41 = .ok (.iconst 1, 1) := by decide +kernel
theorem dX10_ways_42 : decode cX10_ways 42 = .ok (.if_icmp .ne 14, 3) := by decide +kernel
theorem dX10_ways_45 : decode cX10_ways 45 = .ok (.iload_n 2, 1) := by decide +kernel
theorem dX10_ways_46 : decode cX10_ways 46 = .ok (.ifCond .eq 10, 3) := by decide +kernel
theorem dX10_ways_49 : decode cX10_ways 49 = .ok (.aload_n 0, 1) := by decide +kernel
theorem dX10_ways_50 : decode cX10_ways 50 = .ok (.invokevirtual 290, 3) := by decide +kernel
theorem dX10_ways_53 : decode cX10_ways 53 = .ok (.goto 6, 3) := by decide +kernel
theorem dX10_ways_56 : decode cX10_ways 56 = .ok (.ldc2_w 294, 3) := by decide +kernel
theorem dX10_ways_59 : decode cX10_ways 59 = .ok (.lreturn, 1) := by decide +kernel
theorem dX10_gatherSeen_0 : decode cX10_gatherSeen 0 = .ok (.aload_n 0, 1) := by decide +kernel
theorem dX10_gatherSeen_1 : decode cX10_gatherSeen 1 = .ok (.getfield 67, 3) := by decide +kernel
theorem dX10_gatherSeen_4 : decode cX10_gatherSeen 4 = .ok (.invokevirtual 296, 3) := by decide +kernel
theorem dX10_gatherSeen_7 : decode cX10_gatherSeen 7 = .ok (.iconst 0, 1) := by decide +kernel
theorem dX10_gatherSeen_8 : decode cX10_gatherSeen 8 = .ok (.istore_n 1, 1) := by decide +kernel
theorem dX10_gatherSeen_9 : decode cX10_gatherSeen 9 = .ok (.iload_n 1, 1) := by decide +kernel
theorem dX10_gatherSeen_10 : decode cX10_gatherSeen 10 = .ok (.aload_n 0, 1) := by decide +kernel
theorem dX10_gatherSeen_11 : decode cX10_gatherSeen 11 = .ok (.getfield 46, 3) := by decide +kernel
theorem dX10_gatherSeen_14 : decode cX10_gatherSeen 14 = .ok (.getfield 272, 3) := by decide +kernel
theorem dX10_gatherSeen_17 : decode cX10_gatherSeen 17 = .ok (.getfield 280, 3) := by decide +kernel
theorem dX10_gatherSeen_20 : decode cX10_gatherSeen 20 = .ok (.if_icmp .ge 45, 3) := by decide +kernel
theorem dX10_gatherSeen_23 : decode cX10_gatherSeen 23 = .ok (.aload_n 0, 1) := by decide +kernel
theorem dX10_gatherSeen_24 : decode cX10_gatherSeen 24 = .ok (.getfield 67, 3) := by decide +kernel
theorem dX10_gatherSeen_27 : decode cX10_gatherSeen 27 = .ok (.aload_n 0, 1) := by decide +kernel
theorem dX10_gatherSeen_28 : decode cX10_gatherSeen 28 = .ok (.aload_n 0, 1) := by decide +kernel
theorem dX10_gatherSeen_29 : decode cX10_gatherSeen 29 = .ok (.getfield 46, 3) := by decide +kernel
theorem dX10_gatherSeen_32 : decode cX10_gatherSeen 32 = .ok (.getfield 272, 3) := by decide +kernel
theorem dX10_gatherSeen_35 : decode cX10_gatherSeen 35 = .ok (.getfield 299, 3) := by decide +kernel
theorem dX10_gatherSeen_38 : decode cX10_gatherSeen 38 = .ok (.iload_n 1, 1) := by decide +kernel
theorem dX10_gatherSeen_39 : decode cX10_gatherSeen 39 = .ok (.iaload, 1) := by decide +kernel
theorem dX10_gatherSeen_40 : decode cX10_gatherSeen 40 = .ok (.invokevirtual 302, 3) := by decide +kernel
theorem dX10_gatherSeen_43 : decode cX10_gatherSeen 43 = .ok (.aload_n 0, 1) := by decide +kernel
theorem dX10_gatherSeen_44 : decode cX10_gatherSeen 44 = .ok (.getfield 46, 3) := by decide +kernel
theorem dX10_gatherSeen_47 : decode cX10_gatherSeen 47 = .ok (.getfield 272, 3) := by decide +kernel
theorem dX10_gatherSeen_50 : decode cX10_gatherSeen 50 = .ok (.getfield 305, 3) := by decide +kernel
theorem dX10_gatherSeen_53 : decode cX10_gatherSeen 53 = .ok (.iload_n 1, 1) := by decide +kernel
theorem dX10_gatherSeen_54 : decode cX10_gatherSeen 54 = .ok (.iaload, 1) := by decide +kernel
theorem dX10_gatherSeen_55 : decode cX10_gatherSeen 55 = .ok (.ior, 1) := by decide +kernel
theorem dX10_gatherSeen_56 : decode cX10_gatherSeen 56 = .ok (.invokevirtual 308, 3) := by decide +kernel
theorem dX10_gatherSeen_59 : decode cX10_gatherSeen 59 = .ok (.iinc 1 1, 3) := by decide +kernel
theorem dX10_gatherSeen_62 : decode cX10_gatherSeen 62 = .ok (.goto (-53), 3) := by decide +kernel
theorem dX10_gatherSeen_65 : decode cX10_gatherSeen 65 = .ok (.aload_n 0, 1) := by decide +kernel
theorem dX10_gatherSeen_66 : decode cX10_gatherSeen 66 = .ok (.getfield 67, 3) := by decide +kernel
theorem dX10_gatherSeen_69 : decode cX10_gatherSeen 69 = .ok (.getfield 311, 3) := by decide +kernel
theorem dX10_gatherSeen_72 : decode cX10_gatherSeen 72 = .ok (.iconst 0, 1) := by decide +kernel
theorem dX10_gatherSeen_73 : decode cX10_gatherSeen 73 = .ok (.iaload, 1) := by decide +kernel
theorem dX10_gatherSeen_74 : decode cX10_gatherSeen 74 = .ok (.ifCond .ne 7, 3) := by decide +kernel
theorem dX10_gatherSeen_77 : decode cX10_gatherSeen 77 = .ok (.iconst 1, 1) := by decide +kernel
theorem dX10_gatherSeen_78 : decode cX10_gatherSeen 78 = .ok (.goto 4, 3) := by decide +kernel
theorem dX10_gatherSeen_81 : decode cX10_gatherSeen 81 = .ok (.iconst 0, 1) := by decide +kernel
theorem dX10_gatherSeen_82 : decode cX10_gatherSeen 82 = .ok (.ireturn, 1) := by decide +kernel
theorem dX10_seenForm_0 : decode cX10_seenForm 0 = .ok (.iconst 1, 1) := by decide +kernel
theorem dX10_seenForm_1 : decode cX10_seenForm 1 = .ok (.iconst 4, 1) := by decide +kernel
theorem dX10_seenForm_2 : decode cX10_seenForm 2 = .ok (.aload_n 0, 1) := by decide +kernel
theorem dX10_seenForm_3 : decode cX10_seenForm 3 = .ok (.getfield 46, 3) := by decide +kernel
theorem dX10_seenForm_6 : decode cX10_seenForm 6 = .ok (.getfield 89, 3) := by decide +kernel
theorem dX10_seenForm_9 : decode cX10_seenForm 9 = .ok (.getfield 130, 3) := by decide +kernel
theorem dX10_seenForm_12 : decode cX10_seenForm 12 = .ok (.imul, 1) := by decide +kernel
theorem dX10_seenForm_13 : decode cX10_seenForm 13 = .ok (.ishl, 1) := by decide +kernel
theorem dX10_seenForm_14 : decode cX10_seenForm 14 = .ok (.iconst 1, 1) := by decide +kernel
theorem dX10_seenForm_15 : decode cX10_seenForm 15 = .ok (.isub, 1) := by decide +kernel
theorem dX10_seenForm_16 : decode cX10_seenForm 16 = .ok (.istore_n 2, 1) := by decide +kernel
theorem dX10_seenForm_17 : decode cX10_seenForm 17 = .ok (.aload_n 0, 1) := by decide +kernel
theorem dX10_seenForm_18 : decode cX10_seenForm 18 = .ok (.getfield 46, 3) := by decide +kernel
theorem dX10_seenForm_21 : decode cX10_seenForm 21 = .ok (.getfield 89, 3) := by decide +kernel
theorem dX10_seenForm_24 : decode cX10_seenForm 24 = .ok (.iload_n 1, 1) := by decide +kernel
theorem dX10_seenForm_25 : decode cX10_seenForm 25 = .ok (.invokevirtual 165, 3) := by decide +kernel
theorem dX10_seenForm_28 : decode cX10_seenForm 28 = .ok (.ifCond .eq 22, 3) := by decide +kernel
theorem dX10_seenForm_31 : decode cX10_seenForm 31 = .ok (.aload_n 0, 1) := by decide +kernel
theorem dX10_seenForm_32 : decode cX10_seenForm 32 = .ok (.getfield 46, 3) := by decide +kernel
theorem dX10_seenForm_35 : decode cX10_seenForm 35 = .ok (.getfield 89, 3) := by decide +kernel
theorem dX10_seenForm_38 : decode cX10_seenForm 38 = .ok (.getfield 204, 3) := by decide +kernel
theorem dX10_seenForm_41 : decode cX10_seenForm 41 = .ok (.iload_n 1, 1) := by decide +kernel
theorem dX10_seenForm_42 : decode cX10_seenForm 42 = .ok (.iaload, 1) := by decide +kernel
theorem dX10_seenForm_43 : decode cX10_seenForm 43 = .ok (.iload_n 2, 1) := by decide +kernel
theorem dX10_seenForm_44 : decode cX10_seenForm 44 = .ok (.iand, 1) := by decide +kernel
theorem dX10_seenForm_45 : decode cX10_seenForm 45 = .ok (.iconst 4, 1) := by decide +kernel
theorem dX10_seenForm_46 : decode cX10_seenForm 46 = .ok (.ishl, 1) := by decide +kernel
theorem dX10_seenForm_47 : decode cX10_seenForm 47 = .ok (.goto 4, 3) := by decide +kernel
theorem dX10_seenForm_50 : decode cX10_seenForm 50 = .ok (.iconst 0, 1) := by decide +kernel
theorem dX10_seenForm_51 : decode cX10_seenForm 51 = .ok (.ireturn, 1) := by decide +kernel
theorem dX10_leastWay_0 : decode cX10_leastWay 0 = .ok (.iconst 1, 1) := by decide +kernel
theorem dX10_leastWay_1 : decode cX10_leastWay 1 = .ok (.istore_n 1, 1) := by decide +kernel
theorem dX10_leastWay_2 : decode cX10_leastWay 2 = .ok (.lconst 0, 1) := by decide +kernel
theorem dX10_leastWay_3 : decode cX10_leastWay 3 = .ok (.lstore_n 2, 1) := by decide +kernel
theorem dX10_leastWay_4 : decode cX10_leastWay 4 = .ok (.iconst 0, 1) := by decide +kernel
theorem dX10_leastWay_5 : decode cX10_leastWay 5 = .ok (.istore 4, 2) := by decide +kernel
theorem dX10_leastWay_7 : decode cX10_leastWay 7 = .ok (.iload 4, 2) := by decide +kernel
theorem dX10_leastWay_9 : decode cX10_leastWay 9 = .ok (.aload_n 0, 1) := by decide +kernel
theorem dX10_leastWay_10 : decode cX10_leastWay 10 = .ok (.getfield 46, 3) := by decide +kernel
theorem dX10_leastWay_13 : decode cX10_leastWay 13 = .ok (.getfield 89, 3) := by decide +kernel
theorem dX10_leastWay_16 : decode cX10_leastWay 16 = .ok (.getfield 130, 3) := by decide +kernel
theorem dX10_leastWay_19 : decode cX10_leastWay 19 = .ok (.if_icmp .ge 89, 3) := by decide +kernel
theorem dX10_leastWay_22 : decode cX10_leastWay 22 = .ok (.aload_n 0, 1) := by decide +kernel
theorem dX10_leastWay_23 : decode cX10_leastWay 23 = .ok (.getfield 67, 3) := by decide +kernel
theorem dX10_leastWay_26 : decode cX10_leastWay 26 = .ok (.getfield 311, 3) := by decide +kernel
theorem dX10_leastWay_29 : decode cX10_leastWay 29 = .ok (.iload 4, 2) := by decide +kernel
theorem dX10_leastWay_31 : decode cX10_leastWay 31 = .ok (.iconst 1, 1) := by decide +kernel
theorem dX10_leastWay_32 : decode cX10_leastWay 32 = .ok (.iadd, 1) := by decide +kernel
theorem dX10_leastWay_33 : decode cX10_leastWay 33 = .ok (.iaload, 1) := by decide +kernel
theorem dX10_leastWay_34 : decode cX10_leastWay 34 = .ok (.istore 5, 2) := by decide +kernel
theorem dX10_leastWay_36 : decode cX10_leastWay 36 = .ok (.iconst 0, 1) := by decide +kernel
theorem dX10_leastWay_37 : decode cX10_leastWay 37 = .ok (.istore 6, 2) := by decide +kernel
theorem dX10_leastWay_39 : decode cX10_leastWay 39 = .ok (.iconst 0, 1) := by decide +kernel
theorem dX10_leastWay_40 : decode cX10_leastWay 40 = .ok (.istore 7, 2) := by decide +kernel
theorem dX10_leastWay_42 : decode cX10_leastWay 42 = .ok (.iload 7, 2) := by decide +kernel
theorem dX10_leastWay_44 : decode cX10_leastWay 44 = .ok (.iload 4, 2) := by decide +kernel
theorem dX10_leastWay_46 : decode cX10_leastWay 46 = .ok (.if_icmp .gt 34, 3) := by decide +kernel
theorem dX10_leastWay_49 : decode cX10_leastWay 49 = .ok (.iload 6, 2) := by decide +kernel
theorem dX10_leastWay_51 : decode cX10_leastWay 51 = .ok (.aload_n 0, 1) := by decide +kernel
theorem dX10_leastWay_52 : decode cX10_leastWay 52 = .ok (.getfield 12, 3) := by decide +kernel
theorem dX10_leastWay_55 : decode cX10_leastWay 55 = .ok (.iload 5, 2) := by decide +kernel
theorem dX10_leastWay_57 : decode cX10_leastWay 57 = .ok (.iload 7, 2) := by decide +kernel
theorem dX10_leastWay_59 : decode cX10_leastWay 59 = .ok (.invokestatic 207, 3) := by decide +kernel
theorem dX10_leastWay_62 : decode cX10_leastWay 62 = .ok (.iload_n 1, 1) := by decide +kernel
theorem dX10_leastWay_63 : decode cX10_leastWay 63 = .ok (.iload 7, 2) := by decide +kernel
theorem dX10_leastWay_65 : decode cX10_leastWay 65 = .ok (.invokestatic 207, 3) := by decide +kernel
theorem dX10_leastWay_68 : decode cX10_leastWay 68 = .ok (.invokevirtual 107, 3) := by decide +kernel
theorem dX10_leastWay_71 : decode cX10_leastWay 71 = .ok (.ixor, 1) := by decide +kernel
theorem dX10_leastWay_72 : decode cX10_leastWay 72 = .ok (.istore 6, 2) := by decide +kernel
theorem dX10_leastWay_74 : decode cX10_leastWay 74 = .ok (.iinc 7 1, 3) := by decide +kernel
theorem dX10_leastWay_77 : decode cX10_leastWay 77 = .ok (.goto (-35), 3) := by decide +kernel
theorem dX10_leastWay_80 : decode cX10_leastWay 80 = .ok (.iload_n 1, 1) := by decide +kernel
theorem dX10_leastWay_81 : decode cX10_leastWay 81 = .ok (.iload 6, 2) := by decide +kernel
theorem dX10_leastWay_83 : decode cX10_leastWay 83 = .ok (.iconst 4, 1) := by decide +kernel
theorem dX10_leastWay_84 : decode cX10_leastWay 84 = .ok (.iload 4, 2) := by decide +kernel
theorem dX10_leastWay_86 : decode cX10_leastWay 86 = .ok (.iconst 1, 1) := by decide +kernel
theorem dX10_leastWay_87 : decode cX10_leastWay 87 = .ok (.iadd, 1) := by decide +kernel
theorem dX10_leastWay_88 : decode cX10_leastWay 88 = .ok (.imul, 1) := by decide +kernel
theorem dX10_leastWay_89 : decode cX10_leastWay 89 = .ok (.ishl, 1) := by decide +kernel
theorem dX10_leastWay_90 : decode cX10_leastWay 90 = .ok (.ior, 1) := by decide +kernel
theorem dX10_leastWay_91 : decode cX10_leastWay 91 = .ok (.istore_n 1, 1) := by decide +kernel
theorem dX10_leastWay_92 : decode cX10_leastWay 92 = .ok (.ldc2_w 313, 3) := by decide +kernel
theorem dX10_leastWay_95 : decode cX10_leastWay 95 = .ok (.lload_n 2, 1) := by decide +kernel
theorem dX10_leastWay_96 : decode cX10_leastWay 96 = .ok (.lmul, 1) := by decide +kernel
theorem dX10_leastWay_97 : decode cX10_leastWay 97 = .ok (.iload 6, 2) := by decide +kernel
theorem dX10_leastWay_99 : decode cX10_leastWay 99 = .ok (.i2l, 1) := by decide +kernel
theorem dX10_leastWay_100 : decode cX10_leastWay 100 = .ok (.ladd, 1) := by decide +kernel
theorem dX10_leastWay_101 : decode cX10_leastWay 101 = .ok (.lstore_n 2, 1) := by decide +kernel
theorem dX10_leastWay_102 : decode cX10_leastWay 102 = .ok (.iinc 4 1, 3) := by decide +kernel
theorem dX10_leastWay_105 : decode cX10_leastWay 105 = .ok (.goto (-98), 3) := by decide +kernel
theorem dX10_leastWay_108 : decode cX10_leastWay 108 = .ok (.lload_n 2, 1) := by decide +kernel
theorem dX10_leastWay_109 : decode cX10_leastWay 109 = .ok (.lreturn, 1) := by decide +kernel
theorem dX10_can_0 : decode cX10_can 0 = .ok (.aload_n 0, 1) := by decide +kernel
theorem dX10_can_1 : decode cX10_can 1 = .ok (.getfield 46, 3) := by decide +kernel
theorem dX10_can_4 : decode cX10_can 4 = .ok (.getfield 89, 3) := by decide +kernel
theorem dX10_can_7 : decode cX10_can 7 = .ok (.iload_n 1, 1) := by decide +kernel
theorem dX10_can_8 : decode cX10_can 8 = .ok (.invokevirtual 165, 3) := by decide +kernel
theorem dX10_can_11 : decode cX10_can 11 = .ok (.ifCond .ne 5, 3) := by decide +kernel
theorem dX10_can_14 : decode cX10_can 14 = .ok (.iconst (-1), 1) := by decide +kernel
theorem dX10_can_15 : decode cX10_can 15 = .ok (.ireturn, 1) := by decide +kernel
theorem dX10_can_16 : decode cX10_can 16 = .ok (.aload_n 0, 1) := by decide +kernel
theorem dX10_can_17 : decode cX10_can 17 = .ok (.invokevirtual 285, 3) := by decide +kernel
theorem dX10_can_20 : decode cX10_can 20 = .ok (.ifCond .ne 5, 3) := by decide +kernel
theorem dX10_can_23 : decode cX10_can 23 = .ok (.iconst 0, 1) := by decide +kernel
theorem dX10_can_24 : decode cX10_can 24 = .ok (.ireturn, 1) := by decide +kernel
theorem dX10_can_25 : decode cX10_can 25 = .ok (.aload_n 0, 1) := by decide +kernel
theorem dX10_can_26 : decode cX10_can 26 = .ok (.getfield 67, 3) := by decide +kernel
theorem dX10_can_29 : decode cX10_can 29 = .ok (.aload_n 0, 1) := by decide +kernel
theorem dX10_can_30 : decode cX10_can 30 = .ok (.iload_n 1, 1) := by decide +kernel
theorem dX10_can_31 : decode cX10_can 31 = .ok (.invokevirtual 302, 3) := by decide +kernel
theorem dX10_can_34 : decode cX10_can 34 = .ok (.invokevirtual 315, 3) := by decide +kernel
theorem dX10_can_37 : decode cX10_can 37 = .ok (.istore_n 2, 1) := by decide +kernel
theorem dX10_can_38 : decode cX10_can 38 = .ok (.iload_n 2, 1) := by decide +kernel
theorem dX10_can_39 : decode cX10_can 39 = .ok (.iconst 4, 1) := by decide +kernel
theorem dX10_can_40 : decode cX10_can 40 = .ok (.iushr, 1) := by decide +kernel
theorem dX10_can_41 : decode cX10_can 41 = .ok (.ifCond .eq 7, 3) := by decide +kernel
theorem dX10_can_44 : decode cX10_can 44 = .ok (.iconst 1, 1) := by decide +kernel
theorem dX10_can_45 : decode cX10_can 45 = .ok (.goto 4, 3) := by decide +kernel
theorem dX10_can_48 : decode cX10_can 48 = .ok (.iconst 0, 1) := by decide +kernel
theorem dX10_can_49 : decode cX10_can 49 = .ok (.istore_n 3, 1) := by decide +kernel
theorem dX10_can_50 : decode cX10_can 50 = .ok (.iload_n 3, 1) := by decide +kernel
theorem dX10_can_51 : decode cX10_can 51 = .ok (.ifCond .eq 9, 3) := by decide +kernel
theorem dX10_can_54 : decode cX10_can 54 = .ok (.ldc_w 318, 3) := by decide +kernel
theorem dX10_can_57 : decode cX10_can 57 = .ok (.goto 6, 3) := by decide +kernel
theorem dX10_can_60 : decode cX10_can 60 = .ok (.iconst 1, 1) := by decide +kernel
theorem dX10_can_61 : decode cX10_can 61 = .ok (.iload_n 2, 1) := by decide +kernel
theorem dX10_can_62 : decode cX10_can 62 = .ok (.ishl, 1) := by decide +kernel
theorem dX10_can_63 : decode cX10_can 63 = .ok (.ireturn, 1) := by decide +kernel
theorem dX10_odds_0 : decode cX10_odds 0 = .ok (.iload_n 1, 1) := by decide +kernel
theorem dX10_odds_1 : decode cX10_odds 1 = .ok (.invokestatic 262, 3) := by decide +kernel
theorem dX10_odds_4 : decode cX10_odds 4 = .ok (.ifCond .eq 24, 3) := by decide +kernel
theorem dX10_odds_7 : decode cX10_odds 7 = .ok (.iload_n 1, 1) := by decide +kernel
theorem dX10_odds_8 : decode cX10_odds 8 = .ok (.aload_n 0, 1) := by decide +kernel
theorem dX10_odds_9 : decode cX10_odds 9 = .ok (.getfield 46, 3) := by decide +kernel
theorem dX10_odds_12 : decode cX10_odds 12 = .ok (.getfield 89, 3) := by decide +kernel
theorem dX10_odds_15 : decode cX10_odds 15 = .ok (.getfield 92, 3) := by decide +kernel
theorem dX10_odds_18 : decode cX10_odds 18 = .ok (.if_icmp .gt 10, 3) := by decide +kernel
theorem dX10_odds_21 : decode cX10_odds 21 = .ok (.iload_n 2, 1) := by decide +kernel
theorem dX10_odds_22 : decode cX10_odds 22 = .ok (.invokestatic 319, 3) := by decide +kernel
theorem dX10_odds_25 : decode cX10_odds 25 = .ok (.ifCond .ne 7, 3) := by decide +kernel
theorem dX10_odds_28 : decode cX10_odds 28 = .ok (.ldc2_w 294, 3) := by decide +kernel
theorem dX10_odds_31 : decode cX10_odds 31 = .ok (.lreturn, 1) := by decide +kernel
theorem dX10_odds_32 : decode cX10_odds 32 = .ok (.aload_n 0, 1) := by decide +kernel
theorem dX10_odds_33 : decode cX10_odds 33 = .ok (.iload_n 1, 1) := by decide +kernel
theorem dX10_odds_34 : decode cX10_odds 34 = .ok (.invokevirtual 256, 3) := by decide +kernel
theorem dX10_odds_37 : decode cX10_odds 37 = .ok (.aload_n 0, 1) := by decide +kernel
theorem dX10_odds_38 : decode cX10_odds 38 = .ok (.iload_n 1, 1) := by decide +kernel
theorem dX10_odds_39 : decode cX10_odds 39 = .ok (.invokevirtual 259, 3) := by decide +kernel
theorem dX10_odds_42 : decode cX10_odds 42 = .ok (.iload_n 2, 1) := by decide +kernel
theorem dX10_odds_43 : decode cX10_odds 43 = .ok (.invokestatic 322, 3) := by decide +kernel
theorem dX10_odds_46 : decode cX10_odds 46 = .ok (.lreturn, 1) := by decide +kernel
theorem dX10_mean_0 : decode cX10_mean 0 = .ok (.iload_n 1, 1) := by decide +kernel
theorem dX10_mean_1 : decode cX10_mean 1 = .ok (.invokestatic 319, 3) := by decide +kernel
theorem dX10_mean_4 : decode cX10_mean 4 = .ok (.ifCond .ne 7, 3) := by decide +kernel
theorem dX10_mean_7 : decode cX10_mean 7 = .ok (.ldc2_w 294, 3) := by decide +kernel
theorem dX10_mean_10 : decode cX10_mean 10 = .ok (.lreturn, 1) := by decide +kernel
theorem dX10_mean_11 : decode cX10_mean 11 = .ok (.iconst 0, 1) := by decide +kernel
theorem dX10_mean_12 : decode cX10_mean 12 = .ok (.istore_n 2, 1) := by decide +kernel
theorem dX10_mean_13 : decode cX10_mean 13 = .ok (.iconst 0, 1) := by decide +kernel
theorem dX10_mean_14 : decode cX10_mean 14 = .ok (.istore_n 3, 1) := by decide +kernel
theorem dX10_mean_15 : decode cX10_mean 15 = .ok (.iconst 0, 1) := by decide +kernel
theorem dX10_mean_16 : decode cX10_mean 16 = .ok (.istore 4, 2) := by decide +kernel
theorem dX10_mean_18 : decode cX10_mean 18 = .ok (.iload 4, 2) := by decide +kernel
theorem dX10_mean_20 : decode cX10_mean 20 = .ok (.aload_n 0, 1) := by decide +kernel
theorem dX10_mean_21 : decode cX10_mean 21 = .ok (.getfield 46, 3) := by decide +kernel
theorem dX10_mean_24 : decode cX10_mean 24 = .ok (.getfield 89, 3) := by decide +kernel
theorem dX10_mean_27 : decode cX10_mean 27 = .ok (.getfield 92, 3) := by decide +kernel
theorem dX10_mean_30 : decode cX10_mean 30 = .ok (.if_icmp .ge 52, 3) := by decide +kernel
theorem dX10_mean_33 : decode cX10_mean 33 = .ok (.aload_n 0, 1) := by decide +kernel
theorem dX10_mean_34 : decode cX10_mean 34 = .ok (.getfield 39, 3) := by decide +kernel
theorem dX10_mean_37 : decode cX10_mean 37 = .ok (.aload_n 0, 1) := by decide +kernel
theorem dX10_mean_38 : decode cX10_mean 38 = .ok (.getfield 46, 3) := by decide +kernel
theorem dX10_mean_41 : decode cX10_mean 41 = .ok (.getfield 89, 3) := by decide +kernel
theorem dX10_mean_44 : decode cX10_mean 44 = .ok (.iload 4, 2) := by decide +kernel
theorem dX10_mean_46 : decode cX10_mean 46 = .ok (.invokevirtual 194, 3) := by decide +kernel
theorem dX10_mean_49 : decode cX10_mean 49 = .ok (.istore 5, 2) := by decide +kernel
theorem dX10_mean_51 : decode cX10_mean 51 = .ok (.iload 5, 2) := by decide +kernel
theorem dX10_mean_53 : decode cX10_mean 53 = .ok (.bipush (-5), 2) := by decide +kernel
theorem dX10_mean_55 : decode cX10_mean 55 = .ok (.if_icmp .eq 21, 3) := by decide +kernel
theorem dX10_mean_58 : decode cX10_mean 58 = .ok (.iload_n 2, 1) := by decide +kernel
theorem dX10_mean_59 : decode cX10_mean 59 = .ok (.aload_n 0, 1) := by decide +kernel
theorem dX10_mean_60 : decode cX10_mean 60 = .ok (.getfield 46, 3) := by decide +kernel
theorem dX10_mean_63 : decode cX10_mean 63 = .ok (.getfield 89, 3) := by decide +kernel
theorem dX10_mean_66 : decode cX10_mean 66 = .ok (.iload 5, 2) := by decide +kernel
theorem dX10_mean_68 : decode cX10_mean 68 = .ok (.invokevirtual 198, 3) := by decide +kernel
theorem dX10_mean_71 : decode cX10_mean 71 = .ok (.iadd, 1) := by decide +kernel
theorem dX10_mean_72 : decode cX10_mean 72 = .ok (.istore_n 2, 1) := by decide +kernel
theorem dX10_mean_73 : decode cX10_mean 73 = .ok (.iinc 3 1, 3) := by decide +kernel
theorem dX10_mean_76 : decode cX10_mean 76 = .ok (.iinc 4 1, 3) := by decide +kernel
theorem dX10_mean_79 : decode cX10_mean 79 = .ok (.goto (-61), 3) := by decide +kernel
theorem dX10_mean_82 : decode cX10_mean 82 = .ok (.iload_n 3, 1) := by decide +kernel
theorem dX10_mean_83 : decode cX10_mean 83 = .ok (.ifCond .ne 9, 3) := by decide +kernel
theorem dX10_mean_86 : decode cX10_mean 86 = .ok (.ldc2_w 294, 3) := by decide +kernel
theorem dX10_mean_89 : decode cX10_mean 89 = .ok (.goto 9, 3) := by decide +kernel
theorem dX10_mean_92 : decode cX10_mean 92 = .ok (.iload_n 2, 1) := by decide +kernel
theorem dX10_mean_93 : decode cX10_mean 93 = .ok (.iload_n 3, 1) := by decide +kernel
theorem dX10_mean_94 : decode cX10_mean 94 = .ok (.iload_n 1, 1) := by decide +kernel
theorem dX10_mean_95 : decode cX10_mean 95 = .ok (.invokestatic 322, 3) := by decide +kernel
theorem dX10_mean_98 : decode cX10_mean 98 = .ok (.lreturn, 1) := by decide +kernel
theorem dX10_isPart_0 : decode cX10_isPart 0 = .ok (.iload_n 0, 1) := by decide +kernel
theorem dX10_isPart_1 : decode cX10_isPart 1 = .ok (.ifCond .eq 8, 3) := by decide +kernel
theorem dX10_isPart_4 : decode cX10_isPart 4 = .ok (.iload_n 0, 1) := by decide +kernel
theorem dX10_isPart_5 : decode cX10_isPart 5 = .ok (.iconst 1, 1) := by decide +kernel
theorem dX10_isPart_6 : decode cX10_isPart 6 = .ok (.if_icmp .ne 7, 3) := by decide +kernel
theorem dX10_isPart_9 : decode cX10_isPart 9 = .ok (.iconst 1, 1) := by decide +kernel
theorem dX10_isPart_10 : decode cX10_isPart 10 = .ok (.goto 4, 3) := by decide +kernel
theorem dX10_isPart_13 : decode cX10_isPart 13 = .ok (.iconst 0, 1) := by decide +kernel
theorem dX10_isPart_14 : decode cX10_isPart 14 = .ok (.ireturn, 1) := by decide +kernel
theorem dX10_partOf_0 : decode cX10_partOf 0 = .ok (.iload_n 0, 1) := by decide +kernel
theorem dX10_partOf_1 : decode cX10_partOf 1 = .ok (.iload_n 1, 1) := by decide +kernel
theorem dX10_partOf_2 : decode cX10_partOf 2 = .ok (.invokestatic 326, 3) := by decide +kernel
theorem dX10_partOf_5 : decode cX10_partOf 5 = .ok (.istore_n 3, 1) := by decide +kernel
theorem dX10_partOf_6 : decode cX10_partOf 6 = .ok (.iload_n 3, 1) := by decide +kernel
theorem dX10_partOf_7 : decode cX10_partOf 7 = .ok (.ifCond .ne 7, 3) := by decide +kernel
theorem dX10_partOf_10 : decode cX10_partOf 10 = .ok (.ldc2_w 294, 3) := by decide +kernel
theorem dX10_partOf_13 : decode cX10_partOf 13 = .ok (.lreturn, 1) := by decide +kernel
theorem dX10_partOf_14 : decode cX10_partOf 14 = .ok (.iload_n 2, 1) := by decide +kernel
theorem dX10_partOf_15 : decode cX10_partOf 15 = .ok (.ifCond .ne 10, 3) := by decide +kernel
theorem dX10_partOf_18 : decode cX10_partOf 18 = .ok (.iload_n 0, 1) := by decide +kernel
theorem dX10_partOf_19 : decode cX10_partOf 19 = .ok (.iload_n 3, 1) := by decide +kernel
theorem dX10_partOf_20 : decode cX10_partOf 20 = .ok (.idiv, 1) := by decide +kernel
theorem dX10_partOf_21 : decode cX10_partOf 21 = .ok (.i2l, 1) := by decide +kernel
theorem dX10_partOf_22 : decode cX10_partOf 22 = .ok (.goto 7, 3) := by decide +kernel
theorem dX10_partOf_25 : decode cX10_partOf 25 = .ok (.iload_n 1, 1) := by decide +kernel
theorem dX10_partOf_26 : decode cX10_partOf 26 = .ok (.iload_n 3, 1) := by decide +kernel
theorem dX10_partOf_27 : decode cX10_partOf 27 = .ok (.idiv, 1) := by decide +kernel
theorem dX10_partOf_28 : decode cX10_partOf 28 = .ok (.i2l, 1) := by decide +kernel
theorem dX10_partOf_29 : decode cX10_partOf 29 = .ok (.lreturn, 1) := by decide +kernel
theorem dX10_greatestMeasure_0 : decode cX10_greatestMeasure 0 = .ok (.iload_n 0, 1) := by decide +kernel
theorem dX10_greatestMeasure_1 : decode cX10_greatestMeasure 1 = .ok (.istore_n 2, 1) := by decide +kernel
theorem dX10_greatestMeasure_2 : decode cX10_greatestMeasure 2 = .ok (.iload_n 1, 1) := by decide +kernel
theorem dX10_greatestMeasure_3 : decode cX10_greatestMeasure 3 = .ok (.istore_n 3, 1) := by decide +kernel
theorem dX10_greatestMeasure_4 : decode cX10_greatestMeasure 4 = .ok (.iconst 0, 1) := by decide +kernel
theorem dX10_greatestMeasure_5 : decode cX10_greatestMeasure 5 = .ok (.istore 4, 2) := by decide +kernel
theorem dX10_greatestMeasure_7 : decode cX10_greatestMeasure 7 = .ok (.iload_n 3, 1) := by decide +kernel
theorem dX10_greatestMeasure_8 : decode cX10_greatestMeasure 8 = .ok (.ifCond .le 26, 3) := by decide +kernel
theorem dX10_greatestMeasure_11 : decode cX10_greatestMeasure 11 = .ok (.iload 4, 2) := by decide +kernel
theorem dX10_greatestMeasure_13 : decode cX10_greatestMeasure 13 = .ok (.bipush 100, 2) := by decide +kernel
theorem dX10_greatestMeasure_15 : decode cX10_greatestMeasure 15 = .ok (.if_icmp .ge 19, 3) := by decide +kernel
theorem dX10_greatestMeasure_18 : decode cX10_greatestMeasure 18 = .ok (.iload_n 2, 1) := by decide +kernel
theorem dX10_greatestMeasure_19 : decode cX10_greatestMeasure 19 = .ok (.iload_n 3, 1) := by decide +kernel
theorem dX10_greatestMeasure_20 : decode cX10_greatestMeasure 20 = .ok (.irem, 1) := by decide +kernel
theorem dX10_greatestMeasure_21 : decode cX10_greatestMeasure 21 = .ok (.istore 5, 2) := by decide +kernel
theorem dX10_greatestMeasure_23 : decode cX10_greatestMeasure 23 = .ok (.iload_n 3, 1) := by decide +kernel
theorem dX10_greatestMeasure_24 : decode cX10_greatestMeasure 24 = .ok (.istore_n 2, 1) := by decide +kernel
theorem dX10_greatestMeasure_25 : decode cX10_greatestMeasure 25 = .ok (.iload 5, 2) := by decide +kernel
theorem dX10_greatestMeasure_27 : decode cX10_greatestMeasure 27 = .ok (.istore_n 3, 1) := by decide +kernel
theorem dX10_greatestMeasure_28 : decode cX10_greatestMeasure 28 = .ok (.iinc 4 1, 3) := by decide +kernel
theorem dX10_greatestMeasure_31 : decode cX10_greatestMeasure 31 = .ok (.goto (-24), 3) := by decide +kernel
theorem dX10_greatestMeasure_34 : decode cX10_greatestMeasure 34 = .ok (.iload_n 2, 1) := by decide +kernel
theorem dX10_greatestMeasure_35 : decode cX10_greatestMeasure 35 = .ok (.ireturn, 1) := by decide +kernel
theorem dX10_plan_0 : decode cX10_plan 0 = .ok (.iload_n 1, 1) := by decide +kernel
theorem dX10_plan_1 : decode cX10_plan 1 = .ok (.iconst (-1), 1) := by decide +kernel
theorem dX10_plan_2 : decode cX10_plan 2 = .ok (.if_icmp .ne 16, 3) := by decide +kernel
theorem dX10_plan_5 : decode cX10_plan 5 = .ok (.aload_n 0, 1) := by decide +kernel
theorem dX10_plan_6 : decode cX10_plan 6 = .ok (.getfield 46, 3) := by decide +kernel
theorem dX10_plan_9 : decode cX10_plan 9 = .ok (.getfield 329, 3) := by decide +kernel
theorem dX10_plan_12 : decode cX10_plan 12 = .ok (.iconst 0, 1) := by decide +kernel
theorem dX10_plan_13 : decode cX10_plan 13 = .ok (.putfield 280, 3) := by decide +kernel
theorem dX10_plan_16 : decode cX10_plan 16 = .ok (.iconst 0, 1) := by decide +kernel
theorem dX10_plan_17 : decode cX10_plan 17 = .ok (.ireturn, 1) := by decide +kernel
theorem dX10_plan_18 : decode cX10_plan 18 = .ok (.iload_n 1, 1) := by decide +kernel
theorem dX10_plan_19 : decode cX10_plan 19 = .ok (.ifCond .lt 22, 3) := by decide +kernel
theorem dX10_plan_22 : decode cX10_plan 22 = .ok (.iload_n 1, 1) := by decide +kernel
theorem dX10_plan_23 : decode cX10_plan 23 = .ok (.iconst 2, 1) := by decide +kernel
theorem dX10_plan_24 : decode cX10_plan 24 = .ok (.if_icmp .gt 17, 3) := by decide +kernel
theorem dX10_plan_27 : decode cX10_plan 27 = .ok (.aload_n 0, 1) := by decide +kernel
theorem dX10_plan_28 : decode cX10_plan 28 = .ok (.getfield 46, 3) := by decide +kernel
theorem dX10_plan_31 : decode cX10_plan 31 = .ok (.getfield 89, 3) := by decide +kernel
theorem dX10_plan_34 : decode cX10_plan 34 = .ok (.iload_n 2, 1) := by decide +kernel
theorem dX10_plan_35 : decode cX10_plan 35 = .ok (.invokevirtual 165, 3) := by decide +kernel
theorem dX10_plan_38 : decode cX10_plan 38 = .ok (.ifCond .ne 5, 3) := by decide +kernel
theorem dX10_plan_41 : decode cX10_plan 41 = .ok (.iconst (-1), 1) := by decide +kernel
theorem dX10_plan_42 : decode cX10_plan 42 = .ok (.ireturn, 1) := by decide +kernel
theorem dX10_plan_43 : decode cX10_plan 43 = .ok (.aload_n 0, 1) := by decide +kernel
theorem dX10_plan_44 : decode cX10_plan 44 = .ok (.getfield 46, 3) := by decide +kernel
theorem dX10_plan_47 : decode cX10_plan 47 = .ok (.getfield 329, 3) := by decide +kernel
theorem dX10_plan_50 : decode cX10_plan 50 = .ok (.iload_n 1, 1) := by decide +kernel
theorem dX10_plan_51 : decode cX10_plan 51 = .ok (.iload_n 2, 1) := by decide +kernel
theorem dX10_plan_52 : decode cX10_plan 52 = .ok (.invokevirtual 283, 3) := by decide +kernel
theorem dX10_plan_55 : decode cX10_plan 55 = .ok (.ifCond .eq 16, 3) := by decide +kernel
theorem dX10_plan_58 : decode cX10_plan 58 = .ok (.aload_n 0, 1) := by decide +kernel
theorem dX10_plan_59 : decode cX10_plan 59 = .ok (.getfield 46, 3) := by decide +kernel
theorem dX10_plan_62 : decode cX10_plan 62 = .ok (.getfield 329, 3) := by decide +kernel
theorem dX10_plan_65 : decode cX10_plan 65 = .ok (.getfield 280, 3) := by decide +kernel
theorem dX10_plan_68 : decode cX10_plan 68 = .ok (.goto 5, 3) := by decide +kernel
theorem dX10_plan_71 : decode cX10_plan 71 = .ok (.bipush (-4), 2) := by decide +kernel
theorem dX10_plan_73 : decode cX10_plan 73 = .ok (.ireturn, 1) := by decide +kernel
theorem dX10_ends_0 : decode cX10_ends 0 = .ok (.iload_n 1, 1) := by decide +kernel
theorem dX10_ends_1 : decode cX10_ends 1 = .ok (.ifCond .eq 10, 3) := by decide +kernel
theorem dX10_ends_4 : decode cX10_ends 4 = .ok (.iload_n 1, 1) := by decide +kernel
theorem dX10_ends_5 : decode cX10_ends 5 = .ok (.iconst 1, 1) := by decide +kernel
theorem dX10_ends_6 : decode cX10_ends 6 = .ok (.if_icmp .eq 5, 3) := by decide +kernel
theorem dX10_ends_9 : decode cX10_ends 9 = .ok (.iconst (-1), 1) := by decide +kernel
theorem dX10_ends_10 : decode cX10_ends 10 = .ok (.ireturn, 1) := by decide +kernel
theorem dX10_ends_11 : decode cX10_ends 11 = .ok (.aload_n 0, 1) := by decide +kernel
theorem dX10_ends_12 : decode cX10_ends 12 = .ok (.getfield 60, 3) := by decide +kernel
theorem dX10_ends_15 : decode cX10_ends 15 = .ok (.aload_n 0, 1) := by decide +kernel
theorem dX10_ends_16 : decode cX10_ends 16 = .ok (.getfield 46, 3) := by decide +kernel
theorem dX10_ends_19 : decode cX10_ends 19 = .ok (.getfield 89, 3) := by decide +kernel
theorem dX10_ends_22 : decode cX10_ends 22 = .ok (.invokevirtual 332, 3) := by decide +kernel
theorem dX10_ends_25 : decode cX10_ends 25 = .ok (.iconst 0, 1) := by decide +kernel
theorem dX10_ends_26 : decode cX10_ends 26 = .ok (.istore_n 2, 1) := by decide +kernel
theorem dX10_ends_27 : decode cX10_ends 27 = .ok (.iconst 0, 1) := by decide +kernel
theorem dX10_ends_28 : decode cX10_ends 28 = .ok (.istore_n 3, 1) := by decide +kernel
theorem dX10_ends_29 : decode cX10_ends 29 = .ok (.iload_n 3, 1) := by decide +kernel
theorem dX10_ends_30 : decode cX10_ends 30 = .ok (.aload_n 0, 1) := by decide +kernel
theorem dX10_ends_31 : decode cX10_ends 31 = .ok (.getfield 46, 3) := by decide +kernel
theorem dX10_ends_34 : decode cX10_ends 34 = .ok (.getfield 329, 3) := by decide +kernel
theorem dX10_ends_37 : decode cX10_ends 37 = .ok (.getfield 280, 3) := by decide +kernel
theorem dX10_ends_40 : decode cX10_ends 40 = .ok (.if_icmp .ge 40, 3) := by decide +kernel
theorem dX10_ends_43 : decode cX10_ends 43 = .ok (.iload_n 2, 1) := by decide +kernel
theorem dX10_ends_44 : decode cX10_ends 44 = .ok (.aload_n 0, 1) := by decide +kernel
theorem dX10_ends_45 : decode cX10_ends 45 = .ok (.aload_n 0, 1) := by decide +kernel
theorem dX10_ends_46 : decode cX10_ends 46 = .ok (.getfield 46, 3) := by decide +kernel
theorem dX10_ends_49 : decode cX10_ends 49 = .ok (.getfield 329, 3) := by decide +kernel
theorem dX10_ends_52 : decode cX10_ends 52 = .ok (.getfield 299, 3) := by decide +kernel
theorem dX10_ends_55 : decode cX10_ends 55 = .ok (.iload_n 3, 1) := by decide +kernel
theorem dX10_ends_56 : decode cX10_ends 56 = .ok (.iaload, 1) := by decide +kernel
theorem dX10_ends_57 : decode cX10_ends 57 = .ok (.aload_n 0, 1) := by decide +kernel
theorem dX10_ends_58 : decode cX10_ends 58 = .ok (.getfield 46, 3) := by decide +kernel
theorem dX10_ends_61 : decode cX10_ends 61 = .ok (.getfield 329, 3) := by decide +kernel
theorem dX10_ends_64 : decode cX10_ends 64 = .ok (.getfield 305, 3) := by decide +kernel
theorem dX10_ends_67 : decode cX10_ends 67 = .ok (.iload_n 3, 1) := by decide +kernel
theorem dX10_ends_68 : decode cX10_ends 68 = .ok (.iaload, 1) := by decide +kernel
theorem dX10_ends_69 : decode cX10_ends 69 = .ok (.invokevirtual 336, 3) := by decide +kernel
theorem dX10_ends_72 : decode cX10_ends 72 = .ok (.iadd, 1) := by decide +kernel
theorem dX10_ends_73 : decode cX10_ends 73 = .ok (.istore_n 2, 1) := by decide +kernel
theorem dX10_ends_74 : decode cX10_ends 74 = .ok (.iinc 3 1, 3) := by decide +kernel
theorem dX10_ends_77 : decode cX10_ends 77 = .ok (.goto (-48), 3) := by decide +kernel
theorem dX10_ends_80 : decode cX10_ends 80 = .ok (.iload_n 1, 1) := by decide +kernel
theorem dX10_ends_81 : decode cX10_ends 81 = .ok (.ifCond .ne 13, 3) := by decide +kernel
theorem dX10_ends_84 : decode cX10_ends 84 = .ok (.aload_n 0, 1) := by decide +kernel
theorem dX10_ends_85 : decode cX10_ends 85 = .ok (.getfield 60, 3) := by decide +kernel
theorem dX10_ends_88 : decode cX10_ends 88 = .ok (.getfield 229, 3) := by decide +kernel
theorem dX10_ends_91 : decode cX10_ends 91 = .ok (.goto 4, 3) := by decide +kernel
theorem dX10_ends_94 : decode cX10_ends 94 = .ok (.iload_n 2, 1) := by decide +kernel
theorem dX10_ends_95 : decode cX10_ends 95 = .ok (.ireturn, 1) := by decide +kernel
theorem dX10_playStep_0 : decode cX10_playStep 0 = .ok (.aload_n 0, 1) := by decide +kernel
theorem dX10_playStep_1 : decode cX10_playStep 1 = .ok (.getfield 60, 3) := by decide +kernel
theorem dX10_playStep_4 : decode cX10_playStep 4 = .ok (.iload_n 2, 1) := by decide +kernel
theorem dX10_playStep_5 : decode cX10_playStep 5 = .ok (.invokevirtual 165, 3) := by decide +kernel
theorem dX10_playStep_8 : decode cX10_playStep 8 = .ok (.ifCond .ne 5, 3) := by decide +kernel
theorem dX10_playStep_11 : decode cX10_playStep 11 = .ok (.iconst 0, 1) := by decide +kernel
theorem dX10_playStep_12 : decode cX10_playStep 12 = .ok (.ireturn, 1) := by decide +kernel
theorem dX10_playStep_13 : decode cX10_playStep 13 = .ok (.iload_n 1, 1) := by decide +kernel
theorem dX10_playStep_14 : decode cX10_playStep 14 = .ok (.iconst 1, 1) := by decide +kernel
theorem dX10_playStep_15 : decode cX10_playStep 15 = .ok (.if_icmp .ne 20, 3) := by decide +kernel
theorem dX10_playStep_18 : decode cX10_playStep 18 = .ok (.iconst 0, 1) := by decide +kernel
theorem dX10_playStep_19 : decode cX10_playStep 19 = .ok (.aload_n 0, 1) := by decide +kernel
theorem dX10_playStep_20 : decode cX10_playStep 20 = .ok (.getfield 39, 3) := by decide +kernel
theorem dX10_playStep_23 : decode cX10_playStep 23 = .ok (.aload_n 0, 1) := by decide +kernel
theorem dX10_playStep_24 : decode cX10_playStep 24 = .ok (.getfield 60, 3) := by decide +kernel
theorem dX10_playStep_27 : decode cX10_playStep 27 = .ok (.iload_n 2, 1) := by decide +kernel
theorem dX10_playStep_28 : decode cX10_playStep 28 = .ok (.invokevirtual 232, 3) := by decide +kernel
theorem dX10_playStep_31 : decode cX10_playStep 31 = .ok (.invokestatic 339, 3) := by decide +kernel
theorem dX10_playStep_34 : decode cX10_playStep 34 = .ok (.ireturn, 1) := by decide +kernel
theorem dX10_playStep_35 : decode cX10_playStep 35 = .ok (.iload_n 1, 1) := by decide +kernel
theorem dX10_playStep_36 : decode cX10_playStep 36 = .ok (.ifCond .ne 21, 3) := by decide +kernel
theorem dX10_playStep_39 : decode cX10_playStep 39 = .ok (.aload_n 0, 1) := by decide +kernel
theorem dX10_playStep_40 : decode cX10_playStep 40 = .ok (.getfield 60, 3) := by decide +kernel
theorem dX10_playStep_43 : decode cX10_playStep 43 = .ok (.dup, 1) := by decide +kernel
theorem dX10_playStep_44 : decode cX10_playStep 44 = .ok (.getfield 229, 3) := by decide +kernel
theorem dX10_playStep_47 : decode cX10_playStep 47 = .ok (.iconst 1, 1) := by decide +kernel
theorem dX10_playStep_48 : decode cX10_playStep 48 = .ok (.iload_n 2, 1) := by decide +kernel
theorem dX10_playStep_49 : decode cX10_playStep 49 = .ok (.ishl, 1) := by decide +kernel
theorem dX10_playStep_50 : decode cX10_playStep 50 = .ok (.ior, 1) := by decide +kernel
theorem dX10_playStep_51 : decode cX10_playStep 51 = .ok (.putfield 229, 3) := by decide +kernel
theorem dX10_playStep_54 : decode cX10_playStep 54 = .ok (.goto 13, 3) := by decide +kernel
theorem dX10_playStep_57 : decode cX10_playStep 57 = .ok (.aload_n 0, 1) := by decide +kernel
theorem dX10_playStep_58 : decode cX10_playStep 58 = .ok (.getfield 60, 3) := by decide +kernel
theorem dX10_playStep_61 : decode cX10_playStep 61 = .ok (.getfield 175, 3) := by decide +kernel
theorem dX10_playStep_64 : decode cX10_playStep 64 = .ok (.iload_n 2, 1) := by decide +kernel
theorem dX10_playStep_65 : decode cX10_playStep 65 = .ok (.iconst 0, 1) := by decide +kernel
theorem dX10_playStep_66 : decode cX10_playStep 66 = .ok (.iastore, 1) := by decide +kernel
theorem dX10_playStep_67 : decode cX10_playStep 67 = .ok (.iconst 0, 1) := by decide +kernel
theorem dX10_playStep_68 : decode cX10_playStep 68 = .ok (.ireturn, 1) := by decide +kernel
theorem dX10_book_0 : decode cX10_book 0 = .ok (.aload_n 0, 1) := by decide +kernel
theorem dX10_book_1 : decode cX10_book 1 = .ok (.aload_n 0, 1) := by decide +kernel
theorem dX10_book_2 : decode cX10_book 2 = .ok (.getfield 46, 3) := by decide +kernel
theorem dX10_book_5 : decode cX10_book 5 = .ok (.getfield 344, 3) := by decide +kernel
theorem dX10_book_8 : decode cX10_book 8 = .ok (.iload_n 1, 1) := by decide +kernel
theorem dX10_book_9 : decode cX10_book 9 = .ok (.iload_n 2, 1) := by decide +kernel
theorem dX10_book_10 : decode cX10_book 10 = .ok (.invokevirtual 276, 3) := by decide +kernel
theorem dX10_book_13 : decode cX10_book 13 = .ok (.ireturn, 1) := by decide +kernel
theorem dX10_looked_0 : decode cX10_looked 0 = .ok (.iconst 0, 1) := by decide +kernel
theorem dX10_looked_1 : decode cX10_looked 1 = .ok (.istore_n 1, 1) := by decide +kernel
theorem dX10_looked_2 : decode cX10_looked 2 = .ok (.iload_n 1, 1) := by decide +kernel
theorem dX10_looked_3 : decode cX10_looked 3 = .ok (.aload_n 0, 1) := by decide +kernel
theorem dX10_looked_4 : decode cX10_looked 4 = .ok (.getfield 46, 3) := by decide +kernel
theorem dX10_looked_7 : decode cX10_looked 7 = .ok (.getfield 344, 3) := by decide +kernel
theorem dX10_looked_10 : decode cX10_looked 10 = .ok (.getfield 280, 3) := by decide +kernel
theorem dX10_looked_13 : decode cX10_looked 13 = .ok (.if_icmp .ge 42, 3) := by decide +kernel
theorem dX10_looked_16 : decode cX10_looked 16 = .ok (.aload_n 0, 1) := by decide +kernel
theorem dX10_looked_17 : decode cX10_looked 17 = .ok (.aload_n 0, 1) := by decide +kernel
theorem dX10_looked_18 : decode cX10_looked 18 = .ok (.getfield 46, 3) := by decide +kernel
theorem dX10_looked_21 : decode cX10_looked 21 = .ok (.getfield 344, 3) := by decide +kernel
theorem dX10_looked_24 : decode cX10_looked 24 = .ok (.getfield 299, 3) := by decide +kernel
theorem dX10_looked_27 : decode cX10_looked 27 = .ok (.iload_n 1, 1) := by decide +kernel
theorem dX10_looked_28 : decode cX10_looked 28 = .ok (.iaload, 1) := by decide +kernel
theorem dX10_looked_29 : decode cX10_looked 29 = .ok (.invokevirtual 347, 3) := by decide +kernel
theorem dX10_looked_32 : decode cX10_looked 32 = .ok (.aload_n 0, 1) := by decide +kernel
theorem dX10_looked_33 : decode cX10_looked 33 = .ok (.getfield 46, 3) := by decide +kernel
theorem dX10_looked_36 : decode cX10_looked 36 = .ok (.getfield 344, 3) := by decide +kernel
theorem dX10_looked_39 : decode cX10_looked 39 = .ok (.getfield 305, 3) := by decide +kernel
theorem dX10_looked_42 : decode cX10_looked 42 = .ok (.iload_n 1, 1) := by decide +kernel
theorem dX10_looked_43 : decode cX10_looked 43 = .ok (.iaload, 1) := by decide +kernel
theorem dX10_looked_44 : decode cX10_looked 44 = .ok (.if_icmp .eq 5, 3) := by decide +kernel
theorem dX10_looked_47 : decode cX10_looked 47 = .ok (.iload_n 1, 1) := by decide +kernel
theorem dX10_looked_48 : decode cX10_looked 48 = .ok (.ireturn, 1) := by decide +kernel
theorem dX10_looked_49 : decode cX10_looked 49 = .ok (.iinc 1 1, 3) := by decide +kernel
theorem dX10_looked_52 : decode cX10_looked 52 = .ok (.goto (-50), 3) := by decide +kernel
theorem dX10_looked_55 : decode cX10_looked 55 = .ok (.bipush (-5), 2) := by decide +kernel
theorem dX10_looked_57 : decode cX10_looked 57 = .ok (.ireturn, 1) := by decide +kernel
theorem dX10_shown_0 : decode cX10_shown 0 = .ok (.aload_n 0, 1) := by decide +kernel
theorem dX10_shown_1 : decode cX10_shown 1 = .ok (.getfield 46, 3) := by decide +kernel
theorem dX10_shown_4 : decode cX10_shown 4 = .ok (.getfield 89, 3) := by decide +kernel
theorem dX10_shown_7 : decode cX10_shown 7 = .ok (.iload_n 1, 1) := by decide +kernel
theorem dX10_shown_8 : decode cX10_shown 8 = .ok (.invokevirtual 165, 3) := by decide +kernel
theorem dX10_shown_11 : decode cX10_shown 11 = .ok (.ifCond .eq 21, 3) := by decide +kernel
theorem dX10_shown_14 : decode cX10_shown 14 = .ok (.aload_n 0, 1) := by decide +kernel
theorem dX10_shown_15 : decode cX10_shown 15 = .ok (.getfield 46, 3) := by decide +kernel
theorem dX10_shown_18 : decode cX10_shown 18 = .ok (.getfield 89, 3) := by decide +kernel
theorem dX10_shown_21 : decode cX10_shown 21 = .ok (.iload_n 1, 1) := by decide +kernel
theorem dX10_shown_22 : decode cX10_shown 22 = .ok (.invokevirtual 187, 3) := by decide +kernel
theorem dX10_shown_25 : decode cX10_shown 25 = .ok (.ifCond .ne 7, 3) := by decide +kernel
theorem dX10_shown_28 : decode cX10_shown 28 = .ok (.iconst 1, 1) := by decide +kernel
theorem dX10_shown_29 : decode cX10_shown 29 = .ok (.goto 4, 3) := by decide +kernel
theorem dX10_shown_32 : decode cX10_shown 32 = .ok (.iconst 0, 1) := by decide +kernel
theorem dX10_shown_33 : decode cX10_shown 33 = .ok (.istore_n 2, 1) := by decide +kernel
theorem dX10_shown_34 : decode cX10_shown 34 = .ok (.iload_n 2, 1) := by decide +kernel
theorem dX10_shown_35 : decode cX10_shown 35 = .ok (.ifCond .eq 21, 3) := by decide +kernel
theorem dX10_shown_38 : decode cX10_shown 38 = .ok (.aload_n 0, 1) := by decide +kernel
theorem dX10_shown_39 : decode cX10_shown 39 = .ok (.getfield 46, 3) := by decide +kernel
theorem dX10_shown_42 : decode cX10_shown 42 = .ok (.getfield 89, 3) := by decide +kernel
theorem dX10_shown_45 : decode cX10_shown 45 = .ok (.aload_n 0, 1) := by decide +kernel
theorem dX10_shown_46 : decode cX10_shown 46 = .ok (.getfield 12, 3) := by decide +kernel
theorem dX10_shown_49 : decode cX10_shown 49 = .ok (.iload_n 1, 1) := by decide +kernel
theorem dX10_shown_50 : decode cX10_shown 50 = .ok (.invokevirtual 190, 3) := by decide +kernel
theorem dX10_shown_53 : decode cX10_shown 53 = .ok (.goto 4, 3) := by decide +kernel
theorem dX10_shown_56 : decode cX10_shown 56 = .ok (.iconst (-1), 1) := by decide +kernel
theorem dX10_shown_57 : decode cX10_shown 57 = .ok (.ireturn, 1) := by decide +kernel
theorem dX10_judge_0 : decode cX10_judge 0 = .ok (.iload_n 1, 1) := by decide +kernel
theorem dX10_judge_1 : decode cX10_judge 1 = .ok (.invokestatic 350, 3) := by decide +kernel
theorem dX10_judge_4 : decode cX10_judge 4 = .ok (.ifCond .ne 5, 3) := by decide +kernel
theorem dX10_judge_7 : decode cX10_judge 7 = .ok (.iconst (-1), 1) := by decide +kernel
theorem dX10_judge_8 : decode cX10_judge 8 = .ok (.ireturn, 1) := by decide +kernel
theorem dX10_judge_9 : decode cX10_judge 9 = .ok (.aload_n 0, 1) := by decide +kernel
theorem dX10_judge_10 : decode cX10_judge 10 = .ok (.getfield 81, 3) := by decide +kernel
theorem dX10_judge_13 : decode cX10_judge 13 = .ok (.getfield 351, 3) := by decide +kernel
theorem dX10_judge_16 : decode cX10_judge 16 = .ok (.iload_n 1, 1) := by decide +kernel
theorem dX10_judge_17 : decode cX10_judge 17 = .ok (.iaload, 1) := by decide +kernel
theorem dX10_judge_18 : decode cX10_judge 18 = .ok (.iconst (-1), 1) := by decide +kernel
theorem dX10_judge_19 : decode cX10_judge 19 = .ok (.if_icmp .eq 18, 3) := by decide +kernel
theorem dX10_judge_22 : decode cX10_judge 22 = .ok (.aload_n 0, 1) := by decide +kernel
theorem dX10_judge_23 : decode cX10_judge 23 = .ok (.getfield 81, 3) := by decide +kernel
theorem dX10_judge_26 : decode cX10_judge 26 = .ok (.getfield 351, 3) := by decide +kernel
theorem dX10_judge_29 : decode cX10_judge 29 = .ok (.iload_n 1, 1) := by decide +kernel
theorem dX10_judge_30 : decode cX10_judge 30 = .ok (.iaload, 1) := by decide +kernel
theorem dX10_judge_31 : decode cX10_judge 31 = .ok (.ifCond .eq 6, 3) := by decide +kernel
theorem dX10_judge_34 : decode cX10_judge 34 = .ok (.bipush (-12), 2) := by decide +kernel
theorem dX10_judge_36 : decode cX10_judge 36 = .ok (.ireturn, 1) := by decide +kernel
theorem dX10_judge_37 : decode cX10_judge 37 = .ok (.iconst 0, 1) := by decide +kernel
theorem dX10_judge_38 : decode cX10_judge 38 = .ok (.istore_n 3, 1) := by decide +kernel
theorem dX10_judge_39 : decode cX10_judge 39 = .ok (.iload_n 3, 1) := by decide +kernel
theorem dX10_judge_40 : decode cX10_judge 40 = .ok (.aload_n 0, 1) := by decide +kernel
theorem dX10_judge_41 : decode cX10_judge 41 = .ok (.getfield 46, 3) := by decide +kernel
theorem dX10_judge_44 : decode cX10_judge 44 = .ok (.getfield 89, 3) := by decide +kernel
theorem dX10_judge_47 : decode cX10_judge 47 = .ok (.getfield 92, 3) := by decide +kernel
theorem dX10_judge_50 : decode cX10_judge 50 = .ok (.if_icmp .ge 58, 3) := by decide +kernel
theorem dX10_judge_53 : decode cX10_judge 53 = .ok (.iload_n 2, 1) := by decide +kernel
theorem dX10_judge_54 : decode cX10_judge 54 = .ok (.ifCond .lt 18, 3) := by decide +kernel
theorem dX10_judge_57 : decode cX10_judge 57 = .ok (.iload_n 2, 1) := by decide +kernel
theorem dX10_judge_58 : decode cX10_judge 58 = .ok (.aload_n 0, 1) := by decide +kernel
theorem dX10_judge_59 : decode cX10_judge 59 = .ok (.getfield 81, 3) := by decide +kernel
theorem dX10_judge_62 : decode cX10_judge 62 = .ok (.getfield 354, 3) := by decide +kernel
theorem dX10_judge_65 : decode cX10_judge 65 = .ok (.iload_n 1, 1) := by decide +kernel
theorem dX10_judge_66 : decode cX10_judge 66 = .ok (.iaload, 1) := by decide +kernel
theorem dX10_judge_67 : decode cX10_judge 67 = .ok (.iload_n 3, 1) := by decide +kernel
theorem dX10_judge_68 : decode cX10_judge 68 = .ok (.isub, 1) := by decide +kernel
theorem dX10_judge_69 : decode cX10_judge 69 = .ok (.if_icmp .lt 8, 3) := by decide +kernel
theorem dX10_judge_72 : decode cX10_judge 72 = .ok (.bipush 100, 2) := by decide +kernel
theorem dX10_judge_74 : decode cX10_judge 74 = .ok (.iload_n 3, 1) := by decide +kernel
theorem dX10_judge_75 : decode cX10_judge 75 = .ok (.iadd, 1) := by decide +kernel
theorem dX10_judge_76 : decode cX10_judge 76 = .ok (.ireturn, 1) := by decide +kernel
theorem dX10_judge_77 : decode cX10_judge 77 = .ok (.aload_n 0, 1) := by decide +kernel
theorem dX10_judge_78 : decode cX10_judge 78 = .ok (.getfield 81, 3) := by decide +kernel
theorem dX10_judge_81 : decode cX10_judge 81 = .ok (.getfield 357, 3) := by decide +kernel
theorem dX10_judge_84 : decode cX10_judge 84 = .ok (.iload_n 1, 1) := by decide +kernel
theorem dX10_judge_85 : decode cX10_judge 85 = .ok (.aaload, 1) := by decide +kernel
theorem dX10_judge_86 : decode cX10_judge 86 = .ok (.iload_n 2, 1) := by decide +kernel
theorem dX10_judge_87 : decode cX10_judge 87 = .ok (.iload_n 3, 1) := by decide +kernel
theorem dX10_judge_88 : decode cX10_judge 88 = .ok (.iadd, 1) := by decide +kernel
theorem dX10_judge_89 : decode cX10_judge 89 = .ok (.laload, 1) := by decide +kernel
theorem dX10_judge_90 : decode cX10_judge 90 = .ok (.aload_n 0, 1) := by decide +kernel
theorem dX10_judge_91 : decode cX10_judge 91 = .ok (.iload_n 3, 1) := by decide +kernel
theorem dX10_judge_92 : decode cX10_judge 92 = .ok (.invokevirtual 347, 3) := by decide +kernel
theorem dX10_judge_95 : decode cX10_judge 95 = .ok (.i2l, 1) := by decide +kernel
theorem dX10_judge_96 : decode cX10_judge 96 = .ok (.lcmp, 1) := by decide +kernel
theorem dX10_judge_97 : decode cX10_judge 97 = .ok (.ifCond .eq 5, 3) := by decide +kernel
theorem dX10_judge_100 : decode cX10_judge 100 = .ok (.iload_n 3, 1) := by decide +kernel
theorem dX10_judge_101 : decode cX10_judge 101 = .ok (.ireturn, 1) := by decide +kernel
theorem dX10_judge_102 : decode cX10_judge 102 = .ok (.iinc 3 1, 3) := by decide +kernel
theorem dX10_judge_105 : decode cX10_judge 105 = .ok (.goto (-66), 3) := by decide +kernel
theorem dX10_judge_108 : decode cX10_judge 108 = .ok (.bipush (-5), 2) := by decide +kernel
theorem dX10_judge_110 : decode cX10_judge 110 = .ok (.ireturn, 1) := by decide +kernel
theorem dX10_image_0 : decode cX10_image 0 = .ok (.aload_n 0, 1) := by decide +kernel
theorem dX10_image_1 : decode cX10_image 1 = .ok (.getfield 50, 3) := by decide +kernel
theorem dX10_image_4 : decode cX10_image 4 = .ok (.aload_n 0, 1) := by decide +kernel
theorem dX10_image_5 : decode cX10_image 5 = .ok (.getfield 46, 3) := by decide +kernel
theorem dX10_image_8 : decode cX10_image 8 = .ok (.invokevirtual 361, 3) := by decide +kernel
theorem dX10_image_11 : decode cX10_image 11 = .ok (.aload_n 0, 1) := by decide +kernel
theorem dX10_image_12 : decode cX10_image 12 = .ok (.iconst 1, 1) := by decide +kernel
theorem dX10_image_13 : decode cX10_image 13 = .ok (.putfield 53, 3) := by decide +kernel
theorem dX10_image_16 : decode cX10_image 16 = .ok (.aload_n 0, 1) := by decide +kernel
theorem dX10_image_17 : decode cX10_image 17 = .ok (.getfield 46, 3) := by decide +kernel
theorem dX10_image_20 : decode cX10_image 20 = .ok (.getfield 89, 3) := by decide +kernel
theorem dX10_image_23 : decode cX10_image 23 = .ok (.getfield 92, 3) := by decide +kernel
theorem dX10_image_26 : decode cX10_image 26 = .ok (.ireturn, 1) := by decide +kernel
theorem dX10_undo_0 : decode cX10_undo 0 = .ok (.aload_n 0, 1) := by decide +kernel
theorem dX10_undo_1 : decode cX10_undo 1 = .ok (.getfield 53, 3) := by decide +kernel
theorem dX10_undo_4 : decode cX10_undo 4 = .ok (.ifCond .ne 6, 3) := by decide +kernel
theorem dX10_undo_7 : decode cX10_undo 7 = .ok (.bipush (-3), 2) := by decide +kernel
theorem dX10_undo_9 : decode cX10_undo 9 = .ok (.ireturn, 1) := by decide +kernel
theorem dX10_undo_10 : decode cX10_undo 10 = .ok (.aload_n 0, 1) := by decide +kernel
theorem dX10_undo_11 : decode cX10_undo 11 = .ok (.getfield 46, 3) := by decide +kernel
theorem dX10_undo_14 : decode cX10_undo 14 = .ok (.aload_n 0, 1) := by decide +kernel
theorem dX10_undo_15 : decode cX10_undo 15 = .ok (.getfield 50, 3) := by decide +kernel
theorem dX10_undo_18 : decode cX10_undo 18 = .ok (.invokevirtual 361, 3) := by decide +kernel
theorem dX10_undo_21 : decode cX10_undo 21 = .ok (.aload_n 0, 1) := by decide +kernel
theorem dX10_undo_22 : decode cX10_undo 22 = .ok (.getfield 46, 3) := by decide +kernel
theorem dX10_undo_25 : decode cX10_undo 25 = .ok (.getfield 89, 3) := by decide +kernel
theorem dX10_undo_28 : decode cX10_undo 28 = .ok (.getfield 92, 3) := by decide +kernel
theorem dX10_undo_31 : decode cX10_undo 31 = .ok (.ireturn, 1) := by decide +kernel
theorem dX10_taken_0 : decode cX10_taken 0 = .ok (.iload_n 2, 1) := by decide +kernel
theorem dX10_taken_1 : decode cX10_taken 1 = .ok (.invokestatic 124, 3) := by decide +kernel
theorem dX10_taken_4 : decode cX10_taken 4 = .ok (.ifCond .ne 6, 3) := by decide +kernel
theorem dX10_taken_7 : decode cX10_taken 7 = .ok (.bipush (-2), 2) := by decide +kernel
theorem dX10_taken_9 : decode cX10_taken 9 = .ok (.ireturn, 1) := by decide +kernel
theorem dX10_taken_10 : decode cX10_taken 10 = .ok (.aload_n 0, 1) := by decide +kernel
theorem dX10_taken_11 : decode cX10_taken 11 = .ok (.getfield 46, 3) := by decide +kernel
theorem dX10_taken_14 : decode cX10_taken 14 = .ok (.getfield 89, 3) := by decide +kernel
theorem dX10_taken_17 : decode cX10_taken 17 = .ok (.iload_n 1, 1) := by decide +kernel
theorem dX10_taken_18 : decode cX10_taken 18 = .ok (.invokevirtual 165, 3) := by decide +kernel
theorem dX10_taken_21 : decode cX10_taken 21 = .ok (.ifCond .ne 6, 3) := by decide +kernel
theorem dX10_taken_24 : decode cX10_taken 24 = .ok (.bipush (-11), 2) := by decide +kernel
theorem dX10_taken_26 : decode cX10_taken 26 = .ok (.ireturn, 1) := by decide +kernel
theorem dX10_taken_27 : decode cX10_taken 27 = .ok (.aload_n 0, 1) := by decide +kernel
theorem dX10_taken_28 : decode cX10_taken 28 = .ok (.getfield 46, 3) := by decide +kernel
theorem dX10_taken_31 : decode cX10_taken 31 = .ok (.getfield 89, 3) := by decide +kernel
theorem dX10_taken_34 : decode cX10_taken 34 = .ok (.getfield 168, 3) := by decide +kernel
theorem dX10_taken_37 : decode cX10_taken 37 = .ok (.iload_n 1, 1) := by decide +kernel
theorem dX10_taken_38 : decode cX10_taken 38 = .ok (.iaload, 1) := by decide +kernel
theorem dX10_taken_39 : decode cX10_taken 39 = .ok (.iload_n 2, 1) := by decide +kernel
theorem dX10_taken_40 : decode cX10_taken 40 = .ok (.invokestatic 364, 3) := by decide +kernel
theorem dX10_taken_43 : decode cX10_taken 43 = .ok (.ifCond .eq 18, 3) := by decide +kernel
theorem dX10_taken_46 : decode cX10_taken 46 = .ok (.aload_n 0, 1) := by decide +kernel
theorem dX10_taken_47 : decode cX10_taken 47 = .ok (.getfield 46, 3) := by decide +kernel
theorem dX10_taken_50 : decode cX10_taken 50 = .ok (.getfield 89, 3) := by decide +kernel
theorem dX10_taken_53 : decode cX10_taken 53 = .ok (.getfield 168, 3) := by decide +kernel
theorem dX10_taken_56 : decode cX10_taken 56 = .ok (.iload_n 1, 1) := by decide +kernel
theorem dX10_taken_57 : decode cX10_taken 57 = .ok (.iaload, 1) := by decide +kernel
theorem dX10_taken_58 : decode cX10_taken 58 = .ok (.goto 5, 3) := by decide +kernel
theorem dX10_taken_61 : decode cX10_taken 61 = .ok (.bipush (-12), 2) := by decide +kernel
theorem dX10_taken_63 : decode cX10_taken 63 = .ok (.ireturn, 1) := by decide +kernel
theorem dX10_isUnder_0 : decode cX10_isUnder 0 = .ok (.iload_n 0, 1) := by decide +kernel
theorem dX10_isUnder_1 : decode cX10_isUnder 1 = .ok (.istore_n 2, 1) := by decide +kernel
theorem dX10_isUnder_2 : decode cX10_isUnder 2 = .ok (.iconst 0, 1) := by decide +kernel
theorem dX10_isUnder_3 : decode cX10_isUnder 3 = .ok (.istore_n 3, 1) := by decide +kernel
theorem dX10_isUnder_4 : decode cX10_isUnder 4 = .ok (.iload_n 3, 1) := by decide +kernel
theorem dX10_isUnder_5 : decode cX10_isUnder 5 = .ok (.getstatic 161, 3) := by decide +kernel
theorem dX10_isUnder_8 : decode cX10_isUnder 8 = .ok (.arraylength, 1) := by decide +kernel
theorem dX10_isUnder_9 : decode cX10_isUnder 9 = .ok (.if_icmp .ge 29, 3) := by decide +kernel
theorem dX10_isUnder_12 : decode cX10_isUnder 12 = .ok (.iload_n 2, 1) := by decide +kernel
theorem dX10_isUnder_13 : decode cX10_isUnder 13 = .ok (.invokestatic 124, 3) := by decide +kernel
theorem dX10_isUnder_16 : decode cX10_isUnder 16 = .ok (.ifCond .eq 22, 3) := by decide +kernel
theorem dX10_isUnder_19 : decode cX10_isUnder 19 = .ok (.iload_n 2, 1) := by decide +kernel
theorem dX10_isUnder_20 : decode cX10_isUnder 20 = .ok (.iload_n 1, 1) := by decide +kernel
theorem dX10_isUnder_21 : decode cX10_isUnder 21 = .ok (.if_icmp .ne 5, 3) := by decide +kernel
theorem dX10_isUnder_24 : decode cX10_isUnder 24 = .ok (.iconst 1, 1) := by decide +kernel
theorem dX10_isUnder_25 : decode cX10_isUnder 25 = .ok (.ireturn, 1) := by decide +kernel
theorem dX10_isUnder_26 : decode cX10_isUnder 26 = .ok (.getstatic 161, 3) := by decide +kernel
theorem dX10_isUnder_29 : decode cX10_isUnder 29 = .ok (.iload_n 2, 1) := by decide +kernel
theorem dX10_isUnder_30 : decode cX10_isUnder 30 = .ok (.iaload, 1) := by decide +kernel
theorem dX10_isUnder_31 : decode cX10_isUnder 31 = .ok (.istore_n 2, 1) := by decide +kernel
theorem dX10_isUnder_32 : decode cX10_isUnder 32 = .ok (.iinc 3 1, 3) := by decide +kernel
theorem dX10_isUnder_35 : decode cX10_isUnder 35 = .ok (.goto (-31), 3) := by decide +kernel
theorem dX10_isUnder_38 : decode cX10_isUnder 38 = .ok (.iconst 0, 1) := by decide +kernel
theorem dX10_isUnder_39 : decode cX10_isUnder 39 = .ok (.ireturn, 1) := by decide +kernel
theorem dX10_count_0 : decode cX10_count 0 = .ok (.iload_n 1, 1) := by decide +kernel
theorem dX10_count_1 : decode cX10_count 1 = .ok (.tableswitch 102 0 5 #[39, 50, 61, 72, 83, 94], 39) := by decide +kernel
theorem dX10_count_40 : decode cX10_count 40 = .ok (.aload_n 0, 1) := by decide +kernel
theorem dX10_count_41 : decode cX10_count 41 = .ok (.getfield 46, 3) := by decide +kernel
theorem dX10_count_44 : decode cX10_count 44 = .ok (.getfield 89, 3) := by decide +kernel
theorem dX10_count_47 : decode cX10_count 47 = .ok (.getfield 92, 3) := by decide +kernel
theorem dX10_count_50 : decode cX10_count 50 = .ok (.ireturn, 1) := by decide +kernel
theorem dX10_count_51 : decode cX10_count 51 = .ok (.aload_n 0, 1) := by decide +kernel
theorem dX10_count_52 : decode cX10_count 52 = .ok (.getfield 46, 3) := by decide +kernel
theorem dX10_count_55 : decode cX10_count 55 = .ok (.getfield 89, 3) := by decide +kernel
theorem dX10_count_58 : decode cX10_count 58 = .ok (.getfield 130, 3) := by decide +kernel
theorem dX10_count_61 : decode cX10_count 61 = .ok (.ireturn, 1) := by decide +kernel
theorem dX10_count_62 : decode cX10_count 62 = .ok (.aload_n 0, 1) := by decide +kernel
theorem dX10_count_63 : decode cX10_count 63 = .ok (.getfield 46, 3) := by decide +kernel
theorem dX10_count_66 : decode cX10_count 66 = .ok (.getfield 272, 3) := by decide +kernel
theorem dX10_count_69 : decode cX10_count 69 = .ok (.getfield 280, 3) := by decide +kernel
theorem dX10_count_72 : decode cX10_count 72 = .ok (.ireturn, 1) := by decide +kernel
theorem dX10_count_73 : decode cX10_count 73 = .ok (.aload_n 0, 1) := by decide +kernel
theorem dX10_count_74 : decode cX10_count 74 = .ok (.getfield 46, 3) := by decide +kernel
theorem dX10_count_77 : decode cX10_count 77 = .ok (.getfield 329, 3) := by decide +kernel
theorem dX10_count_80 : decode cX10_count 80 = .ok (.getfield 280, 3) := by decide +kernel
theorem dX10_count_83 : decode cX10_count 83 = .ok (.ireturn, 1) := by decide +kernel
theorem dX10_count_84 : decode cX10_count 84 = .ok (.aload_n 0, 1) := by decide +kernel
theorem dX10_count_85 : decode cX10_count 85 = .ok (.getfield 46, 3) := by decide +kernel
theorem dX10_count_88 : decode cX10_count 88 = .ok (.getfield 344, 3) := by decide +kernel
theorem dX10_count_91 : decode cX10_count 91 = .ok (.getfield 280, 3) := by decide +kernel
theorem dX10_count_94 : decode cX10_count 94 = .ok (.ireturn, 1) := by decide +kernel
theorem dX10_count_95 : decode cX10_count 95 = .ok (.aload_n 0, 1) := by decide +kernel
theorem dX10_count_96 : decode cX10_count 96 = .ok (.getfield 21, 3) := by decide +kernel
theorem dX10_count_99 : decode cX10_count 99 = .ok (.getfield 143, 3) := by decide +kernel
theorem dX10_count_102 : decode cX10_count 102 = .ok (.ireturn, 1) := by decide +kernel
theorem dX10_count_103 : decode cX10_count 103 = .ok (.bipush (-2), 2) := by decide +kernel
theorem dX10_count_105 : decode cX10_count 105 = .ok (.ireturn, 1) := by decide +kernel
theorem dX10_tape_0 : decode cX10_tape 0 = .ok (.iload_n 1, 1) := by decide +kernel
theorem dX10_tape_1 : decode cX10_tape 1 = .ok (.invokestatic 350, 3) := by decide +kernel
theorem dX10_tape_4 : decode cX10_tape 4 = .ok (.ifCond .ne 5, 3) := by decide +kernel
theorem dX10_tape_7 : decode cX10_tape 7 = .ok (.iconst (-1), 1) := by decide +kernel
theorem dX10_tape_8 : decode cX10_tape 8 = .ok (.ireturn, 1) := by decide +kernel
theorem dX10_tape_9 : decode cX10_tape 9 = .ok (.iload_n 2, 1) := by decide +kernel
theorem dX10_tape_10 : decode cX10_tape 10 = .ok (.iconst (-1), 1) := by decide +kernel
theorem dX10_tape_11 : decode cX10_tape 11 = .ok (.if_icmp .ne 15, 3) := by decide +kernel
theorem dX10_tape_14 : decode cX10_tape 14 = .ok (.aload_n 0, 1) := by decide +kernel
theorem dX10_tape_15 : decode cX10_tape 15 = .ok (.getfield 81, 3) := by decide +kernel
theorem dX10_tape_18 : decode cX10_tape 18 = .ok (.iload_n 1, 1) := by decide +kernel
theorem dX10_tape_19 : decode cX10_tape 19 = .ok (.iload_n 2, 1) := by decide +kernel
theorem dX10_tape_20 : decode cX10_tape 20 = .ok (.iconst 0, 1) := by decide +kernel
theorem dX10_tape_21 : decode cX10_tape 21 = .ok (.invokevirtual 367, 3) := by decide +kernel
theorem dX10_tape_24 : decode cX10_tape 24 = .ok (.iconst 1, 1) := by decide +kernel
theorem dX10_tape_25 : decode cX10_tape 25 = .ok (.ireturn, 1) := by decide +kernel
theorem dX10_tape_26 : decode cX10_tape 26 = .ok (.iload_n 2, 1) := by decide +kernel
theorem dX10_tape_27 : decode cX10_tape 27 = .ok (.ifCond .lt 14, 3) := by decide +kernel
theorem dX10_tape_30 : decode cX10_tape 30 = .ok (.iload_n 2, 1) := by decide +kernel
theorem dX10_tape_31 : decode cX10_tape 31 = .ok (.iconst 4, 1) := by decide +kernel
theorem dX10_tape_32 : decode cX10_tape 32 = .ok (.if_icmp .gt 9, 3) := by decide +kernel
theorem dX10_tape_35 : decode cX10_tape 35 = .ok (.iload_n 3, 1) := by decide +kernel
theorem dX10_tape_36 : decode cX10_tape 36 = .ok (.bipush 60, 2) := by decide +kernel
theorem dX10_tape_38 : decode cX10_tape 38 = .ok (.if_icmp .le 6, 3) := by decide +kernel
theorem dX10_tape_41 : decode cX10_tape 41 = .ok (.bipush (-2), 2) := by decide +kernel
theorem dX10_tape_43 : decode cX10_tape 43 = .ok (.ireturn, 1) := by decide +kernel
theorem dX10_tape_44 : decode cX10_tape 44 = .ok (.iload_n 3, 1) := by decide +kernel
theorem dX10_tape_45 : decode cX10_tape 45 = .ok (.ifCond .ge 6, 3) := by decide +kernel
theorem dX10_tape_48 : decode cX10_tape 48 = .ok (.bipush (-14), 2) := by decide +kernel
theorem dX10_tape_50 : decode cX10_tape 50 = .ok (.ireturn, 1) := by decide +kernel
theorem dX10_tape_51 : decode cX10_tape 51 = .ok (.aload_n 0, 1) := by decide +kernel
theorem dX10_tape_52 : decode cX10_tape 52 = .ok (.getfield 81, 3) := by decide +kernel
theorem dX10_tape_55 : decode cX10_tape 55 = .ok (.iload_n 1, 1) := by decide +kernel
theorem dX10_tape_56 : decode cX10_tape 56 = .ok (.iload_n 2, 1) := by decide +kernel
theorem dX10_tape_57 : decode cX10_tape 57 = .ok (.iload_n 3, 1) := by decide +kernel
theorem dX10_tape_58 : decode cX10_tape 58 = .ok (.invokevirtual 367, 3) := by decide +kernel
theorem dX10_tape_61 : decode cX10_tape 61 = .ok (.iconst 1, 1) := by decide +kernel
theorem dX10_tape_62 : decode cX10_tape 62 = .ok (.ireturn, 1) := by decide +kernel
theorem dX10_item_0 : decode cX10_item 0 = .ok (.iload_n 1, 1) := by decide +kernel
theorem dX10_item_1 : decode cX10_item 1 = .ok (.invokestatic 350, 3) := by decide +kernel
theorem dX10_item_4 : decode cX10_item 4 = .ok (.ifCond .ne 5, 3) := by decide +kernel
theorem dX10_item_7 : decode cX10_item 7 = .ok (.iconst (-1), 1) := by decide +kernel
theorem dX10_item_8 : decode cX10_item 8 = .ok (.ireturn, 1) := by decide +kernel
theorem dX10_item_9 : decode cX10_item 9 = .ok (.aload_n 0, 1) := by decide +kernel
theorem dX10_item_10 : decode cX10_item 10 = .ok (.getfield 81, 3) := by decide +kernel
theorem dX10_item_13 : decode cX10_item 13 = .ok (.getfield 351, 3) := by decide +kernel
theorem dX10_item_16 : decode cX10_item 16 = .ok (.iload_n 1, 1) := by decide +kernel
theorem dX10_item_17 : decode cX10_item 17 = .ok (.iaload, 1) := by decide +kernel
theorem dX10_item_18 : decode cX10_item 18 = .ok (.iconst (-1), 1) := by decide +kernel
theorem dX10_item_19 : decode cX10_item 19 = .ok (.if_icmp .ne 6, 3) := by decide +kernel
theorem dX10_item_22 : decode cX10_item 22 = .ok (.bipush (-11), 2) := by decide +kernel
theorem dX10_item_24 : decode cX10_item 24 = .ok (.ireturn, 1) := by decide +kernel
theorem dX10_item_25 : decode cX10_item 25 = .ok (.aload_n 0, 1) := by decide +kernel
theorem dX10_item_26 : decode cX10_item 26 = .ok (.getfield 81, 3) := by decide +kernel
theorem dX10_item_29 : decode cX10_item 29 = .ok (.iload_n 1, 1) := by decide +kernel
theorem dX10_item_30 : decode cX10_item 30 = .ok (.iload_n 2, 1) := by decide +kernel
theorem dX10_item_31 : decode cX10_item 31 = .ok (.invokevirtual 371, 3) := by decide +kernel
theorem dX10_item_34 : decode cX10_item 34 = .ok (.ifCond .ne 6, 3) := by decide +kernel
theorem dX10_item_37 : decode cX10_item 37 = .ok (.bipush (-13), 2) := by decide +kernel
theorem dX10_item_39 : decode cX10_item 39 = .ok (.ireturn, 1) := by decide +kernel
theorem dX10_item_40 : decode cX10_item 40 = .ok (.aload_n 0, 1) := by decide +kernel
theorem dX10_item_41 : decode cX10_item 41 = .ok (.getfield 81, 3) := by decide +kernel
theorem dX10_item_44 : decode cX10_item 44 = .ok (.getfield 357, 3) := by decide +kernel
theorem dX10_item_47 : decode cX10_item 47 = .ok (.iload_n 1, 1) := by decide +kernel
theorem dX10_item_48 : decode cX10_item 48 = .ok (.aaload, 1) := by decide +kernel
theorem dX10_item_49 : decode cX10_item 49 = .ok (.iload_n 2, 1) := by decide +kernel
theorem dX10_item_50 : decode cX10_item 50 = .ok (.aload_n 0, 1) := by decide +kernel
theorem dX10_item_51 : decode cX10_item 51 = .ok (.getfield 81, 3) := by decide +kernel
theorem dX10_item_54 : decode cX10_item 54 = .ok (.getfield 351, 3) := by decide +kernel
theorem dX10_item_57 : decode cX10_item 57 = .ok (.iload_n 1, 1) := by decide +kernel
theorem dX10_item_58 : decode cX10_item 58 = .ok (.iaload, 1) := by decide +kernel
theorem dX10_item_59 : decode cX10_item 59 = .ok (.lload_n 3, 1) := by decide +kernel
theorem dX10_item_60 : decode cX10_item 60 = .ok (.invokestatic 374, 3) := by decide +kernel
theorem dX10_item_63 : decode cX10_item 63 = .ok (.lastore, 1) := by decide +kernel
theorem dX10_item_64 : decode cX10_item 64 = .ok (.iconst 1, 1) := by decide +kernel
theorem dX10_item_65 : decode cX10_item 65 = .ok (.ireturn, 1) := by decide +kernel
theorem dX10_read_0 : decode cX10_read 0 = .ok (.aload_n 0, 1) := by decide +kernel
theorem dX10_read_1 : decode cX10_read 1 = .ok (.getfield 81, 3) := by decide +kernel
theorem dX10_read_4 : decode cX10_read 4 = .ok (.iload_n 1, 1) := by decide +kernel
theorem dX10_read_5 : decode cX10_read 5 = .ok (.iload_n 2, 1) := by decide +kernel
theorem dX10_read_6 : decode cX10_read 6 = .ok (.invokevirtual 371, 3) := by decide +kernel
theorem dX10_read_9 : decode cX10_read 9 = .ok (.ifCond .eq 17, 3) := by decide +kernel
theorem dX10_read_12 : decode cX10_read 12 = .ok (.aload_n 0, 1) := by decide +kernel
theorem dX10_read_13 : decode cX10_read 13 = .ok (.getfield 81, 3) := by decide +kernel
theorem dX10_read_16 : decode cX10_read 16 = .ok (.getfield 357, 3) := by decide +kernel
theorem dX10_read_19 : decode cX10_read 19 = .ok (.iload_n 1, 1) := by decide +kernel
theorem dX10_read_20 : decode cX10_read 20 = .ok (.aaload, 1) := by decide +kernel
theorem dX10_read_21 : decode cX10_read 21 = .ok (.iload_n 2, 1) := by decide +kernel
theorem dX10_read_22 : decode cX10_read 22 = .ok (.laload, 1) := by decide +kernel
theorem dX10_read_23 : decode cX10_read 23 = .ok (.goto 6, 3) := by decide +kernel
theorem dX10_read_26 : decode cX10_read 26 = .ok (.ldc2_w 294, 3) := by decide +kernel
theorem dX10_read_29 : decode cX10_read 29 = .ok (.lreturn, 1) := by decide +kernel
theorem dX10_shift_0 : decode cX10_shift 0 = .ok (.iload_n 1, 1) := by decide +kernel
theorem dX10_shift_1 : decode cX10_shift 1 = .ok (.invokestatic 350, 3) := by decide +kernel
theorem dX10_shift_4 : decode cX10_shift 4 = .ok (.ifCond .eq 10, 3) := by decide +kernel
theorem dX10_shift_7 : decode cX10_shift 7 = .ok (.iload_n 3, 1) := by decide +kernel
theorem dX10_shift_8 : decode cX10_shift 8 = .ok (.invokestatic 350, 3) := by decide +kernel
theorem dX10_shift_11 : decode cX10_shift 11 = .ok (.ifCond .ne 5, 3) := by decide +kernel
theorem dX10_shift_14 : decode cX10_shift 14 = .ok (.iconst (-1), 1) := by decide +kernel
theorem dX10_shift_15 : decode cX10_shift 15 = .ok (.ireturn, 1) := by decide +kernel
theorem dX10_shift_16 : decode cX10_shift 16 = .ok (.aload_n 0, 1) := by decide +kernel
theorem dX10_shift_17 : decode cX10_shift 17 = .ok (.getfield 81, 3) := by decide +kernel
theorem dX10_shift_20 : decode cX10_shift 20 = .ok (.getfield 351, 3) := by decide +kernel
theorem dX10_shift_23 : decode cX10_shift 23 = .ok (.iload_n 1, 1) := by decide +kernel
theorem dX10_shift_24 : decode cX10_shift 24 = .ok (.iaload, 1) := by decide +kernel
theorem dX10_shift_25 : decode cX10_shift 25 = .ok (.iconst (-1), 1) := by decide +kernel
theorem dX10_shift_26 : decode cX10_shift 26 = .ok (.if_icmp .eq 16, 3) := by decide +kernel
theorem dX10_shift_29 : decode cX10_shift 29 = .ok (.aload_n 0, 1) := by decide +kernel
theorem dX10_shift_30 : decode cX10_shift 30 = .ok (.getfield 81, 3) := by decide +kernel
theorem dX10_shift_33 : decode cX10_shift 33 = .ok (.getfield 351, 3) := by decide +kernel
theorem dX10_shift_36 : decode cX10_shift 36 = .ok (.iload_n 3, 1) := by decide +kernel
theorem dX10_shift_37 : decode cX10_shift 37 = .ok (.iaload, 1) := by decide +kernel
theorem dX10_shift_38 : decode cX10_shift 38 = .ok (.iconst (-1), 1) := by decide +kernel
theorem dX10_shift_39 : decode cX10_shift 39 = .ok (.if_icmp .ne 6, 3) := by decide +kernel
theorem dX10_shift_42 : decode cX10_shift 42 = .ok (.bipush (-11), 2) := by decide +kernel
theorem dX10_shift_44 : decode cX10_shift 44 = .ok (.ireturn, 1) := by decide +kernel
theorem dX10_shift_45 : decode cX10_shift 45 = .ok (.aload_n 0, 1) := by decide +kernel
theorem dX10_shift_46 : decode cX10_shift 46 = .ok (.getfield 81, 3) := by decide +kernel
theorem dX10_shift_49 : decode cX10_shift 49 = .ok (.getfield 351, 3) := by decide +kernel
theorem dX10_shift_52 : decode cX10_shift 52 = .ok (.iload_n 1, 1) := by decide +kernel
theorem dX10_shift_53 : decode cX10_shift 53 = .ok (.iaload, 1) := by decide +kernel
theorem dX10_shift_54 : decode cX10_shift 54 = .ok (.aload_n 0, 1) := by decide +kernel
theorem dX10_shift_55 : decode cX10_shift 55 = .ok (.getfield 81, 3) := by decide +kernel
theorem dX10_shift_58 : decode cX10_shift 58 = .ok (.getfield 351, 3) := by decide +kernel
theorem dX10_shift_61 : decode cX10_shift 61 = .ok (.iload_n 3, 1) := by decide +kernel
theorem dX10_shift_62 : decode cX10_shift 62 = .ok (.iaload, 1) := by decide +kernel
theorem dX10_shift_63 : decode cX10_shift 63 = .ok (.if_icmp .eq 6, 3) := by decide +kernel
theorem dX10_shift_66 : decode cX10_shift 66 = .ok (.bipush (-12), 2) := by decide +kernel
theorem dX10_shift_68 : decode cX10_shift 68 = .ok (.ireturn, 1) := by decide +kernel
theorem dX10_shift_69 : decode cX10_shift 69 = .ok (.aload_n 0, 1) := by decide +kernel
theorem dX10_shift_70 : decode cX10_shift 70 = .ok (.getfield 81, 3) := by decide +kernel
theorem dX10_shift_73 : decode cX10_shift 73 = .ok (.iload_n 1, 1) := by decide +kernel
theorem dX10_shift_74 : decode cX10_shift 74 = .ok (.iload_n 2, 1) := by decide +kernel
theorem dX10_shift_75 : decode cX10_shift 75 = .ok (.iload 5, 2) := by decide +kernel
theorem dX10_shift_77 : decode cX10_shift 77 = .ok (.invokevirtual 378, 3) := by decide +kernel
theorem dX10_shift_80 : decode cX10_shift 80 = .ok (.ifCond .eq 18, 3) := by decide +kernel
theorem dX10_shift_83 : decode cX10_shift 83 = .ok (.aload_n 0, 1) := by decide +kernel
theorem dX10_shift_84 : decode cX10_shift 84 = .ok (.getfield 81, 3) := by decide +kernel
theorem dX10_shift_87 : decode cX10_shift 87 = .ok (.iload_n 3, 1) := by decide +kernel
theorem dX10_shift_88 : decode cX10_shift 88 = .ok (.iload 4, 2) := by decide +kernel
theorem dX10_shift_90 : decode cX10_shift 90 = .ok (.iload 5, 2) := by decide +kernel
theorem dX10_shift_92 : decode cX10_shift 92 = .ok (.invokevirtual 378, 3) := by decide +kernel
theorem dX10_shift_95 : decode cX10_shift 95 = .ok (.ifCond .ne 6, 3) := by decide +kernel
theorem dX10_shift_98 : decode cX10_shift 98 = .ok (.bipush (-13), 2) := by decide +kernel
theorem dX10_shift_100 : decode cX10_shift 100 = .ok (.ireturn, 1) := by decide +kernel
theorem dX10_shift_101 : decode cX10_shift 101 = .ok (.aload_n 0, 1) := by decide +kernel
theorem dX10_shift_102 : decode cX10_shift 102 = .ok (.getfield 81, 3) := by decide +kernel
theorem dX10_shift_105 : decode cX10_shift 105 = .ok (.getfield 357, 3) := by decide +kernel
theorem dX10_shift_108 : decode cX10_shift 108 = .ok (.iload_n 1, 1) := by decide +kernel
theorem dX10_shift_109 : decode cX10_shift 109 = .ok (.aaload, 1) := by decide +kernel
theorem dX10_shift_110 : decode cX10_shift 110 = .ok (.iload_n 2, 1) := by decide +kernel
theorem dX10_shift_111 : decode cX10_shift 111 = .ok (.aload_n 0, 1) := by decide +kernel
theorem dX10_shift_112 : decode cX10_shift 112 = .ok (.getfield 81, 3) := by decide +kernel
theorem dX10_shift_115 : decode cX10_shift 115 = .ok (.getfield 357, 3) := by decide +kernel
theorem dX10_shift_118 : decode cX10_shift 118 = .ok (.iload_n 3, 1) := by decide +kernel
theorem dX10_shift_119 : decode cX10_shift 119 = .ok (.aaload, 1) := by decide +kernel
theorem dX10_shift_120 : decode cX10_shift 120 = .ok (.iload 4, 2) := by decide +kernel
theorem dX10_shift_122 : decode cX10_shift 122 = .ok (.iload 5, 2) := by decide +kernel
theorem dX10_shift_124 : decode cX10_shift 124 = .ok (.invokestatic 381, 3) := by decide +kernel
theorem dX10_shift_127 : decode cX10_shift 127 = .ok (.iload 5, 2) := by decide +kernel
theorem dX10_shift_129 : decode cX10_shift 129 = .ok (.ireturn, 1) := by decide +kernel
