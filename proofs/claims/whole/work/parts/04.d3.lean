theorem d_Mo_init_0 : decode c_Mo_init 0 = .ok (.aload_n 0, 1) := by decide +kernel
theorem d_Mo_init_1 : decode c_Mo_init 1 = .ok (.invokespecial 1, 3) := by decide +kernel
theorem d_Mo_init_4 : decode c_Mo_init 4 = .ok (.aload_n 0, 1) := by decide +kernel
theorem d_Mo_init_5 : decode c_Mo_init 5 = .ok (.iconst 4, 1) := by decide +kernel
theorem d_Mo_init_6 : decode c_Mo_init 6 = .ok (.newarray .int, 2) := by decide +kernel
theorem d_Mo_init_8 : decode c_Mo_init 8 = .ok (.putfield 7, 3) := by decide +kernel
theorem d_Mo_init_11 : decode c_Mo_init 11 = .ok (.aload_n 0, 1) := by decide +kernel
theorem d_Mo_init_12 : decode c_Mo_init 12 = .ok (.bipush 96, 2) := by decide +kernel
theorem d_Mo_init_14 : decode c_Mo_init 14 = .ok (.newarray .int, 2) := by decide +kernel
theorem d_Mo_init_16 : decode c_Mo_init 16 = .ok (.putfield 13, 3) := by decide +kernel
theorem d_Mo_init_19 : decode c_Mo_init 19 = .ok (.aload_n 0, 1) := by decide +kernel
theorem d_Mo_init_20 : decode c_Mo_init 20 = .ok (.bipush 24, 2) := by decide +kernel
theorem d_Mo_init_22 : decode c_Mo_init 22 = .ok (.newarray .int, 2) := by decide +kernel
theorem d_Mo_init_24 : decode c_Mo_init 24 = .ok (.putfield 16, 3) := by decide +kernel
theorem d_Mo_init_27 : decode c_Mo_init 27 = .ok (.aload_n 0, 1) := by decide +kernel
theorem d_Mo_init_28 : decode c_Mo_init 28 = .ok (.iconst 3, 1) := by decide +kernel
theorem d_Mo_init_29 : decode c_Mo_init 29 = .ok (.putfield 19, 3) := by decide +kernel
theorem d_Mo_init_32 : decode c_Mo_init 32 = .ok (.aload_n 0, 1) := by decide +kernel
theorem d_Mo_init_33 : decode c_Mo_init 33 = .ok (.iconst 1, 1) := by decide +kernel
theorem d_Mo_init_34 : decode c_Mo_init 34 = .ok (.putfield 23, 3) := by decide +kernel
theorem d_Mo_init_37 : decode c_Mo_init 37 = .ok (.aload_n 0, 1) := by decide +kernel
theorem d_Mo_init_38 : decode c_Mo_init 38 = .ok (.bipush 64, 2) := by decide +kernel
theorem d_Mo_init_40 : decode c_Mo_init 40 = .ok (.newarray .int, 2) := by decide +kernel
theorem d_Mo_init_42 : decode c_Mo_init 42 = .ok (.putfield 26, 3) := by decide +kernel
theorem d_Mo_init_45 : decode c_Mo_init 45 = .ok (.aload_n 0, 1) := by decide +kernel
theorem d_Mo_init_46 : decode c_Mo_init 46 = .ok (.bipush 64, 2) := by decide +kernel
theorem d_Mo_init_48 : decode c_Mo_init 48 = .ok (.newarray .int, 2) := by decide +kernel
theorem d_Mo_init_50 : decode c_Mo_init 50 = .ok (.putfield 29, 3) := by decide +kernel
theorem d_Mo_init_53 : decode c_Mo_init 53 = .ok (.aload_n 0, 1) := by decide +kernel
theorem d_Mo_init_54 : decode c_Mo_init 54 = .ok (.bipush 64, 2) := by decide +kernel
theorem d_Mo_init_56 : decode c_Mo_init 56 = .ok (.newarray .int, 2) := by decide +kernel
theorem d_Mo_init_58 : decode c_Mo_init 58 = .ok (.putfield 32, 3) := by decide +kernel
theorem d_Mo_init_61 : decode c_Mo_init 61 = .ok (.aload_n 0, 1) := by decide +kernel
theorem d_Mo_init_62 : decode c_Mo_init 62 = .ok (.bipush 64, 2) := by decide +kernel
theorem d_Mo_init_64 : decode c_Mo_init 64 = .ok (.newarray .int, 2) := by decide +kernel
theorem d_Mo_init_66 : decode c_Mo_init 66 = .ok (.putfield 35, 3) := by decide +kernel
theorem d_Mo_init_69 : decode c_Mo_init 69 = .ok (.aload_n 0, 1) := by decide +kernel
theorem d_Mo_init_70 : decode c_Mo_init 70 = .ok (.bipush 64, 2) := by decide +kernel
theorem d_Mo_init_72 : decode c_Mo_init 72 = .ok (.newarray .int, 2) := by decide +kernel
theorem d_Mo_init_74 : decode c_Mo_init 74 = .ok (.putfield 38, 3) := by decide +kernel
theorem d_Mo_init_77 : decode c_Mo_init 77 = .ok (.aload_n 0, 1) := by decide +kernel
theorem d_Mo_init_78 : decode c_Mo_init 78 = .ok (.bipush 64, 2) := by decide +kernel
theorem d_Mo_init_80 : decode c_Mo_init 80 = .ok (.newarray .int, 2) := by decide +kernel
theorem d_Mo_init_82 : decode c_Mo_init 82 = .ok (.putfield 41, 3) := by decide +kernel
theorem d_Mo_init_85 : decode c_Mo_init 85 = .ok (.aload_n 0, 1) := by decide +kernel
theorem d_Mo_init_86 : decode c_Mo_init 86 = .ok (.bipush 64, 2) := by decide +kernel
theorem d_Mo_init_88 : decode c_Mo_init 88 = .ok (.newarray .int, 2) := by decide +kernel
theorem d_Mo_init_90 : decode c_Mo_init 90 = .ok (.putfield 44, 3) := by decide +kernel
theorem d_Mo_init_93 : decode c_Mo_init 93 = .ok (.aload_n 0, 1) := by decide +kernel
theorem d_Mo_init_94 : decode c_Mo_init 94 = .ok (.bipush 64, 2) := by decide +kernel
theorem d_Mo_init_96 : decode c_Mo_init 96 = .ok (.newarray .long, 2) := by decide +kernel
theorem d_Mo_init_98 : decode c_Mo_init 98 = .ok (.putfield 47, 3) := by decide +kernel
theorem d_Mo_init_101 : decode c_Mo_init 101 = .ok (.aload_n 0, 1) := by decide +kernel
theorem d_Mo_init_102 : decode c_Mo_init 102 = .ok (.bipush 64, 2) := by decide +kernel
theorem d_Mo_init_104 : decode c_Mo_init 104 = .ok (.newarray .long, 2) := by decide +kernel
theorem d_Mo_init_106 : decode c_Mo_init 106 = .ok (.putfield 51, 3) := by decide +kernel
theorem d_Mo_init_109 : decode c_Mo_init 109 = .ok (.aload_n 0, 1) := by decide +kernel
theorem d_Mo_init_110 : decode c_Mo_init 110 = .ok (.iconst 4, 1) := by decide +kernel
theorem d_Mo_init_111 : decode c_Mo_init 111 = .ok (.newarray .int, 2) := by decide +kernel
theorem d_Mo_init_113 : decode c_Mo_init 113 = .ok (.putfield 54, 3) := by decide +kernel
theorem d_Mo_init_116 : decode c_Mo_init 116 = .ok (.aload_n 0, 1) := by decide +kernel
theorem d_Mo_init_117 : decode c_Mo_init 117 = .ok (.sipush 3072, 3) := by decide +kernel
theorem d_Mo_init_120 : decode c_Mo_init 120 = .ok (.newarray .int, 2) := by decide +kernel
theorem d_Mo_init_122 : decode c_Mo_init 122 = .ok (.putfield 57, 3) := by decide +kernel
theorem d_Mo_init_125 : decode c_Mo_init 125 = .ok (.aload_n 0, 1) := by decide +kernel
theorem d_Mo_init_126 : decode c_Mo_init 126 = .ok (.bipush 48, 2) := by decide +kernel
theorem d_Mo_init_128 : decode c_Mo_init 128 = .ok (.newarray .long, 2) := by decide +kernel
theorem d_Mo_init_130 : decode c_Mo_init 130 = .ok (.putfield 60, 3) := by decide +kernel
theorem d_Mo_init_133 : decode c_Mo_init 133 = .ok (.aload_n 0, 1) := by decide +kernel
theorem d_Mo_init_134 : decode c_Mo_init 134 = .ok (.bipush 48, 2) := by decide +kernel
theorem d_Mo_init_136 : decode c_Mo_init 136 = .ok (.newarray .long, 2) := by decide +kernel
theorem d_Mo_init_138 : decode c_Mo_init 138 = .ok (.putfield 63, 3) := by decide +kernel
theorem d_Mo_init_141 : decode c_Mo_init 141 = .ok (.aload_n 0, 1) := by decide +kernel
theorem d_Mo_init_142 : decode c_Mo_init 142 = .ok (.bipush 64, 2) := by decide +kernel
theorem d_Mo_init_144 : decode c_Mo_init 144 = .ok (.newarray .int, 2) := by decide +kernel
theorem d_Mo_init_146 : decode c_Mo_init 146 = .ok (.putfield 66, 3) := by decide +kernel
theorem d_Mo_init_149 : decode c_Mo_init 149 = .ok (.return_, 1) := by decide +kernel
theorem d_Mo_column_0 : decode c_Mo_column 0 = .ok (.iload_n 1, 1) := by decide +kernel
theorem d_Mo_column_1 : decode c_Mo_column 1 = .ok (.ifCond .lt 8, 3) := by decide +kernel
theorem d_Mo_column_4 : decode c_Mo_column 4 = .ok (.iload_n 1, 1) := by decide +kernel
theorem d_Mo_column_5 : decode c_Mo_column 5 = .ok (.iconst 3, 1) := by decide +kernel
theorem d_Mo_column_6 : decode c_Mo_column 6 = .ok (.if_icmp .le 5, 3) := by decide +kernel
theorem d_Mo_column_9 : decode c_Mo_column 9 = .ok (.iconst (-1), 1) := by decide +kernel
theorem d_Mo_column_10 : decode c_Mo_column 10 = .ok (.ireturn, 1) := by decide +kernel
theorem d_Mo_column_11 : decode c_Mo_column 11 = .ok (.iload_n 2, 1) := by decide +kernel
theorem d_Mo_column_12 : decode c_Mo_column 12 = .ok (.ifCond .lt 8, 3) := by decide +kernel
theorem d_Mo_column_15 : decode c_Mo_column 15 = .ok (.iload_n 2, 1) := by decide +kernel
theorem d_Mo_column_16 : decode c_Mo_column 16 = .ok (.iconst 1, 1) := by decide +kernel
theorem d_Mo_column_17 : decode c_Mo_column 17 = .ok (.if_icmp .le 6, 3) := by decide +kernel
theorem d_Mo_column_20 : decode c_Mo_column 20 = .ok (.bipush (-2), 2) := by decide +kernel
theorem d_Mo_column_22 : decode c_Mo_column 22 = .ok (.ireturn, 1) := by decide +kernel
theorem d_Mo_column_23 : decode c_Mo_column 23 = .ok (.aload_n 0, 1) := by decide +kernel
theorem d_Mo_column_24 : decode c_Mo_column 24 = .ok (.getfield 69, 3) := by decide +kernel
theorem d_Mo_column_27 : decode c_Mo_column 27 = .ok (.ifCond .le 6, 3) := by decide +kernel
theorem d_Mo_column_30 : decode c_Mo_column 30 = .ok (.bipush (-3), 2) := by decide +kernel
theorem d_Mo_column_32 : decode c_Mo_column 32 = .ok (.ireturn, 1) := by decide +kernel
theorem d_Mo_column_33 : decode c_Mo_column 33 = .ok (.aload_n 0, 1) := by decide +kernel
theorem d_Mo_column_34 : decode c_Mo_column 34 = .ok (.getfield 7, 3) := by decide +kernel
theorem d_Mo_column_37 : decode c_Mo_column 37 = .ok (.iload_n 1, 1) := by decide +kernel
theorem d_Mo_column_38 : decode c_Mo_column 38 = .ok (.iaload, 1) := by decide +kernel
theorem d_Mo_column_39 : decode c_Mo_column 39 = .ok (.istore_n 3, 1) := by decide +kernel
theorem d_Mo_column_40 : decode c_Mo_column 40 = .ok (.aload_n 0, 1) := by decide +kernel
theorem d_Mo_column_41 : decode c_Mo_column 41 = .ok (.getfield 7, 3) := by decide +kernel
theorem d_Mo_column_44 : decode c_Mo_column 44 = .ok (.iload_n 1, 1) := by decide +kernel
theorem d_Mo_column_45 : decode c_Mo_column 45 = .ok (.iload_n 2, 1) := by decide +kernel
theorem d_Mo_column_46 : decode c_Mo_column 46 = .ok (.iastore, 1) := by decide +kernel
theorem d_Mo_column_47 : decode c_Mo_column 47 = .ok (.iload_n 3, 1) := by decide +kernel
theorem d_Mo_column_48 : decode c_Mo_column 48 = .ok (.ireturn, 1) := by decide +kernel
theorem d_Mo_row_0 : decode c_Mo_row 0 = .ok (.aload_n 0, 1) := by decide +kernel
theorem d_Mo_row_1 : decode c_Mo_row 1 = .ok (.iconst 0, 1) := by decide +kernel
theorem d_Mo_row_2 : decode c_Mo_row 2 = .ok (.iload_n 1, 1) := by decide +kernel
theorem d_Mo_row_3 : decode c_Mo_row 3 = .ok (.invokevirtual 72, 3) := by decide +kernel
theorem d_Mo_row_6 : decode c_Mo_row 6 = .ok (.ifCond .eq 42, 3) := by decide +kernel
theorem d_Mo_row_9 : decode c_Mo_row 9 = .ok (.aload_n 0, 1) := by decide +kernel
theorem d_Mo_row_10 : decode c_Mo_row 10 = .ok (.iconst 1, 1) := by decide +kernel
theorem d_Mo_row_11 : decode c_Mo_row 11 = .ok (.iload_n 2, 1) := by decide +kernel
theorem d_Mo_row_12 : decode c_Mo_row 12 = .ok (.invokevirtual 72, 3) := by decide +kernel
theorem d_Mo_row_15 : decode c_Mo_row 15 = .ok (.ifCond .eq 33, 3) := by decide +kernel
theorem d_Mo_row_18 : decode c_Mo_row 18 = .ok (.aload_n 0, 1) := by decide +kernel
theorem d_Mo_row_19 : decode c_Mo_row 19 = .ok (.iconst 2, 1) := by decide +kernel
theorem d_Mo_row_20 : decode c_Mo_row 20 = .ok (.iload_n 3, 1) := by decide +kernel
theorem d_Mo_row_21 : decode c_Mo_row 21 = .ok (.invokevirtual 72, 3) := by decide +kernel
theorem d_Mo_row_24 : decode c_Mo_row 24 = .ok (.ifCond .eq 24, 3) := by decide +kernel
theorem d_Mo_row_27 : decode c_Mo_row 27 = .ok (.aload_n 0, 1) := by decide +kernel
theorem d_Mo_row_28 : decode c_Mo_row 28 = .ok (.iconst 3, 1) := by decide +kernel
theorem d_Mo_row_29 : decode c_Mo_row 29 = .ok (.iload 4, 2) := by decide +kernel
theorem d_Mo_row_31 : decode c_Mo_row 31 = .ok (.invokevirtual 72, 3) := by decide +kernel
theorem d_Mo_row_34 : decode c_Mo_row 34 = .ok (.ifCond .eq 14, 3) := by decide +kernel
theorem d_Mo_row_37 : decode c_Mo_row 37 = .ok (.iload 5, 2) := by decide +kernel
theorem d_Mo_row_39 : decode c_Mo_row 39 = .ok (.ifCond .lt 9, 3) := by decide +kernel
theorem d_Mo_row_42 : decode c_Mo_row 42 = .ok (.iload 5, 2) := by decide +kernel
theorem d_Mo_row_44 : decode c_Mo_row 44 = .ok (.iconst 2, 1) := by decide +kernel
theorem d_Mo_row_45 : decode c_Mo_row 45 = .ok (.if_icmp .le 6, 3) := by decide +kernel
theorem d_Mo_row_48 : decode c_Mo_row 48 = .ok (.bipush (-2), 2) := by decide +kernel
theorem d_Mo_row_50 : decode c_Mo_row 50 = .ok (.ireturn, 1) := by decide +kernel
theorem d_Mo_row_51 : decode c_Mo_row 51 = .ok (.aload_n 0, 1) := by decide +kernel
theorem d_Mo_row_52 : decode c_Mo_row 52 = .ok (.getfield 69, 3) := by decide +kernel
theorem d_Mo_row_55 : decode c_Mo_row 55 = .ok (.bipush 24, 2) := by decide +kernel
theorem d_Mo_row_57 : decode c_Mo_row 57 = .ok (.if_icmp .ne 6, 3) := by decide +kernel
theorem d_Mo_row_60 : decode c_Mo_row 60 = .ok (.bipush (-4), 2) := by decide +kernel
theorem d_Mo_row_62 : decode c_Mo_row 62 = .ok (.ireturn, 1) := by decide +kernel
theorem d_Mo_row_63 : decode c_Mo_row 63 = .ok (.aload_n 0, 1) := by decide +kernel
theorem d_Mo_row_64 : decode c_Mo_row 64 = .ok (.getfield 13, 3) := by decide +kernel
theorem d_Mo_row_67 : decode c_Mo_row 67 = .ok (.iconst 4, 1) := by decide +kernel
theorem d_Mo_row_68 : decode c_Mo_row 68 = .ok (.aload_n 0, 1) := by decide +kernel
theorem d_Mo_row_69 : decode c_Mo_row 69 = .ok (.getfield 69, 3) := by decide +kernel
theorem d_Mo_row_72 : decode c_Mo_row 72 = .ok (.imul, 1) := by decide +kernel
theorem d_Mo_row_73 : decode c_Mo_row 73 = .ok (.iload_n 1, 1) := by decide +kernel
theorem d_Mo_row_74 : decode c_Mo_row 74 = .ok (.iastore, 1) := by decide +kernel
theorem d_Mo_row_75 : decode c_Mo_row 75 = .ok (.aload_n 0, 1) := by decide +kernel
theorem d_Mo_row_76 : decode c_Mo_row 76 = .ok (.getfield 13, 3) := by decide +kernel
theorem d_Mo_row_79 : decode c_Mo_row 79 = .ok (.iconst 4, 1) := by decide +kernel
theorem d_Mo_row_80 : decode c_Mo_row 80 = .ok (.aload_n 0, 1) := by decide +kernel
theorem d_Mo_row_81 : decode c_Mo_row 81 = .ok (.getfield 69, 3) := by decide +kernel
theorem d_Mo_row_84 : decode c_Mo_row 84 = .ok (.imul, 1) := by decide +kernel
theorem d_Mo_row_85 : decode c_Mo_row 85 = .ok (.iconst 1, 1) := by decide +kernel
theorem d_Mo_row_86 : decode c_Mo_row 86 = .ok (.iadd, 1) := by decide +kernel
theorem d_Mo_row_87 : decode c_Mo_row 87 = .ok (.iload_n 2, 1) := by decide +kernel
theorem d_Mo_row_88 : decode c_Mo_row 88 = .ok (.iastore, 1) := by decide +kernel
theorem d_Mo_row_89 : decode c_Mo_row 89 = .ok (.aload_n 0, 1) := by decide +kernel
theorem d_Mo_row_90 : decode c_Mo_row 90 = .ok (.getfield 13, 3) := by decide +kernel
theorem d_Mo_row_93 : decode c_Mo_row 93 = .ok (.iconst 4, 1) := by decide +kernel
theorem d_Mo_row_94 : decode c_Mo_row 94 = .ok (.aload_n 0, 1) := by decide +kernel
theorem d_Mo_row_95 : decode c_Mo_row 95 = .ok (.getfield 69, 3) := by decide +kernel
theorem d_Mo_row_98 : decode c_Mo_row 98 = .ok (.imul, 1) := by decide +kernel
theorem d_Mo_row_99 : decode c_Mo_row 99 = .ok (.iconst 2, 1) := by decide +kernel
theorem d_Mo_row_100 : decode c_Mo_row 100 = .ok (.iadd, 1) := by decide +kernel
theorem d_Mo_row_101 : decode c_Mo_row 101 = .ok (.iload_n 3, 1) := by decide +kernel
theorem d_Mo_row_102 : decode c_Mo_row 102 = .ok (.iastore, 1) := by decide +kernel
theorem d_Mo_row_103 : decode c_Mo_row 103 = .ok (.aload_n 0, 1) := by decide +kernel
theorem d_Mo_row_104 : decode c_Mo_row 104 = .ok (.getfield 13, 3) := by decide +kernel
theorem d_Mo_row_107 : decode c_Mo_row 107 = .ok (.iconst 4, 1) := by decide +kernel
theorem d_Mo_row_108 : decode c_Mo_row 108 = .ok (.aload_n 0, 1) := by decide +kernel
theorem d_Mo_row_109 : decode c_Mo_row 109 = .ok (.getfield 69, 3) := by decide +kernel
theorem d_Mo_row_112 : decode c_Mo_row 112 = .ok (.imul, 1) := by decide +kernel
theorem d_Mo_row_113 : decode c_Mo_row 113 = .ok (.iconst 3, 1) := by decide +kernel
theorem d_Mo_row_114 : decode c_Mo_row 114 = .ok (.iadd, 1) := by decide +kernel
theorem d_Mo_row_115 : decode c_Mo_row 115 = .ok (.iload 4, 2) := by decide +kernel
theorem d_Mo_row_117 : decode c_Mo_row 117 = .ok (.iastore, 1) := by decide +kernel
theorem d_Mo_row_118 : decode c_Mo_row 118 = .ok (.aload_n 0, 1) := by decide +kernel
theorem d_Mo_row_119 : decode c_Mo_row 119 = .ok (.getfield 16, 3) := by decide +kernel
theorem d_Mo_row_122 : decode c_Mo_row 122 = .ok (.aload_n 0, 1) := by decide +kernel
theorem d_Mo_row_123 : decode c_Mo_row 123 = .ok (.getfield 69, 3) := by decide +kernel
theorem d_Mo_row_126 : decode c_Mo_row 126 = .ok (.iload 5, 2) := by decide +kernel
theorem d_Mo_row_128 : decode c_Mo_row 128 = .ok (.iastore, 1) := by decide +kernel
theorem d_Mo_row_129 : decode c_Mo_row 129 = .ok (.aload_n 0, 1) := by decide +kernel
theorem d_Mo_row_130 : decode c_Mo_row 130 = .ok (.dup, 1) := by decide +kernel
theorem d_Mo_row_131 : decode c_Mo_row 131 = .ok (.getfield 69, 3) := by decide +kernel
theorem d_Mo_row_134 : decode c_Mo_row 134 = .ok (.iconst 1, 1) := by decide +kernel
theorem d_Mo_row_135 : decode c_Mo_row 135 = .ok (.iadd, 1) := by decide +kernel
theorem d_Mo_row_136 : decode c_Mo_row 136 = .ok (.putfield 69, 3) := by decide +kernel
theorem d_Mo_row_139 : decode c_Mo_row 139 = .ok (.aload_n 0, 1) := by decide +kernel
theorem d_Mo_row_140 : decode c_Mo_row 140 = .ok (.iconst 0, 1) := by decide +kernel
theorem d_Mo_row_141 : decode c_Mo_row 141 = .ok (.putfield 76, 3) := by decide +kernel
theorem d_Mo_row_144 : decode c_Mo_row 144 = .ok (.aload_n 0, 1) := by decide +kernel
theorem d_Mo_row_145 : decode c_Mo_row 145 = .ok (.getfield 69, 3) := by decide +kernel
theorem d_Mo_row_148 : decode c_Mo_row 148 = .ok (.iconst 1, 1) := by decide +kernel
theorem d_Mo_row_149 : decode c_Mo_row 149 = .ok (.isub, 1) := by decide +kernel
theorem d_Mo_row_150 : decode c_Mo_row 150 = .ok (.ireturn, 1) := by decide +kernel
theorem d_Mo_isValue_0 : decode c_Mo_isValue 0 = .ok (.iload_n 2, 1) := by decide +kernel
theorem d_Mo_isValue_1 : decode c_Mo_isValue 1 = .ok (.iconst (-1), 1) := by decide +kernel
theorem d_Mo_isValue_2 : decode c_Mo_isValue 2 = .ok (.if_icmp .lt 26, 3) := by decide +kernel
theorem d_Mo_isValue_5 : decode c_Mo_isValue 5 = .ok (.iload_n 2, 1) := by decide +kernel
theorem d_Mo_isValue_6 : decode c_Mo_isValue 6 = .ok (.aload_n 0, 1) := by decide +kernel
theorem d_Mo_isValue_7 : decode c_Mo_isValue 7 = .ok (.getfield 7, 3) := by decide +kernel
theorem d_Mo_isValue_10 : decode c_Mo_isValue 10 = .ok (.iload_n 1, 1) := by decide +kernel
theorem d_Mo_isValue_11 : decode c_Mo_isValue 11 = .ok (.iaload, 1) := by decide +kernel
theorem d_Mo_isValue_12 : decode c_Mo_isValue 12 = .ok (.ifCond .ne 8, 3) := by decide +kernel
theorem d_Mo_isValue_15 : decode c_Mo_isValue 15 = .ok (.bipush 100, 2) := by decide +kernel
theorem d_Mo_isValue_17 : decode c_Mo_isValue 17 = .ok (.goto 4, 3) := by decide +kernel
theorem d_Mo_isValue_20 : decode c_Mo_isValue 20 = .ok (.iconst 5, 1) := by decide +kernel
theorem d_Mo_isValue_21 : decode c_Mo_isValue 21 = .ok (.if_icmp .gt 7, 3) := by decide +kernel
theorem d_Mo_isValue_24 : decode c_Mo_isValue 24 = .ok (.iconst 1, 1) := by decide +kernel
theorem d_Mo_isValue_25 : decode c_Mo_isValue 25 = .ok (.goto 4, 3) := by decide +kernel
theorem d_Mo_isValue_28 : decode c_Mo_isValue 28 = .ok (.iconst 0, 1) := by decide +kernel
theorem d_Mo_isValue_29 : decode c_Mo_isValue 29 = .ok (.ireturn, 1) := by decide +kernel
theorem d_Mo_clear_0 : decode c_Mo_clear 0 = .ok (.aload_n 0, 1) := by decide +kernel
theorem d_Mo_clear_1 : decode c_Mo_clear 1 = .ok (.getfield 69, 3) := by decide +kernel
theorem d_Mo_clear_4 : decode c_Mo_clear 4 = .ok (.istore_n 1, 1) := by decide +kernel
theorem d_Mo_clear_5 : decode c_Mo_clear 5 = .ok (.aload_n 0, 1) := by decide +kernel
theorem d_Mo_clear_6 : decode c_Mo_clear 6 = .ok (.iconst 0, 1) := by decide +kernel
theorem d_Mo_clear_7 : decode c_Mo_clear 7 = .ok (.putfield 69, 3) := by decide +kernel
theorem d_Mo_clear_10 : decode c_Mo_clear 10 = .ok (.aload_n 0, 1) := by decide +kernel
theorem d_Mo_clear_11 : decode c_Mo_clear 11 = .ok (.iconst 0, 1) := by decide +kernel
theorem d_Mo_clear_12 : decode c_Mo_clear 12 = .ok (.putfield 76, 3) := by decide +kernel
theorem d_Mo_clear_15 : decode c_Mo_clear 15 = .ok (.iload_n 1, 1) := by decide +kernel
theorem d_Mo_clear_16 : decode c_Mo_clear 16 = .ok (.ireturn, 1) := by decide +kernel
theorem d_Mo_settings_0 : decode c_Mo_settings 0 = .ok (.iload_n 1, 1) := by decide +kernel
theorem d_Mo_settings_1 : decode c_Mo_settings 1 = .ok (.ifCond .lt 30, 3) := by decide +kernel
theorem d_Mo_settings_4 : decode c_Mo_settings 4 = .ok (.iload_n 1, 1) := by decide +kernel
theorem d_Mo_settings_5 : decode c_Mo_settings 5 = .ok (.iconst 5, 1) := by decide +kernel
theorem d_Mo_settings_6 : decode c_Mo_settings 6 = .ok (.if_icmp .gt 25, 3) := by decide +kernel
theorem d_Mo_settings_9 : decode c_Mo_settings 9 = .ok (.iload_n 2, 1) := by decide +kernel
theorem d_Mo_settings_10 : decode c_Mo_settings 10 = .ok (.iconst 1, 1) := by decide +kernel
theorem d_Mo_settings_11 : decode c_Mo_settings 11 = .ok (.if_icmp .lt 20, 3) := by decide +kernel
theorem d_Mo_settings_14 : decode c_Mo_settings 14 = .ok (.iload_n 2, 1) := by decide +kernel
theorem d_Mo_settings_15 : decode c_Mo_settings 15 = .ok (.bipush 10, 2) := by decide +kernel
theorem d_Mo_settings_17 : decode c_Mo_settings 17 = .ok (.if_icmp .gt 14, 3) := by decide +kernel
theorem d_Mo_settings_20 : decode c_Mo_settings 20 = .ok (.iload_n 3, 1) := by decide +kernel
theorem d_Mo_settings_21 : decode c_Mo_settings 21 = .ok (.ifCond .lt 10, 3) := by decide +kernel
theorem d_Mo_settings_24 : decode c_Mo_settings 24 = .ok (.iload_n 3, 1) := by decide +kernel
theorem d_Mo_settings_25 : decode c_Mo_settings 25 = .ok (.sipush 1000, 3) := by decide +kernel
theorem d_Mo_settings_28 : decode c_Mo_settings 28 = .ok (.if_icmp .le 6, 3) := by decide +kernel
theorem d_Mo_settings_31 : decode c_Mo_settings 31 = .ok (.bipush (-2), 2) := by decide +kernel
theorem d_Mo_settings_33 : decode c_Mo_settings 33 = .ok (.ireturn, 1) := by decide +kernel
theorem d_Mo_settings_34 : decode c_Mo_settings 34 = .ok (.aload_n 0, 1) := by decide +kernel
theorem d_Mo_settings_35 : decode c_Mo_settings 35 = .ok (.iload_n 1, 1) := by decide +kernel
theorem d_Mo_settings_36 : decode c_Mo_settings 36 = .ok (.putfield 19, 3) := by decide +kernel
theorem d_Mo_settings_39 : decode c_Mo_settings 39 = .ok (.aload_n 0, 1) := by decide +kernel
theorem d_Mo_settings_40 : decode c_Mo_settings 40 = .ok (.iload_n 2, 1) := by decide +kernel
theorem d_Mo_settings_41 : decode c_Mo_settings 41 = .ok (.putfield 23, 3) := by decide +kernel
theorem d_Mo_settings_44 : decode c_Mo_settings 44 = .ok (.aload_n 0, 1) := by decide +kernel
theorem d_Mo_settings_45 : decode c_Mo_settings 45 = .ok (.iload_n 3, 1) := by decide +kernel
theorem d_Mo_settings_46 : decode c_Mo_settings 46 = .ok (.putfield 80, 3) := by decide +kernel
theorem d_Mo_settings_49 : decode c_Mo_settings 49 = .ok (.aload_n 0, 1) := by decide +kernel
theorem d_Mo_settings_50 : decode c_Mo_settings 50 = .ok (.iconst 0, 1) := by decide +kernel
theorem d_Mo_settings_51 : decode c_Mo_settings 51 = .ok (.putfield 76, 3) := by decide +kernel
theorem d_Mo_settings_54 : decode c_Mo_settings 54 = .ok (.iconst 1, 1) := by decide +kernel
theorem d_Mo_settings_55 : decode c_Mo_settings 55 = .ok (.ireturn, 1) := by decide +kernel
theorem d_Mo_nodes_0 : decode c_Mo_nodes 0 = .ok (.aload_n 0, 1) := by decide +kernel
theorem d_Mo_nodes_1 : decode c_Mo_nodes 1 = .ok (.invokevirtual 173, 3) := by decide +kernel
theorem d_Mo_nodes_4 : decode c_Mo_nodes 4 = .ok (.aload_n 0, 1) := by decide +kernel
theorem d_Mo_nodes_5 : decode c_Mo_nodes 5 = .ok (.getfield 147, 3) := by decide +kernel
theorem d_Mo_nodes_8 : decode c_Mo_nodes 8 = .ok (.ireturn, 1) := by decide +kernel
theorem d_Mo_build_0 : decode c_Mo_build 0 = .ok (.aload_n 0, 1) := by decide +kernel
theorem d_Mo_build_1 : decode c_Mo_build 1 = .ok (.getfield 76, 3) := by decide +kernel
theorem d_Mo_build_4 : decode c_Mo_build 4 = .ok (.ifCond .ne 24, 3) := by decide +kernel
theorem d_Mo_build_7 : decode c_Mo_build 7 = .ok (.aload_n 0, 1) := by decide +kernel
theorem d_Mo_build_8 : decode c_Mo_build 8 = .ok (.iconst 1, 1) := by decide +kernel
theorem d_Mo_build_9 : decode c_Mo_build 9 = .ok (.aload_n 0, 1) := by decide +kernel
theorem d_Mo_build_10 : decode c_Mo_build 10 = .ok (.getfield 69, 3) := by decide +kernel
theorem d_Mo_build_13 : decode c_Mo_build 13 = .ok (.ishl, 1) := by decide +kernel
theorem d_Mo_build_14 : decode c_Mo_build 14 = .ok (.iconst 1, 1) := by decide +kernel
theorem d_Mo_build_15 : decode c_Mo_build 15 = .ok (.isub, 1) := by decide +kernel
theorem d_Mo_build_16 : decode c_Mo_build 16 = .ok (.invokevirtual 166, 3) := by decide +kernel
theorem d_Mo_build_19 : decode c_Mo_build 19 = .ok (.aload_n 0, 1) := by decide +kernel
theorem d_Mo_build_20 : decode c_Mo_build 20 = .ok (.invokevirtual 170, 3) := by decide +kernel
theorem d_Mo_build_23 : decode c_Mo_build 23 = .ok (.aload_n 0, 1) := by decide +kernel
theorem d_Mo_build_24 : decode c_Mo_build 24 = .ok (.iconst 1, 1) := by decide +kernel
theorem d_Mo_build_25 : decode c_Mo_build 25 = .ok (.putfield 76, 3) := by decide +kernel
theorem d_Mo_build_28 : decode c_Mo_build 28 = .ok (.return_, 1) := by decide +kernel
theorem d_Mo_grow_0 : decode c_Mo_grow 0 = .ok (.aload_n 0, 1) := by decide +kernel
theorem d_Mo_grow_1 : decode c_Mo_grow 1 = .ok (.iconst 0, 1) := by decide +kernel
theorem d_Mo_grow_2 : decode c_Mo_grow 2 = .ok (.putfield 147, 3) := by decide +kernel
theorem d_Mo_grow_5 : decode c_Mo_grow 5 = .ok (.aload_n 0, 1) := by decide +kernel
theorem d_Mo_grow_6 : decode c_Mo_grow 6 = .ok (.iload_n 1, 1) := by decide +kernel
theorem d_Mo_grow_7 : decode c_Mo_grow 7 = .ok (.iconst 0, 1) := by decide +kernel
theorem d_Mo_grow_8 : decode c_Mo_grow 8 = .ok (.invokevirtual 153, 3) := by decide +kernel
theorem d_Mo_grow_11 : decode c_Mo_grow 11 = .ok (.iconst 0, 1) := by decide +kernel
theorem d_Mo_grow_12 : decode c_Mo_grow 12 = .ok (.istore_n 2, 1) := by decide +kernel
theorem d_Mo_grow_13 : decode c_Mo_grow 13 = .ok (.iload_n 2, 1) := by decide +kernel
theorem d_Mo_grow_14 : decode c_Mo_grow 14 = .ok (.aload_n 0, 1) := by decide +kernel
theorem d_Mo_grow_15 : decode c_Mo_grow 15 = .ok (.getfield 147, 3) := by decide +kernel
theorem d_Mo_grow_18 : decode c_Mo_grow 18 = .ok (.if_icmp .ge 193, 3) := by decide +kernel
theorem d_Mo_grow_21 : decode c_Mo_grow 21 = .ok (.aload_n 0, 1) := by decide +kernel
theorem d_Mo_grow_22 : decode c_Mo_grow 22 = .ok (.getfield 26, 3) := by decide +kernel
theorem d_Mo_grow_25 : decode c_Mo_grow 25 = .ok (.iload_n 2, 1) := by decide +kernel
theorem d_Mo_grow_26 : decode c_Mo_grow 26 = .ok (.iaload, 1) := by decide +kernel
theorem d_Mo_grow_27 : decode c_Mo_grow 27 = .ok (.istore_n 3, 1) := by decide +kernel
theorem d_Mo_grow_28 : decode c_Mo_grow 28 = .ok (.aload_n 0, 1) := by decide +kernel
theorem d_Mo_grow_29 : decode c_Mo_grow 29 = .ok (.iload_n 3, 1) := by decide +kernel
theorem d_Mo_grow_30 : decode c_Mo_grow 30 = .ok (.invokevirtual 157, 3) := by decide +kernel
theorem d_Mo_grow_33 : decode c_Mo_grow 33 = .ok (.ifCond .eq 172, 3) := by decide +kernel
theorem d_Mo_grow_36 : decode c_Mo_grow 36 = .ok (.aload_n 0, 1) := by decide +kernel
theorem d_Mo_grow_37 : decode c_Mo_grow 37 = .ok (.getfield 29, 3) := by decide +kernel
theorem d_Mo_grow_40 : decode c_Mo_grow 40 = .ok (.iload_n 2, 1) := by decide +kernel
theorem d_Mo_grow_41 : decode c_Mo_grow 41 = .ok (.iaload, 1) := by decide +kernel
theorem d_Mo_grow_42 : decode c_Mo_grow 42 = .ok (.aload_n 0, 1) := by decide +kernel
theorem d_Mo_grow_43 : decode c_Mo_grow 43 = .ok (.getfield 19, 3) := by decide +kernel
theorem d_Mo_grow_46 : decode c_Mo_grow 46 = .ok (.if_icmp .ge 159, 3) := by decide +kernel
theorem d_Mo_grow_49 : decode c_Mo_grow 49 = .ok (.aload_n 0, 1) := by decide +kernel
theorem d_Mo_grow_50 : decode c_Mo_grow 50 = .ok (.iload_n 3, 1) := by decide +kernel
theorem d_Mo_grow_51 : decode c_Mo_grow 51 = .ok (.invokevirtual 161, 3) := by decide +kernel
theorem d_Mo_grow_54 : decode c_Mo_grow 54 = .ok (.ifCond .eq 151, 3) := by decide +kernel
theorem d_Mo_grow_57 : decode c_Mo_grow 57 = .ok (.ldc2_w 164, 3) := by decide +kernel
theorem d_Mo_grow_60 : decode c_Mo_grow 60 = .ok (.aload_n 0, 1) := by decide +kernel
theorem d_Mo_grow_61 : decode c_Mo_grow 61 = .ok (.getfield 135, 3) := by decide +kernel
theorem d_Mo_grow_64 : decode c_Mo_grow 64 = .ok (.lmul, 1) := by decide +kernel
theorem d_Mo_grow_65 : decode c_Mo_grow 65 = .ok (.aload_n 0, 1) := by decide +kernel
theorem d_Mo_grow_66 : decode c_Mo_grow 66 = .ok (.getfield 80, 3) := by decide +kernel
theorem d_Mo_grow_69 : decode c_Mo_grow 69 = .ok (.i2l, 1) := by decide +kernel
theorem d_Mo_grow_70 : decode c_Mo_grow 70 = .ok (.aload_n 0, 1) := by decide +kernel
theorem d_Mo_grow_71 : decode c_Mo_grow 71 = .ok (.getfield 132, 3) := by decide +kernel
theorem d_Mo_grow_74 : decode c_Mo_grow 74 = .ok (.lmul, 1) := by decide +kernel
theorem d_Mo_grow_75 : decode c_Mo_grow 75 = .ok (.lcmp, 1) := by decide +kernel
theorem d_Mo_grow_76 : decode c_Mo_grow 76 = .ok (.ifCond .gt 6, 3) := by decide +kernel
theorem d_Mo_grow_79 : decode c_Mo_grow 79 = .ok (.goto 126, 3) := by decide +kernel
theorem d_Mo_grow_82 : decode c_Mo_grow 82 = .ok (.aload_n 0, 1) := by decide +kernel
theorem d_Mo_grow_83 : decode c_Mo_grow 83 = .ok (.getfield 32, 3) := by decide +kernel
theorem d_Mo_grow_86 : decode c_Mo_grow 86 = .ok (.iload_n 2, 1) := by decide +kernel
theorem d_Mo_grow_87 : decode c_Mo_grow 87 = .ok (.aload_n 0, 1) := by decide +kernel
theorem d_Mo_grow_88 : decode c_Mo_grow 88 = .ok (.getfield 138, 3) := by decide +kernel
theorem d_Mo_grow_91 : decode c_Mo_grow 91 = .ok (.iastore, 1) := by decide +kernel
theorem d_Mo_grow_92 : decode c_Mo_grow 92 = .ok (.aload_n 0, 1) := by decide +kernel
theorem d_Mo_grow_93 : decode c_Mo_grow 93 = .ok (.getfield 35, 3) := by decide +kernel
theorem d_Mo_grow_96 : decode c_Mo_grow 96 = .ok (.iload_n 2, 1) := by decide +kernel
theorem d_Mo_grow_97 : decode c_Mo_grow 97 = .ok (.aload_n 0, 1) := by decide +kernel
theorem d_Mo_grow_98 : decode c_Mo_grow 98 = .ok (.getfield 141, 3) := by decide +kernel
theorem d_Mo_grow_101 : decode c_Mo_grow 101 = .ok (.iastore, 1) := by decide +kernel
theorem d_Mo_grow_102 : decode c_Mo_grow 102 = .ok (.aload_n 0, 1) := by decide +kernel
theorem d_Mo_grow_103 : decode c_Mo_grow 103 = .ok (.getfield 38, 3) := by decide +kernel
theorem d_Mo_grow_106 : decode c_Mo_grow 106 = .ok (.iload_n 2, 1) := by decide +kernel
theorem d_Mo_grow_107 : decode c_Mo_grow 107 = .ok (.aload_n 0, 1) := by decide +kernel
theorem d_Mo_grow_108 : decode c_Mo_grow 108 = .ok (.getfield 144, 3) := by decide +kernel
theorem d_Mo_grow_111 : decode c_Mo_grow 111 = .ok (.iastore, 1) := by decide +kernel
theorem d_Mo_grow_112 : decode c_Mo_grow 112 = .ok (.aload_n 0, 1) := by decide +kernel
theorem d_Mo_grow_113 : decode c_Mo_grow 113 = .ok (.getfield 47, 3) := by decide +kernel
theorem d_Mo_grow_116 : decode c_Mo_grow 116 = .ok (.iload_n 2, 1) := by decide +kernel
theorem d_Mo_grow_117 : decode c_Mo_grow 117 = .ok (.aload_n 0, 1) := by decide +kernel
theorem d_Mo_grow_118 : decode c_Mo_grow 118 = .ok (.getfield 135, 3) := by decide +kernel
theorem d_Mo_grow_121 : decode c_Mo_grow 121 = .ok (.lastore, 1) := by decide +kernel
theorem d_Mo_grow_122 : decode c_Mo_grow 122 = .ok (.aload_n 0, 1) := by decide +kernel
theorem d_Mo_grow_123 : decode c_Mo_grow 123 = .ok (.getfield 51, 3) := by decide +kernel
theorem d_Mo_grow_126 : decode c_Mo_grow 126 = .ok (.iload_n 2, 1) := by decide +kernel
theorem d_Mo_grow_127 : decode c_Mo_grow 127 = .ok (.aload_n 0, 1) := by decide +kernel
theorem d_Mo_grow_128 : decode c_Mo_grow 128 = .ok (.getfield 132, 3) := by decide +kernel
theorem d_Mo_grow_131 : decode c_Mo_grow 131 = .ok (.lastore, 1) := by decide +kernel
theorem d_Mo_grow_132 : decode c_Mo_grow 132 = .ok (.aload_n 0, 1) := by decide +kernel
theorem d_Mo_grow_133 : decode c_Mo_grow 133 = .ok (.iload_n 3, 1) := by decide +kernel
theorem d_Mo_grow_134 : decode c_Mo_grow 134 = .ok (.aload_n 0, 1) := by decide +kernel
theorem d_Mo_grow_135 : decode c_Mo_grow 135 = .ok (.getfield 138, 3) := by decide +kernel
theorem d_Mo_grow_138 : decode c_Mo_grow 138 = .ok (.aload_n 0, 1) := by decide +kernel
theorem d_Mo_grow_139 : decode c_Mo_grow 139 = .ok (.getfield 141, 3) := by decide +kernel
theorem d_Mo_grow_142 : decode c_Mo_grow 142 = .ok (.aload_n 0, 1) := by decide +kernel
theorem d_Mo_grow_143 : decode c_Mo_grow 143 = .ok (.getfield 144, 3) := by decide +kernel
theorem d_Mo_grow_146 : decode c_Mo_grow 146 = .ok (.invokevirtual 114, 3) := by decide +kernel
theorem d_Mo_grow_149 : decode c_Mo_grow 149 = .ok (.istore 4, 2) := by decide +kernel
theorem d_Mo_grow_151 : decode c_Mo_grow 151 = .ok (.aload_n 0, 1) := by decide +kernel
theorem d_Mo_grow_152 : decode c_Mo_grow 152 = .ok (.getfield 41, 3) := by decide +kernel
theorem d_Mo_grow_155 : decode c_Mo_grow 155 = .ok (.iload_n 2, 1) := by decide +kernel
theorem d_Mo_grow_156 : decode c_Mo_grow 156 = .ok (.aload_n 0, 1) := by decide +kernel
theorem d_Mo_grow_157 : decode c_Mo_grow 157 = .ok (.getfield 147, 3) := by decide +kernel
theorem d_Mo_grow_160 : decode c_Mo_grow 160 = .ok (.iastore, 1) := by decide +kernel
theorem d_Mo_grow_161 : decode c_Mo_grow 161 = .ok (.aload_n 0, 1) := by decide +kernel
theorem d_Mo_grow_162 : decode c_Mo_grow 162 = .ok (.getfield 44, 3) := by decide +kernel
theorem d_Mo_grow_165 : decode c_Mo_grow 165 = .ok (.iload_n 2, 1) := by decide +kernel
theorem d_Mo_grow_166 : decode c_Mo_grow 166 = .ok (.aload_n 0, 1) := by decide +kernel
theorem d_Mo_grow_167 : decode c_Mo_grow 167 = .ok (.getfield 147, 3) := by decide +kernel
theorem d_Mo_grow_170 : decode c_Mo_grow 170 = .ok (.iconst 1, 1) := by decide +kernel
theorem d_Mo_grow_171 : decode c_Mo_grow 171 = .ok (.iadd, 1) := by decide +kernel
theorem d_Mo_grow_172 : decode c_Mo_grow 172 = .ok (.iastore, 1) := by decide +kernel
theorem d_Mo_grow_173 : decode c_Mo_grow 173 = .ok (.aload_n 0, 1) := by decide +kernel
theorem d_Mo_grow_174 : decode c_Mo_grow 174 = .ok (.iload 4, 2) := by decide +kernel
theorem d_Mo_grow_176 : decode c_Mo_grow 176 = .ok (.aload_n 0, 1) := by decide +kernel
theorem d_Mo_grow_177 : decode c_Mo_grow 177 = .ok (.getfield 29, 3) := by decide +kernel
theorem d_Mo_grow_180 : decode c_Mo_grow 180 = .ok (.iload_n 2, 1) := by decide +kernel
theorem d_Mo_grow_181 : decode c_Mo_grow 181 = .ok (.iaload, 1) := by decide +kernel
theorem d_Mo_grow_182 : decode c_Mo_grow 182 = .ok (.iconst 1, 1) := by decide +kernel
theorem d_Mo_grow_183 : decode c_Mo_grow 183 = .ok (.iadd, 1) := by decide +kernel
theorem d_Mo_grow_184 : decode c_Mo_grow 184 = .ok (.invokevirtual 153, 3) := by decide +kernel
theorem d_Mo_grow_187 : decode c_Mo_grow 187 = .ok (.aload_n 0, 1) := by decide +kernel
theorem d_Mo_grow_188 : decode c_Mo_grow 188 = .ok (.iload_n 3, 1) := by decide +kernel
theorem d_Mo_grow_189 : decode c_Mo_grow 189 = .ok (.iload 4, 2) := by decide +kernel
theorem d_Mo_grow_191 : decode c_Mo_grow 191 = .ok (.iconst (-1), 1) := by decide +kernel
theorem d_Mo_grow_192 : decode c_Mo_grow 192 = .ok (.ixor, 1) := by decide +kernel
theorem d_Mo_grow_193 : decode c_Mo_grow 193 = .ok (.iand, 1) := by decide +kernel
theorem d_Mo_grow_194 : decode c_Mo_grow 194 = .ok (.aload_n 0, 1) := by decide +kernel
theorem d_Mo_grow_195 : decode c_Mo_grow 195 = .ok (.getfield 29, 3) := by decide +kernel
theorem d_Mo_grow_198 : decode c_Mo_grow 198 = .ok (.iload_n 2, 1) := by decide +kernel
theorem d_Mo_grow_199 : decode c_Mo_grow 199 = .ok (.iaload, 1) := by decide +kernel
theorem d_Mo_grow_200 : decode c_Mo_grow 200 = .ok (.iconst 1, 1) := by decide +kernel
theorem d_Mo_grow_201 : decode c_Mo_grow 201 = .ok (.iadd, 1) := by decide +kernel
theorem d_Mo_grow_202 : decode c_Mo_grow 202 = .ok (.invokevirtual 153, 3) := by decide +kernel
theorem d_Mo_grow_205 : decode c_Mo_grow 205 = .ok (.iinc 2 1, 3) := by decide +kernel
theorem d_Mo_grow_208 : decode c_Mo_grow 208 = .ok (.goto (-195), 3) := by decide +kernel
theorem d_Mo_grow_211 : decode c_Mo_grow 211 = .ok (.return_, 1) := by decide +kernel
theorem d_Mo_add_0 : decode c_Mo_add 0 = .ok (.aload_n 0, 1) := by decide +kernel
theorem d_Mo_add_1 : decode c_Mo_add 1 = .ok (.getfield 26, 3) := by decide +kernel
theorem d_Mo_add_4 : decode c_Mo_add 4 = .ok (.aload_n 0, 1) := by decide +kernel
theorem d_Mo_add_5 : decode c_Mo_add 5 = .ok (.getfield 147, 3) := by decide +kernel
theorem d_Mo_add_8 : decode c_Mo_add 8 = .ok (.iload_n 1, 1) := by decide +kernel
theorem d_Mo_add_9 : decode c_Mo_add 9 = .ok (.iastore, 1) := by decide +kernel
theorem d_Mo_add_10 : decode c_Mo_add 10 = .ok (.aload_n 0, 1) := by decide +kernel
theorem d_Mo_add_11 : decode c_Mo_add 11 = .ok (.getfield 29, 3) := by decide +kernel
theorem d_Mo_add_14 : decode c_Mo_add 14 = .ok (.aload_n 0, 1) := by decide +kernel
theorem d_Mo_add_15 : decode c_Mo_add 15 = .ok (.getfield 147, 3) := by decide +kernel
theorem d_Mo_add_18 : decode c_Mo_add 18 = .ok (.iload_n 2, 1) := by decide +kernel
theorem d_Mo_add_19 : decode c_Mo_add 19 = .ok (.iastore, 1) := by decide +kernel
theorem d_Mo_add_20 : decode c_Mo_add 20 = .ok (.aload_n 0, 1) := by decide +kernel
theorem d_Mo_add_21 : decode c_Mo_add 21 = .ok (.getfield 41, 3) := by decide +kernel
theorem d_Mo_add_24 : decode c_Mo_add 24 = .ok (.aload_n 0, 1) := by decide +kernel
theorem d_Mo_add_25 : decode c_Mo_add 25 = .ok (.getfield 147, 3) := by decide +kernel
theorem d_Mo_add_28 : decode c_Mo_add 28 = .ok (.iconst (-1), 1) := by decide +kernel
theorem d_Mo_add_29 : decode c_Mo_add 29 = .ok (.iastore, 1) := by decide +kernel
theorem d_Mo_add_30 : decode c_Mo_add 30 = .ok (.aload_n 0, 1) := by decide +kernel
theorem d_Mo_add_31 : decode c_Mo_add 31 = .ok (.dup, 1) := by decide +kernel
theorem d_Mo_add_32 : decode c_Mo_add 32 = .ok (.getfield 147, 3) := by decide +kernel
theorem d_Mo_add_35 : decode c_Mo_add 35 = .ok (.iconst 1, 1) := by decide +kernel
theorem d_Mo_add_36 : decode c_Mo_add 36 = .ok (.iadd, 1) := by decide +kernel
theorem d_Mo_add_37 : decode c_Mo_add 37 = .ok (.putfield 147, 3) := by decide +kernel
theorem d_Mo_add_40 : decode c_Mo_add 40 = .ok (.return_, 1) := by decide +kernel
theorem d_Mo_isMixed_0 : decode c_Mo_isMixed 0 = .ok (.aload_n 0, 1) := by decide +kernel
theorem d_Mo_isMixed_1 : decode c_Mo_isMixed 1 = .ok (.iload_n 1, 1) := by decide +kernel
theorem d_Mo_isMixed_2 : decode c_Mo_isMixed 2 = .ok (.invokevirtual 150, 3) := by decide +kernel
theorem d_Mo_isMixed_5 : decode c_Mo_isMixed 5 = .ok (.ifCond .le 7, 3) := by decide +kernel
theorem d_Mo_isMixed_8 : decode c_Mo_isMixed 8 = .ok (.iconst 1, 1) := by decide +kernel
theorem d_Mo_isMixed_9 : decode c_Mo_isMixed 9 = .ok (.goto 4, 3) := by decide +kernel
theorem d_Mo_isMixed_12 : decode c_Mo_isMixed 12 = .ok (.iconst 0, 1) := by decide +kernel
theorem d_Mo_isMixed_13 : decode c_Mo_isMixed 13 = .ok (.ireturn, 1) := by decide +kernel
theorem d_Mo_wrongOf_0 : decode c_Mo_wrongOf 0 = .ok (.aload_n 0, 1) := by decide +kernel
theorem d_Mo_wrongOf_1 : decode c_Mo_wrongOf 1 = .ok (.iload_n 1, 1) := by decide +kernel
theorem d_Mo_wrongOf_2 : decode c_Mo_wrongOf 2 = .ok (.invokevirtual 87, 3) := by decide +kernel
theorem d_Mo_wrongOf_5 : decode c_Mo_wrongOf 5 = .ok (.aload_n 0, 1) := by decide +kernel
theorem d_Mo_wrongOf_6 : decode c_Mo_wrongOf 6 = .ok (.iload_n 1, 1) := by decide +kernel
theorem d_Mo_wrongOf_7 : decode c_Mo_wrongOf 7 = .ok (.aload_n 0, 1) := by decide +kernel
theorem d_Mo_wrongOf_8 : decode c_Mo_wrongOf 8 = .ok (.iload_n 1, 1) := by decide +kernel
theorem d_Mo_wrongOf_9 : decode c_Mo_wrongOf 9 = .ok (.invokevirtual 91, 3) := by decide +kernel
theorem d_Mo_wrongOf_12 : decode c_Mo_wrongOf 12 = .ok (.invokevirtual 83, 3) := by decide +kernel
theorem d_Mo_wrongOf_15 : decode c_Mo_wrongOf 15 = .ok (.isub, 1) := by decide +kernel
theorem d_Mo_wrongOf_16 : decode c_Mo_wrongOf 16 = .ok (.ireturn, 1) := by decide +kernel
theorem d_Mo_many_0 : decode c_Mo_many 0 = .ok (.iconst 0, 1) := by decide +kernel
theorem d_Mo_many_1 : decode c_Mo_many 1 = .ok (.istore_n 2, 1) := by decide +kernel
theorem d_Mo_many_2 : decode c_Mo_many 2 = .ok (.iconst 0, 1) := by decide +kernel
theorem d_Mo_many_3 : decode c_Mo_many 3 = .ok (.istore_n 3, 1) := by decide +kernel
theorem d_Mo_many_4 : decode c_Mo_many 4 = .ok (.iload_n 3, 1) := by decide +kernel
theorem d_Mo_many_5 : decode c_Mo_many 5 = .ok (.bipush 24, 2) := by decide +kernel
theorem d_Mo_many_7 : decode c_Mo_many 7 = .ok (.if_icmp .ge 17, 3) := by decide +kernel
theorem d_Mo_many_10 : decode c_Mo_many 10 = .ok (.iload_n 2, 1) := by decide +kernel
theorem d_Mo_many_11 : decode c_Mo_many 11 = .ok (.iload_n 1, 1) := by decide +kernel
theorem d_Mo_many_12 : decode c_Mo_many 12 = .ok (.iload_n 3, 1) := by decide +kernel
theorem d_Mo_many_13 : decode c_Mo_many 13 = .ok (.ishr, 1) := by decide +kernel
theorem d_Mo_many_14 : decode c_Mo_many 14 = .ok (.iconst 1, 1) := by decide +kernel
theorem d_Mo_many_15 : decode c_Mo_many 15 = .ok (.iand, 1) := by decide +kernel
theorem d_Mo_many_16 : decode c_Mo_many 16 = .ok (.iadd, 1) := by decide +kernel
theorem d_Mo_many_17 : decode c_Mo_many 17 = .ok (.istore_n 2, 1) := by decide +kernel
theorem d_Mo_many_18 : decode c_Mo_many 18 = .ok (.iinc 3 1, 3) := by decide +kernel
theorem d_Mo_many_21 : decode c_Mo_many 21 = .ok (.goto (-17), 3) := by decide +kernel
theorem d_Mo_many_24 : decode c_Mo_many 24 = .ok (.iload_n 2, 1) := by decide +kernel
theorem d_Mo_many_25 : decode c_Mo_many 25 = .ok (.ireturn, 1) := by decide +kernel
theorem d_Mo_labelOf_0 : decode c_Mo_labelOf 0 = .ok (.iconst 0, 1) := by decide +kernel
theorem d_Mo_labelOf_1 : decode c_Mo_labelOf 1 = .ok (.istore_n 2, 1) := by decide +kernel
theorem d_Mo_labelOf_2 : decode c_Mo_labelOf 2 = .ok (.iconst 1, 1) := by decide +kernel
theorem d_Mo_labelOf_3 : decode c_Mo_labelOf 3 = .ok (.istore_n 3, 1) := by decide +kernel
theorem d_Mo_labelOf_4 : decode c_Mo_labelOf 4 = .ok (.iload_n 3, 1) := by decide +kernel
theorem d_Mo_labelOf_5 : decode c_Mo_labelOf 5 = .ok (.iconst 3, 1) := by decide +kernel
theorem d_Mo_labelOf_6 : decode c_Mo_labelOf 6 = .ok (.if_icmp .ge 30, 3) := by decide +kernel
theorem d_Mo_labelOf_9 : decode c_Mo_labelOf 9 = .ok (.aload_n 0, 1) := by decide +kernel
theorem d_Mo_labelOf_10 : decode c_Mo_labelOf 10 = .ok (.iload_n 1, 1) := by decide +kernel
theorem d_Mo_labelOf_11 : decode c_Mo_labelOf 11 = .ok (.iload_n 3, 1) := by decide +kernel
theorem d_Mo_labelOf_12 : decode c_Mo_labelOf 12 = .ok (.invokevirtual 83, 3) := by decide +kernel
theorem d_Mo_labelOf_15 : decode c_Mo_labelOf 15 = .ok (.aload_n 0, 1) := by decide +kernel
theorem d_Mo_labelOf_16 : decode c_Mo_labelOf 16 = .ok (.iload_n 1, 1) := by decide +kernel
theorem d_Mo_labelOf_17 : decode c_Mo_labelOf 17 = .ok (.iload_n 2, 1) := by decide +kernel
theorem d_Mo_labelOf_18 : decode c_Mo_labelOf 18 = .ok (.invokevirtual 83, 3) := by decide +kernel
theorem d_Mo_labelOf_21 : decode c_Mo_labelOf 21 = .ok (.if_icmp .le 7, 3) := by decide +kernel
theorem d_Mo_labelOf_24 : decode c_Mo_labelOf 24 = .ok (.iload_n 3, 1) := by decide +kernel
theorem d_Mo_labelOf_25 : decode c_Mo_labelOf 25 = .ok (.goto 4, 3) := by decide +kernel
theorem d_Mo_labelOf_28 : decode c_Mo_labelOf 28 = .ok (.iload_n 2, 1) := by decide +kernel
theorem d_Mo_labelOf_29 : decode c_Mo_labelOf 29 = .ok (.istore_n 2, 1) := by decide +kernel
theorem d_Mo_labelOf_30 : decode c_Mo_labelOf 30 = .ok (.iinc 3 1, 3) := by decide +kernel
theorem d_Mo_labelOf_33 : decode c_Mo_labelOf 33 = .ok (.goto (-29), 3) := by decide +kernel
theorem d_Mo_labelOf_36 : decode c_Mo_labelOf 36 = .ok (.iload_n 2, 1) := by decide +kernel
theorem d_Mo_labelOf_37 : decode c_Mo_labelOf 37 = .ok (.ireturn, 1) := by decide +kernel
theorem d_Mo_of_0 : decode c_Mo_of 0 = .ok (.iconst 0, 1) := by decide +kernel
theorem d_Mo_of_1 : decode c_Mo_of 1 = .ok (.istore_n 3, 1) := by decide +kernel
theorem d_Mo_of_2 : decode c_Mo_of 2 = .ok (.iconst 0, 1) := by decide +kernel
theorem d_Mo_of_3 : decode c_Mo_of 3 = .ok (.istore 4, 2) := by decide +kernel
theorem d_Mo_of_5 : decode c_Mo_of 5 = .ok (.iload 4, 2) := by decide +kernel
theorem d_Mo_of_7 : decode c_Mo_of 7 = .ok (.aload_n 0, 1) := by decide +kernel
theorem d_Mo_of_8 : decode c_Mo_of 8 = .ok (.getfield 69, 3) := by decide +kernel
theorem d_Mo_of_11 : decode c_Mo_of 11 = .ok (.if_icmp .ge 38, 3) := by decide +kernel
theorem d_Mo_of_14 : decode c_Mo_of 14 = .ok (.iload_n 3, 1) := by decide +kernel
theorem d_Mo_of_15 : decode c_Mo_of 15 = .ok (.iload_n 1, 1) := by decide +kernel
theorem d_Mo_of_16 : decode c_Mo_of 16 = .ok (.iload 4, 2) := by decide +kernel
theorem d_Mo_of_18 : decode c_Mo_of 18 = .ok (.ishr, 1) := by decide +kernel
theorem d_Mo_of_19 : decode c_Mo_of 19 = .ok (.iconst 1, 1) := by decide +kernel
theorem d_Mo_of_20 : decode c_Mo_of 20 = .ok (.iand, 1) := by decide +kernel
theorem d_Mo_of_21 : decode c_Mo_of 21 = .ok (.iconst 1, 1) := by decide +kernel
theorem d_Mo_of_22 : decode c_Mo_of 22 = .ok (.if_icmp .ne 18, 3) := by decide +kernel
theorem d_Mo_of_25 : decode c_Mo_of 25 = .ok (.aload_n 0, 1) := by decide +kernel
theorem d_Mo_of_26 : decode c_Mo_of 26 = .ok (.getfield 16, 3) := by decide +kernel
theorem d_Mo_of_29 : decode c_Mo_of 29 = .ok (.iload 4, 2) := by decide +kernel
theorem d_Mo_of_31 : decode c_Mo_of 31 = .ok (.iaload, 1) := by decide +kernel
theorem d_Mo_of_32 : decode c_Mo_of 32 = .ok (.iload_n 2, 1) := by decide +kernel
theorem d_Mo_of_33 : decode c_Mo_of 33 = .ok (.if_icmp .ne 7, 3) := by decide +kernel
theorem d_Mo_of_36 : decode c_Mo_of 36 = .ok (.iconst 1, 1) := by decide +kernel
theorem d_Mo_of_37 : decode c_Mo_of 37 = .ok (.goto 4, 3) := by decide +kernel
theorem d_Mo_of_40 : decode c_Mo_of 40 = .ok (.iconst 0, 1) := by decide +kernel
theorem d_Mo_of_41 : decode c_Mo_of 41 = .ok (.iadd, 1) := by decide +kernel
theorem d_Mo_of_42 : decode c_Mo_of 42 = .ok (.istore_n 3, 1) := by decide +kernel
theorem d_Mo_of_43 : decode c_Mo_of 43 = .ok (.iinc 4 1, 3) := by decide +kernel
theorem d_Mo_of_46 : decode c_Mo_of 46 = .ok (.goto (-41), 3) := by decide +kernel
theorem d_Mo_of_49 : decode c_Mo_of 49 = .ok (.iload_n 3, 1) := by decide +kernel
theorem d_Mo_of_50 : decode c_Mo_of 50 = .ok (.ireturn, 1) := by decide +kernel
theorem d_Mo_findBest_0 : decode c_Mo_findBest 0 = .ok (.iconst 0, 1) := by decide +kernel
theorem d_Mo_findBest_1 : decode c_Mo_findBest 1 = .ok (.istore_n 2, 1) := by decide +kernel
theorem d_Mo_findBest_2 : decode c_Mo_findBest 2 = .ok (.iconst 0, 1) := by decide +kernel
theorem d_Mo_findBest_3 : decode c_Mo_findBest 3 = .ok (.istore_n 3, 1) := by decide +kernel
theorem d_Mo_findBest_4 : decode c_Mo_findBest 4 = .ok (.iload_n 3, 1) := by decide +kernel
theorem d_Mo_findBest_5 : decode c_Mo_findBest 5 = .ok (.iconst 4, 1) := by decide +kernel
theorem d_Mo_findBest_6 : decode c_Mo_findBest 6 = .ok (.if_icmp .ge 114, 3) := by decide +kernel
theorem d_Mo_findBest_9 : decode c_Mo_findBest 9 = .ok (.iconst 0, 1) := by decide +kernel
theorem d_Mo_findBest_10 : decode c_Mo_findBest 10 = .ok (.istore 4, 2) := by decide +kernel
theorem d_Mo_findBest_12 : decode c_Mo_findBest 12 = .ok (.iload 4, 2) := by decide +kernel
theorem d_Mo_findBest_14 : decode c_Mo_findBest 14 = .ok (.bipush 100, 2) := by decide +kernel
theorem d_Mo_findBest_16 : decode c_Mo_findBest 16 = .ok (.if_icmp .ge 98, 3) := by decide +kernel
theorem d_Mo_findBest_19 : decode c_Mo_findBest 19 = .ok (.iconst 0, 1) := by decide +kernel
theorem d_Mo_findBest_20 : decode c_Mo_findBest 20 = .ok (.istore 5, 2) := by decide +kernel
theorem d_Mo_findBest_22 : decode c_Mo_findBest 22 = .ok (.iload 5, 2) := by decide +kernel
theorem d_Mo_findBest_24 : decode c_Mo_findBest 24 = .ok (.iconst 2, 1) := by decide +kernel
theorem d_Mo_findBest_25 : decode c_Mo_findBest 25 = .ok (.if_icmp .ge 83, 3) := by decide +kernel
theorem d_Mo_findBest_28 : decode c_Mo_findBest 28 = .ok (.aload_n 0, 1) := by decide +kernel
theorem d_Mo_findBest_29 : decode c_Mo_findBest 29 = .ok (.iload_n 1, 1) := by decide +kernel
theorem d_Mo_findBest_30 : decode c_Mo_findBest 30 = .ok (.iload_n 3, 1) := by decide +kernel
theorem d_Mo_findBest_31 : decode c_Mo_findBest 31 = .ok (.iload 4, 2) := by decide +kernel
theorem d_Mo_findBest_33 : decode c_Mo_findBest 33 = .ok (.iload 5, 2) := by decide +kernel
theorem d_Mo_findBest_35 : decode c_Mo_findBest 35 = .ok (.invokevirtual 129, 3) := by decide +kernel
theorem d_Mo_findBest_38 : decode c_Mo_findBest 38 = .ok (.ifCond .eq 64, 3) := by decide +kernel
theorem d_Mo_findBest_41 : decode c_Mo_findBest 41 = .ok (.iload_n 2, 1) := by decide +kernel
theorem d_Mo_findBest_42 : decode c_Mo_findBest 42 = .ok (.ifCond .eq 25, 3) := by decide +kernel
theorem d_Mo_findBest_45 : decode c_Mo_findBest 45 = .ok (.aload_n 0, 1) := by decide +kernel
theorem d_Mo_findBest_46 : decode c_Mo_findBest 46 = .ok (.getfield 122, 3) := by decide +kernel
theorem d_Mo_findBest_49 : decode c_Mo_findBest 49 = .ok (.aload_n 0, 1) := by decide +kernel
theorem d_Mo_findBest_50 : decode c_Mo_findBest 50 = .ok (.getfield 132, 3) := by decide +kernel
theorem d_Mo_findBest_53 : decode c_Mo_findBest 53 = .ok (.lmul, 1) := by decide +kernel
theorem d_Mo_findBest_54 : decode c_Mo_findBest 54 = .ok (.aload_n 0, 1) := by decide +kernel
theorem d_Mo_findBest_55 : decode c_Mo_findBest 55 = .ok (.getfield 135, 3) := by decide +kernel
theorem d_Mo_findBest_58 : decode c_Mo_findBest 58 = .ok (.aload_n 0, 1) := by decide +kernel
theorem d_Mo_findBest_59 : decode c_Mo_findBest 59 = .ok (.getfield 126, 3) := by decide +kernel
theorem d_Mo_findBest_62 : decode c_Mo_findBest 62 = .ok (.lmul, 1) := by decide +kernel
theorem d_Mo_findBest_63 : decode c_Mo_findBest 63 = .ok (.lcmp, 1) := by decide +kernel
theorem d_Mo_findBest_64 : decode c_Mo_findBest 64 = .ok (.ifCond .le 38, 3) := by decide +kernel
theorem d_Mo_findBest_67 : decode c_Mo_findBest 67 = .ok (.iconst 1, 1) := by decide +kernel
theorem d_Mo_findBest_68 : decode c_Mo_findBest 68 = .ok (.istore_n 2, 1) := by decide +kernel
theorem d_Mo_findBest_69 : decode c_Mo_findBest 69 = .ok (.aload_n 0, 1) := by decide +kernel
theorem d_Mo_findBest_70 : decode c_Mo_findBest 70 = .ok (.iload_n 3, 1) := by decide +kernel
theorem d_Mo_findBest_71 : decode c_Mo_findBest 71 = .ok (.putfield 138, 3) := by decide +kernel
theorem d_Mo_findBest_74 : decode c_Mo_findBest 74 = .ok (.aload_n 0, 1) := by decide +kernel
theorem d_Mo_findBest_75 : decode c_Mo_findBest 75 = .ok (.iload 4, 2) := by decide +kernel
theorem d_Mo_findBest_77 : decode c_Mo_findBest 77 = .ok (.putfield 141, 3) := by decide +kernel
theorem d_Mo_findBest_80 : decode c_Mo_findBest 80 = .ok (.aload_n 0, 1) := by decide +kernel
theorem d_Mo_findBest_81 : decode c_Mo_findBest 81 = .ok (.iload 5, 2) := by decide +kernel
theorem d_Mo_findBest_83 : decode c_Mo_findBest 83 = .ok (.putfield 144, 3) := by decide +kernel
theorem d_Mo_findBest_86 : decode c_Mo_findBest 86 = .ok (.aload_n 0, 1) := by decide +kernel
theorem d_Mo_findBest_87 : decode c_Mo_findBest 87 = .ok (.aload_n 0, 1) := by decide +kernel
theorem d_Mo_findBest_88 : decode c_Mo_findBest 88 = .ok (.getfield 122, 3) := by decide +kernel
theorem d_Mo_findBest_91 : decode c_Mo_findBest 91 = .ok (.putfield 135, 3) := by decide +kernel
theorem d_Mo_findBest_94 : decode c_Mo_findBest 94 = .ok (.aload_n 0, 1) := by decide +kernel
theorem d_Mo_findBest_95 : decode c_Mo_findBest 95 = .ok (.aload_n 0, 1) := by decide +kernel
theorem d_Mo_findBest_96 : decode c_Mo_findBest 96 = .ok (.getfield 126, 3) := by decide +kernel
theorem d_Mo_findBest_99 : decode c_Mo_findBest 99 = .ok (.putfield 132, 3) := by decide +kernel
theorem d_Mo_findBest_102 : decode c_Mo_findBest 102 = .ok (.iinc 5 1, 3) := by decide +kernel
theorem d_Mo_findBest_105 : decode c_Mo_findBest 105 = .ok (.goto (-83), 3) := by decide +kernel
theorem d_Mo_findBest_108 : decode c_Mo_findBest 108 = .ok (.iinc 4 1, 3) := by decide +kernel
theorem d_Mo_findBest_111 : decode c_Mo_findBest 111 = .ok (.goto (-99), 3) := by decide +kernel
theorem d_Mo_findBest_114 : decode c_Mo_findBest 114 = .ok (.iinc 3 1, 3) := by decide +kernel
theorem d_Mo_findBest_117 : decode c_Mo_findBest 117 = .ok (.goto (-113), 3) := by decide +kernel
theorem d_Mo_findBest_120 : decode c_Mo_findBest 120 = .ok (.iload_n 2, 1) := by decide +kernel
theorem d_Mo_findBest_121 : decode c_Mo_findBest 121 = .ok (.ireturn, 1) := by decide +kernel
theorem d_Mo_may_0 : decode c_Mo_may 0 = .ok (.aload_n 0, 1) := by decide +kernel
theorem d_Mo_may_1 : decode c_Mo_may 1 = .ok (.iload_n 1, 1) := by decide +kernel
theorem d_Mo_may_2 : decode c_Mo_may 2 = .ok (.iload_n 2, 1) := by decide +kernel
theorem d_Mo_may_3 : decode c_Mo_may 3 = .ok (.iload_n 3, 1) := by decide +kernel
theorem d_Mo_may_4 : decode c_Mo_may 4 = .ok (.iload 4, 2) := by decide +kernel
theorem d_Mo_may_6 : decode c_Mo_may 6 = .ok (.invokevirtual 111, 3) := by decide +kernel
theorem d_Mo_may_9 : decode c_Mo_may 9 = .ok (.ifCond .ne 5, 3) := by decide +kernel
theorem d_Mo_may_12 : decode c_Mo_may 12 = .ok (.iconst 0, 1) := by decide +kernel
theorem d_Mo_may_13 : decode c_Mo_may 13 = .ok (.ireturn, 1) := by decide +kernel
theorem d_Mo_may_14 : decode c_Mo_may 14 = .ok (.aload_n 0, 1) := by decide +kernel
theorem d_Mo_may_15 : decode c_Mo_may 15 = .ok (.iload_n 1, 1) := by decide +kernel
theorem d_Mo_may_16 : decode c_Mo_may 16 = .ok (.iload_n 2, 1) := by decide +kernel
theorem d_Mo_may_17 : decode c_Mo_may 17 = .ok (.iload_n 3, 1) := by decide +kernel
theorem d_Mo_may_18 : decode c_Mo_may 18 = .ok (.iload 4, 2) := by decide +kernel
theorem d_Mo_may_20 : decode c_Mo_may 20 = .ok (.invokevirtual 114, 3) := by decide +kernel
theorem d_Mo_may_23 : decode c_Mo_may 23 = .ok (.istore 5, 2) := by decide +kernel
theorem d_Mo_may_25 : decode c_Mo_may 25 = .ok (.iload_n 1, 1) := by decide +kernel
theorem d_Mo_may_26 : decode c_Mo_may 26 = .ok (.iload 5, 2) := by decide +kernel
theorem d_Mo_may_28 : decode c_Mo_may 28 = .ok (.iconst (-1), 1) := by decide +kernel
theorem d_Mo_may_29 : decode c_Mo_may 29 = .ok (.ixor, 1) := by decide +kernel
theorem d_Mo_may_30 : decode c_Mo_may 30 = .ok (.iand, 1) := by decide +kernel
theorem d_Mo_may_31 : decode c_Mo_may 31 = .ok (.istore 6, 2) := by decide +kernel
theorem d_Mo_may_33 : decode c_Mo_may 33 = .ok (.aload_n 0, 1) := by decide +kernel
theorem d_Mo_may_34 : decode c_Mo_may 34 = .ok (.iload 5, 2) := by decide +kernel
theorem d_Mo_may_36 : decode c_Mo_may 36 = .ok (.invokevirtual 87, 3) := by decide +kernel
theorem d_Mo_may_39 : decode c_Mo_may 39 = .ok (.i2l, 1) := by decide +kernel
theorem d_Mo_may_40 : decode c_Mo_may 40 = .ok (.lstore 7, 2) := by decide +kernel
theorem d_Mo_may_42 : decode c_Mo_may 42 = .ok (.aload_n 0, 1) := by decide +kernel
theorem d_Mo_may_43 : decode c_Mo_may 43 = .ok (.iload 6, 2) := by decide +kernel
theorem d_Mo_may_45 : decode c_Mo_may 45 = .ok (.invokevirtual 87, 3) := by decide +kernel
theorem d_Mo_may_48 : decode c_Mo_may 48 = .ok (.i2l, 1) := by decide +kernel
theorem d_Mo_may_49 : decode c_Mo_may 49 = .ok (.lstore 9, 2) := by decide +kernel
theorem d_Mo_may_51 : decode c_Mo_may 51 = .ok (.lload 7, 2) := by decide +kernel
theorem d_Mo_may_53 : decode c_Mo_may 53 = .ok (.lload 9, 2) := by decide +kernel
theorem d_Mo_may_55 : decode c_Mo_may 55 = .ok (.ladd, 1) := by decide +kernel
theorem d_Mo_may_56 : decode c_Mo_may 56 = .ok (.lstore 11, 2) := by decide +kernel
theorem d_Mo_may_58 : decode c_Mo_may 58 = .ok (.lload 7, 2) := by decide +kernel
theorem d_Mo_may_60 : decode c_Mo_may 60 = .ok (.aload_n 0, 1) := by decide +kernel
theorem d_Mo_may_61 : decode c_Mo_may 61 = .ok (.getfield 23, 3) := by decide +kernel
theorem d_Mo_may_64 : decode c_Mo_may 64 = .ok (.i2l, 1) := by decide +kernel
theorem d_Mo_may_65 : decode c_Mo_may 65 = .ok (.lcmp, 1) := by decide +kernel
theorem d_Mo_may_66 : decode c_Mo_may 66 = .ok (.ifCond .lt 14, 3) := by decide +kernel
theorem d_Mo_may_69 : decode c_Mo_may 69 = .ok (.lload 9, 2) := by decide +kernel
theorem d_Mo_may_71 : decode c_Mo_may 71 = .ok (.aload_n 0, 1) := by decide +kernel
theorem d_Mo_may_72 : decode c_Mo_may 72 = .ok (.getfield 23, 3) := by decide +kernel
theorem d_Mo_may_75 : decode c_Mo_may 75 = .ok (.i2l, 1) := by decide +kernel
theorem d_Mo_may_76 : decode c_Mo_may 76 = .ok (.lcmp, 1) := by decide +kernel
theorem d_Mo_may_77 : decode c_Mo_may 77 = .ok (.ifCond .ge 5, 3) := by decide +kernel
theorem d_Mo_may_80 : decode c_Mo_may 80 = .ok (.iconst 0, 1) := by decide +kernel
theorem d_Mo_may_81 : decode c_Mo_may 81 = .ok (.ireturn, 1) := by decide +kernel
theorem d_Mo_may_82 : decode c_Mo_may 82 = .ok (.aload_n 0, 1) := by decide +kernel
theorem d_Mo_may_83 : decode c_Mo_may 83 = .ok (.aload_n 0, 1) := by decide +kernel
theorem d_Mo_may_84 : decode c_Mo_may 84 = .ok (.iload 5, 2) := by decide +kernel
theorem d_Mo_may_86 : decode c_Mo_may 86 = .ok (.invokevirtual 118, 3) := by decide +kernel
theorem d_Mo_may_89 : decode c_Mo_may 89 = .ok (.lload 9, 2) := by decide +kernel
theorem d_Mo_may_91 : decode c_Mo_may 91 = .ok (.lmul, 1) := by decide +kernel
theorem d_Mo_may_92 : decode c_Mo_may 92 = .ok (.lload 11, 2) := by decide +kernel
theorem d_Mo_may_94 : decode c_Mo_may 94 = .ok (.lmul, 1) := by decide +kernel
theorem d_Mo_may_95 : decode c_Mo_may 95 = .ok (.aload_n 0, 1) := by decide +kernel
theorem d_Mo_may_96 : decode c_Mo_may 96 = .ok (.iload 6, 2) := by decide +kernel
theorem d_Mo_may_98 : decode c_Mo_may 98 = .ok (.invokevirtual 118, 3) := by decide +kernel
theorem d_Mo_may_101 : decode c_Mo_may 101 = .ok (.lload 7, 2) := by decide +kernel
theorem d_Mo_may_103 : decode c_Mo_may 103 = .ok (.lmul, 1) := by decide +kernel
theorem d_Mo_may_104 : decode c_Mo_may 104 = .ok (.lload 11, 2) := by decide +kernel
theorem d_Mo_may_106 : decode c_Mo_may 106 = .ok (.lmul, 1) := by decide +kernel
theorem d_Mo_may_107 : decode c_Mo_may 107 = .ok (.ladd, 1) := by decide +kernel
theorem d_Mo_may_108 : decode c_Mo_may 108 = .ok (.aload_n 0, 1) := by decide +kernel
theorem d_Mo_may_109 : decode c_Mo_may 109 = .ok (.iload_n 1, 1) := by decide +kernel
theorem d_Mo_may_110 : decode c_Mo_may 110 = .ok (.invokevirtual 118, 3) := by decide +kernel
theorem d_Mo_may_113 : decode c_Mo_may 113 = .ok (.lload 7, 2) := by decide +kernel
theorem d_Mo_may_115 : decode c_Mo_may 115 = .ok (.lmul, 1) := by decide +kernel
theorem d_Mo_may_116 : decode c_Mo_may 116 = .ok (.lload 9, 2) := by decide +kernel
theorem d_Mo_may_118 : decode c_Mo_may 118 = .ok (.lmul, 1) := by decide +kernel
theorem d_Mo_may_119 : decode c_Mo_may 119 = .ok (.lsub, 1) := by decide +kernel
theorem d_Mo_may_120 : decode c_Mo_may 120 = .ok (.putfield 122, 3) := by decide +kernel
theorem d_Mo_may_123 : decode c_Mo_may 123 = .ok (.aload_n 0, 1) := by decide +kernel
theorem d_Mo_may_124 : decode c_Mo_may 124 = .ok (.lload 7, 2) := by decide +kernel
theorem d_Mo_may_126 : decode c_Mo_may 126 = .ok (.lload 9, 2) := by decide +kernel
theorem d_Mo_may_128 : decode c_Mo_may 128 = .ok (.lmul, 1) := by decide +kernel
theorem d_Mo_may_129 : decode c_Mo_may 129 = .ok (.lload 11, 2) := by decide +kernel
theorem d_Mo_may_131 : decode c_Mo_may 131 = .ok (.lmul, 1) := by decide +kernel
theorem d_Mo_may_132 : decode c_Mo_may 132 = .ok (.putfield 126, 3) := by decide +kernel
theorem d_Mo_may_135 : decode c_Mo_may 135 = .ok (.iconst 1, 1) := by decide +kernel
theorem d_Mo_may_136 : decode c_Mo_may 136 = .ok (.ireturn, 1) := by decide +kernel
theorem d_Mo_isCut_0 : decode c_Mo_isCut 0 = .ok (.iload 4, 2) := by decide +kernel
theorem d_Mo_isCut_2 : decode c_Mo_isCut 2 = .ok (.iconst 1, 1) := by decide +kernel
theorem d_Mo_isCut_3 : decode c_Mo_isCut 3 = .ok (.if_icmp .ne 15, 3) := by decide +kernel
theorem d_Mo_isCut_6 : decode c_Mo_isCut 6 = .ok (.aload_n 0, 1) := by decide +kernel
theorem d_Mo_isCut_7 : decode c_Mo_isCut 7 = .ok (.iload_n 1, 1) := by decide +kernel
theorem d_Mo_isCut_8 : decode c_Mo_isCut 8 = .ok (.iload_n 2, 1) := by decide +kernel
theorem d_Mo_isCut_9 : decode c_Mo_isCut 9 = .ok (.iconst (-1), 1) := by decide +kernel
theorem d_Mo_isCut_10 : decode c_Mo_isCut 10 = .ok (.invokevirtual 98, 3) := by decide +kernel
theorem d_Mo_isCut_13 : decode c_Mo_isCut 13 = .ok (.ifCond .ne 5, 3) := by decide +kernel
theorem d_Mo_isCut_16 : decode c_Mo_isCut 16 = .ok (.iconst 0, 1) := by decide +kernel
theorem d_Mo_isCut_17 : decode c_Mo_isCut 17 = .ok (.ireturn, 1) := by decide +kernel
theorem d_Mo_isCut_18 : decode c_Mo_isCut 18 = .ok (.aload_n 0, 1) := by decide +kernel
theorem d_Mo_isCut_19 : decode c_Mo_isCut 19 = .ok (.getfield 7, 3) := by decide +kernel
theorem d_Mo_isCut_22 : decode c_Mo_isCut 22 = .ok (.iload_n 2, 1) := by decide +kernel
theorem d_Mo_isCut_23 : decode c_Mo_isCut 23 = .ok (.iaload, 1) := by decide +kernel
theorem d_Mo_isCut_24 : decode c_Mo_isCut 24 = .ok (.ifCond .ne 33, 3) := by decide +kernel
theorem d_Mo_isCut_27 : decode c_Mo_isCut 27 = .ok (.iload_n 3, 1) := by decide +kernel
theorem d_Mo_isCut_28 : decode c_Mo_isCut 28 = .ok (.ifCond .lt 27, 3) := by decide +kernel
theorem d_Mo_isCut_31 : decode c_Mo_isCut 31 = .ok (.iload_n 3, 1) := by decide +kernel
theorem d_Mo_isCut_32 : decode c_Mo_isCut 32 = .ok (.aload_n 0, 1) := by decide +kernel
theorem d_Mo_isCut_33 : decode c_Mo_isCut 33 = .ok (.iload_n 1, 1) := by decide +kernel
theorem d_Mo_isCut_34 : decode c_Mo_isCut 34 = .ok (.iload_n 2, 1) := by decide +kernel
theorem d_Mo_isCut_35 : decode c_Mo_isCut 35 = .ok (.invokevirtual 102, 3) := by decide +kernel
theorem d_Mo_isCut_38 : decode c_Mo_isCut 38 = .ok (.if_icmp .ge 17, 3) := by decide +kernel
theorem d_Mo_isCut_41 : decode c_Mo_isCut 41 = .ok (.aload_n 0, 1) := by decide +kernel
theorem d_Mo_isCut_42 : decode c_Mo_isCut 42 = .ok (.iload_n 1, 1) := by decide +kernel
theorem d_Mo_isCut_43 : decode c_Mo_isCut 43 = .ok (.iload_n 2, 1) := by decide +kernel
theorem d_Mo_isCut_44 : decode c_Mo_isCut 44 = .ok (.iload_n 3, 1) := by decide +kernel
theorem d_Mo_isCut_45 : decode c_Mo_isCut 45 = .ok (.invokevirtual 98, 3) := by decide +kernel
theorem d_Mo_isCut_48 : decode c_Mo_isCut 48 = .ok (.ifCond .eq 7, 3) := by decide +kernel
theorem d_Mo_isCut_51 : decode c_Mo_isCut 51 = .ok (.iconst 1, 1) := by decide +kernel
theorem d_Mo_isCut_52 : decode c_Mo_isCut 52 = .ok (.goto 4, 3) := by decide +kernel
theorem d_Mo_isCut_55 : decode c_Mo_isCut 55 = .ok (.iconst 0, 1) := by decide +kernel
theorem d_Mo_isCut_56 : decode c_Mo_isCut 56 = .ok (.ireturn, 1) := by decide +kernel
theorem d_Mo_isCut_57 : decode c_Mo_isCut 57 = .ok (.aload_n 0, 1) := by decide +kernel
theorem d_Mo_isCut_58 : decode c_Mo_isCut 58 = .ok (.iload_n 1, 1) := by decide +kernel
theorem d_Mo_isCut_59 : decode c_Mo_isCut 59 = .ok (.iload_n 2, 1) := by decide +kernel
theorem d_Mo_isCut_60 : decode c_Mo_isCut 60 = .ok (.invokevirtual 105, 3) := by decide +kernel
theorem d_Mo_isCut_63 : decode c_Mo_isCut 63 = .ok (.istore 5, 2) := by decide +kernel
theorem d_Mo_isCut_65 : decode c_Mo_isCut 65 = .ok (.iload_n 3, 1) := by decide +kernel
theorem d_Mo_isCut_66 : decode c_Mo_isCut 66 = .ok (.ifCond .le 39, 3) := by decide +kernel
theorem d_Mo_isCut_69 : decode c_Mo_isCut 69 = .ok (.iload_n 3, 1) := by decide +kernel
theorem d_Mo_isCut_70 : decode c_Mo_isCut 70 = .ok (.bipush 64, 2) := by decide +kernel
theorem d_Mo_isCut_72 : decode c_Mo_isCut 72 = .ok (.if_icmp .ge 33, 3) := by decide +kernel
theorem d_Mo_isCut_75 : decode c_Mo_isCut 75 = .ok (.iload_n 3, 1) := by decide +kernel
theorem d_Mo_isCut_76 : decode c_Mo_isCut 76 = .ok (.iload 5, 2) := by decide +kernel
theorem d_Mo_isCut_78 : decode c_Mo_isCut 78 = .ok (.iconst (-1), 1) := by decide +kernel
theorem d_Mo_isCut_79 : decode c_Mo_isCut 79 = .ok (.ixor, 1) := by decide +kernel
theorem d_Mo_isCut_80 : decode c_Mo_isCut 80 = .ok (.iand, 1) := by decide +kernel
theorem d_Mo_isCut_81 : decode c_Mo_isCut 81 = .ok (.ifCond .ne 24, 3) := by decide +kernel
theorem d_Mo_isCut_84 : decode c_Mo_isCut 84 = .ok (.iload_n 3, 1) := by decide +kernel
theorem d_Mo_isCut_85 : decode c_Mo_isCut 85 = .ok (.iload 5, 2) := by decide +kernel
theorem d_Mo_isCut_87 : decode c_Mo_isCut 87 = .ok (.if_icmp .eq 18, 3) := by decide +kernel
theorem d_Mo_isCut_90 : decode c_Mo_isCut 90 = .ok (.iload_n 3, 1) := by decide +kernel
theorem d_Mo_isCut_91 : decode c_Mo_isCut 91 = .ok (.iload 5, 2) := by decide +kernel
theorem d_Mo_isCut_93 : decode c_Mo_isCut 93 = .ok (.iand, 1) := by decide +kernel
theorem d_Mo_isCut_94 : decode c_Mo_isCut 94 = .ok (.iload 5, 2) := by decide +kernel
theorem d_Mo_isCut_96 : decode c_Mo_isCut 96 = .ok (.ineg, 1) := by decide +kernel
theorem d_Mo_isCut_97 : decode c_Mo_isCut 97 = .ok (.iand, 1) := by decide +kernel
theorem d_Mo_isCut_98 : decode c_Mo_isCut 98 = .ok (.ifCond .eq 7, 3) := by decide +kernel
theorem d_Mo_isCut_101 : decode c_Mo_isCut 101 = .ok (.iconst 1, 1) := by decide +kernel
theorem d_Mo_isCut_102 : decode c_Mo_isCut 102 = .ok (.goto 4, 3) := by decide +kernel
theorem d_Mo_isCut_105 : decode c_Mo_isCut 105 = .ok (.iconst 0, 1) := by decide +kernel
theorem d_Mo_isCut_106 : decode c_Mo_isCut 106 = .ok (.ireturn, 1) := by decide +kernel
theorem d_Mo_hasValue_0 : decode c_Mo_hasValue 0 = .ok (.iconst 0, 1) := by decide +kernel
theorem d_Mo_hasValue_1 : decode c_Mo_hasValue 1 = .ok (.istore 4, 2) := by decide +kernel
theorem d_Mo_hasValue_3 : decode c_Mo_hasValue 3 = .ok (.iload 4, 2) := by decide +kernel
theorem d_Mo_hasValue_5 : decode c_Mo_hasValue 5 = .ok (.aload_n 0, 1) := by decide +kernel
theorem d_Mo_hasValue_6 : decode c_Mo_hasValue 6 = .ok (.getfield 69, 3) := by decide +kernel
theorem d_Mo_hasValue_9 : decode c_Mo_hasValue 9 = .ok (.if_icmp .ge 36, 3) := by decide +kernel
theorem d_Mo_hasValue_12 : decode c_Mo_hasValue 12 = .ok (.iload_n 1, 1) := by decide +kernel
theorem d_Mo_hasValue_13 : decode c_Mo_hasValue 13 = .ok (.iload 4, 2) := by decide +kernel
theorem d_Mo_hasValue_15 : decode c_Mo_hasValue 15 = .ok (.ishr, 1) := by decide +kernel
theorem d_Mo_hasValue_16 : decode c_Mo_hasValue 16 = .ok (.iconst 1, 1) := by decide +kernel
theorem d_Mo_hasValue_17 : decode c_Mo_hasValue 17 = .ok (.iand, 1) := by decide +kernel
theorem d_Mo_hasValue_18 : decode c_Mo_hasValue 18 = .ok (.iconst 1, 1) := by decide +kernel
theorem d_Mo_hasValue_19 : decode c_Mo_hasValue 19 = .ok (.if_icmp .ne 20, 3) := by decide +kernel
theorem d_Mo_hasValue_22 : decode c_Mo_hasValue 22 = .ok (.aload_n 0, 1) := by decide +kernel
theorem d_Mo_hasValue_23 : decode c_Mo_hasValue 23 = .ok (.getfield 13, 3) := by decide +kernel
theorem d_Mo_hasValue_26 : decode c_Mo_hasValue 26 = .ok (.iconst 4, 1) := by decide +kernel
theorem d_Mo_hasValue_27 : decode c_Mo_hasValue 27 = .ok (.iload 4, 2) := by decide +kernel
theorem d_Mo_hasValue_29 : decode c_Mo_hasValue 29 = .ok (.imul, 1) := by decide +kernel
theorem d_Mo_hasValue_30 : decode c_Mo_hasValue 30 = .ok (.iload_n 2, 1) := by decide +kernel
theorem d_Mo_hasValue_31 : decode c_Mo_hasValue 31 = .ok (.iadd, 1) := by decide +kernel
theorem d_Mo_hasValue_32 : decode c_Mo_hasValue 32 = .ok (.iaload, 1) := by decide +kernel
theorem d_Mo_hasValue_33 : decode c_Mo_hasValue 33 = .ok (.iload_n 3, 1) := by decide +kernel
theorem d_Mo_hasValue_34 : decode c_Mo_hasValue 34 = .ok (.if_icmp .ne 5, 3) := by decide +kernel
theorem d_Mo_hasValue_37 : decode c_Mo_hasValue 37 = .ok (.iconst 1, 1) := by decide +kernel
theorem d_Mo_hasValue_38 : decode c_Mo_hasValue 38 = .ok (.ireturn, 1) := by decide +kernel
theorem d_Mo_hasValue_39 : decode c_Mo_hasValue 39 = .ok (.iinc 4 1, 3) := by decide +kernel
theorem d_Mo_hasValue_42 : decode c_Mo_hasValue 42 = .ok (.goto (-39), 3) := by decide +kernel
theorem d_Mo_hasValue_45 : decode c_Mo_hasValue 45 = .ok (.iconst 0, 1) := by decide +kernel
theorem d_Mo_hasValue_46 : decode c_Mo_hasValue 46 = .ok (.ireturn, 1) := by decide +kernel
theorem d_Mo_greatest_0 : decode c_Mo_greatest 0 = .ok (.iconst (-1), 1) := by decide +kernel
theorem d_Mo_greatest_1 : decode c_Mo_greatest 1 = .ok (.istore_n 3, 1) := by decide +kernel
theorem d_Mo_greatest_2 : decode c_Mo_greatest 2 = .ok (.iconst 0, 1) := by decide +kernel
theorem d_Mo_greatest_3 : decode c_Mo_greatest 3 = .ok (.istore 4, 2) := by decide +kernel
theorem d_Mo_greatest_5 : decode c_Mo_greatest 5 = .ok (.iload 4, 2) := by decide +kernel
theorem d_Mo_greatest_7 : decode c_Mo_greatest 7 = .ok (.aload_n 0, 1) := by decide +kernel
theorem d_Mo_greatest_8 : decode c_Mo_greatest 8 = .ok (.getfield 69, 3) := by decide +kernel
theorem d_Mo_greatest_11 : decode c_Mo_greatest 11 = .ok (.if_icmp .ge 50, 3) := by decide +kernel
theorem d_Mo_greatest_14 : decode c_Mo_greatest 14 = .ok (.iload_n 1, 1) := by decide +kernel
theorem d_Mo_greatest_15 : decode c_Mo_greatest 15 = .ok (.iload 4, 2) := by decide +kernel
theorem d_Mo_greatest_17 : decode c_Mo_greatest 17 = .ok (.ishr, 1) := by decide +kernel
theorem d_Mo_greatest_18 : decode c_Mo_greatest 18 = .ok (.iconst 1, 1) := by decide +kernel
theorem d_Mo_greatest_19 : decode c_Mo_greatest 19 = .ok (.iand, 1) := by decide +kernel
theorem d_Mo_greatest_20 : decode c_Mo_greatest 20 = .ok (.iconst 1, 1) := by decide +kernel
theorem d_Mo_greatest_21 : decode c_Mo_greatest 21 = .ok (.if_icmp .ne 32, 3) := by decide +kernel
theorem d_Mo_greatest_24 : decode c_Mo_greatest 24 = .ok (.aload_n 0, 1) := by decide +kernel
theorem d_Mo_greatest_25 : decode c_Mo_greatest 25 = .ok (.getfield 13, 3) := by decide +kernel
theorem d_Mo_greatest_28 : decode c_Mo_greatest 28 = .ok (.iconst 4, 1) := by decide +kernel
theorem d_Mo_greatest_29 : decode c_Mo_greatest 29 = .ok (.iload 4, 2) := by decide +kernel
theorem d_Mo_greatest_31 : decode c_Mo_greatest 31 = .ok (.imul, 1) := by decide +kernel
theorem d_Mo_greatest_32 : decode c_Mo_greatest 32 = .ok (.iload_n 2, 1) := by decide +kernel
theorem d_Mo_greatest_33 : decode c_Mo_greatest 33 = .ok (.iadd, 1) := by decide +kernel
theorem d_Mo_greatest_34 : decode c_Mo_greatest 34 = .ok (.iaload, 1) := by decide +kernel
theorem d_Mo_greatest_35 : decode c_Mo_greatest 35 = .ok (.iload_n 3, 1) := by decide +kernel
theorem d_Mo_greatest_36 : decode c_Mo_greatest 36 = .ok (.if_icmp .le 17, 3) := by decide +kernel
theorem d_Mo_greatest_39 : decode c_Mo_greatest 39 = .ok (.aload_n 0, 1) := by decide +kernel
theorem d_Mo_greatest_40 : decode c_Mo_greatest 40 = .ok (.getfield 13, 3) := by decide +kernel
theorem d_Mo_greatest_43 : decode c_Mo_greatest 43 = .ok (.iconst 4, 1) := by decide +kernel
theorem d_Mo_greatest_44 : decode c_Mo_greatest 44 = .ok (.iload 4, 2) := by decide +kernel
theorem d_Mo_greatest_46 : decode c_Mo_greatest 46 = .ok (.imul, 1) := by decide +kernel
theorem d_Mo_greatest_47 : decode c_Mo_greatest 47 = .ok (.iload_n 2, 1) := by decide +kernel
theorem d_Mo_greatest_48 : decode c_Mo_greatest 48 = .ok (.iadd, 1) := by decide +kernel
theorem d_Mo_greatest_49 : decode c_Mo_greatest 49 = .ok (.iaload, 1) := by decide +kernel
theorem d_Mo_greatest_50 : decode c_Mo_greatest 50 = .ok (.goto 4, 3) := by decide +kernel
theorem d_Mo_greatest_53 : decode c_Mo_greatest 53 = .ok (.iload_n 3, 1) := by decide +kernel
theorem d_Mo_greatest_54 : decode c_Mo_greatest 54 = .ok (.istore_n 3, 1) := by decide +kernel
theorem d_Mo_greatest_55 : decode c_Mo_greatest 55 = .ok (.iinc 4 1, 3) := by decide +kernel
theorem d_Mo_greatest_58 : decode c_Mo_greatest 58 = .ok (.goto (-53), 3) := by decide +kernel
theorem d_Mo_greatest_61 : decode c_Mo_greatest 61 = .ok (.iload_n 3, 1) := by decide +kernel
theorem d_Mo_greatest_62 : decode c_Mo_greatest 62 = .ok (.ireturn, 1) := by decide +kernel
theorem d_Mo_kindsOf_0 : decode c_Mo_kindsOf 0 = .ok (.iconst 0, 1) := by decide +kernel
theorem d_Mo_kindsOf_1 : decode c_Mo_kindsOf 1 = .ok (.istore_n 3, 1) := by decide +kernel
theorem d_Mo_kindsOf_2 : decode c_Mo_kindsOf 2 = .ok (.iconst 0, 1) := by decide +kernel
theorem d_Mo_kindsOf_3 : decode c_Mo_kindsOf 3 = .ok (.istore 4, 2) := by decide +kernel
theorem d_Mo_kindsOf_5 : decode c_Mo_kindsOf 5 = .ok (.iload 4, 2) := by decide +kernel
theorem d_Mo_kindsOf_7 : decode c_Mo_kindsOf 7 = .ok (.aload_n 0, 1) := by decide +kernel
theorem d_Mo_kindsOf_8 : decode c_Mo_kindsOf 8 = .ok (.getfield 69, 3) := by decide +kernel
theorem d_Mo_kindsOf_11 : decode c_Mo_kindsOf 11 = .ok (.if_icmp .ge 53, 3) := by decide +kernel
theorem d_Mo_kindsOf_14 : decode c_Mo_kindsOf 14 = .ok (.iload_n 3, 1) := by decide +kernel
theorem d_Mo_kindsOf_15 : decode c_Mo_kindsOf 15 = .ok (.iload_n 1, 1) := by decide +kernel
theorem d_Mo_kindsOf_16 : decode c_Mo_kindsOf 16 = .ok (.iload 4, 2) := by decide +kernel
theorem d_Mo_kindsOf_18 : decode c_Mo_kindsOf 18 = .ok (.ishr, 1) := by decide +kernel
theorem d_Mo_kindsOf_19 : decode c_Mo_kindsOf 19 = .ok (.iconst 1, 1) := by decide +kernel
theorem d_Mo_kindsOf_20 : decode c_Mo_kindsOf 20 = .ok (.iand, 1) := by decide +kernel
theorem d_Mo_kindsOf_21 : decode c_Mo_kindsOf 21 = .ok (.iconst 1, 1) := by decide +kernel
theorem d_Mo_kindsOf_22 : decode c_Mo_kindsOf 22 = .ok (.if_icmp .ne 33, 3) := by decide +kernel
theorem d_Mo_kindsOf_25 : decode c_Mo_kindsOf 25 = .ok (.aload_n 0, 1) := by decide +kernel
theorem d_Mo_kindsOf_26 : decode c_Mo_kindsOf 26 = .ok (.getfield 13, 3) := by decide +kernel
theorem d_Mo_kindsOf_29 : decode c_Mo_kindsOf 29 = .ok (.iconst 4, 1) := by decide +kernel
theorem d_Mo_kindsOf_30 : decode c_Mo_kindsOf 30 = .ok (.iload 4, 2) := by decide +kernel
theorem d_Mo_kindsOf_32 : decode c_Mo_kindsOf 32 = .ok (.imul, 1) := by decide +kernel
theorem d_Mo_kindsOf_33 : decode c_Mo_kindsOf 33 = .ok (.iload_n 2, 1) := by decide +kernel
theorem d_Mo_kindsOf_34 : decode c_Mo_kindsOf 34 = .ok (.iadd, 1) := by decide +kernel
theorem d_Mo_kindsOf_35 : decode c_Mo_kindsOf 35 = .ok (.iaload, 1) := by decide +kernel
theorem d_Mo_kindsOf_36 : decode c_Mo_kindsOf 36 = .ok (.ifCond .lt 19, 3) := by decide +kernel
theorem d_Mo_kindsOf_39 : decode c_Mo_kindsOf 39 = .ok (.iconst 1, 1) := by decide +kernel
theorem d_Mo_kindsOf_40 : decode c_Mo_kindsOf 40 = .ok (.aload_n 0, 1) := by decide +kernel
theorem d_Mo_kindsOf_41 : decode c_Mo_kindsOf 41 = .ok (.getfield 13, 3) := by decide +kernel
theorem d_Mo_kindsOf_44 : decode c_Mo_kindsOf 44 = .ok (.iconst 4, 1) := by decide +kernel
theorem d_Mo_kindsOf_45 : decode c_Mo_kindsOf 45 = .ok (.iload 4, 2) := by decide +kernel
theorem d_Mo_kindsOf_47 : decode c_Mo_kindsOf 47 = .ok (.imul, 1) := by decide +kernel
theorem d_Mo_kindsOf_48 : decode c_Mo_kindsOf 48 = .ok (.iload_n 2, 1) := by decide +kernel
theorem d_Mo_kindsOf_49 : decode c_Mo_kindsOf 49 = .ok (.iadd, 1) := by decide +kernel
theorem d_Mo_kindsOf_50 : decode c_Mo_kindsOf 50 = .ok (.iaload, 1) := by decide +kernel
theorem d_Mo_kindsOf_51 : decode c_Mo_kindsOf 51 = .ok (.ishl, 1) := by decide +kernel
theorem d_Mo_kindsOf_52 : decode c_Mo_kindsOf 52 = .ok (.goto 4, 3) := by decide +kernel
theorem d_Mo_kindsOf_55 : decode c_Mo_kindsOf 55 = .ok (.iconst 0, 1) := by decide +kernel
theorem d_Mo_kindsOf_56 : decode c_Mo_kindsOf 56 = .ok (.ior, 1) := by decide +kernel
theorem d_Mo_kindsOf_57 : decode c_Mo_kindsOf 57 = .ok (.istore_n 3, 1) := by decide +kernel
theorem d_Mo_kindsOf_58 : decode c_Mo_kindsOf 58 = .ok (.iinc 4 1, 3) := by decide +kernel
theorem d_Mo_kindsOf_61 : decode c_Mo_kindsOf 61 = .ok (.goto (-56), 3) := by decide +kernel
theorem d_Mo_kindsOf_64 : decode c_Mo_kindsOf 64 = .ok (.iload_n 3, 1) := by decide +kernel
theorem d_Mo_kindsOf_65 : decode c_Mo_kindsOf 65 = .ok (.ireturn, 1) := by decide +kernel
theorem d_Mo_leftOf_0 : decode c_Mo_leftOf 0 = .ok (.iconst 0, 1) := by decide +kernel
theorem d_Mo_leftOf_1 : decode c_Mo_leftOf 1 = .ok (.istore 5, 2) := by decide +kernel
theorem d_Mo_leftOf_3 : decode c_Mo_leftOf 3 = .ok (.iconst 0, 1) := by decide +kernel
theorem d_Mo_leftOf_4 : decode c_Mo_leftOf 4 = .ok (.istore 6, 2) := by decide +kernel
theorem d_Mo_leftOf_6 : decode c_Mo_leftOf 6 = .ok (.iload 6, 2) := by decide +kernel
theorem d_Mo_leftOf_8 : decode c_Mo_leftOf 8 = .ok (.aload_n 0, 1) := by decide +kernel
theorem d_Mo_leftOf_9 : decode c_Mo_leftOf 9 = .ok (.getfield 69, 3) := by decide +kernel
theorem d_Mo_leftOf_12 : decode c_Mo_leftOf 12 = .ok (.if_icmp .ge 45, 3) := by decide +kernel
theorem d_Mo_leftOf_15 : decode c_Mo_leftOf 15 = .ok (.iload 5, 2) := by decide +kernel
theorem d_Mo_leftOf_17 : decode c_Mo_leftOf 17 = .ok (.iload_n 1, 1) := by decide +kernel
theorem d_Mo_leftOf_18 : decode c_Mo_leftOf 18 = .ok (.iload 6, 2) := by decide +kernel
theorem d_Mo_leftOf_20 : decode c_Mo_leftOf 20 = .ok (.ishr, 1) := by decide +kernel
theorem d_Mo_leftOf_21 : decode c_Mo_leftOf 21 = .ok (.iconst 1, 1) := by decide +kernel
theorem d_Mo_leftOf_22 : decode c_Mo_leftOf 22 = .ok (.iand, 1) := by decide +kernel
theorem d_Mo_leftOf_23 : decode c_Mo_leftOf 23 = .ok (.iconst 1, 1) := by decide +kernel
theorem d_Mo_leftOf_24 : decode c_Mo_leftOf 24 = .ok (.if_icmp .ne 23, 3) := by decide +kernel
theorem d_Mo_leftOf_27 : decode c_Mo_leftOf 27 = .ok (.aload_n 0, 1) := by decide +kernel
theorem d_Mo_leftOf_28 : decode c_Mo_leftOf 28 = .ok (.iload 6, 2) := by decide +kernel
theorem d_Mo_leftOf_30 : decode c_Mo_leftOf 30 = .ok (.iload_n 2, 1) := by decide +kernel
theorem d_Mo_leftOf_31 : decode c_Mo_leftOf 31 = .ok (.iload_n 3, 1) := by decide +kernel
theorem d_Mo_leftOf_32 : decode c_Mo_leftOf 32 = .ok (.iload 4, 2) := by decide +kernel
theorem d_Mo_leftOf_34 : decode c_Mo_leftOf 34 = .ok (.invokevirtual 108, 3) := by decide +kernel
theorem d_Mo_leftOf_37 : decode c_Mo_leftOf 37 = .ok (.ifCond .eq 10, 3) := by decide +kernel
theorem d_Mo_leftOf_40 : decode c_Mo_leftOf 40 = .ok (.iconst 1, 1) := by decide +kernel
theorem d_Mo_leftOf_41 : decode c_Mo_leftOf 41 = .ok (.iload 6, 2) := by decide +kernel
theorem d_Mo_leftOf_43 : decode c_Mo_leftOf 43 = .ok (.ishl, 1) := by decide +kernel
theorem d_Mo_leftOf_44 : decode c_Mo_leftOf 44 = .ok (.goto 4, 3) := by decide +kernel
theorem d_Mo_leftOf_47 : decode c_Mo_leftOf 47 = .ok (.iconst 0, 1) := by decide +kernel
theorem d_Mo_leftOf_48 : decode c_Mo_leftOf 48 = .ok (.ior, 1) := by decide +kernel
theorem d_Mo_leftOf_49 : decode c_Mo_leftOf 49 = .ok (.istore 5, 2) := by decide +kernel
theorem d_Mo_leftOf_51 : decode c_Mo_leftOf 51 = .ok (.iinc 6 1, 3) := by decide +kernel
theorem d_Mo_leftOf_54 : decode c_Mo_leftOf 54 = .ok (.goto (-48), 3) := by decide +kernel
theorem d_Mo_leftOf_57 : decode c_Mo_leftOf 57 = .ok (.iload 5, 2) := by decide +kernel
theorem d_Mo_leftOf_59 : decode c_Mo_leftOf 59 = .ok (.ireturn, 1) := by decide +kernel
theorem d_Mo_goesLeft_0 : decode c_Mo_goesLeft 0 = .ok (.aload_n 0, 1) := by decide +kernel
theorem d_Mo_goesLeft_1 : decode c_Mo_goesLeft 1 = .ok (.getfield 13, 3) := by decide +kernel
theorem d_Mo_goesLeft_4 : decode c_Mo_goesLeft 4 = .ok (.iconst 4, 1) := by decide +kernel
theorem d_Mo_goesLeft_5 : decode c_Mo_goesLeft 5 = .ok (.iload_n 1, 1) := by decide +kernel
theorem d_Mo_goesLeft_6 : decode c_Mo_goesLeft 6 = .ok (.imul, 1) := by decide +kernel
theorem d_Mo_goesLeft_7 : decode c_Mo_goesLeft 7 = .ok (.iload_n 2, 1) := by decide +kernel
theorem d_Mo_goesLeft_8 : decode c_Mo_goesLeft 8 = .ok (.iadd, 1) := by decide +kernel
theorem d_Mo_goesLeft_9 : decode c_Mo_goesLeft 9 = .ok (.iaload, 1) := by decide +kernel
theorem d_Mo_goesLeft_10 : decode c_Mo_goesLeft 10 = .ok (.istore 5, 2) := by decide +kernel
theorem d_Mo_goesLeft_12 : decode c_Mo_goesLeft 12 = .ok (.aload_n 0, 1) := by decide +kernel
theorem d_Mo_goesLeft_13 : decode c_Mo_goesLeft 13 = .ok (.iload 5, 2) := by decide +kernel
theorem d_Mo_goesLeft_15 : decode c_Mo_goesLeft 15 = .ok (.iload_n 2, 1) := by decide +kernel
theorem d_Mo_goesLeft_16 : decode c_Mo_goesLeft 16 = .ok (.iload_n 3, 1) := by decide +kernel
theorem d_Mo_goesLeft_17 : decode c_Mo_goesLeft 17 = .ok (.iload 4, 2) := by decide +kernel
theorem d_Mo_goesLeft_19 : decode c_Mo_goesLeft 19 = .ok (.invokevirtual 94, 3) := by decide +kernel
theorem d_Mo_goesLeft_22 : decode c_Mo_goesLeft 22 = .ok (.ireturn, 1) := by decide +kernel
theorem d_Mo_isLeft_0 : decode c_Mo_isLeft 0 = .ok (.iload_n 1, 1) := by decide +kernel
theorem d_Mo_isLeft_1 : decode c_Mo_isLeft 1 = .ok (.ifCond .ge 16, 3) := by decide +kernel
theorem d_Mo_isLeft_4 : decode c_Mo_isLeft 4 = .ok (.iload 4, 2) := by decide +kernel
theorem d_Mo_isLeft_6 : decode c_Mo_isLeft 6 = .ok (.ifCond .ne 7, 3) := by decide +kernel
theorem d_Mo_isLeft_9 : decode c_Mo_isLeft 9 = .ok (.iconst 1, 1) := by decide +kernel
theorem d_Mo_isLeft_10 : decode c_Mo_isLeft 10 = .ok (.goto 43, 3) := by decide +kernel
theorem d_Mo_isLeft_13 : decode c_Mo_isLeft 13 = .ok (.iconst 0, 1) := by decide +kernel
theorem d_Mo_isLeft_14 : decode c_Mo_isLeft 14 = .ok (.goto 39, 3) := by decide +kernel
theorem d_Mo_isLeft_17 : decode c_Mo_isLeft 17 = .ok (.aload_n 0, 1) := by decide +kernel
theorem d_Mo_isLeft_18 : decode c_Mo_isLeft 18 = .ok (.getfield 7, 3) := by decide +kernel
theorem d_Mo_isLeft_21 : decode c_Mo_isLeft 21 = .ok (.iload_n 2, 1) := by decide +kernel
theorem d_Mo_isLeft_22 : decode c_Mo_isLeft 22 = .ok (.iaload, 1) := by decide +kernel
theorem d_Mo_isLeft_23 : decode c_Mo_isLeft 23 = .ok (.ifCond .ne 16, 3) := by decide +kernel
theorem d_Mo_isLeft_26 : decode c_Mo_isLeft 26 = .ok (.iload_n 1, 1) := by decide +kernel
theorem d_Mo_isLeft_27 : decode c_Mo_isLeft 27 = .ok (.iload_n 3, 1) := by decide +kernel
theorem d_Mo_isLeft_28 : decode c_Mo_isLeft 28 = .ok (.if_icmp .gt 7, 3) := by decide +kernel
theorem d_Mo_isLeft_31 : decode c_Mo_isLeft 31 = .ok (.iconst 1, 1) := by decide +kernel
theorem d_Mo_isLeft_32 : decode c_Mo_isLeft 32 = .ok (.goto 21, 3) := by decide +kernel
theorem d_Mo_isLeft_35 : decode c_Mo_isLeft 35 = .ok (.iconst 0, 1) := by decide +kernel
theorem d_Mo_isLeft_36 : decode c_Mo_isLeft 36 = .ok (.goto 17, 3) := by decide +kernel
theorem d_Mo_isLeft_39 : decode c_Mo_isLeft 39 = .ok (.iload_n 3, 1) := by decide +kernel
theorem d_Mo_isLeft_40 : decode c_Mo_isLeft 40 = .ok (.iload_n 1, 1) := by decide +kernel
theorem d_Mo_isLeft_41 : decode c_Mo_isLeft 41 = .ok (.ishr, 1) := by decide +kernel
theorem d_Mo_isLeft_42 : decode c_Mo_isLeft 42 = .ok (.iconst 1, 1) := by decide +kernel
theorem d_Mo_isLeft_43 : decode c_Mo_isLeft 43 = .ok (.iand, 1) := by decide +kernel
theorem d_Mo_isLeft_44 : decode c_Mo_isLeft 44 = .ok (.iconst 1, 1) := by decide +kernel
theorem d_Mo_isLeft_45 : decode c_Mo_isLeft 45 = .ok (.if_icmp .ne 7, 3) := by decide +kernel
theorem d_Mo_isLeft_48 : decode c_Mo_isLeft 48 = .ok (.iconst 1, 1) := by decide +kernel
theorem d_Mo_isLeft_49 : decode c_Mo_isLeft 49 = .ok (.goto 4, 3) := by decide +kernel
theorem d_Mo_isLeft_52 : decode c_Mo_isLeft 52 = .ok (.iconst 0, 1) := by decide +kernel
theorem d_Mo_isLeft_53 : decode c_Mo_isLeft 53 = .ok (.ireturn, 1) := by decide +kernel
theorem d_Mo_squares_0 : decode c_Mo_squares 0 = .ok (.lconst 0, 1) := by decide +kernel
theorem d_Mo_squares_1 : decode c_Mo_squares 1 = .ok (.lstore_n 2, 1) := by decide +kernel
theorem d_Mo_squares_2 : decode c_Mo_squares 2 = .ok (.iconst 0, 1) := by decide +kernel
theorem d_Mo_squares_3 : decode c_Mo_squares 3 = .ok (.istore 4, 2) := by decide +kernel
theorem d_Mo_squares_5 : decode c_Mo_squares 5 = .ok (.iload 4, 2) := by decide +kernel
theorem d_Mo_squares_7 : decode c_Mo_squares 7 = .ok (.iconst 3, 1) := by decide +kernel
theorem d_Mo_squares_8 : decode c_Mo_squares 8 = .ok (.if_icmp .ge 27, 3) := by decide +kernel
theorem d_Mo_squares_11 : decode c_Mo_squares 11 = .ok (.aload_n 0, 1) := by decide +kernel
theorem d_Mo_squares_12 : decode c_Mo_squares 12 = .ok (.iload_n 1, 1) := by decide +kernel
theorem d_Mo_squares_13 : decode c_Mo_squares 13 = .ok (.iload 4, 2) := by decide +kernel
theorem d_Mo_squares_15 : decode c_Mo_squares 15 = .ok (.invokevirtual 83, 3) := by decide +kernel
theorem d_Mo_squares_18 : decode c_Mo_squares 18 = .ok (.i2l, 1) := by decide +kernel
theorem d_Mo_squares_19 : decode c_Mo_squares 19 = .ok (.lstore 5, 2) := by decide +kernel
theorem d_Mo_squares_21 : decode c_Mo_squares 21 = .ok (.lload_n 2, 1) := by decide +kernel
theorem d_Mo_squares_22 : decode c_Mo_squares 22 = .ok (.lload 5, 2) := by decide +kernel
theorem d_Mo_squares_24 : decode c_Mo_squares 24 = .ok (.lload 5, 2) := by decide +kernel
theorem d_Mo_squares_26 : decode c_Mo_squares 26 = .ok (.lmul, 1) := by decide +kernel
theorem d_Mo_squares_27 : decode c_Mo_squares 27 = .ok (.ladd, 1) := by decide +kernel
theorem d_Mo_squares_28 : decode c_Mo_squares 28 = .ok (.lstore_n 2, 1) := by decide +kernel
theorem d_Mo_squares_29 : decode c_Mo_squares 29 = .ok (.iinc 4 1, 3) := by decide +kernel
theorem d_Mo_squares_32 : decode c_Mo_squares 32 = .ok (.goto (-27), 3) := by decide +kernel
theorem d_Mo_squares_35 : decode c_Mo_squares 35 = .ok (.lload_n 2, 1) := by decide +kernel
theorem d_Mo_squares_36 : decode c_Mo_squares 36 = .ok (.lreturn, 1) := by decide +kernel
theorem d_Mo_findStages_0 : decode c_Mo_findStages 0 = .ok (.iconst 0, 1) := by decide +kernel
theorem d_Mo_findStages_1 : decode c_Mo_findStages 1 = .ok (.istore_n 1, 1) := by decide +kernel
theorem d_Mo_findStages_2 : decode c_Mo_findStages 2 = .ok (.iload_n 1, 1) := by decide +kernel
theorem d_Mo_findStages_3 : decode c_Mo_findStages 3 = .ok (.aload_n 0, 1) := by decide +kernel
theorem d_Mo_findStages_4 : decode c_Mo_findStages 4 = .ok (.getfield 147, 3) := by decide +kernel
theorem d_Mo_findStages_7 : decode c_Mo_findStages 7 = .ok (.if_icmp .ge 29, 3) := by decide +kernel
theorem d_Mo_findStages_10 : decode c_Mo_findStages 10 = .ok (.aload_n 0, 1) := by decide +kernel
theorem d_Mo_findStages_11 : decode c_Mo_findStages 11 = .ok (.getfield 57, 3) := by decide +kernel
theorem d_Mo_findStages_14 : decode c_Mo_findStages 14 = .ok (.iload_n 1, 1) := by decide +kernel
theorem d_Mo_findStages_15 : decode c_Mo_findStages 15 = .ok (.aload_n 0, 1) := by decide +kernel
theorem d_Mo_findStages_16 : decode c_Mo_findStages 16 = .ok (.getfield 41, 3) := by decide +kernel
theorem d_Mo_findStages_19 : decode c_Mo_findStages 19 = .ok (.iload_n 1, 1) := by decide +kernel
theorem d_Mo_findStages_20 : decode c_Mo_findStages 20 = .ok (.iaload, 1) := by decide +kernel
theorem d_Mo_findStages_21 : decode c_Mo_findStages 21 = .ok (.ifCond .ge 7, 3) := by decide +kernel
theorem d_Mo_findStages_24 : decode c_Mo_findStages 24 = .ok (.iconst 1, 1) := by decide +kernel
theorem d_Mo_findStages_25 : decode c_Mo_findStages 25 = .ok (.goto 4, 3) := by decide +kernel
theorem d_Mo_findStages_28 : decode c_Mo_findStages 28 = .ok (.iconst 0, 1) := by decide +kernel
theorem d_Mo_findStages_29 : decode c_Mo_findStages 29 = .ok (.iastore, 1) := by decide +kernel
theorem d_Mo_findStages_30 : decode c_Mo_findStages 30 = .ok (.iinc 1 1, 3) := by decide +kernel
theorem d_Mo_findStages_33 : decode c_Mo_findStages 33 = .ok (.goto (-31), 3) := by decide +kernel
theorem d_Mo_findStages_36 : decode c_Mo_findStages 36 = .ok (.aload_n 0, 1) := by decide +kernel
theorem d_Mo_findStages_37 : decode c_Mo_findStages 37 = .ok (.getfield 60, 3) := by decide +kernel
theorem d_Mo_findStages_40 : decode c_Mo_findStages 40 = .ok (.iconst 0, 1) := by decide +kernel
theorem d_Mo_findStages_41 : decode c_Mo_findStages 41 = .ok (.lconst 0, 1) := by decide +kernel
theorem d_Mo_findStages_42 : decode c_Mo_findStages 42 = .ok (.lastore, 1) := by decide +kernel
theorem d_Mo_findStages_43 : decode c_Mo_findStages 43 = .ok (.aload_n 0, 1) := by decide +kernel
theorem d_Mo_findStages_44 : decode c_Mo_findStages 44 = .ok (.getfield 63, 3) := by decide +kernel
theorem d_Mo_findStages_47 : decode c_Mo_findStages 47 = .ok (.iconst 0, 1) := by decide +kernel
theorem d_Mo_findStages_48 : decode c_Mo_findStages 48 = .ok (.lconst 1, 1) := by decide +kernel
theorem d_Mo_findStages_49 : decode c_Mo_findStages 49 = .ok (.lastore, 1) := by decide +kernel
theorem d_Mo_findStages_50 : decode c_Mo_findStages 50 = .ok (.aload_n 0, 1) := by decide +kernel
theorem d_Mo_findStages_51 : decode c_Mo_findStages 51 = .ok (.iconst 1, 1) := by decide +kernel
theorem d_Mo_findStages_52 : decode c_Mo_findStages 52 = .ok (.putfield 200, 3) := by decide +kernel
theorem d_Mo_findStages_55 : decode c_Mo_findStages 55 = .ok (.aload_n 0, 1) := by decide +kernel
theorem d_Mo_findStages_56 : decode c_Mo_findStages 56 = .ok (.getfield 57, 3) := by decide +kernel
theorem d_Mo_findStages_59 : decode c_Mo_findStages 59 = .ok (.bipush 64, 2) := by decide +kernel
theorem d_Mo_findStages_61 : decode c_Mo_findStages 61 = .ok (.aload_n 0, 1) := by decide +kernel
theorem d_Mo_findStages_62 : decode c_Mo_findStages 62 = .ok (.getfield 200, 3) := by decide +kernel
theorem d_Mo_findStages_65 : decode c_Mo_findStages 65 = .ok (.iconst 1, 1) := by decide +kernel
theorem d_Mo_findStages_66 : decode c_Mo_findStages 66 = .ok (.isub, 1) := by decide +kernel
theorem d_Mo_findStages_67 : decode c_Mo_findStages 67 = .ok (.imul, 1) := by decide +kernel
theorem d_Mo_findStages_68 : decode c_Mo_findStages 68 = .ok (.iaload, 1) := by decide +kernel
theorem d_Mo_findStages_69 : decode c_Mo_findStages 69 = .ok (.ifCond .ne 20, 3) := by decide +kernel
theorem d_Mo_findStages_72 : decode c_Mo_findStages 72 = .ok (.aload_n 0, 1) := by decide +kernel
theorem d_Mo_findStages_73 : decode c_Mo_findStages 73 = .ok (.invokevirtual 203, 3) := by decide +kernel
theorem d_Mo_findStages_76 : decode c_Mo_findStages 76 = .ok (.aload_n 0, 1) := by decide +kernel
theorem d_Mo_findStages_77 : decode c_Mo_findStages 77 = .ok (.dup, 1) := by decide +kernel
theorem d_Mo_findStages_78 : decode c_Mo_findStages 78 = .ok (.getfield 200, 3) := by decide +kernel
theorem d_Mo_findStages_81 : decode c_Mo_findStages 81 = .ok (.iconst 1, 1) := by decide +kernel
theorem d_Mo_findStages_82 : decode c_Mo_findStages 82 = .ok (.iadd, 1) := by decide +kernel
theorem d_Mo_findStages_83 : decode c_Mo_findStages 83 = .ok (.putfield 200, 3) := by decide +kernel
theorem d_Mo_findStages_86 : decode c_Mo_findStages 86 = .ok (.goto (-31), 3) := by decide +kernel
theorem d_Mo_findStages_89 : decode c_Mo_findStages 89 = .ok (.return_, 1) := by decide +kernel
theorem d_Mo_nextStage_0 : decode c_Mo_nextStage 0 = .ok (.aload_n 0, 1) := by decide +kernel
theorem d_Mo_nextStage_1 : decode c_Mo_nextStage 1 = .ok (.getfield 200, 3) := by decide +kernel
theorem d_Mo_nextStage_4 : decode c_Mo_nextStage 4 = .ok (.iconst 1, 1) := by decide +kernel
theorem d_Mo_nextStage_5 : decode c_Mo_nextStage 5 = .ok (.isub, 1) := by decide +kernel
theorem d_Mo_nextStage_6 : decode c_Mo_nextStage 6 = .ok (.istore_n 1, 1) := by decide +kernel
theorem d_Mo_nextStage_7 : decode c_Mo_nextStage 7 = .ok (.ldc2_w 206, 3) := by decide +kernel
theorem d_Mo_nextStage_10 : decode c_Mo_nextStage 10 = .ok (.lstore_n 2, 1) := by decide +kernel
theorem d_Mo_nextStage_11 : decode c_Mo_nextStage 11 = .ok (.lconst 1, 1) := by decide +kernel
theorem d_Mo_nextStage_12 : decode c_Mo_nextStage 12 = .ok (.lstore 4, 2) := by decide +kernel
theorem d_Mo_nextStage_14 : decode c_Mo_nextStage 14 = .ok (.iconst 0, 1) := by decide +kernel
theorem d_Mo_nextStage_15 : decode c_Mo_nextStage 15 = .ok (.istore 6, 2) := by decide +kernel
theorem d_Mo_nextStage_17 : decode c_Mo_nextStage 17 = .ok (.iload 6, 2) := by decide +kernel
theorem d_Mo_nextStage_19 : decode c_Mo_nextStage 19 = .ok (.aload_n 0, 1) := by decide +kernel
theorem d_Mo_nextStage_20 : decode c_Mo_nextStage 20 = .ok (.getfield 147, 3) := by decide +kernel
theorem d_Mo_nextStage_23 : decode c_Mo_nextStage 23 = .ok (.if_icmp .ge 88, 3) := by decide +kernel
theorem d_Mo_nextStage_26 : decode c_Mo_nextStage 26 = .ok (.aload_n 0, 1) := by decide +kernel
theorem d_Mo_nextStage_27 : decode c_Mo_nextStage 27 = .ok (.getfield 57, 3) := by decide +kernel
theorem d_Mo_nextStage_30 : decode c_Mo_nextStage 30 = .ok (.bipush 64, 2) := by decide +kernel
theorem d_Mo_nextStage_32 : decode c_Mo_nextStage 32 = .ok (.iload_n 1, 1) := by decide +kernel
theorem d_Mo_nextStage_33 : decode c_Mo_nextStage 33 = .ok (.imul, 1) := by decide +kernel
theorem d_Mo_nextStage_34 : decode c_Mo_nextStage 34 = .ok (.iload 6, 2) := by decide +kernel
theorem d_Mo_nextStage_36 : decode c_Mo_nextStage 36 = .ok (.iadd, 1) := by decide +kernel
theorem d_Mo_nextStage_37 : decode c_Mo_nextStage 37 = .ok (.iaload, 1) := by decide +kernel
theorem d_Mo_nextStage_38 : decode c_Mo_nextStage 38 = .ok (.ifCond .eq 6, 3) := by decide +kernel
theorem d_Mo_nextStage_41 : decode c_Mo_nextStage 41 = .ok (.goto 64, 3) := by decide +kernel
theorem d_Mo_nextStage_44 : decode c_Mo_nextStage 44 = .ok (.aload_n 0, 1) := by decide +kernel
theorem d_Mo_nextStage_45 : decode c_Mo_nextStage 45 = .ok (.iload_n 1, 1) := by decide +kernel
theorem d_Mo_nextStage_46 : decode c_Mo_nextStage 46 = .ok (.iload 6, 2) := by decide +kernel
theorem d_Mo_nextStage_48 : decode c_Mo_nextStage 48 = .ok (.invokevirtual 208, 3) := by decide +kernel
theorem d_Mo_nextStage_51 : decode c_Mo_nextStage 51 = .ok (.aload_n 0, 1) := by decide +kernel
theorem d_Mo_nextStage_52 : decode c_Mo_nextStage 52 = .ok (.aload_n 0, 1) := by decide +kernel
theorem d_Mo_nextStage_53 : decode c_Mo_nextStage 53 = .ok (.getfield 26, 3) := by decide +kernel
theorem d_Mo_nextStage_56 : decode c_Mo_nextStage 56 = .ok (.iload 6, 2) := by decide +kernel
theorem d_Mo_nextStage_58 : decode c_Mo_nextStage 58 = .ok (.iaload, 1) := by decide +kernel
theorem d_Mo_nextStage_59 : decode c_Mo_nextStage 59 = .ok (.invokevirtual 150, 3) := by decide +kernel
theorem d_Mo_nextStage_62 : decode c_Mo_nextStage 62 = .ok (.aload_n 0, 1) := by decide +kernel
theorem d_Mo_nextStage_63 : decode c_Mo_nextStage 63 = .ok (.getfield 197, 3) := by decide +kernel
theorem d_Mo_nextStage_66 : decode c_Mo_nextStage 66 = .ok (.isub, 1) := by decide +kernel
theorem d_Mo_nextStage_67 : decode c_Mo_nextStage 67 = .ok (.i2l, 1) := by decide +kernel
theorem d_Mo_nextStage_68 : decode c_Mo_nextStage 68 = .ok (.lstore 7, 2) := by decide +kernel
theorem d_Mo_nextStage_70 : decode c_Mo_nextStage 70 = .ok (.aload_n 0, 1) := by decide +kernel
theorem d_Mo_nextStage_71 : decode c_Mo_nextStage 71 = .ok (.getfield 194, 3) := by decide +kernel
theorem d_Mo_nextStage_74 : decode c_Mo_nextStage 74 = .ok (.iconst 1, 1) := by decide +kernel
theorem d_Mo_nextStage_75 : decode c_Mo_nextStage 75 = .ok (.isub, 1) := by decide +kernel
theorem d_Mo_nextStage_76 : decode c_Mo_nextStage 76 = .ok (.i2l, 1) := by decide +kernel
theorem d_Mo_nextStage_77 : decode c_Mo_nextStage 77 = .ok (.lstore 9, 2) := by decide +kernel
theorem d_Mo_nextStage_79 : decode c_Mo_nextStage 79 = .ok (.lload_n 2, 1) := by decide +kernel
theorem d_Mo_nextStage_80 : decode c_Mo_nextStage 80 = .ok (.lconst 0, 1) := by decide +kernel
theorem d_Mo_nextStage_81 : decode c_Mo_nextStage 81 = .ok (.lcmp, 1) := by decide +kernel
theorem d_Mo_nextStage_82 : decode c_Mo_nextStage 82 = .ok (.ifCond .lt 16, 3) := by decide +kernel
theorem d_Mo_nextStage_85 : decode c_Mo_nextStage 85 = .ok (.lload 7, 2) := by decide +kernel
theorem d_Mo_nextStage_87 : decode c_Mo_nextStage 87 = .ok (.lload 4, 2) := by decide +kernel
theorem d_Mo_nextStage_89 : decode c_Mo_nextStage 89 = .ok (.lmul, 1) := by decide +kernel
theorem d_Mo_nextStage_90 : decode c_Mo_nextStage 90 = .ok (.lload_n 2, 1) := by decide +kernel
theorem d_Mo_nextStage_91 : decode c_Mo_nextStage 91 = .ok (.lload 9, 2) := by decide +kernel
theorem d_Mo_nextStage_93 : decode c_Mo_nextStage 93 = .ok (.lmul, 1) := by decide +kernel
theorem d_Mo_nextStage_94 : decode c_Mo_nextStage 94 = .ok (.lcmp, 1) := by decide +kernel
theorem d_Mo_nextStage_95 : decode c_Mo_nextStage 95 = .ok (.ifCond .ge 10, 3) := by decide +kernel
theorem d_Mo_nextStage_98 : decode c_Mo_nextStage 98 = .ok (.lload 7, 2) := by decide +kernel
theorem d_Mo_nextStage_100 : decode c_Mo_nextStage 100 = .ok (.lstore_n 2, 1) := by decide +kernel
theorem d_Mo_nextStage_101 : decode c_Mo_nextStage 101 = .ok (.lload 9, 2) := by decide +kernel
theorem d_Mo_nextStage_103 : decode c_Mo_nextStage 103 = .ok (.lstore 4, 2) := by decide +kernel
theorem d_Mo_nextStage_105 : decode c_Mo_nextStage 105 = .ok (.iinc 6 1, 3) := by decide +kernel
theorem d_Mo_nextStage_108 : decode c_Mo_nextStage 108 = .ok (.goto (-91), 3) := by decide +kernel
theorem d_Mo_nextStage_111 : decode c_Mo_nextStage 111 = .ok (.aload_n 0, 1) := by decide +kernel
theorem d_Mo_nextStage_112 : decode c_Mo_nextStage 112 = .ok (.getfield 60, 3) := by decide +kernel
theorem d_Mo_nextStage_115 : decode c_Mo_nextStage 115 = .ok (.aload_n 0, 1) := by decide +kernel
theorem d_Mo_nextStage_116 : decode c_Mo_nextStage 116 = .ok (.getfield 200, 3) := by decide +kernel
theorem d_Mo_nextStage_119 : decode c_Mo_nextStage 119 = .ok (.lload_n 2, 1) := by decide +kernel
theorem d_Mo_nextStage_120 : decode c_Mo_nextStage 120 = .ok (.lastore, 1) := by decide +kernel
theorem d_Mo_nextStage_121 : decode c_Mo_nextStage 121 = .ok (.aload_n 0, 1) := by decide +kernel
theorem d_Mo_nextStage_122 : decode c_Mo_nextStage 122 = .ok (.getfield 63, 3) := by decide +kernel
theorem d_Mo_nextStage_125 : decode c_Mo_nextStage 125 = .ok (.aload_n 0, 1) := by decide +kernel
theorem d_Mo_nextStage_126 : decode c_Mo_nextStage 126 = .ok (.getfield 200, 3) := by decide +kernel
theorem d_Mo_nextStage_129 : decode c_Mo_nextStage 129 = .ok (.lload 4, 2) := by decide +kernel
theorem d_Mo_nextStage_131 : decode c_Mo_nextStage 131 = .ok (.lastore, 1) := by decide +kernel
theorem d_Mo_nextStage_132 : decode c_Mo_nextStage 132 = .ok (.iconst 0, 1) := by decide +kernel
theorem d_Mo_nextStage_133 : decode c_Mo_nextStage 133 = .ok (.istore 6, 2) := by decide +kernel
theorem d_Mo_nextStage_135 : decode c_Mo_nextStage 135 = .ok (.iload 6, 2) := by decide +kernel
theorem d_Mo_nextStage_137 : decode c_Mo_nextStage 137 = .ok (.aload_n 0, 1) := by decide +kernel
theorem d_Mo_nextStage_138 : decode c_Mo_nextStage 138 = .ok (.getfield 147, 3) := by decide +kernel
theorem d_Mo_nextStage_141 : decode c_Mo_nextStage 141 = .ok (.if_icmp .ge 92, 3) := by decide +kernel
theorem d_Mo_nextStage_144 : decode c_Mo_nextStage 144 = .ok (.aload_n 0, 1) := by decide +kernel
theorem d_Mo_nextStage_145 : decode c_Mo_nextStage 145 = .ok (.getfield 57, 3) := by decide +kernel
theorem d_Mo_nextStage_148 : decode c_Mo_nextStage 148 = .ok (.bipush 64, 2) := by decide +kernel
theorem d_Mo_nextStage_150 : decode c_Mo_nextStage 150 = .ok (.iload_n 1, 1) := by decide +kernel
theorem d_Mo_nextStage_151 : decode c_Mo_nextStage 151 = .ok (.imul, 1) := by decide +kernel
theorem d_Mo_nextStage_152 : decode c_Mo_nextStage 152 = .ok (.iload 6, 2) := by decide +kernel
theorem d_Mo_nextStage_154 : decode c_Mo_nextStage 154 = .ok (.iadd, 1) := by decide +kernel
theorem d_Mo_nextStage_155 : decode c_Mo_nextStage 155 = .ok (.iaload, 1) := by decide +kernel
theorem d_Mo_nextStage_156 : decode c_Mo_nextStage 156 = .ok (.istore 7, 2) := by decide +kernel
theorem d_Mo_nextStage_158 : decode c_Mo_nextStage 158 = .ok (.iload 7, 2) := by decide +kernel
theorem d_Mo_nextStage_160 : decode c_Mo_nextStage 160 = .ok (.ifCond .ne 50, 3) := by decide +kernel
theorem d_Mo_nextStage_163 : decode c_Mo_nextStage 163 = .ok (.aload_n 0, 1) := by decide +kernel
theorem d_Mo_nextStage_164 : decode c_Mo_nextStage 164 = .ok (.iload_n 1, 1) := by decide +kernel
theorem d_Mo_nextStage_165 : decode c_Mo_nextStage 165 = .ok (.iload 6, 2) := by decide +kernel
theorem d_Mo_nextStage_167 : decode c_Mo_nextStage 167 = .ok (.invokevirtual 208, 3) := by decide +kernel
theorem d_Mo_nextStage_170 : decode c_Mo_nextStage 170 = .ok (.aload_n 0, 1) := by decide +kernel
theorem d_Mo_nextStage_171 : decode c_Mo_nextStage 171 = .ok (.aload_n 0, 1) := by decide +kernel
theorem d_Mo_nextStage_172 : decode c_Mo_nextStage 172 = .ok (.getfield 26, 3) := by decide +kernel
theorem d_Mo_nextStage_175 : decode c_Mo_nextStage 175 = .ok (.iload 6, 2) := by decide +kernel
theorem d_Mo_nextStage_177 : decode c_Mo_nextStage 177 = .ok (.iaload, 1) := by decide +kernel
theorem d_Mo_nextStage_178 : decode c_Mo_nextStage 178 = .ok (.invokevirtual 150, 3) := by decide +kernel
theorem d_Mo_nextStage_181 : decode c_Mo_nextStage 181 = .ok (.aload_n 0, 1) := by decide +kernel
theorem d_Mo_nextStage_182 : decode c_Mo_nextStage 182 = .ok (.getfield 197, 3) := by decide +kernel
theorem d_Mo_nextStage_185 : decode c_Mo_nextStage 185 = .ok (.isub, 1) := by decide +kernel
theorem d_Mo_nextStage_186 : decode c_Mo_nextStage 186 = .ok (.i2l, 1) := by decide +kernel
theorem d_Mo_nextStage_187 : decode c_Mo_nextStage 187 = .ok (.lload 4, 2) := by decide +kernel
theorem d_Mo_nextStage_189 : decode c_Mo_nextStage 189 = .ok (.lmul, 1) := by decide +kernel
theorem d_Mo_nextStage_190 : decode c_Mo_nextStage 190 = .ok (.lload_n 2, 1) := by decide +kernel
theorem d_Mo_nextStage_191 : decode c_Mo_nextStage 191 = .ok (.aload_n 0, 1) := by decide +kernel
theorem d_Mo_nextStage_192 : decode c_Mo_nextStage 192 = .ok (.getfield 194, 3) := by decide +kernel
theorem d_Mo_nextStage_195 : decode c_Mo_nextStage 195 = .ok (.iconst 1, 1) := by decide +kernel
theorem d_Mo_nextStage_196 : decode c_Mo_nextStage 196 = .ok (.isub, 1) := by decide +kernel
theorem d_Mo_nextStage_197 : decode c_Mo_nextStage 197 = .ok (.i2l, 1) := by decide +kernel
theorem d_Mo_nextStage_198 : decode c_Mo_nextStage 198 = .ok (.lmul, 1) := by decide +kernel
theorem d_Mo_nextStage_199 : decode c_Mo_nextStage 199 = .ok (.lcmp, 1) := by decide +kernel
theorem d_Mo_nextStage_200 : decode c_Mo_nextStage 200 = .ok (.ifCond .ne 7, 3) := by decide +kernel
theorem d_Mo_nextStage_203 : decode c_Mo_nextStage 203 = .ok (.iconst 1, 1) := by decide +kernel
theorem d_Mo_nextStage_204 : decode c_Mo_nextStage 204 = .ok (.goto 4, 3) := by decide +kernel
theorem d_Mo_nextStage_207 : decode c_Mo_nextStage 207 = .ok (.iconst 0, 1) := by decide +kernel
theorem d_Mo_nextStage_208 : decode c_Mo_nextStage 208 = .ok (.istore 7, 2) := by decide +kernel
theorem d_Mo_nextStage_210 : decode c_Mo_nextStage 210 = .ok (.aload_n 0, 1) := by decide +kernel
theorem d_Mo_nextStage_211 : decode c_Mo_nextStage 211 = .ok (.getfield 57, 3) := by decide +kernel
theorem d_Mo_nextStage_214 : decode c_Mo_nextStage 214 = .ok (.bipush 64, 2) := by decide +kernel
theorem d_Mo_nextStage_216 : decode c_Mo_nextStage 216 = .ok (.aload_n 0, 1) := by decide +kernel
theorem d_Mo_nextStage_217 : decode c_Mo_nextStage 217 = .ok (.getfield 200, 3) := by decide +kernel
theorem d_Mo_nextStage_220 : decode c_Mo_nextStage 220 = .ok (.imul, 1) := by decide +kernel
theorem d_Mo_nextStage_221 : decode c_Mo_nextStage 221 = .ok (.iload 6, 2) := by decide +kernel
theorem d_Mo_nextStage_223 : decode c_Mo_nextStage 223 = .ok (.iadd, 1) := by decide +kernel
theorem d_Mo_nextStage_224 : decode c_Mo_nextStage 224 = .ok (.iload 7, 2) := by decide +kernel
theorem d_Mo_nextStage_226 : decode c_Mo_nextStage 226 = .ok (.iastore, 1) := by decide +kernel
theorem d_Mo_nextStage_227 : decode c_Mo_nextStage 227 = .ok (.iinc 6 1, 3) := by decide +kernel
theorem d_Mo_nextStage_230 : decode c_Mo_nextStage 230 = .ok (.goto (-95), 3) := by decide +kernel
theorem d_Mo_nextStage_233 : decode c_Mo_nextStage 233 = .ok (.iconst 0, 1) := by decide +kernel
theorem d_Mo_nextStage_234 : decode c_Mo_nextStage 234 = .ok (.istore 6, 2) := by decide +kernel
theorem d_Mo_nextStage_236 : decode c_Mo_nextStage 236 = .ok (.iload 6, 2) := by decide +kernel
theorem d_Mo_nextStage_238 : decode c_Mo_nextStage 238 = .ok (.aload_n 0, 1) := by decide +kernel
theorem d_Mo_nextStage_239 : decode c_Mo_nextStage 239 = .ok (.getfield 147, 3) := by decide +kernel
theorem d_Mo_nextStage_242 : decode c_Mo_nextStage 242 = .ok (.if_icmp .ge 79, 3) := by decide +kernel
theorem d_Mo_nextStage_245 : decode c_Mo_nextStage 245 = .ok (.aload_n 0, 1) := by decide +kernel
theorem d_Mo_nextStage_246 : decode c_Mo_nextStage 246 = .ok (.getfield 41, 3) := by decide +kernel
theorem d_Mo_nextStage_249 : decode c_Mo_nextStage 249 = .ok (.iload 6, 2) := by decide +kernel
theorem d_Mo_nextStage_251 : decode c_Mo_nextStage 251 = .ok (.iaload, 1) := by decide +kernel
theorem d_Mo_nextStage_252 : decode c_Mo_nextStage 252 = .ok (.ifCond .lt 63, 3) := by decide +kernel
theorem d_Mo_nextStage_255 : decode c_Mo_nextStage 255 = .ok (.aload_n 0, 1) := by decide +kernel
theorem d_Mo_nextStage_256 : decode c_Mo_nextStage 256 = .ok (.getfield 57, 3) := by decide +kernel
theorem d_Mo_nextStage_259 : decode c_Mo_nextStage 259 = .ok (.bipush 64, 2) := by decide +kernel
theorem d_Mo_nextStage_261 : decode c_Mo_nextStage 261 = .ok (.aload_n 0, 1) := by decide +kernel
theorem d_Mo_nextStage_262 : decode c_Mo_nextStage 262 = .ok (.getfield 200, 3) := by decide +kernel
theorem d_Mo_nextStage_265 : decode c_Mo_nextStage 265 = .ok (.imul, 1) := by decide +kernel
theorem d_Mo_nextStage_266 : decode c_Mo_nextStage 266 = .ok (.iload 6, 2) := by decide +kernel
theorem d_Mo_nextStage_268 : decode c_Mo_nextStage 268 = .ok (.iadd, 1) := by decide +kernel
theorem d_Mo_nextStage_269 : decode c_Mo_nextStage 269 = .ok (.iaload, 1) := by decide +kernel
theorem d_Mo_nextStage_270 : decode c_Mo_nextStage 270 = .ok (.ifCond .eq 45, 3) := by decide +kernel
theorem d_Mo_nextStage_273 : decode c_Mo_nextStage 273 = .ok (.aload_n 0, 1) := by decide +kernel
theorem d_Mo_nextStage_274 : decode c_Mo_nextStage 274 = .ok (.getfield 57, 3) := by decide +kernel
theorem d_Mo_nextStage_277 : decode c_Mo_nextStage 277 = .ok (.bipush 64, 2) := by decide +kernel
theorem d_Mo_nextStage_279 : decode c_Mo_nextStage 279 = .ok (.aload_n 0, 1) := by decide +kernel
theorem d_Mo_nextStage_280 : decode c_Mo_nextStage 280 = .ok (.getfield 200, 3) := by decide +kernel
theorem d_Mo_nextStage_283 : decode c_Mo_nextStage 283 = .ok (.imul, 1) := by decide +kernel
theorem d_Mo_nextStage_284 : decode c_Mo_nextStage 284 = .ok (.aload_n 0, 1) := by decide +kernel
theorem d_Mo_nextStage_285 : decode c_Mo_nextStage 285 = .ok (.getfield 41, 3) := by decide +kernel
theorem d_Mo_nextStage_288 : decode c_Mo_nextStage 288 = .ok (.iload 6, 2) := by decide +kernel
theorem d_Mo_nextStage_290 : decode c_Mo_nextStage 290 = .ok (.iaload, 1) := by decide +kernel
theorem d_Mo_nextStage_291 : decode c_Mo_nextStage 291 = .ok (.iadd, 1) := by decide +kernel
theorem d_Mo_nextStage_292 : decode c_Mo_nextStage 292 = .ok (.iconst 2, 1) := by decide +kernel
theorem d_Mo_nextStage_293 : decode c_Mo_nextStage 293 = .ok (.iastore, 1) := by decide +kernel
theorem d_Mo_nextStage_294 : decode c_Mo_nextStage 294 = .ok (.aload_n 0, 1) := by decide +kernel
theorem d_Mo_nextStage_295 : decode c_Mo_nextStage 295 = .ok (.getfield 57, 3) := by decide +kernel
theorem d_Mo_nextStage_298 : decode c_Mo_nextStage 298 = .ok (.bipush 64, 2) := by decide +kernel
theorem d_Mo_nextStage_300 : decode c_Mo_nextStage 300 = .ok (.aload_n 0, 1) := by decide +kernel
theorem d_Mo_nextStage_301 : decode c_Mo_nextStage 301 = .ok (.getfield 200, 3) := by decide +kernel
theorem d_Mo_nextStage_304 : decode c_Mo_nextStage 304 = .ok (.imul, 1) := by decide +kernel
theorem d_Mo_nextStage_305 : decode c_Mo_nextStage 305 = .ok (.aload_n 0, 1) := by decide +kernel
theorem d_Mo_nextStage_306 : decode c_Mo_nextStage 306 = .ok (.getfield 44, 3) := by decide +kernel
theorem d_Mo_nextStage_309 : decode c_Mo_nextStage 309 = .ok (.iload 6, 2) := by decide +kernel
theorem d_Mo_nextStage_311 : decode c_Mo_nextStage 311 = .ok (.iaload, 1) := by decide +kernel
theorem d_Mo_nextStage_312 : decode c_Mo_nextStage 312 = .ok (.iadd, 1) := by decide +kernel
theorem d_Mo_nextStage_313 : decode c_Mo_nextStage 313 = .ok (.iconst 2, 1) := by decide +kernel
theorem d_Mo_nextStage_314 : decode c_Mo_nextStage 314 = .ok (.iastore, 1) := by decide +kernel
theorem d_Mo_nextStage_315 : decode c_Mo_nextStage 315 = .ok (.iinc 6 1, 3) := by decide +kernel
theorem d_Mo_nextStage_318 : decode c_Mo_nextStage 318 = .ok (.goto (-82), 3) := by decide +kernel
theorem d_Mo_nextStage_321 : decode c_Mo_nextStage 321 = .ok (.return_, 1) := by decide +kernel
theorem d_Mo_look_0 : decode c_Mo_look 0 = .ok (.aload_n 0, 1) := by decide +kernel
theorem d_Mo_look_1 : decode c_Mo_look 1 = .ok (.iconst 0, 1) := by decide +kernel
theorem d_Mo_look_2 : decode c_Mo_look 2 = .ok (.putfield 194, 3) := by decide +kernel
theorem d_Mo_look_5 : decode c_Mo_look 5 = .ok (.aload_n 0, 1) := by decide +kernel
theorem d_Mo_look_6 : decode c_Mo_look 6 = .ok (.iconst 0, 1) := by decide +kernel
theorem d_Mo_look_7 : decode c_Mo_look 7 = .ok (.putfield 197, 3) := by decide +kernel
theorem d_Mo_look_10 : decode c_Mo_look 10 = .ok (.iconst 1, 1) := by decide +kernel
theorem d_Mo_look_11 : decode c_Mo_look 11 = .ok (.istore_n 3, 1) := by decide +kernel
theorem d_Mo_look_12 : decode c_Mo_look 12 = .ok (.aload_n 0, 1) := by decide +kernel
theorem d_Mo_look_13 : decode c_Mo_look 13 = .ok (.getfield 66, 3) := by decide +kernel
theorem d_Mo_look_16 : decode c_Mo_look 16 = .ok (.iconst 0, 1) := by decide +kernel
theorem d_Mo_look_17 : decode c_Mo_look 17 = .ok (.iload_n 2, 1) := by decide +kernel
theorem d_Mo_look_18 : decode c_Mo_look 18 = .ok (.iastore, 1) := by decide +kernel
theorem d_Mo_look_19 : decode c_Mo_look 19 = .ok (.iload_n 3, 1) := by decide +kernel
theorem d_Mo_look_20 : decode c_Mo_look 20 = .ok (.ifCond .le 97, 3) := by decide +kernel
theorem d_Mo_look_23 : decode c_Mo_look 23 = .ok (.iinc 3 (-1), 3) := by decide +kernel
theorem d_Mo_look_26 : decode c_Mo_look 26 = .ok (.aload_n 0, 1) := by decide +kernel
theorem d_Mo_look_27 : decode c_Mo_look 27 = .ok (.getfield 66, 3) := by decide +kernel
theorem d_Mo_look_30 : decode c_Mo_look 30 = .ok (.iload_n 3, 1) := by decide +kernel
theorem d_Mo_look_31 : decode c_Mo_look 31 = .ok (.iaload, 1) := by decide +kernel
theorem d_Mo_look_32 : decode c_Mo_look 32 = .ok (.istore 4, 2) := by decide +kernel
theorem d_Mo_look_34 : decode c_Mo_look 34 = .ok (.aload_n 0, 1) := by decide +kernel
theorem d_Mo_look_35 : decode c_Mo_look 35 = .ok (.getfield 57, 3) := by decide +kernel
theorem d_Mo_look_38 : decode c_Mo_look 38 = .ok (.bipush 64, 2) := by decide +kernel
theorem d_Mo_look_40 : decode c_Mo_look 40 = .ok (.iload_n 1, 1) := by decide +kernel
theorem d_Mo_look_41 : decode c_Mo_look 41 = .ok (.imul, 1) := by decide +kernel
theorem d_Mo_look_42 : decode c_Mo_look 42 = .ok (.iload 4, 2) := by decide +kernel
theorem d_Mo_look_44 : decode c_Mo_look 44 = .ok (.iadd, 1) := by decide +kernel
theorem d_Mo_look_45 : decode c_Mo_look 45 = .ok (.iaload, 1) := by decide +kernel
theorem d_Mo_look_46 : decode c_Mo_look 46 = .ok (.iconst 1, 1) := by decide +kernel
theorem d_Mo_look_47 : decode c_Mo_look 47 = .ok (.if_icmp .ne 36, 3) := by decide +kernel
theorem d_Mo_look_50 : decode c_Mo_look 50 = .ok (.aload_n 0, 1) := by decide +kernel
theorem d_Mo_look_51 : decode c_Mo_look 51 = .ok (.dup, 1) := by decide +kernel
theorem d_Mo_look_52 : decode c_Mo_look 52 = .ok (.getfield 194, 3) := by decide +kernel
theorem d_Mo_look_55 : decode c_Mo_look 55 = .ok (.iconst 1, 1) := by decide +kernel
theorem d_Mo_look_56 : decode c_Mo_look 56 = .ok (.iadd, 1) := by decide +kernel
theorem d_Mo_look_57 : decode c_Mo_look 57 = .ok (.putfield 194, 3) := by decide +kernel
theorem d_Mo_look_60 : decode c_Mo_look 60 = .ok (.aload_n 0, 1) := by decide +kernel
theorem d_Mo_look_61 : decode c_Mo_look 61 = .ok (.dup, 1) := by decide +kernel
theorem d_Mo_look_62 : decode c_Mo_look 62 = .ok (.getfield 197, 3) := by decide +kernel
theorem d_Mo_look_65 : decode c_Mo_look 65 = .ok (.aload_n 0, 1) := by decide +kernel
theorem d_Mo_look_66 : decode c_Mo_look 66 = .ok (.aload_n 0, 1) := by decide +kernel
theorem d_Mo_look_67 : decode c_Mo_look 67 = .ok (.getfield 26, 3) := by decide +kernel
theorem d_Mo_look_70 : decode c_Mo_look 70 = .ok (.iload 4, 2) := by decide +kernel
theorem d_Mo_look_72 : decode c_Mo_look 72 = .ok (.iaload, 1) := by decide +kernel
theorem d_Mo_look_73 : decode c_Mo_look 73 = .ok (.invokevirtual 150, 3) := by decide +kernel
theorem d_Mo_look_76 : decode c_Mo_look 76 = .ok (.iadd, 1) := by decide +kernel
theorem d_Mo_look_77 : decode c_Mo_look 77 = .ok (.putfield 197, 3) := by decide +kernel
theorem d_Mo_look_80 : decode c_Mo_look 80 = .ok (.goto 34, 3) := by decide +kernel
theorem d_Mo_look_83 : decode c_Mo_look 83 = .ok (.aload_n 0, 1) := by decide +kernel
theorem d_Mo_look_84 : decode c_Mo_look 84 = .ok (.getfield 66, 3) := by decide +kernel
theorem d_Mo_look_87 : decode c_Mo_look 87 = .ok (.iload_n 3, 1) := by decide +kernel
theorem d_Mo_look_88 : decode c_Mo_look 88 = .ok (.aload_n 0, 1) := by decide +kernel
theorem d_Mo_look_89 : decode c_Mo_look 89 = .ok (.getfield 41, 3) := by decide +kernel
theorem d_Mo_look_92 : decode c_Mo_look 92 = .ok (.iload 4, 2) := by decide +kernel
theorem d_Mo_look_94 : decode c_Mo_look 94 = .ok (.iaload, 1) := by decide +kernel
theorem d_Mo_look_95 : decode c_Mo_look 95 = .ok (.iastore, 1) := by decide +kernel
theorem d_Mo_look_96 : decode c_Mo_look 96 = .ok (.aload_n 0, 1) := by decide +kernel
theorem d_Mo_look_97 : decode c_Mo_look 97 = .ok (.getfield 66, 3) := by decide +kernel
theorem d_Mo_look_100 : decode c_Mo_look 100 = .ok (.iload_n 3, 1) := by decide +kernel
theorem d_Mo_look_101 : decode c_Mo_look 101 = .ok (.iconst 1, 1) := by decide +kernel
theorem d_Mo_look_102 : decode c_Mo_look 102 = .ok (.iadd, 1) := by decide +kernel
theorem d_Mo_look_103 : decode c_Mo_look 103 = .ok (.aload_n 0, 1) := by decide +kernel
theorem d_Mo_look_104 : decode c_Mo_look 104 = .ok (.getfield 44, 3) := by decide +kernel
theorem d_Mo_look_107 : decode c_Mo_look 107 = .ok (.iload 4, 2) := by decide +kernel
theorem d_Mo_look_109 : decode c_Mo_look 109 = .ok (.iaload, 1) := by decide +kernel
theorem d_Mo_look_110 : decode c_Mo_look 110 = .ok (.iastore, 1) := by decide +kernel
theorem d_Mo_look_111 : decode c_Mo_look 111 = .ok (.iinc 3 2, 3) := by decide +kernel
theorem d_Mo_look_114 : decode c_Mo_look 114 = .ok (.goto (-95), 3) := by decide +kernel
theorem d_Mo_look_117 : decode c_Mo_look 117 = .ok (.return_, 1) := by decide +kernel
theorem d_Mo_node_0 : decode c_Mo_node 0 = .ok (.aload_n 0, 1) := by decide +kernel
theorem d_Mo_node_1 : decode c_Mo_node 1 = .ok (.invokevirtual 173, 3) := by decide +kernel
theorem d_Mo_node_4 : decode c_Mo_node 4 = .ok (.aload_n 0, 1) := by decide +kernel
theorem d_Mo_node_5 : decode c_Mo_node 5 = .ok (.iload_n 1, 1) := by decide +kernel
theorem d_Mo_node_6 : decode c_Mo_node 6 = .ok (.invokevirtual 176, 3) := by decide +kernel
theorem d_Mo_node_9 : decode c_Mo_node 9 = .ok (.ifCond .ne 5, 3) := by decide +kernel
theorem d_Mo_node_12 : decode c_Mo_node 12 = .ok (.iconst (-1), 1) := by decide +kernel
theorem d_Mo_node_13 : decode c_Mo_node 13 = .ok (.ireturn, 1) := by decide +kernel
theorem d_Mo_node_14 : decode c_Mo_node 14 = .ok (.iload_n 2, 1) := by decide +kernel
theorem d_Mo_node_15 : decode c_Mo_node 15 = .ok (.ifCond .lt 9, 3) := by decide +kernel
theorem d_Mo_node_18 : decode c_Mo_node 18 = .ok (.iload_n 2, 1) := by decide +kernel
theorem d_Mo_node_19 : decode c_Mo_node 19 = .ok (.bipush 8, 2) := by decide +kernel
theorem d_Mo_node_21 : decode c_Mo_node 21 = .ok (.if_icmp .le 6, 3) := by decide +kernel
theorem d_Mo_node_24 : decode c_Mo_node 24 = .ok (.bipush (-2), 2) := by decide +kernel
theorem d_Mo_node_26 : decode c_Mo_node 26 = .ok (.ireturn, 1) := by decide +kernel
theorem d_Mo_node_27 : decode c_Mo_node 27 = .ok (.iload_n 2, 1) := by decide +kernel
theorem d_Mo_node_28 : decode c_Mo_node 28 = .ok (.iconst 5, 1) := by decide +kernel
theorem d_Mo_node_29 : decode c_Mo_node 29 = .ok (.if_icmp .ge 15, 3) := by decide +kernel
theorem d_Mo_node_32 : decode c_Mo_node 32 = .ok (.aload_n 0, 1) := by decide +kernel
theorem d_Mo_node_33 : decode c_Mo_node 33 = .ok (.getfield 41, 3) := by decide +kernel
theorem d_Mo_node_36 : decode c_Mo_node 36 = .ok (.iload_n 1, 1) := by decide +kernel
theorem d_Mo_node_37 : decode c_Mo_node 37 = .ok (.iaload, 1) := by decide +kernel
theorem d_Mo_node_38 : decode c_Mo_node 38 = .ok (.ifCond .ge 6, 3) := by decide +kernel
theorem d_Mo_node_41 : decode c_Mo_node 41 = .ok (.bipush (-3), 2) := by decide +kernel
theorem d_Mo_node_43 : decode c_Mo_node 43 = .ok (.ireturn, 1) := by decide +kernel
theorem d_Mo_node_44 : decode c_Mo_node 44 = .ok (.iload_n 2, 1) := by decide +kernel
theorem d_Mo_node_45 : decode c_Mo_node 45 = .ok (.tableswitch 111 0 7 #[47, 54, 61, 68, 75, 82, 89, 100], 47) := by decide +kernel
theorem d_Mo_node_92 : decode c_Mo_node 92 = .ok (.aload_n 0, 1) := by decide +kernel
theorem d_Mo_node_93 : decode c_Mo_node 93 = .ok (.getfield 32, 3) := by decide +kernel
theorem d_Mo_node_96 : decode c_Mo_node 96 = .ok (.iload_n 1, 1) := by decide +kernel
theorem d_Mo_node_97 : decode c_Mo_node 97 = .ok (.iaload, 1) := by decide +kernel
theorem d_Mo_node_98 : decode c_Mo_node 98 = .ok (.ireturn, 1) := by decide +kernel
theorem d_Mo_node_99 : decode c_Mo_node 99 = .ok (.aload_n 0, 1) := by decide +kernel
theorem d_Mo_node_100 : decode c_Mo_node 100 = .ok (.getfield 35, 3) := by decide +kernel
theorem d_Mo_node_103 : decode c_Mo_node 103 = .ok (.iload_n 1, 1) := by decide +kernel
theorem d_Mo_node_104 : decode c_Mo_node 104 = .ok (.iaload, 1) := by decide +kernel
theorem d_Mo_node_105 : decode c_Mo_node 105 = .ok (.ireturn, 1) := by decide +kernel
theorem d_Mo_node_106 : decode c_Mo_node 106 = .ok (.aload_n 0, 1) := by decide +kernel
theorem d_Mo_node_107 : decode c_Mo_node 107 = .ok (.getfield 38, 3) := by decide +kernel
theorem d_Mo_node_110 : decode c_Mo_node 110 = .ok (.iload_n 1, 1) := by decide +kernel
theorem d_Mo_node_111 : decode c_Mo_node 111 = .ok (.iaload, 1) := by decide +kernel
theorem d_Mo_node_112 : decode c_Mo_node 112 = .ok (.ireturn, 1) := by decide +kernel
theorem d_Mo_node_113 : decode c_Mo_node 113 = .ok (.aload_n 0, 1) := by decide +kernel
theorem d_Mo_node_114 : decode c_Mo_node 114 = .ok (.getfield 41, 3) := by decide +kernel
theorem d_Mo_node_117 : decode c_Mo_node 117 = .ok (.iload_n 1, 1) := by decide +kernel
theorem d_Mo_node_118 : decode c_Mo_node 118 = .ok (.iaload, 1) := by decide +kernel
theorem d_Mo_node_119 : decode c_Mo_node 119 = .ok (.ireturn, 1) := by decide +kernel
theorem d_Mo_node_120 : decode c_Mo_node 120 = .ok (.aload_n 0, 1) := by decide +kernel
theorem d_Mo_node_121 : decode c_Mo_node 121 = .ok (.getfield 44, 3) := by decide +kernel
theorem d_Mo_node_124 : decode c_Mo_node 124 = .ok (.iload_n 1, 1) := by decide +kernel
theorem d_Mo_node_125 : decode c_Mo_node 125 = .ok (.iaload, 1) := by decide +kernel
theorem d_Mo_node_126 : decode c_Mo_node 126 = .ok (.ireturn, 1) := by decide +kernel
theorem d_Mo_node_127 : decode c_Mo_node 127 = .ok (.aload_n 0, 1) := by decide +kernel
theorem d_Mo_node_128 : decode c_Mo_node 128 = .ok (.getfield 29, 3) := by decide +kernel
theorem d_Mo_node_131 : decode c_Mo_node 131 = .ok (.iload_n 1, 1) := by decide +kernel
theorem d_Mo_node_132 : decode c_Mo_node 132 = .ok (.iaload, 1) := by decide +kernel
theorem d_Mo_node_133 : decode c_Mo_node 133 = .ok (.ireturn, 1) := by decide +kernel
theorem d_Mo_node_134 : decode c_Mo_node 134 = .ok (.aload_n 0, 1) := by decide +kernel
theorem d_Mo_node_135 : decode c_Mo_node 135 = .ok (.aload_n 0, 1) := by decide +kernel
theorem d_Mo_node_136 : decode c_Mo_node 136 = .ok (.getfield 26, 3) := by decide +kernel
theorem d_Mo_node_139 : decode c_Mo_node 139 = .ok (.iload_n 1, 1) := by decide +kernel
theorem d_Mo_node_140 : decode c_Mo_node 140 = .ok (.iaload, 1) := by decide +kernel
theorem d_Mo_node_141 : decode c_Mo_node 141 = .ok (.invokevirtual 87, 3) := by decide +kernel
theorem d_Mo_node_144 : decode c_Mo_node 144 = .ok (.ireturn, 1) := by decide +kernel
theorem d_Mo_node_145 : decode c_Mo_node 145 = .ok (.aload_n 0, 1) := by decide +kernel
theorem d_Mo_node_146 : decode c_Mo_node 146 = .ok (.aload_n 0, 1) := by decide +kernel
theorem d_Mo_node_147 : decode c_Mo_node 147 = .ok (.getfield 26, 3) := by decide +kernel
theorem d_Mo_node_150 : decode c_Mo_node 150 = .ok (.iload_n 1, 1) := by decide +kernel
theorem d_Mo_node_151 : decode c_Mo_node 151 = .ok (.iaload, 1) := by decide +kernel
theorem d_Mo_node_152 : decode c_Mo_node 152 = .ok (.invokevirtual 91, 3) := by decide +kernel
theorem d_Mo_node_155 : decode c_Mo_node 155 = .ok (.ireturn, 1) := by decide +kernel
theorem d_Mo_node_156 : decode c_Mo_node 156 = .ok (.aload_n 0, 1) := by decide +kernel
theorem d_Mo_node_157 : decode c_Mo_node 157 = .ok (.aload_n 0, 1) := by decide +kernel
theorem d_Mo_node_158 : decode c_Mo_node 158 = .ok (.getfield 26, 3) := by decide +kernel
theorem d_Mo_node_161 : decode c_Mo_node 161 = .ok (.iload_n 1, 1) := by decide +kernel
theorem d_Mo_node_162 : decode c_Mo_node 162 = .ok (.iaload, 1) := by decide +kernel
theorem d_Mo_node_163 : decode c_Mo_node 163 = .ok (.invokevirtual 150, 3) := by decide +kernel
theorem d_Mo_node_166 : decode c_Mo_node 166 = .ok (.ireturn, 1) := by decide +kernel
theorem d_Mo_isNode_0 : decode c_Mo_isNode 0 = .ok (.iload_n 1, 1) := by decide +kernel
theorem d_Mo_isNode_1 : decode c_Mo_isNode 1 = .ok (.ifCond .lt 15, 3) := by decide +kernel
theorem d_Mo_isNode_4 : decode c_Mo_isNode 4 = .ok (.iload_n 1, 1) := by decide +kernel
theorem d_Mo_isNode_5 : decode c_Mo_isNode 5 = .ok (.aload_n 0, 1) := by decide +kernel
theorem d_Mo_isNode_6 : decode c_Mo_isNode 6 = .ok (.getfield 147, 3) := by decide +kernel
theorem d_Mo_isNode_9 : decode c_Mo_isNode 9 = .ok (.if_icmp .ge 7, 3) := by decide +kernel
theorem d_Mo_isNode_12 : decode c_Mo_isNode 12 = .ok (.iconst 1, 1) := by decide +kernel
theorem d_Mo_isNode_13 : decode c_Mo_isNode 13 = .ok (.goto 4, 3) := by decide +kernel
theorem d_Mo_isNode_16 : decode c_Mo_isNode 16 = .ok (.iconst 0, 1) := by decide +kernel
theorem d_Mo_isNode_17 : decode c_Mo_isNode 17 = .ok (.ireturn, 1) := by decide +kernel
theorem d_Mo_count_0 : decode c_Mo_count 0 = .ok (.aload_n 0, 1) := by decide +kernel
theorem d_Mo_count_1 : decode c_Mo_count 1 = .ok (.invokevirtual 173, 3) := by decide +kernel
theorem d_Mo_count_4 : decode c_Mo_count 4 = .ok (.aload_n 0, 1) := by decide +kernel
theorem d_Mo_count_5 : decode c_Mo_count 5 = .ok (.iload_n 1, 1) := by decide +kernel
theorem d_Mo_count_6 : decode c_Mo_count 6 = .ok (.invokevirtual 176, 3) := by decide +kernel
theorem d_Mo_count_9 : decode c_Mo_count 9 = .ok (.ifCond .eq 26, 3) := by decide +kernel
theorem d_Mo_count_12 : decode c_Mo_count 12 = .ok (.iload_n 2, 1) := by decide +kernel
theorem d_Mo_count_13 : decode c_Mo_count 13 = .ok (.ifCond .lt 22, 3) := by decide +kernel
theorem d_Mo_count_16 : decode c_Mo_count 16 = .ok (.iload_n 2, 1) := by decide +kernel
theorem d_Mo_count_17 : decode c_Mo_count 17 = .ok (.iconst 3, 1) := by decide +kernel
theorem d_Mo_count_18 : decode c_Mo_count 18 = .ok (.if_icmp .ge 17, 3) := by decide +kernel
theorem d_Mo_count_21 : decode c_Mo_count 21 = .ok (.aload_n 0, 1) := by decide +kernel
theorem d_Mo_count_22 : decode c_Mo_count 22 = .ok (.aload_n 0, 1) := by decide +kernel
theorem d_Mo_count_23 : decode c_Mo_count 23 = .ok (.getfield 26, 3) := by decide +kernel
theorem d_Mo_count_26 : decode c_Mo_count 26 = .ok (.iload_n 1, 1) := by decide +kernel
theorem d_Mo_count_27 : decode c_Mo_count 27 = .ok (.iaload, 1) := by decide +kernel
theorem d_Mo_count_28 : decode c_Mo_count 28 = .ok (.iload_n 2, 1) := by decide +kernel
theorem d_Mo_count_29 : decode c_Mo_count 29 = .ok (.invokevirtual 83, 3) := by decide +kernel
theorem d_Mo_count_32 : decode c_Mo_count 32 = .ok (.goto 4, 3) := by decide +kernel
theorem d_Mo_count_35 : decode c_Mo_count 35 = .ok (.iconst (-1), 1) := by decide +kernel
theorem d_Mo_count_36 : decode c_Mo_count 36 = .ok (.ireturn, 1) := by decide +kernel
theorem d_Mo_gain_0 : decode c_Mo_gain 0 = .ok (.aload_n 0, 1) := by decide +kernel
theorem d_Mo_gain_1 : decode c_Mo_gain 1 = .ok (.invokevirtual 173, 3) := by decide +kernel
theorem d_Mo_gain_4 : decode c_Mo_gain 4 = .ok (.aload_n 0, 1) := by decide +kernel
theorem d_Mo_gain_5 : decode c_Mo_gain 5 = .ok (.iload_n 1, 1) := by decide +kernel
theorem d_Mo_gain_6 : decode c_Mo_gain 6 = .ok (.invokevirtual 176, 3) := by decide +kernel
theorem d_Mo_gain_9 : decode c_Mo_gain 9 = .ok (.ifCond .ne 5, 3) := by decide +kernel
theorem d_Mo_gain_12 : decode c_Mo_gain 12 = .ok (.iconst (-1), 1) := by decide +kernel
theorem d_Mo_gain_13 : decode c_Mo_gain 13 = .ok (.ireturn, 1) := by decide +kernel
theorem d_Mo_gain_14 : decode c_Mo_gain 14 = .ok (.iload_n 2, 1) := by decide +kernel
theorem d_Mo_gain_15 : decode c_Mo_gain 15 = .ok (.ifCond .lt 8, 3) := by decide +kernel
theorem d_Mo_gain_18 : decode c_Mo_gain 18 = .ok (.iload_n 2, 1) := by decide +kernel
theorem d_Mo_gain_19 : decode c_Mo_gain 19 = .ok (.iconst 1, 1) := by decide +kernel
theorem d_Mo_gain_20 : decode c_Mo_gain 20 = .ok (.if_icmp .le 6, 3) := by decide +kernel
theorem d_Mo_gain_23 : decode c_Mo_gain 23 = .ok (.bipush (-2), 2) := by decide +kernel
theorem d_Mo_gain_25 : decode c_Mo_gain 25 = .ok (.ireturn, 1) := by decide +kernel
theorem d_Mo_gain_26 : decode c_Mo_gain 26 = .ok (.aload_n 0, 1) := by decide +kernel
theorem d_Mo_gain_27 : decode c_Mo_gain 27 = .ok (.getfield 41, 3) := by decide +kernel
theorem d_Mo_gain_30 : decode c_Mo_gain 30 = .ok (.iload_n 1, 1) := by decide +kernel
theorem d_Mo_gain_31 : decode c_Mo_gain 31 = .ok (.iaload, 1) := by decide +kernel
theorem d_Mo_gain_32 : decode c_Mo_gain 32 = .ok (.ifCond .ge 8, 3) := by decide +kernel
theorem d_Mo_gain_35 : decode c_Mo_gain 35 = .ok (.bipush (-3), 2) := by decide +kernel
theorem d_Mo_gain_37 : decode c_Mo_gain 37 = .ok (.goto 19, 3) := by decide +kernel
theorem d_Mo_gain_40 : decode c_Mo_gain 40 = .ok (.aload_n 0, 1) := by decide +kernel
theorem d_Mo_gain_41 : decode c_Mo_gain 41 = .ok (.getfield 47, 3) := by decide +kernel
theorem d_Mo_gain_44 : decode c_Mo_gain 44 = .ok (.iload_n 1, 1) := by decide +kernel
theorem d_Mo_gain_45 : decode c_Mo_gain 45 = .ok (.laload, 1) := by decide +kernel
theorem d_Mo_gain_46 : decode c_Mo_gain 46 = .ok (.aload_n 0, 1) := by decide +kernel
theorem d_Mo_gain_47 : decode c_Mo_gain 47 = .ok (.getfield 51, 3) := by decide +kernel
theorem d_Mo_gain_50 : decode c_Mo_gain 50 = .ok (.iload_n 1, 1) := by decide +kernel
theorem d_Mo_gain_51 : decode c_Mo_gain 51 = .ok (.laload, 1) := by decide +kernel
theorem d_Mo_gain_52 : decode c_Mo_gain 52 = .ok (.iload_n 2, 1) := by decide +kernel
theorem d_Mo_gain_53 : decode c_Mo_gain 53 = .ok (.invokestatic 183, 3) := by decide +kernel
theorem d_Mo_gain_56 : decode c_Mo_gain 56 = .ok (.ireturn, 1) := by decide +kernel
theorem d_Mo_lowest_0 : decode c_Mo_lowest 0 = .ok (.lload_n 0, 1) := by decide +kernel
theorem d_Mo_lowest_1 : decode c_Mo_lowest 1 = .ok (.lload_n 2, 1) := by decide +kernel
theorem d_Mo_lowest_2 : decode c_Mo_lowest 2 = .ok (.invokestatic 179, 3) := by decide +kernel
theorem d_Mo_lowest_5 : decode c_Mo_lowest 5 = .ok (.lstore 5, 2) := by decide +kernel
theorem d_Mo_lowest_7 : decode c_Mo_lowest 7 = .ok (.iload 4, 2) := by decide +kernel
theorem d_Mo_lowest_9 : decode c_Mo_lowest 9 = .ok (.ifCond .ne 10, 3) := by decide +kernel
theorem d_Mo_lowest_12 : decode c_Mo_lowest 12 = .ok (.lload_n 0, 1) := by decide +kernel
theorem d_Mo_lowest_13 : decode c_Mo_lowest 13 = .ok (.lload 5, 2) := by decide +kernel
theorem d_Mo_lowest_15 : decode c_Mo_lowest 15 = .ok (.ldiv, 1) := by decide +kernel
theorem d_Mo_lowest_16 : decode c_Mo_lowest 16 = .ok (.goto 7, 3) := by decide +kernel
theorem d_Mo_lowest_19 : decode c_Mo_lowest 19 = .ok (.lload_n 2, 1) := by decide +kernel
theorem d_Mo_lowest_20 : decode c_Mo_lowest 20 = .ok (.lload 5, 2) := by decide +kernel
theorem d_Mo_lowest_22 : decode c_Mo_lowest 22 = .ok (.ldiv, 1) := by decide +kernel
theorem d_Mo_lowest_23 : decode c_Mo_lowest 23 = .ok (.l2i, 1) := by decide +kernel
theorem d_Mo_lowest_24 : decode c_Mo_lowest 24 = .ok (.ireturn, 1) := by decide +kernel
theorem d_Mo_common_0 : decode c_Mo_common 0 = .ok (.lload_n 0, 1) := by decide +kernel
theorem d_Mo_common_1 : decode c_Mo_common 1 = .ok (.lstore 4, 2) := by decide +kernel
theorem d_Mo_common_3 : decode c_Mo_common 3 = .ok (.lload_n 2, 1) := by decide +kernel
theorem d_Mo_common_4 : decode c_Mo_common 4 = .ok (.lstore 6, 2) := by decide +kernel
theorem d_Mo_common_6 : decode c_Mo_common 6 = .ok (.lload 6, 2) := by decide +kernel
theorem d_Mo_common_8 : decode c_Mo_common 8 = .ok (.lconst 0, 1) := by decide +kernel
theorem d_Mo_common_9 : decode c_Mo_common 9 = .ok (.lcmp, 1) := by decide +kernel
theorem d_Mo_common_10 : decode c_Mo_common 10 = .ok (.ifCond .eq 21, 3) := by decide +kernel
theorem d_Mo_common_13 : decode c_Mo_common 13 = .ok (.lload 4, 2) := by decide +kernel
theorem d_Mo_common_15 : decode c_Mo_common 15 = .ok (.lload 6, 2) := by decide +kernel
theorem d_Mo_common_17 : decode c_Mo_common 17 = .ok (.lrem, 1) := by decide +kernel
theorem d_Mo_common_18 : decode c_Mo_common 18 = .ok (.lstore 8, 2) := by decide +kernel
theorem d_Mo_common_20 : decode c_Mo_common 20 = .ok (.lload 6, 2) := by decide +kernel
theorem d_Mo_common_22 : decode c_Mo_common 22 = .ok (.lstore 4, 2) := by decide +kernel
theorem d_Mo_common_24 : decode c_Mo_common 24 = .ok (.lload 8, 2) := by decide +kernel
theorem d_Mo_common_26 : decode c_Mo_common 26 = .ok (.lstore 6, 2) := by decide +kernel
theorem d_Mo_common_28 : decode c_Mo_common 28 = .ok (.goto (-22), 3) := by decide +kernel
theorem d_Mo_common_31 : decode c_Mo_common 31 = .ok (.lload 4, 2) := by decide +kernel
theorem d_Mo_common_33 : decode c_Mo_common 33 = .ok (.lreturn, 1) := by decide +kernel
theorem d_Mo_leaf_0 : decode c_Mo_leaf 0 = .ok (.aload_n 0, 1) := by decide +kernel
theorem d_Mo_leaf_1 : decode c_Mo_leaf 1 = .ok (.iconst 0, 1) := by decide +kernel
theorem d_Mo_leaf_2 : decode c_Mo_leaf 2 = .ok (.iload_n 1, 1) := by decide +kernel
theorem d_Mo_leaf_3 : decode c_Mo_leaf 3 = .ok (.invokevirtual 72, 3) := by decide +kernel
theorem d_Mo_leaf_6 : decode c_Mo_leaf 6 = .ok (.ifCond .eq 31, 3) := by decide +kernel
theorem d_Mo_leaf_9 : decode c_Mo_leaf 9 = .ok (.aload_n 0, 1) := by decide +kernel
theorem d_Mo_leaf_10 : decode c_Mo_leaf 10 = .ok (.iconst 1, 1) := by decide +kernel
theorem d_Mo_leaf_11 : decode c_Mo_leaf 11 = .ok (.iload_n 2, 1) := by decide +kernel
theorem d_Mo_leaf_12 : decode c_Mo_leaf 12 = .ok (.invokevirtual 72, 3) := by decide +kernel
theorem d_Mo_leaf_15 : decode c_Mo_leaf 15 = .ok (.ifCond .eq 22, 3) := by decide +kernel
theorem d_Mo_leaf_18 : decode c_Mo_leaf 18 = .ok (.aload_n 0, 1) := by decide +kernel
theorem d_Mo_leaf_19 : decode c_Mo_leaf 19 = .ok (.iconst 2, 1) := by decide +kernel
theorem d_Mo_leaf_20 : decode c_Mo_leaf 20 = .ok (.iload_n 3, 1) := by decide +kernel
theorem d_Mo_leaf_21 : decode c_Mo_leaf 21 = .ok (.invokevirtual 72, 3) := by decide +kernel
theorem d_Mo_leaf_24 : decode c_Mo_leaf 24 = .ok (.ifCond .eq 13, 3) := by decide +kernel
theorem d_Mo_leaf_27 : decode c_Mo_leaf 27 = .ok (.aload_n 0, 1) := by decide +kernel
theorem d_Mo_leaf_28 : decode c_Mo_leaf 28 = .ok (.iconst 3, 1) := by decide +kernel
theorem d_Mo_leaf_29 : decode c_Mo_leaf 29 = .ok (.iload 4, 2) := by decide +kernel
theorem d_Mo_leaf_31 : decode c_Mo_leaf 31 = .ok (.invokevirtual 72, 3) := by decide +kernel
theorem d_Mo_leaf_34 : decode c_Mo_leaf 34 = .ok (.ifCond .ne 6, 3) := by decide +kernel
theorem d_Mo_leaf_37 : decode c_Mo_leaf 37 = .ok (.bipush (-2), 2) := by decide +kernel
theorem d_Mo_leaf_39 : decode c_Mo_leaf 39 = .ok (.ireturn, 1) := by decide +kernel
theorem d_Mo_leaf_40 : decode c_Mo_leaf 40 = .ok (.aload_n 0, 1) := by decide +kernel
theorem d_Mo_leaf_41 : decode c_Mo_leaf 41 = .ok (.invokevirtual 173, 3) := by decide +kernel
theorem d_Mo_leaf_44 : decode c_Mo_leaf 44 = .ok (.aload_n 0, 1) := by decide +kernel
theorem d_Mo_leaf_45 : decode c_Mo_leaf 45 = .ok (.getfield 54, 3) := by decide +kernel
theorem d_Mo_leaf_48 : decode c_Mo_leaf 48 = .ok (.iconst 0, 1) := by decide +kernel
theorem d_Mo_leaf_49 : decode c_Mo_leaf 49 = .ok (.iload_n 1, 1) := by decide +kernel
theorem d_Mo_leaf_50 : decode c_Mo_leaf 50 = .ok (.iastore, 1) := by decide +kernel
theorem d_Mo_leaf_51 : decode c_Mo_leaf 51 = .ok (.aload_n 0, 1) := by decide +kernel
theorem d_Mo_leaf_52 : decode c_Mo_leaf 52 = .ok (.getfield 54, 3) := by decide +kernel
theorem d_Mo_leaf_55 : decode c_Mo_leaf 55 = .ok (.iconst 1, 1) := by decide +kernel
theorem d_Mo_leaf_56 : decode c_Mo_leaf 56 = .ok (.iload_n 2, 1) := by decide +kernel
theorem d_Mo_leaf_57 : decode c_Mo_leaf 57 = .ok (.iastore, 1) := by decide +kernel
theorem d_Mo_leaf_58 : decode c_Mo_leaf 58 = .ok (.aload_n 0, 1) := by decide +kernel
theorem d_Mo_leaf_59 : decode c_Mo_leaf 59 = .ok (.getfield 54, 3) := by decide +kernel
theorem d_Mo_leaf_62 : decode c_Mo_leaf 62 = .ok (.iconst 2, 1) := by decide +kernel
theorem d_Mo_leaf_63 : decode c_Mo_leaf 63 = .ok (.iload_n 3, 1) := by decide +kernel
theorem d_Mo_leaf_64 : decode c_Mo_leaf 64 = .ok (.iastore, 1) := by decide +kernel
theorem d_Mo_leaf_65 : decode c_Mo_leaf 65 = .ok (.aload_n 0, 1) := by decide +kernel
theorem d_Mo_leaf_66 : decode c_Mo_leaf 66 = .ok (.getfield 54, 3) := by decide +kernel
theorem d_Mo_leaf_69 : decode c_Mo_leaf 69 = .ok (.iconst 3, 1) := by decide +kernel
theorem d_Mo_leaf_70 : decode c_Mo_leaf 70 = .ok (.iload 4, 2) := by decide +kernel
theorem d_Mo_leaf_72 : decode c_Mo_leaf 72 = .ok (.iastore, 1) := by decide +kernel
theorem d_Mo_leaf_73 : decode c_Mo_leaf 73 = .ok (.aload_n 0, 1) := by decide +kernel
theorem d_Mo_leaf_74 : decode c_Mo_leaf 74 = .ok (.invokevirtual 187, 3) := by decide +kernel
theorem d_Mo_leaf_77 : decode c_Mo_leaf 77 = .ok (.ireturn, 1) := by decide +kernel
theorem d_Mo_comesTo_0 : decode c_Mo_comesTo 0 = .ok (.iconst 0, 1) := by decide +kernel
theorem d_Mo_comesTo_1 : decode c_Mo_comesTo 1 = .ok (.istore_n 1, 1) := by decide +kernel
theorem d_Mo_comesTo_2 : decode c_Mo_comesTo 2 = .ok (.aload_n 0, 1) := by decide +kernel
theorem d_Mo_comesTo_3 : decode c_Mo_comesTo 3 = .ok (.getfield 41, 3) := by decide +kernel
theorem d_Mo_comesTo_6 : decode c_Mo_comesTo 6 = .ok (.iload_n 1, 1) := by decide +kernel
theorem d_Mo_comesTo_7 : decode c_Mo_comesTo 7 = .ok (.iaload, 1) := by decide +kernel
theorem d_Mo_comesTo_8 : decode c_Mo_comesTo 8 = .ok (.ifCond .lt 58, 3) := by decide +kernel
theorem d_Mo_comesTo_11 : decode c_Mo_comesTo 11 = .ok (.aload_n 0, 1) := by decide +kernel
theorem d_Mo_comesTo_12 : decode c_Mo_comesTo 12 = .ok (.aload_n 0, 1) := by decide +kernel
theorem d_Mo_comesTo_13 : decode c_Mo_comesTo 13 = .ok (.getfield 54, 3) := by decide +kernel
theorem d_Mo_comesTo_16 : decode c_Mo_comesTo 16 = .ok (.aload_n 0, 1) := by decide +kernel
theorem d_Mo_comesTo_17 : decode c_Mo_comesTo 17 = .ok (.getfield 32, 3) := by decide +kernel
theorem d_Mo_comesTo_20 : decode c_Mo_comesTo 20 = .ok (.iload_n 1, 1) := by decide +kernel
theorem d_Mo_comesTo_21 : decode c_Mo_comesTo 21 = .ok (.iaload, 1) := by decide +kernel
theorem d_Mo_comesTo_22 : decode c_Mo_comesTo 22 = .ok (.iaload, 1) := by decide +kernel
theorem d_Mo_comesTo_23 : decode c_Mo_comesTo 23 = .ok (.aload_n 0, 1) := by decide +kernel
theorem d_Mo_comesTo_24 : decode c_Mo_comesTo 24 = .ok (.getfield 32, 3) := by decide +kernel
theorem d_Mo_comesTo_27 : decode c_Mo_comesTo 27 = .ok (.iload_n 1, 1) := by decide +kernel
theorem d_Mo_comesTo_28 : decode c_Mo_comesTo 28 = .ok (.iaload, 1) := by decide +kernel
theorem d_Mo_comesTo_29 : decode c_Mo_comesTo 29 = .ok (.aload_n 0, 1) := by decide +kernel
theorem d_Mo_comesTo_30 : decode c_Mo_comesTo 30 = .ok (.getfield 35, 3) := by decide +kernel
theorem d_Mo_comesTo_33 : decode c_Mo_comesTo 33 = .ok (.iload_n 1, 1) := by decide +kernel
theorem d_Mo_comesTo_34 : decode c_Mo_comesTo 34 = .ok (.iaload, 1) := by decide +kernel
theorem d_Mo_comesTo_35 : decode c_Mo_comesTo 35 = .ok (.aload_n 0, 1) := by decide +kernel
theorem d_Mo_comesTo_36 : decode c_Mo_comesTo 36 = .ok (.getfield 38, 3) := by decide +kernel
theorem d_Mo_comesTo_39 : decode c_Mo_comesTo 39 = .ok (.iload_n 1, 1) := by decide +kernel
theorem d_Mo_comesTo_40 : decode c_Mo_comesTo 40 = .ok (.iaload, 1) := by decide +kernel
theorem d_Mo_comesTo_41 : decode c_Mo_comesTo 41 = .ok (.invokevirtual 94, 3) := by decide +kernel
theorem d_Mo_comesTo_44 : decode c_Mo_comesTo 44 = .ok (.ifCond .eq 12, 3) := by decide +kernel
theorem d_Mo_comesTo_47 : decode c_Mo_comesTo 47 = .ok (.aload_n 0, 1) := by decide +kernel
theorem d_Mo_comesTo_48 : decode c_Mo_comesTo 48 = .ok (.getfield 41, 3) := by decide +kernel
theorem d_Mo_comesTo_51 : decode c_Mo_comesTo 51 = .ok (.iload_n 1, 1) := by decide +kernel
theorem d_Mo_comesTo_52 : decode c_Mo_comesTo 52 = .ok (.iaload, 1) := by decide +kernel
theorem d_Mo_comesTo_53 : decode c_Mo_comesTo 53 = .ok (.goto 9, 3) := by decide +kernel
theorem d_Mo_comesTo_56 : decode c_Mo_comesTo 56 = .ok (.aload_n 0, 1) := by decide +kernel
theorem d_Mo_comesTo_57 : decode c_Mo_comesTo 57 = .ok (.getfield 44, 3) := by decide +kernel
theorem d_Mo_comesTo_60 : decode c_Mo_comesTo 60 = .ok (.iload_n 1, 1) := by decide +kernel
theorem d_Mo_comesTo_61 : decode c_Mo_comesTo 61 = .ok (.iaload, 1) := by decide +kernel
theorem d_Mo_comesTo_62 : decode c_Mo_comesTo 62 = .ok (.istore_n 1, 1) := by decide +kernel
theorem d_Mo_comesTo_63 : decode c_Mo_comesTo 63 = .ok (.goto (-61), 3) := by decide +kernel
theorem d_Mo_comesTo_66 : decode c_Mo_comesTo 66 = .ok (.iload_n 1, 1) := by decide +kernel
theorem d_Mo_comesTo_67 : decode c_Mo_comesTo 67 = .ok (.ireturn, 1) := by decide +kernel
theorem d_Mo_leafOf_0 : decode c_Mo_leafOf 0 = .ok (.iload_n 1, 1) := by decide +kernel
theorem d_Mo_leafOf_1 : decode c_Mo_leafOf 1 = .ok (.ifCond .lt 11, 3) := by decide +kernel
theorem d_Mo_leafOf_4 : decode c_Mo_leafOf 4 = .ok (.iload_n 1, 1) := by decide +kernel
theorem d_Mo_leafOf_5 : decode c_Mo_leafOf 5 = .ok (.aload_n 0, 1) := by decide +kernel
theorem d_Mo_leafOf_6 : decode c_Mo_leafOf 6 = .ok (.getfield 69, 3) := by decide +kernel
theorem d_Mo_leafOf_9 : decode c_Mo_leafOf 9 = .ok (.if_icmp .lt 5, 3) := by decide +kernel
theorem d_Mo_leafOf_12 : decode c_Mo_leafOf 12 = .ok (.iconst (-1), 1) := by decide +kernel
theorem d_Mo_leafOf_13 : decode c_Mo_leafOf 13 = .ok (.ireturn, 1) := by decide +kernel
theorem d_Mo_leafOf_14 : decode c_Mo_leafOf 14 = .ok (.aload_n 0, 1) := by decide +kernel
theorem d_Mo_leafOf_15 : decode c_Mo_leafOf 15 = .ok (.invokevirtual 173, 3) := by decide +kernel
theorem d_Mo_leafOf_18 : decode c_Mo_leafOf 18 = .ok (.aload_n 0, 1) := by decide +kernel
theorem d_Mo_leafOf_19 : decode c_Mo_leafOf 19 = .ok (.iload_n 1, 1) := by decide +kernel
theorem d_Mo_leafOf_20 : decode c_Mo_leafOf 20 = .ok (.invokevirtual 191, 3) := by decide +kernel
theorem d_Mo_leafOf_23 : decode c_Mo_leafOf 23 = .ok (.ireturn, 1) := by decide +kernel
theorem d_Mo_leafFor_0 : decode c_Mo_leafFor 0 = .ok (.iconst 0, 1) := by decide +kernel
theorem d_Mo_leafFor_1 : decode c_Mo_leafFor 1 = .ok (.istore_n 2, 1) := by decide +kernel
theorem d_Mo_leafFor_2 : decode c_Mo_leafFor 2 = .ok (.iload_n 2, 1) := by decide +kernel
theorem d_Mo_leafFor_3 : decode c_Mo_leafFor 3 = .ok (.iconst 4, 1) := by decide +kernel
theorem d_Mo_leafFor_4 : decode c_Mo_leafFor 4 = .ok (.if_icmp .ge 25, 3) := by decide +kernel
theorem d_Mo_leafFor_7 : decode c_Mo_leafFor 7 = .ok (.aload_n 0, 1) := by decide +kernel
theorem d_Mo_leafFor_8 : decode c_Mo_leafFor 8 = .ok (.getfield 54, 3) := by decide +kernel
theorem d_Mo_leafFor_11 : decode c_Mo_leafFor 11 = .ok (.iload_n 2, 1) := by decide +kernel
theorem d_Mo_leafFor_12 : decode c_Mo_leafFor 12 = .ok (.aload_n 0, 1) := by decide +kernel
theorem d_Mo_leafFor_13 : decode c_Mo_leafFor 13 = .ok (.getfield 13, 3) := by decide +kernel
theorem d_Mo_leafFor_16 : decode c_Mo_leafFor 16 = .ok (.iconst 4, 1) := by decide +kernel
theorem d_Mo_leafFor_17 : decode c_Mo_leafFor 17 = .ok (.iload_n 1, 1) := by decide +kernel
theorem d_Mo_leafFor_18 : decode c_Mo_leafFor 18 = .ok (.imul, 1) := by decide +kernel
theorem d_Mo_leafFor_19 : decode c_Mo_leafFor 19 = .ok (.iload_n 2, 1) := by decide +kernel
theorem d_Mo_leafFor_20 : decode c_Mo_leafFor 20 = .ok (.iadd, 1) := by decide +kernel
theorem d_Mo_leafFor_21 : decode c_Mo_leafFor 21 = .ok (.iaload, 1) := by decide +kernel
theorem d_Mo_leafFor_22 : decode c_Mo_leafFor 22 = .ok (.iastore, 1) := by decide +kernel
theorem d_Mo_leafFor_23 : decode c_Mo_leafFor 23 = .ok (.iinc 2 1, 3) := by decide +kernel
theorem d_Mo_leafFor_26 : decode c_Mo_leafFor 26 = .ok (.goto (-24), 3) := by decide +kernel
theorem d_Mo_leafFor_29 : decode c_Mo_leafFor 29 = .ok (.aload_n 0, 1) := by decide +kernel
theorem d_Mo_leafFor_30 : decode c_Mo_leafFor 30 = .ok (.invokevirtual 187, 3) := by decide +kernel
theorem d_Mo_leafFor_33 : decode c_Mo_leafFor 33 = .ok (.ireturn, 1) := by decide +kernel
theorem d_Mo_cuts_0 : decode c_Mo_cuts 0 = .ok (.iconst 0, 1) := by decide +kernel
theorem d_Mo_cuts_1 : decode c_Mo_cuts 1 = .ok (.istore_n 1, 1) := by decide +kernel
theorem d_Mo_cuts_2 : decode c_Mo_cuts 2 = .ok (.iconst 0, 1) := by decide +kernel
theorem d_Mo_cuts_3 : decode c_Mo_cuts 3 = .ok (.istore_n 2, 1) := by decide +kernel
theorem d_Mo_cuts_4 : decode c_Mo_cuts 4 = .ok (.iload_n 2, 1) := by decide +kernel
theorem d_Mo_cuts_5 : decode c_Mo_cuts 5 = .ok (.iconst 4, 1) := by decide +kernel
theorem d_Mo_cuts_6 : decode c_Mo_cuts 6 = .ok (.if_icmp .ge 65, 3) := by decide +kernel
theorem d_Mo_cuts_9 : decode c_Mo_cuts 9 = .ok (.iconst 0, 1) := by decide +kernel
theorem d_Mo_cuts_10 : decode c_Mo_cuts 10 = .ok (.istore_n 3, 1) := by decide +kernel
theorem d_Mo_cuts_11 : decode c_Mo_cuts 11 = .ok (.iload_n 3, 1) := by decide +kernel
theorem d_Mo_cuts_12 : decode c_Mo_cuts 12 = .ok (.bipush 100, 2) := by decide +kernel
theorem d_Mo_cuts_14 : decode c_Mo_cuts 14 = .ok (.if_icmp .ge 51, 3) := by decide +kernel
theorem d_Mo_cuts_17 : decode c_Mo_cuts 17 = .ok (.iconst 0, 1) := by decide +kernel
theorem d_Mo_cuts_18 : decode c_Mo_cuts 18 = .ok (.istore 4, 2) := by decide +kernel
theorem d_Mo_cuts_20 : decode c_Mo_cuts 20 = .ok (.iload 4, 2) := by decide +kernel
theorem d_Mo_cuts_22 : decode c_Mo_cuts 22 = .ok (.iconst 2, 1) := by decide +kernel
theorem d_Mo_cuts_23 : decode c_Mo_cuts 23 = .ok (.if_icmp .ge 36, 3) := by decide +kernel
theorem d_Mo_cuts_26 : decode c_Mo_cuts 26 = .ok (.iload_n 1, 1) := by decide +kernel
theorem d_Mo_cuts_27 : decode c_Mo_cuts 27 = .ok (.aload_n 0, 1) := by decide +kernel
theorem d_Mo_cuts_28 : decode c_Mo_cuts 28 = .ok (.iconst 1, 1) := by decide +kernel
theorem d_Mo_cuts_29 : decode c_Mo_cuts 29 = .ok (.aload_n 0, 1) := by decide +kernel
theorem d_Mo_cuts_30 : decode c_Mo_cuts 30 = .ok (.getfield 69, 3) := by decide +kernel
theorem d_Mo_cuts_33 : decode c_Mo_cuts 33 = .ok (.ishl, 1) := by decide +kernel
theorem d_Mo_cuts_34 : decode c_Mo_cuts 34 = .ok (.iconst 1, 1) := by decide +kernel
theorem d_Mo_cuts_35 : decode c_Mo_cuts 35 = .ok (.isub, 1) := by decide +kernel
theorem d_Mo_cuts_36 : decode c_Mo_cuts 36 = .ok (.iload_n 2, 1) := by decide +kernel
theorem d_Mo_cuts_37 : decode c_Mo_cuts 37 = .ok (.iload_n 3, 1) := by decide +kernel
theorem d_Mo_cuts_38 : decode c_Mo_cuts 38 = .ok (.iload 4, 2) := by decide +kernel
theorem d_Mo_cuts_40 : decode c_Mo_cuts 40 = .ok (.invokevirtual 129, 3) := by decide +kernel
theorem d_Mo_cuts_43 : decode c_Mo_cuts 43 = .ok (.ifCond .eq 7, 3) := by decide +kernel
theorem d_Mo_cuts_46 : decode c_Mo_cuts 46 = .ok (.iconst 1, 1) := by decide +kernel
theorem d_Mo_cuts_47 : decode c_Mo_cuts 47 = .ok (.goto 4, 3) := by decide +kernel
theorem d_Mo_cuts_50 : decode c_Mo_cuts 50 = .ok (.iconst 0, 1) := by decide +kernel
theorem d_Mo_cuts_51 : decode c_Mo_cuts 51 = .ok (.iadd, 1) := by decide +kernel
theorem d_Mo_cuts_52 : decode c_Mo_cuts 52 = .ok (.istore_n 1, 1) := by decide +kernel
theorem d_Mo_cuts_53 : decode c_Mo_cuts 53 = .ok (.iinc 4 1, 3) := by decide +kernel
theorem d_Mo_cuts_56 : decode c_Mo_cuts 56 = .ok (.goto (-36), 3) := by decide +kernel
theorem d_Mo_cuts_59 : decode c_Mo_cuts 59 = .ok (.iinc 3 1, 3) := by decide +kernel
theorem d_Mo_cuts_62 : decode c_Mo_cuts 62 = .ok (.goto (-51), 3) := by decide +kernel
theorem d_Mo_cuts_65 : decode c_Mo_cuts 65 = .ok (.iinc 2 1, 3) := by decide +kernel
theorem d_Mo_cuts_68 : decode c_Mo_cuts 68 = .ok (.goto (-64), 3) := by decide +kernel
theorem d_Mo_cuts_71 : decode c_Mo_cuts 71 = .ok (.iload_n 1, 1) := by decide +kernel
theorem d_Mo_cuts_72 : decode c_Mo_cuts 72 = .ok (.ireturn, 1) := by decide +kernel
theorem d_Mo_cutGain_0 : decode c_Mo_cutGain 0 = .ok (.iload_n 1, 1) := by decide +kernel
theorem d_Mo_cutGain_1 : decode c_Mo_cutGain 1 = .ok (.ifCond .lt 8, 3) := by decide +kernel
theorem d_Mo_cutGain_4 : decode c_Mo_cutGain 4 = .ok (.iload_n 1, 1) := by decide +kernel
theorem d_Mo_cutGain_5 : decode c_Mo_cutGain 5 = .ok (.iconst 3, 1) := by decide +kernel
theorem d_Mo_cutGain_6 : decode c_Mo_cutGain 6 = .ok (.if_icmp .le 5, 3) := by decide +kernel
theorem d_Mo_cutGain_9 : decode c_Mo_cutGain 9 = .ok (.iconst (-1), 1) := by decide +kernel
theorem d_Mo_cutGain_10 : decode c_Mo_cutGain 10 = .ok (.ireturn, 1) := by decide +kernel
theorem d_Mo_cutGain_11 : decode c_Mo_cutGain 11 = .ok (.iload_n 3, 1) := by decide +kernel
theorem d_Mo_cutGain_12 : decode c_Mo_cutGain 12 = .ok (.ifCond .lt 19, 3) := by decide +kernel
theorem d_Mo_cutGain_15 : decode c_Mo_cutGain 15 = .ok (.iload_n 3, 1) := by decide +kernel
theorem d_Mo_cutGain_16 : decode c_Mo_cutGain 16 = .ok (.iconst 1, 1) := by decide +kernel
theorem d_Mo_cutGain_17 : decode c_Mo_cutGain 17 = .ok (.if_icmp .gt 14, 3) := by decide +kernel
theorem d_Mo_cutGain_20 : decode c_Mo_cutGain 20 = .ok (.iload 4, 2) := by decide +kernel
theorem d_Mo_cutGain_22 : decode c_Mo_cutGain 22 = .ok (.ifCond .lt 9, 3) := by decide +kernel
theorem d_Mo_cutGain_25 : decode c_Mo_cutGain 25 = .ok (.iload 4, 2) := by decide +kernel
theorem d_Mo_cutGain_27 : decode c_Mo_cutGain 27 = .ok (.iconst 1, 1) := by decide +kernel
theorem d_Mo_cutGain_28 : decode c_Mo_cutGain 28 = .ok (.if_icmp .le 6, 3) := by decide +kernel
theorem d_Mo_cutGain_31 : decode c_Mo_cutGain 31 = .ok (.bipush (-2), 2) := by decide +kernel
theorem d_Mo_cutGain_33 : decode c_Mo_cutGain 33 = .ok (.ireturn, 1) := by decide +kernel
theorem d_Mo_cutGain_34 : decode c_Mo_cutGain 34 = .ok (.aload_n 0, 1) := by decide +kernel
theorem d_Mo_cutGain_35 : decode c_Mo_cutGain 35 = .ok (.iconst 1, 1) := by decide +kernel
theorem d_Mo_cutGain_36 : decode c_Mo_cutGain 36 = .ok (.aload_n 0, 1) := by decide +kernel
theorem d_Mo_cutGain_37 : decode c_Mo_cutGain 37 = .ok (.getfield 69, 3) := by decide +kernel
theorem d_Mo_cutGain_40 : decode c_Mo_cutGain 40 = .ok (.ishl, 1) := by decide +kernel
theorem d_Mo_cutGain_41 : decode c_Mo_cutGain 41 = .ok (.iconst 1, 1) := by decide +kernel
theorem d_Mo_cutGain_42 : decode c_Mo_cutGain 42 = .ok (.isub, 1) := by decide +kernel
theorem d_Mo_cutGain_43 : decode c_Mo_cutGain 43 = .ok (.iload_n 1, 1) := by decide +kernel
theorem d_Mo_cutGain_44 : decode c_Mo_cutGain 44 = .ok (.iload_n 2, 1) := by decide +kernel
theorem d_Mo_cutGain_45 : decode c_Mo_cutGain 45 = .ok (.iload_n 3, 1) := by decide +kernel
theorem d_Mo_cutGain_46 : decode c_Mo_cutGain 46 = .ok (.invokevirtual 129, 3) := by decide +kernel
theorem d_Mo_cutGain_49 : decode c_Mo_cutGain 49 = .ok (.ifCond .eq 19, 3) := by decide +kernel
theorem d_Mo_cutGain_52 : decode c_Mo_cutGain 52 = .ok (.aload_n 0, 1) := by decide +kernel
theorem d_Mo_cutGain_53 : decode c_Mo_cutGain 53 = .ok (.getfield 122, 3) := by decide +kernel
theorem d_Mo_cutGain_56 : decode c_Mo_cutGain 56 = .ok (.aload_n 0, 1) := by decide +kernel
theorem d_Mo_cutGain_57 : decode c_Mo_cutGain 57 = .ok (.getfield 126, 3) := by decide +kernel
theorem d_Mo_cutGain_60 : decode c_Mo_cutGain 60 = .ok (.iload 4, 2) := by decide +kernel
theorem d_Mo_cutGain_62 : decode c_Mo_cutGain 62 = .ok (.invokestatic 183, 3) := by decide +kernel
theorem d_Mo_cutGain_65 : decode c_Mo_cutGain 65 = .ok (.goto 5, 3) := by decide +kernel
theorem d_Mo_cutGain_68 : decode c_Mo_cutGain 68 = .ok (.bipush (-3), 2) := by decide +kernel
theorem d_Mo_cutGain_70 : decode c_Mo_cutGain 70 = .ok (.ireturn, 1) := by decide +kernel
theorem d_Mo_stages_0 : decode c_Mo_stages 0 = .ok (.aload_n 0, 1) := by decide +kernel
theorem d_Mo_stages_1 : decode c_Mo_stages 1 = .ok (.invokevirtual 173, 3) := by decide +kernel
theorem d_Mo_stages_4 : decode c_Mo_stages 4 = .ok (.aload_n 0, 1) := by decide +kernel
theorem d_Mo_stages_5 : decode c_Mo_stages 5 = .ok (.getfield 200, 3) := by decide +kernel
theorem d_Mo_stages_8 : decode c_Mo_stages 8 = .ok (.ireturn, 1) := by decide +kernel
theorem d_Mo_alpha_0 : decode c_Mo_alpha 0 = .ok (.aload_n 0, 1) := by decide +kernel
theorem d_Mo_alpha_1 : decode c_Mo_alpha 1 = .ok (.invokevirtual 173, 3) := by decide +kernel
theorem d_Mo_alpha_4 : decode c_Mo_alpha 4 = .ok (.aload_n 0, 1) := by decide +kernel
theorem d_Mo_alpha_5 : decode c_Mo_alpha 5 = .ok (.iload_n 1, 1) := by decide +kernel
theorem d_Mo_alpha_6 : decode c_Mo_alpha 6 = .ok (.invokevirtual 211, 3) := by decide +kernel
theorem d_Mo_alpha_9 : decode c_Mo_alpha 9 = .ok (.ifCond .ne 5, 3) := by decide +kernel
theorem d_Mo_alpha_12 : decode c_Mo_alpha 12 = .ok (.iconst (-1), 1) := by decide +kernel
theorem d_Mo_alpha_13 : decode c_Mo_alpha 13 = .ok (.ireturn, 1) := by decide +kernel
theorem d_Mo_alpha_14 : decode c_Mo_alpha 14 = .ok (.iload_n 2, 1) := by decide +kernel
theorem d_Mo_alpha_15 : decode c_Mo_alpha 15 = .ok (.ifCond .lt 8, 3) := by decide +kernel
theorem d_Mo_alpha_18 : decode c_Mo_alpha 18 = .ok (.iload_n 2, 1) := by decide +kernel
theorem d_Mo_alpha_19 : decode c_Mo_alpha 19 = .ok (.iconst 1, 1) := by decide +kernel
theorem d_Mo_alpha_20 : decode c_Mo_alpha 20 = .ok (.if_icmp .le 8, 3) := by decide +kernel
theorem d_Mo_alpha_23 : decode c_Mo_alpha 23 = .ok (.bipush (-2), 2) := by decide +kernel
theorem d_Mo_alpha_25 : decode c_Mo_alpha 25 = .ok (.goto 19, 3) := by decide +kernel
theorem d_Mo_alpha_28 : decode c_Mo_alpha 28 = .ok (.aload_n 0, 1) := by decide +kernel
theorem d_Mo_alpha_29 : decode c_Mo_alpha 29 = .ok (.getfield 60, 3) := by decide +kernel
theorem d_Mo_alpha_32 : decode c_Mo_alpha 32 = .ok (.iload_n 1, 1) := by decide +kernel
theorem d_Mo_alpha_33 : decode c_Mo_alpha 33 = .ok (.laload, 1) := by decide +kernel
theorem d_Mo_alpha_34 : decode c_Mo_alpha 34 = .ok (.aload_n 0, 1) := by decide +kernel
theorem d_Mo_alpha_35 : decode c_Mo_alpha 35 = .ok (.getfield 63, 3) := by decide +kernel
theorem d_Mo_alpha_38 : decode c_Mo_alpha 38 = .ok (.iload_n 1, 1) := by decide +kernel
theorem d_Mo_alpha_39 : decode c_Mo_alpha 39 = .ok (.laload, 1) := by decide +kernel
theorem d_Mo_alpha_40 : decode c_Mo_alpha 40 = .ok (.iload_n 2, 1) := by decide +kernel
theorem d_Mo_alpha_41 : decode c_Mo_alpha 41 = .ok (.invokestatic 183, 3) := by decide +kernel
theorem d_Mo_alpha_44 : decode c_Mo_alpha 44 = .ok (.ireturn, 1) := by decide +kernel
theorem d_Mo_isStage_0 : decode c_Mo_isStage 0 = .ok (.iload_n 1, 1) := by decide +kernel
theorem d_Mo_isStage_1 : decode c_Mo_isStage 1 = .ok (.ifCond .lt 15, 3) := by decide +kernel
theorem d_Mo_isStage_4 : decode c_Mo_isStage 4 = .ok (.iload_n 1, 1) := by decide +kernel
theorem d_Mo_isStage_5 : decode c_Mo_isStage 5 = .ok (.aload_n 0, 1) := by decide +kernel
theorem d_Mo_isStage_6 : decode c_Mo_isStage 6 = .ok (.getfield 200, 3) := by decide +kernel
theorem d_Mo_isStage_9 : decode c_Mo_isStage 9 = .ok (.if_icmp .ge 7, 3) := by decide +kernel
theorem d_Mo_isStage_12 : decode c_Mo_isStage 12 = .ok (.iconst 1, 1) := by decide +kernel
theorem d_Mo_isStage_13 : decode c_Mo_isStage 13 = .ok (.goto 4, 3) := by decide +kernel
theorem d_Mo_isStage_16 : decode c_Mo_isStage 16 = .ok (.iconst 0, 1) := by decide +kernel
theorem d_Mo_isStage_17 : decode c_Mo_isStage 17 = .ok (.ireturn, 1) := by decide +kernel
theorem d_Mo_leaves_0 : decode c_Mo_leaves 0 = .ok (.aload_n 0, 1) := by decide +kernel
theorem d_Mo_leaves_1 : decode c_Mo_leaves 1 = .ok (.invokevirtual 173, 3) := by decide +kernel
theorem d_Mo_leaves_4 : decode c_Mo_leaves 4 = .ok (.aload_n 0, 1) := by decide +kernel
theorem d_Mo_leaves_5 : decode c_Mo_leaves 5 = .ok (.iload_n 1, 1) := by decide +kernel
theorem d_Mo_leaves_6 : decode c_Mo_leaves 6 = .ok (.invokevirtual 211, 3) := by decide +kernel
theorem d_Mo_leaves_9 : decode c_Mo_leaves 9 = .ok (.ifCond .ne 5, 3) := by decide +kernel
theorem d_Mo_leaves_12 : decode c_Mo_leaves 12 = .ok (.iconst (-1), 1) := by decide +kernel
theorem d_Mo_leaves_13 : decode c_Mo_leaves 13 = .ok (.ireturn, 1) := by decide +kernel
theorem d_Mo_leaves_14 : decode c_Mo_leaves 14 = .ok (.aload_n 0, 1) := by decide +kernel
theorem d_Mo_leaves_15 : decode c_Mo_leaves 15 = .ok (.iload_n 1, 1) := by decide +kernel
theorem d_Mo_leaves_16 : decode c_Mo_leaves 16 = .ok (.iconst 0, 1) := by decide +kernel
theorem d_Mo_leaves_17 : decode c_Mo_leaves 17 = .ok (.invokevirtual 208, 3) := by decide +kernel
theorem d_Mo_leaves_20 : decode c_Mo_leaves 20 = .ok (.aload_n 0, 1) := by decide +kernel
theorem d_Mo_leaves_21 : decode c_Mo_leaves 21 = .ok (.getfield 194, 3) := by decide +kernel
theorem d_Mo_leaves_24 : decode c_Mo_leaves 24 = .ok (.ireturn, 1) := by decide +kernel
theorem d_Mo_wrong_0 : decode c_Mo_wrong 0 = .ok (.aload_n 0, 1) := by decide +kernel
theorem d_Mo_wrong_1 : decode c_Mo_wrong 1 = .ok (.invokevirtual 173, 3) := by decide +kernel
theorem d_Mo_wrong_4 : decode c_Mo_wrong 4 = .ok (.aload_n 0, 1) := by decide +kernel
theorem d_Mo_wrong_5 : decode c_Mo_wrong 5 = .ok (.iload_n 1, 1) := by decide +kernel
theorem d_Mo_wrong_6 : decode c_Mo_wrong 6 = .ok (.invokevirtual 211, 3) := by decide +kernel
theorem d_Mo_wrong_9 : decode c_Mo_wrong 9 = .ok (.ifCond .ne 5, 3) := by decide +kernel
theorem d_Mo_wrong_12 : decode c_Mo_wrong 12 = .ok (.iconst (-1), 1) := by decide +kernel
theorem d_Mo_wrong_13 : decode c_Mo_wrong 13 = .ok (.ireturn, 1) := by decide +kernel
theorem d_Mo_wrong_14 : decode c_Mo_wrong 14 = .ok (.aload_n 0, 1) := by decide +kernel
theorem d_Mo_wrong_15 : decode c_Mo_wrong 15 = .ok (.iload_n 1, 1) := by decide +kernel
theorem d_Mo_wrong_16 : decode c_Mo_wrong 16 = .ok (.iconst 0, 1) := by decide +kernel
theorem d_Mo_wrong_17 : decode c_Mo_wrong 17 = .ok (.invokevirtual 208, 3) := by decide +kernel
theorem d_Mo_wrong_20 : decode c_Mo_wrong 20 = .ok (.aload_n 0, 1) := by decide +kernel
theorem d_Mo_wrong_21 : decode c_Mo_wrong 21 = .ok (.getfield 197, 3) := by decide +kernel
theorem d_Mo_wrong_24 : decode c_Mo_wrong 24 = .ok (.ireturn, 1) := by decide +kernel
theorem d_Mo_state_0 : decode c_Mo_state 0 = .ok (.aload_n 0, 1) := by decide +kernel
theorem d_Mo_state_1 : decode c_Mo_state 1 = .ok (.invokevirtual 173, 3) := by decide +kernel
theorem d_Mo_state_4 : decode c_Mo_state 4 = .ok (.aload_n 0, 1) := by decide +kernel
theorem d_Mo_state_5 : decode c_Mo_state 5 = .ok (.iload_n 1, 1) := by decide +kernel
theorem d_Mo_state_6 : decode c_Mo_state 6 = .ok (.invokevirtual 211, 3) := by decide +kernel
theorem d_Mo_state_9 : decode c_Mo_state 9 = .ok (.ifCond .eq 25, 3) := by decide +kernel
theorem d_Mo_state_12 : decode c_Mo_state 12 = .ok (.aload_n 0, 1) := by decide +kernel
theorem d_Mo_state_13 : decode c_Mo_state 13 = .ok (.iload_n 2, 1) := by decide +kernel
theorem d_Mo_state_14 : decode c_Mo_state 14 = .ok (.invokevirtual 176, 3) := by decide +kernel
theorem d_Mo_state_17 : decode c_Mo_state 17 = .ok (.ifCond .eq 17, 3) := by decide +kernel
theorem d_Mo_state_20 : decode c_Mo_state 20 = .ok (.aload_n 0, 1) := by decide +kernel
theorem d_Mo_state_21 : decode c_Mo_state 21 = .ok (.getfield 57, 3) := by decide +kernel
theorem d_Mo_state_24 : decode c_Mo_state 24 = .ok (.bipush 64, 2) := by decide +kernel
theorem d_Mo_state_26 : decode c_Mo_state 26 = .ok (.iload_n 1, 1) := by decide +kernel
theorem d_Mo_state_27 : decode c_Mo_state 27 = .ok (.imul, 1) := by decide +kernel
theorem d_Mo_state_28 : decode c_Mo_state 28 = .ok (.iload_n 2, 1) := by decide +kernel
theorem d_Mo_state_29 : decode c_Mo_state 29 = .ok (.iadd, 1) := by decide +kernel
theorem d_Mo_state_30 : decode c_Mo_state 30 = .ok (.iaload, 1) := by decide +kernel
theorem d_Mo_state_31 : decode c_Mo_state 31 = .ok (.goto 4, 3) := by decide +kernel
theorem d_Mo_state_34 : decode c_Mo_state 34 = .ok (.iconst (-1), 1) := by decide +kernel
theorem d_Mo_state_35 : decode c_Mo_state 35 = .ok (.ireturn, 1) := by decide +kernel
theorem d_Mo_leftOut_0 : decode c_Mo_leftOut 0 = .ok (.iconst 0, 1) := by decide +kernel
theorem d_Mo_leftOut_1 : decode c_Mo_leftOut 1 = .ok (.istore_n 1, 1) := by decide +kernel
theorem d_Mo_leftOut_2 : decode c_Mo_leftOut 2 = .ok (.iconst 0, 1) := by decide +kernel
theorem d_Mo_leftOut_3 : decode c_Mo_leftOut 3 = .ok (.istore_n 2, 1) := by decide +kernel
theorem d_Mo_leftOut_4 : decode c_Mo_leftOut 4 = .ok (.iload_n 2, 1) := by decide +kernel
theorem d_Mo_leftOut_5 : decode c_Mo_leftOut 5 = .ok (.aload_n 0, 1) := by decide +kernel
theorem d_Mo_leftOut_6 : decode c_Mo_leftOut 6 = .ok (.getfield 69, 3) := by decide +kernel
theorem d_Mo_leftOut_9 : decode c_Mo_leftOut 9 = .ok (.if_icmp .ge 58, 3) := by decide +kernel
theorem d_Mo_leftOut_12 : decode c_Mo_leftOut 12 = .ok (.aload_n 0, 1) := by decide +kernel
theorem d_Mo_leftOut_13 : decode c_Mo_leftOut 13 = .ok (.iconst 1, 1) := by decide +kernel
theorem d_Mo_leftOut_14 : decode c_Mo_leftOut 14 = .ok (.aload_n 0, 1) := by decide +kernel
theorem d_Mo_leftOut_15 : decode c_Mo_leftOut 15 = .ok (.getfield 69, 3) := by decide +kernel
theorem d_Mo_leftOut_18 : decode c_Mo_leftOut 18 = .ok (.ishl, 1) := by decide +kernel
theorem d_Mo_leftOut_19 : decode c_Mo_leftOut 19 = .ok (.iconst 1, 1) := by decide +kernel
theorem d_Mo_leftOut_20 : decode c_Mo_leftOut 20 = .ok (.isub, 1) := by decide +kernel
theorem d_Mo_leftOut_21 : decode c_Mo_leftOut 21 = .ok (.iconst 1, 1) := by decide +kernel
theorem d_Mo_leftOut_22 : decode c_Mo_leftOut 22 = .ok (.iload_n 2, 1) := by decide +kernel
theorem d_Mo_leftOut_23 : decode c_Mo_leftOut 23 = .ok (.ishl, 1) := by decide +kernel
theorem d_Mo_leftOut_24 : decode c_Mo_leftOut 24 = .ok (.iconst (-1), 1) := by decide +kernel
theorem d_Mo_leftOut_25 : decode c_Mo_leftOut 25 = .ok (.ixor, 1) := by decide +kernel
theorem d_Mo_leftOut_26 : decode c_Mo_leftOut 26 = .ok (.iand, 1) := by decide +kernel
theorem d_Mo_leftOut_27 : decode c_Mo_leftOut 27 = .ok (.invokevirtual 166, 3) := by decide +kernel
theorem d_Mo_leftOut_30 : decode c_Mo_leftOut 30 = .ok (.iload_n 1, 1) := by decide +kernel
theorem d_Mo_leftOut_31 : decode c_Mo_leftOut 31 = .ok (.aload_n 0, 1) := by decide +kernel
theorem d_Mo_leftOut_32 : decode c_Mo_leftOut 32 = .ok (.aload_n 0, 1) := by decide +kernel
theorem d_Mo_leftOut_33 : decode c_Mo_leftOut 33 = .ok (.getfield 26, 3) := by decide +kernel
theorem d_Mo_leftOut_36 : decode c_Mo_leftOut 36 = .ok (.aload_n 0, 1) := by decide +kernel
theorem d_Mo_leftOut_37 : decode c_Mo_leftOut 37 = .ok (.iload_n 2, 1) := by decide +kernel
theorem d_Mo_leftOut_38 : decode c_Mo_leftOut 38 = .ok (.invokevirtual 191, 3) := by decide +kernel
theorem d_Mo_leftOut_41 : decode c_Mo_leftOut 41 = .ok (.iaload, 1) := by decide +kernel
theorem d_Mo_leftOut_42 : decode c_Mo_leftOut 42 = .ok (.invokevirtual 91, 3) := by decide +kernel
theorem d_Mo_leftOut_45 : decode c_Mo_leftOut 45 = .ok (.aload_n 0, 1) := by decide +kernel
theorem d_Mo_leftOut_46 : decode c_Mo_leftOut 46 = .ok (.getfield 16, 3) := by decide +kernel
theorem d_Mo_leftOut_49 : decode c_Mo_leftOut 49 = .ok (.iload_n 2, 1) := by decide +kernel
theorem d_Mo_leftOut_50 : decode c_Mo_leftOut 50 = .ok (.iaload, 1) := by decide +kernel
theorem d_Mo_leftOut_51 : decode c_Mo_leftOut 51 = .ok (.if_icmp .eq 7, 3) := by decide +kernel
theorem d_Mo_leftOut_54 : decode c_Mo_leftOut 54 = .ok (.iconst 1, 1) := by decide +kernel
theorem d_Mo_leftOut_55 : decode c_Mo_leftOut 55 = .ok (.goto 4, 3) := by decide +kernel
theorem d_Mo_leftOut_58 : decode c_Mo_leftOut 58 = .ok (.iconst 0, 1) := by decide +kernel
theorem d_Mo_leftOut_59 : decode c_Mo_leftOut 59 = .ok (.iadd, 1) := by decide +kernel
theorem d_Mo_leftOut_60 : decode c_Mo_leftOut 60 = .ok (.istore_n 1, 1) := by decide +kernel
theorem d_Mo_leftOut_61 : decode c_Mo_leftOut 61 = .ok (.iinc 2 1, 3) := by decide +kernel
theorem d_Mo_leftOut_64 : decode c_Mo_leftOut 64 = .ok (.goto (-60), 3) := by decide +kernel
theorem d_Mo_leftOut_67 : decode c_Mo_leftOut 67 = .ok (.aload_n 0, 1) := by decide +kernel
theorem d_Mo_leftOut_68 : decode c_Mo_leftOut 68 = .ok (.iconst 0, 1) := by decide +kernel
theorem d_Mo_leftOut_69 : decode c_Mo_leftOut 69 = .ok (.putfield 76, 3) := by decide +kernel
theorem d_Mo_leftOut_72 : decode c_Mo_leftOut 72 = .ok (.iload_n 1, 1) := by decide +kernel
theorem d_Mo_leftOut_73 : decode c_Mo_leftOut 73 = .ok (.ireturn, 1) := by decide +kernel
