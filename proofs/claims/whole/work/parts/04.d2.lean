theorem d_Bs_init_0 : decode c_Bs_init 0 = .ok (.aload_n 0, 1) := by decide +kernel
theorem d_Bs_init_1 : decode c_Bs_init 1 = .ok (.invokespecial 3, 3) := by decide +kernel
theorem d_Bs_init_4 : decode c_Bs_init 4 = .ok (.aload_n 0, 1) := by decide +kernel
theorem d_Bs_init_5 : decode c_Bs_init 5 = .ok (.new 9, 3) := by decide +kernel
theorem d_Bs_init_8 : decode c_Bs_init 8 = .ok (.dup, 1) := by decide +kernel
theorem d_Bs_init_9 : decode c_Bs_init 9 = .ok (.invokespecial 11, 3) := by decide +kernel
theorem d_Bs_init_12 : decode c_Bs_init 12 = .ok (.putfield 12, 3) := by decide +kernel
theorem d_Bs_init_15 : decode c_Bs_init 15 = .ok (.aload_n 0, 1) := by decide +kernel
theorem d_Bs_init_16 : decode c_Bs_init 16 = .ok (.new 16, 3) := by decide +kernel
theorem d_Bs_init_19 : decode c_Bs_init 19 = .ok (.dup, 1) := by decide +kernel
theorem d_Bs_init_20 : decode c_Bs_init 20 = .ok (.invokespecial 18, 3) := by decide +kernel
theorem d_Bs_init_23 : decode c_Bs_init 23 = .ok (.putfield 19, 3) := by decide +kernel
theorem d_Bs_init_26 : decode c_Bs_init 26 = .ok (.aload_n 0, 1) := by decide +kernel
theorem d_Bs_init_27 : decode c_Bs_init 27 = .ok (.new 23, 3) := by decide +kernel
theorem d_Bs_init_30 : decode c_Bs_init 30 = .ok (.dup, 1) := by decide +kernel
theorem d_Bs_init_31 : decode c_Bs_init 31 = .ok (.aload_n 0, 1) := by decide +kernel
theorem d_Bs_init_32 : decode c_Bs_init 32 = .ok (.getfield 12, 3) := by decide +kernel
theorem d_Bs_init_35 : decode c_Bs_init 35 = .ok (.aload_n 0, 1) := by decide +kernel
theorem d_Bs_init_36 : decode c_Bs_init 36 = .ok (.getfield 19, 3) := by decide +kernel
theorem d_Bs_init_39 : decode c_Bs_init 39 = .ok (.invokespecial 25, 3) := by decide +kernel
theorem d_Bs_init_42 : decode c_Bs_init 42 = .ok (.putfield 28, 3) := by decide +kernel
theorem d_Bs_init_45 : decode c_Bs_init 45 = .ok (.aload_n 0, 1) := by decide +kernel
theorem d_Bs_init_46 : decode c_Bs_init 46 = .ok (.new 32, 3) := by decide +kernel
theorem d_Bs_init_49 : decode c_Bs_init 49 = .ok (.dup, 1) := by decide +kernel
theorem d_Bs_init_50 : decode c_Bs_init 50 = .ok (.aload_n 0, 1) := by decide +kernel
theorem d_Bs_init_51 : decode c_Bs_init 51 = .ok (.getfield 12, 3) := by decide +kernel
theorem d_Bs_init_54 : decode c_Bs_init 54 = .ok (.aload_n 0, 1) := by decide +kernel
theorem d_Bs_init_55 : decode c_Bs_init 55 = .ok (.getfield 19, 3) := by decide +kernel
theorem d_Bs_init_58 : decode c_Bs_init 58 = .ok (.aload_n 0, 1) := by decide +kernel
theorem d_Bs_init_59 : decode c_Bs_init 59 = .ok (.getfield 28, 3) := by decide +kernel
theorem d_Bs_init_62 : decode c_Bs_init 62 = .ok (.invokespecial 34, 3) := by decide +kernel
theorem d_Bs_init_65 : decode c_Bs_init 65 = .ok (.putfield 37, 3) := by decide +kernel
theorem d_Bs_init_68 : decode c_Bs_init 68 = .ok (.aload_n 0, 1) := by decide +kernel
theorem d_Bs_init_69 : decode c_Bs_init 69 = .ok (.new 32, 3) := by decide +kernel
theorem d_Bs_init_72 : decode c_Bs_init 72 = .ok (.dup, 1) := by decide +kernel
theorem d_Bs_init_73 : decode c_Bs_init 73 = .ok (.aload_n 0, 1) := by decide +kernel
theorem d_Bs_init_74 : decode c_Bs_init 74 = .ok (.getfield 12, 3) := by decide +kernel
theorem d_Bs_init_77 : decode c_Bs_init 77 = .ok (.aload_n 0, 1) := by decide +kernel
theorem d_Bs_init_78 : decode c_Bs_init 78 = .ok (.getfield 19, 3) := by decide +kernel
theorem d_Bs_init_81 : decode c_Bs_init 81 = .ok (.aload_n 0, 1) := by decide +kernel
theorem d_Bs_init_82 : decode c_Bs_init 82 = .ok (.getfield 28, 3) := by decide +kernel
theorem d_Bs_init_85 : decode c_Bs_init 85 = .ok (.invokespecial 34, 3) := by decide +kernel
theorem d_Bs_init_88 : decode c_Bs_init 88 = .ok (.putfield 41, 3) := by decide +kernel
theorem d_Bs_init_91 : decode c_Bs_init 91 = .ok (.aload_n 0, 1) := by decide +kernel
theorem d_Bs_init_92 : decode c_Bs_init 92 = .ok (.new 44, 3) := by decide +kernel
theorem d_Bs_init_95 : decode c_Bs_init 95 = .ok (.dup, 1) := by decide +kernel
theorem d_Bs_init_96 : decode c_Bs_init 96 = .ok (.aload_n 0, 1) := by decide +kernel
theorem d_Bs_init_97 : decode c_Bs_init 97 = .ok (.getfield 37, 3) := by decide +kernel
theorem d_Bs_init_100 : decode c_Bs_init 100 = .ok (.invokespecial 46, 3) := by decide +kernel
theorem d_Bs_init_103 : decode c_Bs_init 103 = .ok (.putfield 49, 3) := by decide +kernel
theorem d_Bs_init_106 : decode c_Bs_init 106 = .ok (.aload_n 0, 1) := by decide +kernel
theorem d_Bs_init_107 : decode c_Bs_init 107 = .ok (.iconst 4, 1) := by decide +kernel
theorem d_Bs_init_108 : decode c_Bs_init 108 = .ok (.newarray .int, 2) := by decide +kernel
theorem d_Bs_init_110 : decode c_Bs_init 110 = .ok (.putfield 53, 3) := by decide +kernel
theorem d_Bs_init_113 : decode c_Bs_init 113 = .ok (.aload_n 0, 1) := by decide +kernel
theorem d_Bs_init_114 : decode c_Bs_init 114 = .ok (.iconst 1, 1) := by decide +kernel
theorem d_Bs_init_115 : decode c_Bs_init 115 = .ok (.putfield 57, 3) := by decide +kernel
theorem d_Bs_init_118 : decode c_Bs_init 118 = .ok (.aload_n 0, 1) := by decide +kernel
theorem d_Bs_init_119 : decode c_Bs_init 119 = .ok (.iconst (-1), 1) := by decide +kernel
theorem d_Bs_init_120 : decode c_Bs_init 120 = .ok (.putfield 61, 3) := by decide +kernel
theorem d_Bs_init_123 : decode c_Bs_init 123 = .ok (.return_, 1) := by decide +kernel
theorem d_Tab_init_0 : decode c_Tab_init 0 = .ok (.aload_n 0, 1) := by decide +kernel
theorem d_Tab_init_1 : decode c_Tab_init 1 = .ok (.invokespecial 3, 3) := by decide +kernel
theorem d_Tab_init_4 : decode c_Tab_init 4 = .ok (.aload_n 0, 1) := by decide +kernel
theorem d_Tab_init_5 : decode c_Tab_init 5 = .ok (.bipush 24, 2) := by decide +kernel
theorem d_Tab_init_7 : decode c_Tab_init 7 = .ok (.iconst 4, 1) := by decide +kernel
theorem d_Tab_init_8 : decode c_Tab_init 8 = .ok (.multianewarray 9 2, 4) := by decide +kernel
theorem d_Tab_init_12 : decode c_Tab_init 12 = .ok (.putfield 11, 3) := by decide +kernel
theorem d_Tab_init_15 : decode c_Tab_init 15 = .ok (.aload_n 0, 1) := by decide +kernel
theorem d_Tab_init_16 : decode c_Tab_init 16 = .ok (.bipush 24, 2) := by decide +kernel
theorem d_Tab_init_18 : decode c_Tab_init 18 = .ok (.newarray .int, 2) := by decide +kernel
theorem d_Tab_init_20 : decode c_Tab_init 20 = .ok (.putfield 16, 3) := by decide +kernel
theorem d_Tab_init_23 : decode c_Tab_init 23 = .ok (.aload_n 0, 1) := by decide +kernel
theorem d_Tab_init_24 : decode c_Tab_init 24 = .ok (.iconst 0, 1) := by decide +kernel
theorem d_Tab_init_25 : decode c_Tab_init 25 = .ok (.putfield 20, 3) := by decide +kernel
theorem d_Tab_init_28 : decode c_Tab_init 28 = .ok (.aload_n 0, 1) := by decide +kernel
theorem d_Tab_init_29 : decode c_Tab_init 29 = .ok (.iconst 4, 1) := by decide +kernel
theorem d_Tab_init_30 : decode c_Tab_init 30 = .ok (.newarray .int, 2) := by decide +kernel
theorem d_Tab_init_32 : decode c_Tab_init 32 = .ok (.putfield 24, 3) := by decide +kernel
theorem d_Tab_init_35 : decode c_Tab_init 35 = .ok (.aload_n 0, 1) := by decide +kernel
theorem d_Tab_init_36 : decode c_Tab_init 36 = .ok (.iconst 3, 1) := by decide +kernel
theorem d_Tab_init_37 : decode c_Tab_init 37 = .ok (.newarray .int, 2) := by decide +kernel
theorem d_Tab_init_39 : decode c_Tab_init 39 = .ok (.putfield 27, 3) := by decide +kernel
theorem d_Tab_init_42 : decode c_Tab_init 42 = .ok (.aload_n 0, 1) := by decide +kernel
theorem d_Tab_init_43 : decode c_Tab_init 43 = .ok (.iconst 4, 1) := by decide +kernel
theorem d_Tab_init_44 : decode c_Tab_init 44 = .ok (.newarray .int, 2) := by decide +kernel
theorem d_Tab_init_46 : decode c_Tab_init 46 = .ok (.putfield 30, 3) := by decide +kernel
theorem d_Tab_init_49 : decode c_Tab_init 49 = .ok (.aload_n 0, 1) := by decide +kernel
theorem d_Tab_init_50 : decode c_Tab_init 50 = .ok (.iconst 4, 1) := by decide +kernel
theorem d_Tab_init_51 : decode c_Tab_init 51 = .ok (.bipush 101, 2) := by decide +kernel
theorem d_Tab_init_53 : decode c_Tab_init 53 = .ok (.multianewarray 9 2, 4) := by decide +kernel
theorem d_Tab_init_57 : decode c_Tab_init 57 = .ok (.putfield 33, 3) := by decide +kernel
theorem d_Tab_init_60 : decode c_Tab_init 60 = .ok (.return_, 1) := by decide +kernel
theorem d_Bs_column_0 : decode c_Bs_column 0 = .ok (.iload_n 1, 1) := by decide +kernel
theorem d_Bs_column_1 : decode c_Bs_column 1 = .ok (.invokestatic 65, 3) := by decide +kernel
theorem d_Bs_column_4 : decode c_Bs_column 4 = .ok (.ifCond .ne 5, 3) := by decide +kernel
theorem d_Bs_column_7 : decode c_Bs_column 7 = .ok (.iconst (-1), 1) := by decide +kernel
theorem d_Bs_column_8 : decode c_Bs_column 8 = .ok (.ireturn, 1) := by decide +kernel
theorem d_Bs_column_9 : decode c_Bs_column 9 = .ok (.iload_n 2, 1) := by decide +kernel
theorem d_Bs_column_10 : decode c_Bs_column 10 = .ok (.ifCond .eq 11, 3) := by decide +kernel
theorem d_Bs_column_13 : decode c_Bs_column 13 = .ok (.iload_n 2, 1) := by decide +kernel
theorem d_Bs_column_14 : decode c_Bs_column 14 = .ok (.iconst 1, 1) := by decide +kernel
theorem d_Bs_column_15 : decode c_Bs_column 15 = .ok (.if_icmp .eq 6, 3) := by decide +kernel
theorem d_Bs_column_18 : decode c_Bs_column 18 = .ok (.bipush (-2), 2) := by decide +kernel
theorem d_Bs_column_20 : decode c_Bs_column 20 = .ok (.ireturn, 1) := by decide +kernel
theorem d_Bs_column_21 : decode c_Bs_column 21 = .ok (.aload_n 0, 1) := by decide +kernel
theorem d_Bs_column_22 : decode c_Bs_column 22 = .ok (.getfield 12, 3) := by decide +kernel
theorem d_Bs_column_25 : decode c_Bs_column 25 = .ok (.getfield 69, 3) := by decide +kernel
theorem d_Bs_column_28 : decode c_Bs_column 28 = .ok (.ifCond .le 6, 3) := by decide +kernel
theorem d_Bs_column_31 : decode c_Bs_column 31 = .ok (.bipush (-3), 2) := by decide +kernel
theorem d_Bs_column_33 : decode c_Bs_column 33 = .ok (.ireturn, 1) := by decide +kernel
theorem d_Bs_column_34 : decode c_Bs_column 34 = .ok (.aload_n 0, 1) := by decide +kernel
theorem d_Bs_column_35 : decode c_Bs_column 35 = .ok (.invokevirtual 72, 3) := by decide +kernel
theorem d_Bs_column_38 : decode c_Bs_column 38 = .ok (.aload_n 0, 1) := by decide +kernel
theorem d_Bs_column_39 : decode c_Bs_column 39 = .ok (.getfield 12, 3) := by decide +kernel
theorem d_Bs_column_42 : decode c_Bs_column 42 = .ok (.iload_n 1, 1) := by decide +kernel
theorem d_Bs_column_43 : decode c_Bs_column 43 = .ok (.iload_n 2, 1) := by decide +kernel
theorem d_Bs_column_44 : decode c_Bs_column 44 = .ok (.invokevirtual 75, 3) := by decide +kernel
theorem d_Bs_column_47 : decode c_Bs_column 47 = .ok (.ireturn, 1) := by decide +kernel
theorem d_Bs_isColumn_0 : decode c_Bs_isColumn 0 = .ok (.iload_n 0, 1) := by decide +kernel
theorem d_Bs_isColumn_1 : decode c_Bs_isColumn 1 = .ok (.ifCond .lt 12, 3) := by decide +kernel
theorem d_Bs_isColumn_4 : decode c_Bs_isColumn 4 = .ok (.iload_n 0, 1) := by decide +kernel
theorem d_Bs_isColumn_5 : decode c_Bs_isColumn 5 = .ok (.iconst 4, 1) := by decide +kernel
theorem d_Bs_isColumn_6 : decode c_Bs_isColumn 6 = .ok (.if_icmp .ge 7, 3) := by decide +kernel
theorem d_Bs_isColumn_9 : decode c_Bs_isColumn 9 = .ok (.iconst 1, 1) := by decide +kernel
theorem d_Bs_isColumn_10 : decode c_Bs_isColumn 10 = .ok (.goto 4, 3) := by decide +kernel
theorem d_Bs_isColumn_13 : decode c_Bs_isColumn 13 = .ok (.iconst 0, 1) := by decide +kernel
theorem d_Bs_isColumn_14 : decode c_Bs_isColumn 14 = .ok (.ireturn, 1) := by decide +kernel
theorem d_Bs_noteChange_0 : decode c_Bs_noteChange 0 = .ok (.aload_n 0, 1) := by decide +kernel
theorem d_Bs_noteChange_1 : decode c_Bs_noteChange 1 = .ok (.iconst 1, 1) := by decide +kernel
theorem d_Bs_noteChange_2 : decode c_Bs_noteChange 2 = .ok (.putfield 57, 3) := by decide +kernel
theorem d_Bs_noteChange_5 : decode c_Bs_noteChange 5 = .ok (.aload_n 0, 1) := by decide +kernel
theorem d_Bs_noteChange_6 : decode c_Bs_noteChange 6 = .ok (.iconst (-1), 1) := by decide +kernel
theorem d_Bs_noteChange_7 : decode c_Bs_noteChange 7 = .ok (.putfield 61, 3) := by decide +kernel
theorem d_Bs_noteChange_10 : decode c_Bs_noteChange 10 = .ok (.return_, 1) := by decide +kernel
theorem d_Tab_changeSort_0 : decode c_Tab_changeSort 0 = .ok (.iload_n 1, 1) := by decide +kernel
theorem d_Tab_changeSort_1 : decode c_Tab_changeSort 1 = .ok (.invokestatic 36, 3) := by decide +kernel
theorem d_Tab_changeSort_4 : decode c_Tab_changeSort 4 = .ok (.ifCond .ne 5, 3) := by decide +kernel
theorem d_Tab_changeSort_7 : decode c_Tab_changeSort 7 = .ok (.iconst (-1), 1) := by decide +kernel
theorem d_Tab_changeSort_8 : decode c_Tab_changeSort 8 = .ok (.ireturn, 1) := by decide +kernel
theorem d_Tab_changeSort_9 : decode c_Tab_changeSort 9 = .ok (.aload_n 0, 1) := by decide +kernel
theorem d_Tab_changeSort_10 : decode c_Tab_changeSort 10 = .ok (.getfield 24, 3) := by decide +kernel
theorem d_Tab_changeSort_13 : decode c_Tab_changeSort 13 = .ok (.iload_n 1, 1) := by decide +kernel
theorem d_Tab_changeSort_14 : decode c_Tab_changeSort 14 = .ok (.iaload, 1) := by decide +kernel
theorem d_Tab_changeSort_15 : decode c_Tab_changeSort 15 = .ok (.istore_n 3, 1) := by decide +kernel
theorem d_Tab_changeSort_16 : decode c_Tab_changeSort 16 = .ok (.aload_n 0, 1) := by decide +kernel
theorem d_Tab_changeSort_17 : decode c_Tab_changeSort 17 = .ok (.getfield 24, 3) := by decide +kernel
theorem d_Tab_changeSort_20 : decode c_Tab_changeSort 20 = .ok (.iload_n 1, 1) := by decide +kernel
theorem d_Tab_changeSort_21 : decode c_Tab_changeSort 21 = .ok (.iload_n 2, 1) := by decide +kernel
theorem d_Tab_changeSort_22 : decode c_Tab_changeSort 22 = .ok (.iastore, 1) := by decide +kernel
theorem d_Tab_changeSort_23 : decode c_Tab_changeSort 23 = .ok (.iload_n 3, 1) := by decide +kernel
theorem d_Tab_changeSort_24 : decode c_Tab_changeSort 24 = .ok (.ireturn, 1) := by decide +kernel
theorem d_Bs_row_0 : decode c_Bs_row 0 = .ok (.aload_n 0, 1) := by decide +kernel
theorem d_Bs_row_1 : decode c_Bs_row 1 = .ok (.iload_n 1, 1) := by decide +kernel
theorem d_Bs_row_2 : decode c_Bs_row 2 = .ok (.iload_n 2, 1) := by decide +kernel
theorem d_Bs_row_3 : decode c_Bs_row 3 = .ok (.iload_n 3, 1) := by decide +kernel
theorem d_Bs_row_4 : decode c_Bs_row 4 = .ok (.iload 4, 2) := by decide +kernel
theorem d_Bs_row_6 : decode c_Bs_row 6 = .ok (.invokevirtual 79, 3) := by decide +kernel
theorem d_Bs_row_9 : decode c_Bs_row 9 = .ok (.aload_n 0, 1) := by decide +kernel
theorem d_Bs_row_10 : decode c_Bs_row 10 = .ok (.getfield 12, 3) := by decide +kernel
theorem d_Bs_row_13 : decode c_Bs_row 13 = .ok (.aload_n 0, 1) := by decide +kernel
theorem d_Bs_row_14 : decode c_Bs_row 14 = .ok (.getfield 53, 3) := by decide +kernel
theorem d_Bs_row_17 : decode c_Bs_row 17 = .ok (.invokevirtual 83, 3) := by decide +kernel
theorem d_Bs_row_20 : decode c_Bs_row 20 = .ok (.ifCond .eq 11, 3) := by decide +kernel
theorem d_Bs_row_23 : decode c_Bs_row 23 = .ok (.iload 5, 2) := by decide +kernel
theorem d_Bs_row_25 : decode c_Bs_row 25 = .ok (.invokestatic 87, 3) := by decide +kernel
theorem d_Bs_row_28 : decode c_Bs_row 28 = .ok (.ifCond .ne 6, 3) := by decide +kernel
theorem d_Bs_row_31 : decode c_Bs_row 31 = .ok (.bipush (-2), 2) := by decide +kernel
theorem d_Bs_row_33 : decode c_Bs_row 33 = .ok (.ireturn, 1) := by decide +kernel
theorem d_Bs_row_34 : decode c_Bs_row 34 = .ok (.aload_n 0, 1) := by decide +kernel
theorem d_Bs_row_35 : decode c_Bs_row 35 = .ok (.getfield 12, 3) := by decide +kernel
theorem d_Bs_row_38 : decode c_Bs_row 38 = .ok (.getfield 69, 3) := by decide +kernel
theorem d_Bs_row_41 : decode c_Bs_row 41 = .ok (.bipush 24, 2) := by decide +kernel
theorem d_Bs_row_43 : decode c_Bs_row 43 = .ok (.if_icmp .lt 6, 3) := by decide +kernel
theorem d_Bs_row_46 : decode c_Bs_row 46 = .ok (.bipush (-4), 2) := by decide +kernel
theorem d_Bs_row_48 : decode c_Bs_row 48 = .ok (.ireturn, 1) := by decide +kernel
theorem d_Bs_row_49 : decode c_Bs_row 49 = .ok (.aload_n 0, 1) := by decide +kernel
theorem d_Bs_row_50 : decode c_Bs_row 50 = .ok (.invokevirtual 72, 3) := by decide +kernel
theorem d_Bs_row_53 : decode c_Bs_row 53 = .ok (.aload_n 0, 1) := by decide +kernel
theorem d_Bs_row_54 : decode c_Bs_row 54 = .ok (.getfield 12, 3) := by decide +kernel
theorem d_Bs_row_57 : decode c_Bs_row 57 = .ok (.aload_n 0, 1) := by decide +kernel
theorem d_Bs_row_58 : decode c_Bs_row 58 = .ok (.getfield 53, 3) := by decide +kernel
theorem d_Bs_row_61 : decode c_Bs_row 61 = .ok (.iload 5, 2) := by decide +kernel
theorem d_Bs_row_63 : decode c_Bs_row 63 = .ok (.invokevirtual 90, 3) := by decide +kernel
theorem d_Bs_row_66 : decode c_Bs_row 66 = .ok (.ireturn, 1) := by decide +kernel
theorem d_Bs_ask_0 : decode c_Bs_ask 0 = .ok (.aload_n 0, 1) := by decide +kernel
theorem d_Bs_ask_1 : decode c_Bs_ask 1 = .ok (.getfield 53, 3) := by decide +kernel
theorem d_Bs_ask_4 : decode c_Bs_ask 4 = .ok (.iconst 0, 1) := by decide +kernel
theorem d_Bs_ask_5 : decode c_Bs_ask 5 = .ok (.iload_n 1, 1) := by decide +kernel
theorem d_Bs_ask_6 : decode c_Bs_ask 6 = .ok (.iastore, 1) := by decide +kernel
theorem d_Bs_ask_7 : decode c_Bs_ask 7 = .ok (.aload_n 0, 1) := by decide +kernel
theorem d_Bs_ask_8 : decode c_Bs_ask 8 = .ok (.getfield 53, 3) := by decide +kernel
theorem d_Bs_ask_11 : decode c_Bs_ask 11 = .ok (.iconst 1, 1) := by decide +kernel
theorem d_Bs_ask_12 : decode c_Bs_ask 12 = .ok (.iload_n 2, 1) := by decide +kernel
theorem d_Bs_ask_13 : decode c_Bs_ask 13 = .ok (.iastore, 1) := by decide +kernel
theorem d_Bs_ask_14 : decode c_Bs_ask 14 = .ok (.aload_n 0, 1) := by decide +kernel
theorem d_Bs_ask_15 : decode c_Bs_ask 15 = .ok (.getfield 53, 3) := by decide +kernel
theorem d_Bs_ask_18 : decode c_Bs_ask 18 = .ok (.iconst 2, 1) := by decide +kernel
theorem d_Bs_ask_19 : decode c_Bs_ask 19 = .ok (.iload_n 3, 1) := by decide +kernel
theorem d_Bs_ask_20 : decode c_Bs_ask 20 = .ok (.iastore, 1) := by decide +kernel
theorem d_Bs_ask_21 : decode c_Bs_ask 21 = .ok (.aload_n 0, 1) := by decide +kernel
theorem d_Bs_ask_22 : decode c_Bs_ask 22 = .ok (.getfield 53, 3) := by decide +kernel
theorem d_Bs_ask_25 : decode c_Bs_ask 25 = .ok (.iconst 3, 1) := by decide +kernel
theorem d_Bs_ask_26 : decode c_Bs_ask 26 = .ok (.iload 4, 2) := by decide +kernel
theorem d_Bs_ask_28 : decode c_Bs_ask 28 = .ok (.iastore, 1) := by decide +kernel
theorem d_Bs_ask_29 : decode c_Bs_ask 29 = .ok (.return_, 1) := by decide +kernel
theorem d_Tab_takes_0 : decode c_Tab_takes 0 = .ok (.iconst 0, 1) := by decide +kernel
theorem d_Tab_takes_1 : decode c_Tab_takes 1 = .ok (.istore_n 2, 1) := by decide +kernel
theorem d_Tab_takes_2 : decode c_Tab_takes 2 = .ok (.iload_n 2, 1) := by decide +kernel
theorem d_Tab_takes_3 : decode c_Tab_takes 3 = .ok (.iconst 4, 1) := by decide +kernel
theorem d_Tab_takes_4 : decode c_Tab_takes 4 = .ok (.if_icmp .ge 48, 3) := by decide +kernel
theorem d_Tab_takes_7 : decode c_Tab_takes 7 = .ok (.iload_n 2, 1) := by decide +kernel
theorem d_Tab_takes_8 : decode c_Tab_takes 8 = .ok (.aload_n 1, 1) := by decide +kernel
theorem d_Tab_takes_9 : decode c_Tab_takes 9 = .ok (.arraylength, 1) := by decide +kernel
theorem d_Tab_takes_10 : decode c_Tab_takes 10 = .ok (.if_icmp .ge 42, 3) := by decide +kernel
theorem d_Tab_takes_13 : decode c_Tab_takes 13 = .ok (.aload_n 0, 1) := by decide +kernel
theorem d_Tab_takes_14 : decode c_Tab_takes 14 = .ok (.getfield 24, 3) := by decide +kernel
theorem d_Tab_takes_17 : decode c_Tab_takes 17 = .ok (.iload_n 2, 1) := by decide +kernel
theorem d_Tab_takes_18 : decode c_Tab_takes 18 = .ok (.iaload, 1) := by decide +kernel
theorem d_Tab_takes_19 : decode c_Tab_takes 19 = .ok (.iconst 1, 1) := by decide +kernel
theorem d_Tab_takes_20 : decode c_Tab_takes 20 = .ok (.if_icmp .ne 7, 3) := by decide +kernel
theorem d_Tab_takes_23 : decode c_Tab_takes 23 = .ok (.iconst 5, 1) := by decide +kernel
theorem d_Tab_takes_24 : decode c_Tab_takes 24 = .ok (.goto 5, 3) := by decide +kernel
theorem d_Tab_takes_27 : decode c_Tab_takes 27 = .ok (.bipush 100, 2) := by decide +kernel
theorem d_Tab_takes_29 : decode c_Tab_takes 29 = .ok (.istore_n 3, 1) := by decide +kernel
theorem d_Tab_takes_30 : decode c_Tab_takes 30 = .ok (.aload_n 1, 1) := by decide +kernel
theorem d_Tab_takes_31 : decode c_Tab_takes 31 = .ok (.iload_n 2, 1) := by decide +kernel
theorem d_Tab_takes_32 : decode c_Tab_takes 32 = .ok (.iaload, 1) := by decide +kernel
theorem d_Tab_takes_33 : decode c_Tab_takes 33 = .ok (.iconst (-1), 1) := by decide +kernel
theorem d_Tab_takes_34 : decode c_Tab_takes 34 = .ok (.if_icmp .lt 10, 3) := by decide +kernel
theorem d_Tab_takes_37 : decode c_Tab_takes 37 = .ok (.aload_n 1, 1) := by decide +kernel
theorem d_Tab_takes_38 : decode c_Tab_takes 38 = .ok (.iload_n 2, 1) := by decide +kernel
theorem d_Tab_takes_39 : decode c_Tab_takes 39 = .ok (.iaload, 1) := by decide +kernel
theorem d_Tab_takes_40 : decode c_Tab_takes 40 = .ok (.iload_n 3, 1) := by decide +kernel
theorem d_Tab_takes_41 : decode c_Tab_takes 41 = .ok (.if_icmp .le 5, 3) := by decide +kernel
theorem d_Tab_takes_44 : decode c_Tab_takes 44 = .ok (.iconst 0, 1) := by decide +kernel
theorem d_Tab_takes_45 : decode c_Tab_takes 45 = .ok (.ireturn, 1) := by decide +kernel
theorem d_Tab_takes_46 : decode c_Tab_takes 46 = .ok (.iinc 2 1, 3) := by decide +kernel
theorem d_Tab_takes_49 : decode c_Tab_takes 49 = .ok (.goto (-47), 3) := by decide +kernel
theorem d_Tab_takes_52 : decode c_Tab_takes 52 = .ok (.iconst 1, 1) := by decide +kernel
theorem d_Tab_takes_53 : decode c_Tab_takes 53 = .ok (.ireturn, 1) := by decide +kernel
theorem d_Bs_isClass_0 : decode c_Bs_isClass 0 = .ok (.iload_n 0, 1) := by decide +kernel
theorem d_Bs_isClass_1 : decode c_Bs_isClass 1 = .ok (.ifCond .lt 12, 3) := by decide +kernel
theorem d_Bs_isClass_4 : decode c_Bs_isClass 4 = .ok (.iload_n 0, 1) := by decide +kernel
theorem d_Bs_isClass_5 : decode c_Bs_isClass 5 = .ok (.iconst 3, 1) := by decide +kernel
theorem d_Bs_isClass_6 : decode c_Bs_isClass 6 = .ok (.if_icmp .ge 7, 3) := by decide +kernel
theorem d_Bs_isClass_9 : decode c_Bs_isClass 9 = .ok (.iconst 1, 1) := by decide +kernel
theorem d_Bs_isClass_10 : decode c_Bs_isClass 10 = .ok (.goto 4, 3) := by decide +kernel
theorem d_Bs_isClass_13 : decode c_Bs_isClass 13 = .ok (.iconst 0, 1) := by decide +kernel
theorem d_Bs_isClass_14 : decode c_Bs_isClass 14 = .ok (.ireturn, 1) := by decide +kernel
theorem d_Tab_add_0 : decode c_Tab_add 0 = .ok (.aload_n 0, 1) := by decide +kernel
theorem d_Tab_add_1 : decode c_Tab_add 1 = .ok (.getfield 20, 3) := by decide +kernel
theorem d_Tab_add_4 : decode c_Tab_add 4 = .ok (.bipush 24, 2) := by decide +kernel
theorem d_Tab_add_6 : decode c_Tab_add 6 = .ok (.if_icmp .ge 10, 3) := by decide +kernel
theorem d_Tab_add_9 : decode c_Tab_add 9 = .ok (.iload_n 2, 1) := by decide +kernel
theorem d_Tab_add_10 : decode c_Tab_add 10 = .ok (.invokestatic 40, 3) := by decide +kernel
theorem d_Tab_add_13 : decode c_Tab_add 13 = .ok (.ifCond .ne 6, 3) := by decide +kernel
theorem d_Tab_add_16 : decode c_Tab_add 16 = .ok (.bipush (-4), 2) := by decide +kernel
theorem d_Tab_add_18 : decode c_Tab_add 18 = .ok (.ireturn, 1) := by decide +kernel
theorem d_Tab_add_19 : decode c_Tab_add 19 = .ok (.aload_n 0, 1) := by decide +kernel
theorem d_Tab_add_20 : decode c_Tab_add 20 = .ok (.getfield 20, 3) := by decide +kernel
theorem d_Tab_add_23 : decode c_Tab_add 23 = .ok (.istore_n 3, 1) := by decide +kernel
theorem d_Tab_add_24 : decode c_Tab_add 24 = .ok (.iconst 0, 1) := by decide +kernel
theorem d_Tab_add_25 : decode c_Tab_add 25 = .ok (.istore 4, 2) := by decide +kernel
theorem d_Tab_add_27 : decode c_Tab_add 27 = .ok (.iload 4, 2) := by decide +kernel
theorem d_Tab_add_29 : decode c_Tab_add 29 = .ok (.iconst 4, 1) := by decide +kernel
theorem d_Tab_add_30 : decode c_Tab_add 30 = .ok (.if_icmp .ge 48, 3) := by decide +kernel
theorem d_Tab_add_33 : decode c_Tab_add 33 = .ok (.iload 4, 2) := by decide +kernel
theorem d_Tab_add_35 : decode c_Tab_add 35 = .ok (.aload_n 1, 1) := by decide +kernel
theorem d_Tab_add_36 : decode c_Tab_add 36 = .ok (.arraylength, 1) := by decide +kernel
theorem d_Tab_add_37 : decode c_Tab_add 37 = .ok (.if_icmp .ge 41, 3) := by decide +kernel
theorem d_Tab_add_40 : decode c_Tab_add 40 = .ok (.aload_n 0, 1) := by decide +kernel
theorem d_Tab_add_41 : decode c_Tab_add 41 = .ok (.getfield 11, 3) := by decide +kernel
theorem d_Tab_add_44 : decode c_Tab_add 44 = .ok (.iload_n 3, 1) := by decide +kernel
theorem d_Tab_add_45 : decode c_Tab_add 45 = .ok (.aaload, 1) := by decide +kernel
theorem d_Tab_add_46 : decode c_Tab_add 46 = .ok (.iload 4, 2) := by decide +kernel
theorem d_Tab_add_48 : decode c_Tab_add 48 = .ok (.aload_n 1, 1) := by decide +kernel
theorem d_Tab_add_49 : decode c_Tab_add 49 = .ok (.iload 4, 2) := by decide +kernel
theorem d_Tab_add_51 : decode c_Tab_add 51 = .ok (.iaload, 1) := by decide +kernel
theorem d_Tab_add_52 : decode c_Tab_add 52 = .ok (.iastore, 1) := by decide +kernel
theorem d_Tab_add_53 : decode c_Tab_add 53 = .ok (.aload_n 1, 1) := by decide +kernel
theorem d_Tab_add_54 : decode c_Tab_add 54 = .ok (.iload 4, 2) := by decide +kernel
theorem d_Tab_add_56 : decode c_Tab_add 56 = .ok (.iaload, 1) := by decide +kernel
theorem d_Tab_add_57 : decode c_Tab_add 57 = .ok (.iconst (-1), 1) := by decide +kernel
theorem d_Tab_add_58 : decode c_Tab_add 58 = .ok (.if_icmp .eq 14, 3) := by decide +kernel
theorem d_Tab_add_61 : decode c_Tab_add 61 = .ok (.aload_n 0, 1) := by decide +kernel
theorem d_Tab_add_62 : decode c_Tab_add 62 = .ok (.iload_n 3, 1) := by decide +kernel
theorem d_Tab_add_63 : decode c_Tab_add 63 = .ok (.iload 4, 2) := by decide +kernel
theorem d_Tab_add_65 : decode c_Tab_add 65 = .ok (.aload_n 1, 1) := by decide +kernel
theorem d_Tab_add_66 : decode c_Tab_add 66 = .ok (.iload 4, 2) := by decide +kernel
theorem d_Tab_add_68 : decode c_Tab_add 68 = .ok (.iaload, 1) := by decide +kernel
theorem d_Tab_add_69 : decode c_Tab_add 69 = .ok (.invokevirtual 43, 3) := by decide +kernel
theorem d_Tab_add_72 : decode c_Tab_add 72 = .ok (.iinc 4 1, 3) := by decide +kernel
theorem d_Tab_add_75 : decode c_Tab_add 75 = .ok (.goto (-48), 3) := by decide +kernel
theorem d_Tab_add_78 : decode c_Tab_add 78 = .ok (.aload_n 0, 1) := by decide +kernel
theorem d_Tab_add_79 : decode c_Tab_add 79 = .ok (.getfield 16, 3) := by decide +kernel
theorem d_Tab_add_82 : decode c_Tab_add 82 = .ok (.iload_n 3, 1) := by decide +kernel
theorem d_Tab_add_83 : decode c_Tab_add 83 = .ok (.iload_n 2, 1) := by decide +kernel
theorem d_Tab_add_84 : decode c_Tab_add 84 = .ok (.iastore, 1) := by decide +kernel
theorem d_Tab_add_85 : decode c_Tab_add 85 = .ok (.aload_n 0, 1) := by decide +kernel
theorem d_Tab_add_86 : decode c_Tab_add 86 = .ok (.getfield 27, 3) := by decide +kernel
theorem d_Tab_add_89 : decode c_Tab_add 89 = .ok (.iload_n 2, 1) := by decide +kernel
theorem d_Tab_add_90 : decode c_Tab_add 90 = .ok (.dup2, 1) := by decide +kernel
theorem d_Tab_add_91 : decode c_Tab_add 91 = .ok (.iaload, 1) := by decide +kernel
theorem d_Tab_add_92 : decode c_Tab_add 92 = .ok (.iconst 1, 1) := by decide +kernel
theorem d_Tab_add_93 : decode c_Tab_add 93 = .ok (.iload_n 3, 1) := by decide +kernel
theorem d_Tab_add_94 : decode c_Tab_add 94 = .ok (.ishl, 1) := by decide +kernel
theorem d_Tab_add_95 : decode c_Tab_add 95 = .ok (.ior, 1) := by decide +kernel
theorem d_Tab_add_96 : decode c_Tab_add 96 = .ok (.iastore, 1) := by decide +kernel
theorem d_Tab_add_97 : decode c_Tab_add 97 = .ok (.aload_n 0, 1) := by decide +kernel
theorem d_Tab_add_98 : decode c_Tab_add 98 = .ok (.iload_n 3, 1) := by decide +kernel
theorem d_Tab_add_99 : decode c_Tab_add 99 = .ok (.iconst 1, 1) := by decide +kernel
theorem d_Tab_add_100 : decode c_Tab_add 100 = .ok (.iadd, 1) := by decide +kernel
theorem d_Tab_add_101 : decode c_Tab_add 101 = .ok (.putfield 20, 3) := by decide +kernel
theorem d_Tab_add_104 : decode c_Tab_add 104 = .ok (.iload_n 3, 1) := by decide +kernel
theorem d_Tab_add_105 : decode c_Tab_add 105 = .ok (.ireturn, 1) := by decide +kernel
theorem d_Tab_enterKnown_0 : decode c_Tab_enterKnown 0 = .ok (.iload_n 2, 1) := by decide +kernel
theorem d_Tab_enterKnown_1 : decode c_Tab_enterKnown 1 = .ok (.invokestatic 36, 3) := by decide +kernel
theorem d_Tab_enterKnown_4 : decode c_Tab_enterKnown 4 = .ok (.ifCond .ne 4, 3) := by decide +kernel
theorem d_Tab_enterKnown_7 : decode c_Tab_enterKnown 7 = .ok (.return_, 1) := by decide +kernel
theorem d_Tab_enterKnown_8 : decode c_Tab_enterKnown 8 = .ok (.iconst 1, 1) := by decide +kernel
theorem d_Tab_enterKnown_9 : decode c_Tab_enterKnown 9 = .ok (.iload_n 1, 1) := by decide +kernel
theorem d_Tab_enterKnown_10 : decode c_Tab_enterKnown 10 = .ok (.ishl, 1) := by decide +kernel
theorem d_Tab_enterKnown_11 : decode c_Tab_enterKnown 11 = .ok (.istore 4, 2) := by decide +kernel
theorem d_Tab_enterKnown_13 : decode c_Tab_enterKnown 13 = .ok (.aload_n 0, 1) := by decide +kernel
theorem d_Tab_enterKnown_14 : decode c_Tab_enterKnown 14 = .ok (.getfield 30, 3) := by decide +kernel
theorem d_Tab_enterKnown_17 : decode c_Tab_enterKnown 17 = .ok (.iload_n 2, 1) := by decide +kernel
theorem d_Tab_enterKnown_18 : decode c_Tab_enterKnown 18 = .ok (.dup2, 1) := by decide +kernel
theorem d_Tab_enterKnown_19 : decode c_Tab_enterKnown 19 = .ok (.iaload, 1) := by decide +kernel
theorem d_Tab_enterKnown_20 : decode c_Tab_enterKnown 20 = .ok (.iload 4, 2) := by decide +kernel
theorem d_Tab_enterKnown_22 : decode c_Tab_enterKnown 22 = .ok (.ior, 1) := by decide +kernel
theorem d_Tab_enterKnown_23 : decode c_Tab_enterKnown 23 = .ok (.iastore, 1) := by decide +kernel
theorem d_Tab_enterKnown_24 : decode c_Tab_enterKnown 24 = .ok (.iconst 0, 1) := by decide +kernel
theorem d_Tab_enterKnown_25 : decode c_Tab_enterKnown 25 = .ok (.istore 5, 2) := by decide +kernel
theorem d_Tab_enterKnown_27 : decode c_Tab_enterKnown 27 = .ok (.iload 5, 2) := by decide +kernel
theorem d_Tab_enterKnown_29 : decode c_Tab_enterKnown 29 = .ok (.aload_n 0, 1) := by decide +kernel
theorem d_Tab_enterKnown_30 : decode c_Tab_enterKnown 30 = .ok (.iload_n 2, 1) := by decide +kernel
theorem d_Tab_enterKnown_31 : decode c_Tab_enterKnown 31 = .ok (.invokevirtual 47, 3) := by decide +kernel
theorem d_Tab_enterKnown_34 : decode c_Tab_enterKnown 34 = .ok (.if_icmp .gt 34, 3) := by decide +kernel
theorem d_Tab_enterKnown_37 : decode c_Tab_enterKnown 37 = .ok (.aload_n 0, 1) := by decide +kernel
theorem d_Tab_enterKnown_38 : decode c_Tab_enterKnown 38 = .ok (.iload_n 2, 1) := by decide +kernel
theorem d_Tab_enterKnown_39 : decode c_Tab_enterKnown 39 = .ok (.iload 5, 2) := by decide +kernel
theorem d_Tab_enterKnown_41 : decode c_Tab_enterKnown 41 = .ok (.iload_n 3, 1) := by decide +kernel
theorem d_Tab_enterKnown_42 : decode c_Tab_enterKnown 42 = .ok (.invokevirtual 51, 3) := by decide +kernel
theorem d_Tab_enterKnown_45 : decode c_Tab_enterKnown 45 = .ok (.ifCond .eq 17, 3) := by decide +kernel
theorem d_Tab_enterKnown_48 : decode c_Tab_enterKnown 48 = .ok (.aload_n 0, 1) := by decide +kernel
theorem d_Tab_enterKnown_49 : decode c_Tab_enterKnown 49 = .ok (.getfield 33, 3) := by decide +kernel
theorem d_Tab_enterKnown_52 : decode c_Tab_enterKnown 52 = .ok (.iload_n 2, 1) := by decide +kernel
theorem d_Tab_enterKnown_53 : decode c_Tab_enterKnown 53 = .ok (.aaload, 1) := by decide +kernel
theorem d_Tab_enterKnown_54 : decode c_Tab_enterKnown 54 = .ok (.iload 5, 2) := by decide +kernel
theorem d_Tab_enterKnown_56 : decode c_Tab_enterKnown 56 = .ok (.dup2, 1) := by decide +kernel
theorem d_Tab_enterKnown_57 : decode c_Tab_enterKnown 57 = .ok (.iaload, 1) := by decide +kernel
theorem d_Tab_enterKnown_58 : decode c_Tab_enterKnown 58 = .ok (.iload 4, 2) := by decide +kernel
theorem d_Tab_enterKnown_60 : decode c_Tab_enterKnown 60 = .ok (.ior, 1) := by decide +kernel
theorem d_Tab_enterKnown_61 : decode c_Tab_enterKnown 61 = .ok (.iastore, 1) := by decide +kernel
theorem d_Tab_enterKnown_62 : decode c_Tab_enterKnown 62 = .ok (.iinc 5 1, 3) := by decide +kernel
theorem d_Tab_enterKnown_65 : decode c_Tab_enterKnown 65 = .ok (.goto (-38), 3) := by decide +kernel
theorem d_Tab_enterKnown_68 : decode c_Tab_enterKnown 68 = .ok (.return_, 1) := by decide +kernel
theorem d_Tab_lastNumber_0 : decode c_Tab_lastNumber 0 = .ok (.iload_n 1, 1) := by decide +kernel
theorem d_Tab_lastNumber_1 : decode c_Tab_lastNumber 1 = .ok (.invokestatic 36, 3) := by decide +kernel
theorem d_Tab_lastNumber_4 : decode c_Tab_lastNumber 4 = .ok (.ifCond .eq 18, 3) := by decide +kernel
theorem d_Tab_lastNumber_7 : decode c_Tab_lastNumber 7 = .ok (.aload_n 0, 1) := by decide +kernel
theorem d_Tab_lastNumber_8 : decode c_Tab_lastNumber 8 = .ok (.getfield 24, 3) := by decide +kernel
theorem d_Tab_lastNumber_11 : decode c_Tab_lastNumber 11 = .ok (.iload_n 1, 1) := by decide +kernel
theorem d_Tab_lastNumber_12 : decode c_Tab_lastNumber 12 = .ok (.iaload, 1) := by decide +kernel
theorem d_Tab_lastNumber_13 : decode c_Tab_lastNumber 13 = .ok (.iconst 1, 1) := by decide +kernel
theorem d_Tab_lastNumber_14 : decode c_Tab_lastNumber 14 = .ok (.if_icmp .ne 8, 3) := by decide +kernel
theorem d_Tab_lastNumber_17 : decode c_Tab_lastNumber 17 = .ok (.bipush 63, 2) := by decide +kernel
theorem d_Tab_lastNumber_19 : decode c_Tab_lastNumber 19 = .ok (.goto 5, 3) := by decide +kernel
theorem d_Tab_lastNumber_22 : decode c_Tab_lastNumber 22 = .ok (.bipush 100, 2) := by decide +kernel
theorem d_Tab_lastNumber_24 : decode c_Tab_lastNumber 24 = .ok (.ireturn, 1) := by decide +kernel
theorem d_Tab_isLeftOf_0 : decode c_Tab_isLeftOf 0 = .ok (.iload_n 1, 1) := by decide +kernel
theorem d_Tab_isLeftOf_1 : decode c_Tab_isLeftOf 1 = .ok (.invokestatic 36, 3) := by decide +kernel
theorem d_Tab_isLeftOf_4 : decode c_Tab_isLeftOf 4 = .ok (.ifCond .eq 28, 3) := by decide +kernel
theorem d_Tab_isLeftOf_7 : decode c_Tab_isLeftOf 7 = .ok (.aload_n 0, 1) := by decide +kernel
theorem d_Tab_isLeftOf_8 : decode c_Tab_isLeftOf 8 = .ok (.getfield 24, 3) := by decide +kernel
theorem d_Tab_isLeftOf_11 : decode c_Tab_isLeftOf 11 = .ok (.iload_n 1, 1) := by decide +kernel
theorem d_Tab_isLeftOf_12 : decode c_Tab_isLeftOf 12 = .ok (.iaload, 1) := by decide +kernel
theorem d_Tab_isLeftOf_13 : decode c_Tab_isLeftOf 13 = .ok (.iconst 1, 1) := by decide +kernel
theorem d_Tab_isLeftOf_14 : decode c_Tab_isLeftOf 14 = .ok (.if_icmp .ne 18, 3) := by decide +kernel
theorem d_Tab_isLeftOf_17 : decode c_Tab_isLeftOf 17 = .ok (.iload_n 2, 1) := by decide +kernel
theorem d_Tab_isLeftOf_18 : decode c_Tab_isLeftOf 18 = .ok (.iload_n 3, 1) := by decide +kernel
theorem d_Tab_isLeftOf_19 : decode c_Tab_isLeftOf 19 = .ok (.ishr, 1) := by decide +kernel
theorem d_Tab_isLeftOf_20 : decode c_Tab_isLeftOf 20 = .ok (.iconst 1, 1) := by decide +kernel
theorem d_Tab_isLeftOf_21 : decode c_Tab_isLeftOf 21 = .ok (.iand, 1) := by decide +kernel
theorem d_Tab_isLeftOf_22 : decode c_Tab_isLeftOf 22 = .ok (.iconst 1, 1) := by decide +kernel
theorem d_Tab_isLeftOf_23 : decode c_Tab_isLeftOf 23 = .ok (.if_icmp .ne 7, 3) := by decide +kernel
theorem d_Tab_isLeftOf_26 : decode c_Tab_isLeftOf 26 = .ok (.iconst 1, 1) := by decide +kernel
theorem d_Tab_isLeftOf_27 : decode c_Tab_isLeftOf 27 = .ok (.goto 4, 3) := by decide +kernel
theorem d_Tab_isLeftOf_30 : decode c_Tab_isLeftOf 30 = .ok (.iconst 0, 1) := by decide +kernel
theorem d_Tab_isLeftOf_31 : decode c_Tab_isLeftOf 31 = .ok (.ireturn, 1) := by decide +kernel
theorem d_Tab_isLeftOf_32 : decode c_Tab_isLeftOf 32 = .ok (.iload_n 3, 1) := by decide +kernel
theorem d_Tab_isLeftOf_33 : decode c_Tab_isLeftOf 33 = .ok (.iload_n 2, 1) := by decide +kernel
theorem d_Tab_isLeftOf_34 : decode c_Tab_isLeftOf 34 = .ok (.if_icmp .gt 7, 3) := by decide +kernel
theorem d_Tab_isLeftOf_37 : decode c_Tab_isLeftOf 37 = .ok (.iconst 1, 1) := by decide +kernel
theorem d_Tab_isLeftOf_38 : decode c_Tab_isLeftOf 38 = .ok (.goto 4, 3) := by decide +kernel
theorem d_Tab_isLeftOf_41 : decode c_Tab_isLeftOf 41 = .ok (.iconst 0, 1) := by decide +kernel
theorem d_Tab_isLeftOf_42 : decode c_Tab_isLeftOf 42 = .ok (.ireturn, 1) := by decide +kernel
theorem d_Bs_clear_0 : decode c_Bs_clear 0 = .ok (.aload_n 0, 1) := by decide +kernel
theorem d_Bs_clear_1 : decode c_Bs_clear 1 = .ok (.invokevirtual 72, 3) := by decide +kernel
theorem d_Bs_clear_4 : decode c_Bs_clear 4 = .ok (.aload_n 0, 1) := by decide +kernel
theorem d_Bs_clear_5 : decode c_Bs_clear 5 = .ok (.getfield 12, 3) := by decide +kernel
theorem d_Bs_clear_8 : decode c_Bs_clear 8 = .ok (.invokevirtual 94, 3) := by decide +kernel
theorem d_Bs_clear_11 : decode c_Bs_clear 11 = .ok (.ireturn, 1) := by decide +kernel
theorem d_Tab_removeAll_0 : decode c_Tab_removeAll 0 = .ok (.aload_n 0, 1) := by decide +kernel
theorem d_Tab_removeAll_1 : decode c_Tab_removeAll 1 = .ok (.getfield 20, 3) := by decide +kernel
theorem d_Tab_removeAll_4 : decode c_Tab_removeAll 4 = .ok (.istore_n 1, 1) := by decide +kernel
theorem d_Tab_removeAll_5 : decode c_Tab_removeAll 5 = .ok (.aload_n 0, 1) := by decide +kernel
theorem d_Tab_removeAll_6 : decode c_Tab_removeAll 6 = .ok (.iconst 0, 1) := by decide +kernel
theorem d_Tab_removeAll_7 : decode c_Tab_removeAll 7 = .ok (.putfield 20, 3) := by decide +kernel
theorem d_Tab_removeAll_10 : decode c_Tab_removeAll 10 = .ok (.iconst 0, 1) := by decide +kernel
theorem d_Tab_removeAll_11 : decode c_Tab_removeAll 11 = .ok (.istore_n 2, 1) := by decide +kernel
theorem d_Tab_removeAll_12 : decode c_Tab_removeAll 12 = .ok (.iload_n 2, 1) := by decide +kernel
theorem d_Tab_removeAll_13 : decode c_Tab_removeAll 13 = .ok (.iconst 3, 1) := by decide +kernel
theorem d_Tab_removeAll_14 : decode c_Tab_removeAll 14 = .ok (.if_icmp .ge 16, 3) := by decide +kernel
theorem d_Tab_removeAll_17 : decode c_Tab_removeAll 17 = .ok (.aload_n 0, 1) := by decide +kernel
theorem d_Tab_removeAll_18 : decode c_Tab_removeAll 18 = .ok (.getfield 27, 3) := by decide +kernel
theorem d_Tab_removeAll_21 : decode c_Tab_removeAll 21 = .ok (.iload_n 2, 1) := by decide +kernel
theorem d_Tab_removeAll_22 : decode c_Tab_removeAll 22 = .ok (.iconst 0, 1) := by decide +kernel
theorem d_Tab_removeAll_23 : decode c_Tab_removeAll 23 = .ok (.iastore, 1) := by decide +kernel
theorem d_Tab_removeAll_24 : decode c_Tab_removeAll 24 = .ok (.iinc 2 1, 3) := by decide +kernel
theorem d_Tab_removeAll_27 : decode c_Tab_removeAll 27 = .ok (.goto (-15), 3) := by decide +kernel
theorem d_Tab_removeAll_30 : decode c_Tab_removeAll 30 = .ok (.iconst 0, 1) := by decide +kernel
theorem d_Tab_removeAll_31 : decode c_Tab_removeAll 31 = .ok (.istore_n 2, 1) := by decide +kernel
theorem d_Tab_removeAll_32 : decode c_Tab_removeAll 32 = .ok (.iload_n 2, 1) := by decide +kernel
theorem d_Tab_removeAll_33 : decode c_Tab_removeAll 33 = .ok (.iconst 4, 1) := by decide +kernel
theorem d_Tab_removeAll_34 : decode c_Tab_removeAll 34 = .ok (.if_icmp .ge 39, 3) := by decide +kernel
theorem d_Tab_removeAll_37 : decode c_Tab_removeAll 37 = .ok (.aload_n 0, 1) := by decide +kernel
theorem d_Tab_removeAll_38 : decode c_Tab_removeAll 38 = .ok (.getfield 30, 3) := by decide +kernel
theorem d_Tab_removeAll_41 : decode c_Tab_removeAll 41 = .ok (.iload_n 2, 1) := by decide +kernel
theorem d_Tab_removeAll_42 : decode c_Tab_removeAll 42 = .ok (.iconst 0, 1) := by decide +kernel
theorem d_Tab_removeAll_43 : decode c_Tab_removeAll 43 = .ok (.iastore, 1) := by decide +kernel
theorem d_Tab_removeAll_44 : decode c_Tab_removeAll 44 = .ok (.iconst 0, 1) := by decide +kernel
theorem d_Tab_removeAll_45 : decode c_Tab_removeAll 45 = .ok (.istore_n 3, 1) := by decide +kernel
theorem d_Tab_removeAll_46 : decode c_Tab_removeAll 46 = .ok (.iload_n 3, 1) := by decide +kernel
theorem d_Tab_removeAll_47 : decode c_Tab_removeAll 47 = .ok (.bipush 100, 2) := by decide +kernel
theorem d_Tab_removeAll_49 : decode c_Tab_removeAll 49 = .ok (.if_icmp .gt 18, 3) := by decide +kernel
theorem d_Tab_removeAll_52 : decode c_Tab_removeAll 52 = .ok (.aload_n 0, 1) := by decide +kernel
theorem d_Tab_removeAll_53 : decode c_Tab_removeAll 53 = .ok (.getfield 33, 3) := by decide +kernel
theorem d_Tab_removeAll_56 : decode c_Tab_removeAll 56 = .ok (.iload_n 2, 1) := by decide +kernel
theorem d_Tab_removeAll_57 : decode c_Tab_removeAll 57 = .ok (.aaload, 1) := by decide +kernel
theorem d_Tab_removeAll_58 : decode c_Tab_removeAll 58 = .ok (.iload_n 3, 1) := by decide +kernel
theorem d_Tab_removeAll_59 : decode c_Tab_removeAll 59 = .ok (.iconst 0, 1) := by decide +kernel
theorem d_Tab_removeAll_60 : decode c_Tab_removeAll 60 = .ok (.iastore, 1) := by decide +kernel
theorem d_Tab_removeAll_61 : decode c_Tab_removeAll 61 = .ok (.iinc 3 1, 3) := by decide +kernel
theorem d_Tab_removeAll_64 : decode c_Tab_removeAll 64 = .ok (.goto (-18), 3) := by decide +kernel
theorem d_Tab_removeAll_67 : decode c_Tab_removeAll 67 = .ok (.iinc 2 1, 3) := by decide +kernel
theorem d_Tab_removeAll_70 : decode c_Tab_removeAll 70 = .ok (.goto (-38), 3) := by decide +kernel
theorem d_Tab_removeAll_73 : decode c_Tab_removeAll 73 = .ok (.iload_n 1, 1) := by decide +kernel
theorem d_Tab_removeAll_74 : decode c_Tab_removeAll 74 = .ok (.ireturn, 1) := by decide +kernel
theorem d_Bs_settings_0 : decode c_Bs_settings 0 = .ok (.iload_n 1, 1) := by decide +kernel
theorem d_Bs_settings_1 : decode c_Bs_settings 1 = .ok (.ifCond .lt 19, 3) := by decide +kernel
theorem d_Bs_settings_4 : decode c_Bs_settings 4 = .ok (.iload_n 1, 1) := by decide +kernel
theorem d_Bs_settings_5 : decode c_Bs_settings 5 = .ok (.iconst 5, 1) := by decide +kernel
theorem d_Bs_settings_6 : decode c_Bs_settings 6 = .ok (.if_icmp .gt 14, 3) := by decide +kernel
theorem d_Bs_settings_9 : decode c_Bs_settings 9 = .ok (.iload_n 2, 1) := by decide +kernel
theorem d_Bs_settings_10 : decode c_Bs_settings 10 = .ok (.iconst 1, 1) := by decide +kernel
theorem d_Bs_settings_11 : decode c_Bs_settings 11 = .ok (.if_icmp .lt 9, 3) := by decide +kernel
theorem d_Bs_settings_14 : decode c_Bs_settings 14 = .ok (.iload_n 2, 1) := by decide +kernel
theorem d_Bs_settings_15 : decode c_Bs_settings 15 = .ok (.bipush 10, 2) := by decide +kernel
theorem d_Bs_settings_17 : decode c_Bs_settings 17 = .ok (.if_icmp .le 6, 3) := by decide +kernel
theorem d_Bs_settings_20 : decode c_Bs_settings 20 = .ok (.bipush (-2), 2) := by decide +kernel
theorem d_Bs_settings_22 : decode c_Bs_settings 22 = .ok (.ireturn, 1) := by decide +kernel
theorem d_Bs_settings_23 : decode c_Bs_settings 23 = .ok (.iload_n 3, 1) := by decide +kernel
theorem d_Bs_settings_24 : decode c_Bs_settings 24 = .ok (.ifCond .lt 10, 3) := by decide +kernel
theorem d_Bs_settings_27 : decode c_Bs_settings 27 = .ok (.iload_n 3, 1) := by decide +kernel
theorem d_Bs_settings_28 : decode c_Bs_settings 28 = .ok (.sipush 1000, 3) := by decide +kernel
theorem d_Bs_settings_31 : decode c_Bs_settings 31 = .ok (.if_icmp .le 6, 3) := by decide +kernel
theorem d_Bs_settings_34 : decode c_Bs_settings 34 = .ok (.bipush (-2), 2) := by decide +kernel
theorem d_Bs_settings_36 : decode c_Bs_settings 36 = .ok (.ireturn, 1) := by decide +kernel
theorem d_Bs_settings_37 : decode c_Bs_settings 37 = .ok (.aload_n 0, 1) := by decide +kernel
theorem d_Bs_settings_38 : decode c_Bs_settings 38 = .ok (.getfield 19, 3) := by decide +kernel
theorem d_Bs_settings_41 : decode c_Bs_settings 41 = .ok (.iload_n 1, 1) := by decide +kernel
theorem d_Bs_settings_42 : decode c_Bs_settings 42 = .ok (.putfield 98, 3) := by decide +kernel
theorem d_Bs_settings_45 : decode c_Bs_settings 45 = .ok (.aload_n 0, 1) := by decide +kernel
theorem d_Bs_settings_46 : decode c_Bs_settings 46 = .ok (.getfield 19, 3) := by decide +kernel
theorem d_Bs_settings_49 : decode c_Bs_settings 49 = .ok (.iload_n 2, 1) := by decide +kernel
theorem d_Bs_settings_50 : decode c_Bs_settings 50 = .ok (.putfield 101, 3) := by decide +kernel
theorem d_Bs_settings_53 : decode c_Bs_settings 53 = .ok (.aload_n 0, 1) := by decide +kernel
theorem d_Bs_settings_54 : decode c_Bs_settings 54 = .ok (.getfield 19, 3) := by decide +kernel
theorem d_Bs_settings_57 : decode c_Bs_settings 57 = .ok (.iload_n 3, 1) := by decide +kernel
theorem d_Bs_settings_58 : decode c_Bs_settings 58 = .ok (.putfield 104, 3) := by decide +kernel
theorem d_Bs_settings_61 : decode c_Bs_settings 61 = .ok (.aload_n 0, 1) := by decide +kernel
theorem d_Bs_settings_62 : decode c_Bs_settings 62 = .ok (.invokevirtual 72, 3) := by decide +kernel
theorem d_Bs_settings_65 : decode c_Bs_settings 65 = .ok (.iconst 1, 1) := by decide +kernel
theorem d_Bs_settings_66 : decode c_Bs_settings 66 = .ok (.ireturn, 1) := by decide +kernel
theorem d_Bs_nodes_0 : decode c_Bs_nodes 0 = .ok (.aload_n 0, 1) := by decide +kernel
theorem d_Bs_nodes_1 : decode c_Bs_nodes 1 = .ok (.invokevirtual 107, 3) := by decide +kernel
theorem d_Bs_nodes_4 : decode c_Bs_nodes 4 = .ok (.aload_n 0, 1) := by decide +kernel
theorem d_Bs_nodes_5 : decode c_Bs_nodes 5 = .ok (.getfield 37, 3) := by decide +kernel
theorem d_Bs_nodes_8 : decode c_Bs_nodes 8 = .ok (.getfield 110, 3) := by decide +kernel
theorem d_Bs_nodes_11 : decode c_Bs_nodes 11 = .ok (.ireturn, 1) := by decide +kernel
theorem d_Bs_growIfChanged_0 : decode c_Bs_growIfChanged 0 = .ok (.aload_n 0, 1) := by decide +kernel
theorem d_Bs_growIfChanged_1 : decode c_Bs_growIfChanged 1 = .ok (.getfield 57, 3) := by decide +kernel
theorem d_Bs_growIfChanged_4 : decode c_Bs_growIfChanged 4 = .ok (.ifCond .eq 29, 3) := by decide +kernel
theorem d_Bs_growIfChanged_7 : decode c_Bs_growIfChanged 7 = .ok (.aload_n 0, 1) := by decide +kernel
theorem d_Bs_growIfChanged_8 : decode c_Bs_growIfChanged 8 = .ok (.getfield 37, 3) := by decide +kernel
theorem d_Bs_growIfChanged_11 : decode c_Bs_growIfChanged 11 = .ok (.aload_n 0, 1) := by decide +kernel
theorem d_Bs_growIfChanged_12 : decode c_Bs_growIfChanged 12 = .ok (.getfield 12, 3) := by decide +kernel
theorem d_Bs_growIfChanged_15 : decode c_Bs_growIfChanged 15 = .ok (.invokevirtual 166, 3) := by decide +kernel
theorem d_Bs_growIfChanged_18 : decode c_Bs_growIfChanged 18 = .ok (.invokevirtual 201, 3) := by decide +kernel
theorem d_Bs_growIfChanged_21 : decode c_Bs_growIfChanged 21 = .ok (.aload_n 0, 1) := by decide +kernel
theorem d_Bs_growIfChanged_22 : decode c_Bs_growIfChanged 22 = .ok (.getfield 49, 3) := by decide +kernel
theorem d_Bs_growIfChanged_25 : decode c_Bs_growIfChanged 25 = .ok (.invokevirtual 211, 3) := by decide +kernel
theorem d_Bs_growIfChanged_28 : decode c_Bs_growIfChanged 28 = .ok (.aload_n 0, 1) := by decide +kernel
theorem d_Bs_growIfChanged_29 : decode c_Bs_growIfChanged 29 = .ok (.iconst 0, 1) := by decide +kernel
theorem d_Bs_growIfChanged_30 : decode c_Bs_growIfChanged 30 = .ok (.putfield 57, 3) := by decide +kernel
theorem d_Bs_growIfChanged_33 : decode c_Bs_growIfChanged 33 = .ok (.return_, 1) := by decide +kernel
theorem d_Tab_allRows_0 : decode c_Tab_allRows 0 = .ok (.iconst 1, 1) := by decide +kernel
theorem d_Tab_allRows_1 : decode c_Tab_allRows 1 = .ok (.aload_n 0, 1) := by decide +kernel
theorem d_Tab_allRows_2 : decode c_Tab_allRows 2 = .ok (.getfield 20, 3) := by decide +kernel
theorem d_Tab_allRows_5 : decode c_Tab_allRows 5 = .ok (.ishl, 1) := by decide +kernel
theorem d_Tab_allRows_6 : decode c_Tab_allRows 6 = .ok (.iconst 1, 1) := by decide +kernel
theorem d_Tab_allRows_7 : decode c_Tab_allRows 7 = .ok (.isub, 1) := by decide +kernel
theorem d_Tab_allRows_8 : decode c_Tab_allRows 8 = .ok (.ireturn, 1) := by decide +kernel
theorem d_Tab_labelOf_0 : decode c_Tab_labelOf 0 = .ok (.iconst 0, 1) := by decide +kernel
theorem d_Tab_labelOf_1 : decode c_Tab_labelOf 1 = .ok (.istore_n 2, 1) := by decide +kernel
theorem d_Tab_labelOf_2 : decode c_Tab_labelOf 2 = .ok (.iconst 1, 1) := by decide +kernel
theorem d_Tab_labelOf_3 : decode c_Tab_labelOf 3 = .ok (.istore_n 3, 1) := by decide +kernel
theorem d_Tab_labelOf_4 : decode c_Tab_labelOf 4 = .ok (.iload_n 3, 1) := by decide +kernel
theorem d_Tab_labelOf_5 : decode c_Tab_labelOf 5 = .ok (.iconst 3, 1) := by decide +kernel
theorem d_Tab_labelOf_6 : decode c_Tab_labelOf 6 = .ok (.if_icmp .ge 26, 3) := by decide +kernel
theorem d_Tab_labelOf_9 : decode c_Tab_labelOf 9 = .ok (.aload_n 0, 1) := by decide +kernel
theorem d_Tab_labelOf_10 : decode c_Tab_labelOf 10 = .ok (.iload_n 1, 1) := by decide +kernel
theorem d_Tab_labelOf_11 : decode c_Tab_labelOf 11 = .ok (.iload_n 3, 1) := by decide +kernel
theorem d_Tab_labelOf_12 : decode c_Tab_labelOf 12 = .ok (.invokevirtual 77, 3) := by decide +kernel
theorem d_Tab_labelOf_15 : decode c_Tab_labelOf 15 = .ok (.aload_n 0, 1) := by decide +kernel
theorem d_Tab_labelOf_16 : decode c_Tab_labelOf 16 = .ok (.iload_n 1, 1) := by decide +kernel
theorem d_Tab_labelOf_17 : decode c_Tab_labelOf 17 = .ok (.iload_n 2, 1) := by decide +kernel
theorem d_Tab_labelOf_18 : decode c_Tab_labelOf 18 = .ok (.invokevirtual 77, 3) := by decide +kernel
theorem d_Tab_labelOf_21 : decode c_Tab_labelOf 21 = .ok (.if_icmp .le 5, 3) := by decide +kernel
theorem d_Tab_labelOf_24 : decode c_Tab_labelOf 24 = .ok (.iload_n 3, 1) := by decide +kernel
theorem d_Tab_labelOf_25 : decode c_Tab_labelOf 25 = .ok (.istore_n 2, 1) := by decide +kernel
theorem d_Tab_labelOf_26 : decode c_Tab_labelOf 26 = .ok (.iinc 3 1, 3) := by decide +kernel
theorem d_Tab_labelOf_29 : decode c_Tab_labelOf 29 = .ok (.goto (-25), 3) := by decide +kernel
theorem d_Tab_labelOf_32 : decode c_Tab_labelOf 32 = .ok (.iload_n 2, 1) := by decide +kernel
theorem d_Tab_labelOf_33 : decode c_Tab_labelOf 33 = .ok (.ireturn, 1) := by decide +kernel
theorem d_Tab_countOf_0 : decode c_Tab_countOf 0 = .ok (.iload_n 2, 1) := by decide +kernel
theorem d_Tab_countOf_1 : decode c_Tab_countOf 1 = .ok (.invokestatic 40, 3) := by decide +kernel
theorem d_Tab_countOf_4 : decode c_Tab_countOf 4 = .ok (.ifCond .eq 17, 3) := by decide +kernel
theorem d_Tab_countOf_7 : decode c_Tab_countOf 7 = .ok (.iload_n 1, 1) := by decide +kernel
theorem d_Tab_countOf_8 : decode c_Tab_countOf 8 = .ok (.aload_n 0, 1) := by decide +kernel
theorem d_Tab_countOf_9 : decode c_Tab_countOf 9 = .ok (.getfield 27, 3) := by decide +kernel
theorem d_Tab_countOf_12 : decode c_Tab_countOf 12 = .ok (.iload_n 2, 1) := by decide +kernel
theorem d_Tab_countOf_13 : decode c_Tab_countOf 13 = .ok (.iaload, 1) := by decide +kernel
theorem d_Tab_countOf_14 : decode c_Tab_countOf 14 = .ok (.iand, 1) := by decide +kernel
theorem d_Tab_countOf_15 : decode c_Tab_countOf 15 = .ok (.invokestatic 72, 3) := by decide +kernel
theorem d_Tab_countOf_18 : decode c_Tab_countOf 18 = .ok (.goto 4, 3) := by decide +kernel
theorem d_Tab_countOf_21 : decode c_Tab_countOf 21 = .ok (.iconst 0, 1) := by decide +kernel
theorem d_Tab_countOf_22 : decode c_Tab_countOf 22 = .ok (.ireturn, 1) := by decide +kernel
theorem d_Tab_canCut_0 : decode c_Tab_canCut 0 = .ok (.iload_n 2, 1) := by decide +kernel
theorem d_Tab_canCut_1 : decode c_Tab_canCut 1 = .ok (.invokestatic 36, 3) := by decide +kernel
theorem d_Tab_canCut_4 : decode c_Tab_canCut 4 = .ok (.ifCond .eq 16, 3) := by decide +kernel
theorem d_Tab_canCut_7 : decode c_Tab_canCut 7 = .ok (.iload_n 3, 1) := by decide +kernel
theorem d_Tab_canCut_8 : decode c_Tab_canCut 8 = .ok (.ifCond .lt 12, 3) := by decide +kernel
theorem d_Tab_canCut_11 : decode c_Tab_canCut 11 = .ok (.iload_n 3, 1) := by decide +kernel
theorem d_Tab_canCut_12 : decode c_Tab_canCut 12 = .ok (.aload_n 0, 1) := by decide +kernel
theorem d_Tab_canCut_13 : decode c_Tab_canCut 13 = .ok (.iload_n 2, 1) := by decide +kernel
theorem d_Tab_canCut_14 : decode c_Tab_canCut 14 = .ok (.invokevirtual 47, 3) := by decide +kernel
theorem d_Tab_canCut_17 : decode c_Tab_canCut 17 = .ok (.if_icmp .le 5, 3) := by decide +kernel
theorem d_Tab_canCut_20 : decode c_Tab_canCut 20 = .ok (.iconst 0, 1) := by decide +kernel
theorem d_Tab_canCut_21 : decode c_Tab_canCut 21 = .ok (.ireturn, 1) := by decide +kernel
theorem d_Tab_canCut_22 : decode c_Tab_canCut 22 = .ok (.aload_n 0, 1) := by decide +kernel
theorem d_Tab_canCut_23 : decode c_Tab_canCut 23 = .ok (.getfield 24, 3) := by decide +kernel
theorem d_Tab_canCut_26 : decode c_Tab_canCut 26 = .ok (.iload_n 2, 1) := by decide +kernel
theorem d_Tab_canCut_27 : decode c_Tab_canCut 27 = .ok (.iaload, 1) := by decide +kernel
theorem d_Tab_canCut_28 : decode c_Tab_canCut 28 = .ok (.iconst 1, 1) := by decide +kernel
theorem d_Tab_canCut_29 : decode c_Tab_canCut 29 = .ok (.if_icmp .ne 13, 3) := by decide +kernel
theorem d_Tab_canCut_32 : decode c_Tab_canCut 32 = .ok (.aload_n 0, 1) := by decide +kernel
theorem d_Tab_canCut_33 : decode c_Tab_canCut 33 = .ok (.iload_n 1, 1) := by decide +kernel
theorem d_Tab_canCut_34 : decode c_Tab_canCut 34 = .ok (.iload_n 2, 1) := by decide +kernel
theorem d_Tab_canCut_35 : decode c_Tab_canCut 35 = .ok (.iload_n 3, 1) := by decide +kernel
theorem d_Tab_canCut_36 : decode c_Tab_canCut 36 = .ok (.invokevirtual 66, 3) := by decide +kernel
theorem d_Tab_canCut_39 : decode c_Tab_canCut 39 = .ok (.goto 10, 3) := by decide +kernel
theorem d_Tab_canCut_42 : decode c_Tab_canCut 42 = .ok (.aload_n 0, 1) := by decide +kernel
theorem d_Tab_canCut_43 : decode c_Tab_canCut 43 = .ok (.iload_n 1, 1) := by decide +kernel
theorem d_Tab_canCut_44 : decode c_Tab_canCut 44 = .ok (.iload_n 2, 1) := by decide +kernel
theorem d_Tab_canCut_45 : decode c_Tab_canCut 45 = .ok (.iload_n 3, 1) := by decide +kernel
theorem d_Tab_canCut_46 : decode c_Tab_canCut 46 = .ok (.invokevirtual 69, 3) := by decide +kernel
theorem d_Tab_canCut_49 : decode c_Tab_canCut 49 = .ok (.ireturn, 1) := by decide +kernel
theorem d_Tab_isGrouping_0 : decode c_Tab_isGrouping 0 = .ok (.iload_n 2, 1) := by decide +kernel
theorem d_Tab_isGrouping_1 : decode c_Tab_isGrouping 1 = .ok (.invokestatic 36, 3) := by decide +kernel
theorem d_Tab_isGrouping_4 : decode c_Tab_isGrouping 4 = .ok (.ifCond .ne 5, 3) := by decide +kernel
theorem d_Tab_isGrouping_7 : decode c_Tab_isGrouping 7 = .ok (.iconst 0, 1) := by decide +kernel
theorem d_Tab_isGrouping_8 : decode c_Tab_isGrouping 8 = .ok (.ireturn, 1) := by decide +kernel
theorem d_Tab_isGrouping_9 : decode c_Tab_isGrouping 9 = .ok (.iconst 0, 1) := by decide +kernel
theorem d_Tab_isGrouping_10 : decode c_Tab_isGrouping 10 = .ok (.istore 4, 2) := by decide +kernel
theorem d_Tab_isGrouping_12 : decode c_Tab_isGrouping 12 = .ok (.iconst 0, 1) := by decide +kernel
theorem d_Tab_isGrouping_13 : decode c_Tab_isGrouping 13 = .ok (.istore 5, 2) := by decide +kernel
theorem d_Tab_isGrouping_15 : decode c_Tab_isGrouping 15 = .ok (.iload 5, 2) := by decide +kernel
theorem d_Tab_isGrouping_17 : decode c_Tab_isGrouping 17 = .ok (.iconst 5, 1) := by decide +kernel
theorem d_Tab_isGrouping_18 : decode c_Tab_isGrouping 18 = .ok (.if_icmp .gt 34, 3) := by decide +kernel
theorem d_Tab_isGrouping_21 : decode c_Tab_isGrouping 21 = .ok (.iload_n 1, 1) := by decide +kernel
theorem d_Tab_isGrouping_22 : decode c_Tab_isGrouping 22 = .ok (.aload_n 0, 1) := by decide +kernel
theorem d_Tab_isGrouping_23 : decode c_Tab_isGrouping 23 = .ok (.getfield 33, 3) := by decide +kernel
theorem d_Tab_isGrouping_26 : decode c_Tab_isGrouping 26 = .ok (.iload_n 2, 1) := by decide +kernel
theorem d_Tab_isGrouping_27 : decode c_Tab_isGrouping 27 = .ok (.aaload, 1) := by decide +kernel
theorem d_Tab_isGrouping_28 : decode c_Tab_isGrouping 28 = .ok (.iconst 1, 1) := by decide +kernel
theorem d_Tab_isGrouping_29 : decode c_Tab_isGrouping 29 = .ok (.iload 5, 2) := by decide +kernel
theorem d_Tab_isGrouping_31 : decode c_Tab_isGrouping 31 = .ok (.ishl, 1) := by decide +kernel
theorem d_Tab_isGrouping_32 : decode c_Tab_isGrouping 32 = .ok (.iaload, 1) := by decide +kernel
theorem d_Tab_isGrouping_33 : decode c_Tab_isGrouping 33 = .ok (.iand, 1) := by decide +kernel
theorem d_Tab_isGrouping_34 : decode c_Tab_isGrouping 34 = .ok (.ifCond .eq 12, 3) := by decide +kernel
theorem d_Tab_isGrouping_37 : decode c_Tab_isGrouping 37 = .ok (.iload 4, 2) := by decide +kernel
theorem d_Tab_isGrouping_39 : decode c_Tab_isGrouping 39 = .ok (.iconst 1, 1) := by decide +kernel
theorem d_Tab_isGrouping_40 : decode c_Tab_isGrouping 40 = .ok (.iload 5, 2) := by decide +kernel
theorem d_Tab_isGrouping_42 : decode c_Tab_isGrouping 42 = .ok (.ishl, 1) := by decide +kernel
theorem d_Tab_isGrouping_43 : decode c_Tab_isGrouping 43 = .ok (.ior, 1) := by decide +kernel
theorem d_Tab_isGrouping_44 : decode c_Tab_isGrouping 44 = .ok (.istore 4, 2) := by decide +kernel
theorem d_Tab_isGrouping_46 : decode c_Tab_isGrouping 46 = .ok (.iinc 5 1, 3) := by decide +kernel
theorem d_Tab_isGrouping_49 : decode c_Tab_isGrouping 49 = .ok (.goto (-34), 3) := by decide +kernel
theorem d_Tab_isGrouping_52 : decode c_Tab_isGrouping 52 = .ok (.iload 4, 2) := by decide +kernel
theorem d_Tab_isGrouping_54 : decode c_Tab_isGrouping 54 = .ok (.iload 4, 2) := by decide +kernel
theorem d_Tab_isGrouping_56 : decode c_Tab_isGrouping 56 = .ok (.ineg, 1) := by decide +kernel
theorem d_Tab_isGrouping_57 : decode c_Tab_isGrouping 57 = .ok (.iand, 1) := by decide +kernel
theorem d_Tab_isGrouping_58 : decode c_Tab_isGrouping 58 = .ok (.istore 5, 2) := by decide +kernel
theorem d_Tab_isGrouping_60 : decode c_Tab_isGrouping 60 = .ok (.iload_n 3, 1) := by decide +kernel
theorem d_Tab_isGrouping_61 : decode c_Tab_isGrouping 61 = .ok (.iload 4, 2) := by decide +kernel
theorem d_Tab_isGrouping_63 : decode c_Tab_isGrouping 63 = .ok (.iconst (-1), 1) := by decide +kernel
theorem d_Tab_isGrouping_64 : decode c_Tab_isGrouping 64 = .ok (.ixor, 1) := by decide +kernel
theorem d_Tab_isGrouping_65 : decode c_Tab_isGrouping 65 = .ok (.iand, 1) := by decide +kernel
theorem d_Tab_isGrouping_66 : decode c_Tab_isGrouping 66 = .ok (.ifCond .ne 20, 3) := by decide +kernel
theorem d_Tab_isGrouping_69 : decode c_Tab_isGrouping 69 = .ok (.iload_n 3, 1) := by decide +kernel
theorem d_Tab_isGrouping_70 : decode c_Tab_isGrouping 70 = .ok (.iload 5, 2) := by decide +kernel
theorem d_Tab_isGrouping_72 : decode c_Tab_isGrouping 72 = .ok (.iand, 1) := by decide +kernel
theorem d_Tab_isGrouping_73 : decode c_Tab_isGrouping 73 = .ok (.ifCond .eq 13, 3) := by decide +kernel
theorem d_Tab_isGrouping_76 : decode c_Tab_isGrouping 76 = .ok (.iload_n 3, 1) := by decide +kernel
theorem d_Tab_isGrouping_77 : decode c_Tab_isGrouping 77 = .ok (.iload 4, 2) := by decide +kernel
theorem d_Tab_isGrouping_79 : decode c_Tab_isGrouping 79 = .ok (.if_icmp .eq 7, 3) := by decide +kernel
theorem d_Tab_isGrouping_82 : decode c_Tab_isGrouping 82 = .ok (.iconst 1, 1) := by decide +kernel
theorem d_Tab_isGrouping_83 : decode c_Tab_isGrouping 83 = .ok (.goto 4, 3) := by decide +kernel
theorem d_Tab_isGrouping_86 : decode c_Tab_isGrouping 86 = .ok (.iconst 0, 1) := by decide +kernel
theorem d_Tab_isGrouping_87 : decode c_Tab_isGrouping 87 = .ok (.ireturn, 1) := by decide +kernel
theorem d_Tab_isStep_0 : decode c_Tab_isStep 0 = .ok (.iload_n 2, 1) := by decide +kernel
theorem d_Tab_isStep_1 : decode c_Tab_isStep 1 = .ok (.invokestatic 36, 3) := by decide +kernel
theorem d_Tab_isStep_4 : decode c_Tab_isStep 4 = .ok (.ifCond .eq 13, 3) := by decide +kernel
theorem d_Tab_isStep_7 : decode c_Tab_isStep 7 = .ok (.iload_n 3, 1) := by decide +kernel
theorem d_Tab_isStep_8 : decode c_Tab_isStep 8 = .ok (.ifCond .lt 9, 3) := by decide +kernel
theorem d_Tab_isStep_11 : decode c_Tab_isStep 11 = .ok (.iload_n 3, 1) := by decide +kernel
theorem d_Tab_isStep_12 : decode c_Tab_isStep 12 = .ok (.bipush 100, 2) := by decide +kernel
theorem d_Tab_isStep_14 : decode c_Tab_isStep 14 = .ok (.if_icmp .le 5, 3) := by decide +kernel
theorem d_Tab_isStep_17 : decode c_Tab_isStep 17 = .ok (.iconst 0, 1) := by decide +kernel
theorem d_Tab_isStep_18 : decode c_Tab_isStep 18 = .ok (.ireturn, 1) := by decide +kernel
theorem d_Tab_isStep_19 : decode c_Tab_isStep 19 = .ok (.iload_n 1, 1) := by decide +kernel
theorem d_Tab_isStep_20 : decode c_Tab_isStep 20 = .ok (.aload_n 0, 1) := by decide +kernel
theorem d_Tab_isStep_21 : decode c_Tab_isStep 21 = .ok (.getfield 33, 3) := by decide +kernel
theorem d_Tab_isStep_24 : decode c_Tab_isStep 24 = .ok (.iload_n 2, 1) := by decide +kernel
theorem d_Tab_isStep_25 : decode c_Tab_isStep 25 = .ok (.aaload, 1) := by decide +kernel
theorem d_Tab_isStep_26 : decode c_Tab_isStep 26 = .ok (.iload_n 3, 1) := by decide +kernel
theorem d_Tab_isStep_27 : decode c_Tab_isStep 27 = .ok (.iaload, 1) := by decide +kernel
theorem d_Tab_isStep_28 : decode c_Tab_isStep 28 = .ok (.iand, 1) := by decide +kernel
theorem d_Tab_isStep_29 : decode c_Tab_isStep 29 = .ok (.istore 4, 2) := by decide +kernel
theorem d_Tab_isStep_31 : decode c_Tab_isStep 31 = .ok (.iload_n 3, 1) := by decide +kernel
theorem d_Tab_isStep_32 : decode c_Tab_isStep 32 = .ok (.ifCond .ne 7, 3) := by decide +kernel
theorem d_Tab_isStep_35 : decode c_Tab_isStep 35 = .ok (.iconst 0, 1) := by decide +kernel
theorem d_Tab_isStep_36 : decode c_Tab_isStep 36 = .ok (.goto 15, 3) := by decide +kernel
theorem d_Tab_isStep_39 : decode c_Tab_isStep 39 = .ok (.iload_n 1, 1) := by decide +kernel
theorem d_Tab_isStep_40 : decode c_Tab_isStep 40 = .ok (.aload_n 0, 1) := by decide +kernel
theorem d_Tab_isStep_41 : decode c_Tab_isStep 41 = .ok (.getfield 33, 3) := by decide +kernel
theorem d_Tab_isStep_44 : decode c_Tab_isStep 44 = .ok (.iload_n 2, 1) := by decide +kernel
theorem d_Tab_isStep_45 : decode c_Tab_isStep 45 = .ok (.aaload, 1) := by decide +kernel
theorem d_Tab_isStep_46 : decode c_Tab_isStep 46 = .ok (.iload_n 3, 1) := by decide +kernel
theorem d_Tab_isStep_47 : decode c_Tab_isStep 47 = .ok (.iconst 1, 1) := by decide +kernel
theorem d_Tab_isStep_48 : decode c_Tab_isStep 48 = .ok (.isub, 1) := by decide +kernel
theorem d_Tab_isStep_49 : decode c_Tab_isStep 49 = .ok (.iaload, 1) := by decide +kernel
theorem d_Tab_isStep_50 : decode c_Tab_isStep 50 = .ok (.iand, 1) := by decide +kernel
theorem d_Tab_isStep_51 : decode c_Tab_isStep 51 = .ok (.istore 5, 2) := by decide +kernel
theorem d_Tab_isStep_53 : decode c_Tab_isStep 53 = .ok (.iload 4, 2) := by decide +kernel
theorem d_Tab_isStep_55 : decode c_Tab_isStep 55 = .ok (.iload 5, 2) := by decide +kernel
theorem d_Tab_isStep_57 : decode c_Tab_isStep 57 = .ok (.if_icmp .eq 20, 3) := by decide +kernel
theorem d_Tab_isStep_60 : decode c_Tab_isStep 60 = .ok (.iload 4, 2) := by decide +kernel
theorem d_Tab_isStep_62 : decode c_Tab_isStep 62 = .ok (.iload_n 1, 1) := by decide +kernel
theorem d_Tab_isStep_63 : decode c_Tab_isStep 63 = .ok (.aload_n 0, 1) := by decide +kernel
theorem d_Tab_isStep_64 : decode c_Tab_isStep 64 = .ok (.getfield 30, 3) := by decide +kernel
theorem d_Tab_isStep_67 : decode c_Tab_isStep 67 = .ok (.iload_n 2, 1) := by decide +kernel
theorem d_Tab_isStep_68 : decode c_Tab_isStep 68 = .ok (.iaload, 1) := by decide +kernel
theorem d_Tab_isStep_69 : decode c_Tab_isStep 69 = .ok (.iand, 1) := by decide +kernel
theorem d_Tab_isStep_70 : decode c_Tab_isStep 70 = .ok (.if_icmp .eq 7, 3) := by decide +kernel
theorem d_Tab_isStep_73 : decode c_Tab_isStep 73 = .ok (.iconst 1, 1) := by decide +kernel
theorem d_Tab_isStep_74 : decode c_Tab_isStep 74 = .ok (.goto 4, 3) := by decide +kernel
theorem d_Tab_isStep_77 : decode c_Tab_isStep 77 = .ok (.iconst 0, 1) := by decide +kernel
theorem d_Tab_isStep_78 : decode c_Tab_isStep 78 = .ok (.ireturn, 1) := by decide +kernel
theorem d_Tab_unknownOf_0 : decode c_Tab_unknownOf 0 = .ok (.iload_n 2, 1) := by decide +kernel
theorem d_Tab_unknownOf_1 : decode c_Tab_unknownOf 1 = .ok (.invokestatic 36, 3) := by decide +kernel
theorem d_Tab_unknownOf_4 : decode c_Tab_unknownOf 4 = .ok (.ifCond .eq 16, 3) := by decide +kernel
theorem d_Tab_unknownOf_7 : decode c_Tab_unknownOf 7 = .ok (.iload_n 1, 1) := by decide +kernel
theorem d_Tab_unknownOf_8 : decode c_Tab_unknownOf 8 = .ok (.aload_n 0, 1) := by decide +kernel
theorem d_Tab_unknownOf_9 : decode c_Tab_unknownOf 9 = .ok (.getfield 30, 3) := by decide +kernel
theorem d_Tab_unknownOf_12 : decode c_Tab_unknownOf 12 = .ok (.iload_n 2, 1) := by decide +kernel
theorem d_Tab_unknownOf_13 : decode c_Tab_unknownOf 13 = .ok (.iaload, 1) := by decide +kernel
theorem d_Tab_unknownOf_14 : decode c_Tab_unknownOf 14 = .ok (.iconst (-1), 1) := by decide +kernel
theorem d_Tab_unknownOf_15 : decode c_Tab_unknownOf 15 = .ok (.ixor, 1) := by decide +kernel
theorem d_Tab_unknownOf_16 : decode c_Tab_unknownOf 16 = .ok (.iand, 1) := by decide +kernel
theorem d_Tab_unknownOf_17 : decode c_Tab_unknownOf 17 = .ok (.goto 4, 3) := by decide +kernel
theorem d_Tab_unknownOf_20 : decode c_Tab_unknownOf 20 = .ok (.iconst 0, 1) := by decide +kernel
theorem d_Tab_unknownOf_21 : decode c_Tab_unknownOf 21 = .ok (.ireturn, 1) := by decide +kernel
theorem d_Tab_leftOf_0 : decode c_Tab_leftOf 0 = .ok (.iload_n 2, 1) := by decide +kernel
theorem d_Tab_leftOf_1 : decode c_Tab_leftOf 1 = .ok (.invokestatic 36, 3) := by decide +kernel
theorem d_Tab_leftOf_4 : decode c_Tab_leftOf 4 = .ok (.ifCond .eq 13, 3) := by decide +kernel
theorem d_Tab_leftOf_7 : decode c_Tab_leftOf 7 = .ok (.iload_n 3, 1) := by decide +kernel
theorem d_Tab_leftOf_8 : decode c_Tab_leftOf 8 = .ok (.ifCond .lt 9, 3) := by decide +kernel
theorem d_Tab_leftOf_11 : decode c_Tab_leftOf 11 = .ok (.iload_n 3, 1) := by decide +kernel
theorem d_Tab_leftOf_12 : decode c_Tab_leftOf 12 = .ok (.bipush 100, 2) := by decide +kernel
theorem d_Tab_leftOf_14 : decode c_Tab_leftOf 14 = .ok (.if_icmp .le 5, 3) := by decide +kernel
theorem d_Tab_leftOf_17 : decode c_Tab_leftOf 17 = .ok (.iconst 0, 1) := by decide +kernel
theorem d_Tab_leftOf_18 : decode c_Tab_leftOf 18 = .ok (.ireturn, 1) := by decide +kernel
theorem d_Tab_leftOf_19 : decode c_Tab_leftOf 19 = .ok (.iload_n 1, 1) := by decide +kernel
theorem d_Tab_leftOf_20 : decode c_Tab_leftOf 20 = .ok (.aload_n 0, 1) := by decide +kernel
theorem d_Tab_leftOf_21 : decode c_Tab_leftOf 21 = .ok (.getfield 33, 3) := by decide +kernel
theorem d_Tab_leftOf_24 : decode c_Tab_leftOf 24 = .ok (.iload_n 2, 1) := by decide +kernel
theorem d_Tab_leftOf_25 : decode c_Tab_leftOf 25 = .ok (.aaload, 1) := by decide +kernel
theorem d_Tab_leftOf_26 : decode c_Tab_leftOf 26 = .ok (.iload_n 3, 1) := by decide +kernel
theorem d_Tab_leftOf_27 : decode c_Tab_leftOf 27 = .ok (.iaload, 1) := by decide +kernel
theorem d_Tab_leftOf_28 : decode c_Tab_leftOf 28 = .ok (.iand, 1) := by decide +kernel
theorem d_Tab_leftOf_29 : decode c_Tab_leftOf 29 = .ok (.istore 5, 2) := by decide +kernel
theorem d_Tab_leftOf_31 : decode c_Tab_leftOf 31 = .ok (.iload 4, 2) := by decide +kernel
theorem d_Tab_leftOf_33 : decode c_Tab_leftOf 33 = .ok (.ifCond .ne 19, 3) := by decide +kernel
theorem d_Tab_leftOf_36 : decode c_Tab_leftOf 36 = .ok (.iload 5, 2) := by decide +kernel
theorem d_Tab_leftOf_38 : decode c_Tab_leftOf 38 = .ok (.iload_n 1, 1) := by decide +kernel
theorem d_Tab_leftOf_39 : decode c_Tab_leftOf 39 = .ok (.aload_n 0, 1) := by decide +kernel
theorem d_Tab_leftOf_40 : decode c_Tab_leftOf 40 = .ok (.getfield 30, 3) := by decide +kernel
theorem d_Tab_leftOf_43 : decode c_Tab_leftOf 43 = .ok (.iload_n 2, 1) := by decide +kernel
theorem d_Tab_leftOf_44 : decode c_Tab_leftOf 44 = .ok (.iaload, 1) := by decide +kernel
theorem d_Tab_leftOf_45 : decode c_Tab_leftOf 45 = .ok (.iconst (-1), 1) := by decide +kernel
theorem d_Tab_leftOf_46 : decode c_Tab_leftOf 46 = .ok (.ixor, 1) := by decide +kernel
theorem d_Tab_leftOf_47 : decode c_Tab_leftOf 47 = .ok (.iand, 1) := by decide +kernel
theorem d_Tab_leftOf_48 : decode c_Tab_leftOf 48 = .ok (.ior, 1) := by decide +kernel
theorem d_Tab_leftOf_49 : decode c_Tab_leftOf 49 = .ok (.goto 5, 3) := by decide +kernel
theorem d_Tab_leftOf_52 : decode c_Tab_leftOf 52 = .ok (.iload 5, 2) := by decide +kernel
theorem d_Tab_leftOf_54 : decode c_Tab_leftOf 54 = .ok (.ireturn, 1) := by decide +kernel
theorem d_Tab_squaresOf_0 : decode c_Tab_squaresOf 0 = .ok (.iconst 0, 1) := by decide +kernel
theorem d_Tab_squaresOf_1 : decode c_Tab_squaresOf 1 = .ok (.istore_n 2, 1) := by decide +kernel
theorem d_Tab_squaresOf_2 : decode c_Tab_squaresOf 2 = .ok (.iconst 0, 1) := by decide +kernel
theorem d_Tab_squaresOf_3 : decode c_Tab_squaresOf 3 = .ok (.istore_n 3, 1) := by decide +kernel
theorem d_Tab_squaresOf_4 : decode c_Tab_squaresOf 4 = .ok (.iload_n 3, 1) := by decide +kernel
theorem d_Tab_squaresOf_5 : decode c_Tab_squaresOf 5 = .ok (.iconst 3, 1) := by decide +kernel
theorem d_Tab_squaresOf_6 : decode c_Tab_squaresOf 6 = .ok (.if_icmp .ge 30, 3) := by decide +kernel
theorem d_Tab_squaresOf_9 : decode c_Tab_squaresOf 9 = .ok (.iload_n 1, 1) := by decide +kernel
theorem d_Tab_squaresOf_10 : decode c_Tab_squaresOf 10 = .ok (.aload_n 0, 1) := by decide +kernel
theorem d_Tab_squaresOf_11 : decode c_Tab_squaresOf 11 = .ok (.getfield 27, 3) := by decide +kernel
theorem d_Tab_squaresOf_14 : decode c_Tab_squaresOf 14 = .ok (.iload_n 3, 1) := by decide +kernel
theorem d_Tab_squaresOf_15 : decode c_Tab_squaresOf 15 = .ok (.iaload, 1) := by decide +kernel
theorem d_Tab_squaresOf_16 : decode c_Tab_squaresOf 16 = .ok (.iand, 1) := by decide +kernel
theorem d_Tab_squaresOf_17 : decode c_Tab_squaresOf 17 = .ok (.invokestatic 72, 3) := by decide +kernel
theorem d_Tab_squaresOf_20 : decode c_Tab_squaresOf 20 = .ok (.istore 4, 2) := by decide +kernel
theorem d_Tab_squaresOf_22 : decode c_Tab_squaresOf 22 = .ok (.iload_n 2, 1) := by decide +kernel
theorem d_Tab_squaresOf_23 : decode c_Tab_squaresOf 23 = .ok (.iload 4, 2) := by decide +kernel
theorem d_Tab_squaresOf_25 : decode c_Tab_squaresOf 25 = .ok (.iload 4, 2) := by decide +kernel
theorem d_Tab_squaresOf_27 : decode c_Tab_squaresOf 27 = .ok (.imul, 1) := by decide +kernel
theorem d_Tab_squaresOf_28 : decode c_Tab_squaresOf 28 = .ok (.iadd, 1) := by decide +kernel
theorem d_Tab_squaresOf_29 : decode c_Tab_squaresOf 29 = .ok (.istore_n 2, 1) := by decide +kernel
theorem d_Tab_squaresOf_30 : decode c_Tab_squaresOf 30 = .ok (.iinc 3 1, 3) := by decide +kernel
theorem d_Tab_squaresOf_33 : decode c_Tab_squaresOf 33 = .ok (.goto (-29), 3) := by decide +kernel
theorem d_Tab_squaresOf_36 : decode c_Tab_squaresOf 36 = .ok (.iload_n 2, 1) := by decide +kernel
theorem d_Tab_squaresOf_37 : decode c_Tab_squaresOf 37 = .ok (.ireturn, 1) := by decide +kernel
theorem d_Bs_node_0 : decode c_Bs_node 0 = .ok (.aload_n 0, 1) := by decide +kernel
theorem d_Bs_node_1 : decode c_Bs_node 1 = .ok (.invokevirtual 107, 3) := by decide +kernel
theorem d_Bs_node_4 : decode c_Bs_node 4 = .ok (.aload_n 0, 1) := by decide +kernel
theorem d_Bs_node_5 : decode c_Bs_node 5 = .ok (.getfield 37, 3) := by decide +kernel
theorem d_Bs_node_8 : decode c_Bs_node 8 = .ok (.iload_n 1, 1) := by decide +kernel
theorem d_Bs_node_9 : decode c_Bs_node 9 = .ok (.invokevirtual 111, 3) := by decide +kernel
theorem d_Bs_node_12 : decode c_Bs_node 12 = .ok (.astore_n 3, 1) := by decide +kernel
theorem d_Bs_node_13 : decode c_Bs_node 13 = .ok (.aload_n 3, 1) := by decide +kernel
theorem d_Bs_node_14 : decode c_Bs_node 14 = .ok (.ifnonnull 5, 3) := by decide +kernel
theorem d_Bs_node_17 : decode c_Bs_node 17 = .ok (.iconst (-1), 1) := by decide +kernel
theorem d_Bs_node_18 : decode c_Bs_node 18 = .ok (.ireturn, 1) := by decide +kernel
theorem d_Bs_node_19 : decode c_Bs_node 19 = .ok (.iload_n 2, 1) := by decide +kernel
theorem d_Bs_node_20 : decode c_Bs_node 20 = .ok (.ifCond .lt 9, 3) := by decide +kernel
theorem d_Bs_node_23 : decode c_Bs_node 23 = .ok (.iload_n 2, 1) := by decide +kernel
theorem d_Bs_node_24 : decode c_Bs_node 24 = .ok (.bipush 8, 2) := by decide +kernel
theorem d_Bs_node_26 : decode c_Bs_node 26 = .ok (.if_icmp .le 6, 3) := by decide +kernel
theorem d_Bs_node_29 : decode c_Bs_node 29 = .ok (.bipush (-2), 2) := by decide +kernel
theorem d_Bs_node_31 : decode c_Bs_node 31 = .ok (.ireturn, 1) := by decide +kernel
theorem d_Bs_node_32 : decode c_Bs_node 32 = .ok (.iload_n 2, 1) := by decide +kernel
theorem d_Bs_node_33 : decode c_Bs_node 33 = .ok (.iconst 4, 1) := by decide +kernel
theorem d_Bs_node_34 : decode c_Bs_node 34 = .ok (.if_icmp .gt 11, 3) := by decide +kernel
theorem d_Bs_node_37 : decode c_Bs_node 37 = .ok (.aload_n 3, 1) := by decide +kernel
theorem d_Bs_node_38 : decode c_Bs_node 38 = .ok (.iload_n 2, 1) := by decide +kernel
theorem d_Bs_node_39 : decode c_Bs_node 39 = .ok (.invokevirtual 115, 3) := by decide +kernel
theorem d_Bs_node_42 : decode c_Bs_node 42 = .ok (.goto 8, 3) := by decide +kernel
theorem d_Bs_node_45 : decode c_Bs_node 45 = .ok (.aload_n 3, 1) := by decide +kernel
theorem d_Bs_node_46 : decode c_Bs_node 46 = .ok (.iload_n 2, 1) := by decide +kernel
theorem d_Bs_node_47 : decode c_Bs_node 47 = .ok (.invokevirtual 121, 3) := by decide +kernel
theorem d_Bs_node_50 : decode c_Bs_node 50 = .ok (.ireturn, 1) := by decide +kernel
theorem d_Bs_count_0 : decode c_Bs_count 0 = .ok (.aload_n 0, 1) := by decide +kernel
theorem d_Bs_count_1 : decode c_Bs_count 1 = .ok (.invokevirtual 107, 3) := by decide +kernel
theorem d_Bs_count_4 : decode c_Bs_count 4 = .ok (.aload_n 0, 1) := by decide +kernel
theorem d_Bs_count_5 : decode c_Bs_count 5 = .ok (.getfield 37, 3) := by decide +kernel
theorem d_Bs_count_8 : decode c_Bs_count 8 = .ok (.iload_n 1, 1) := by decide +kernel
theorem d_Bs_count_9 : decode c_Bs_count 9 = .ok (.invokevirtual 111, 3) := by decide +kernel
theorem d_Bs_count_12 : decode c_Bs_count 12 = .ok (.astore_n 3, 1) := by decide +kernel
theorem d_Bs_count_13 : decode c_Bs_count 13 = .ok (.aload_n 3, 1) := by decide +kernel
theorem d_Bs_count_14 : decode c_Bs_count 14 = .ok (.ifnull 10, 3) := by decide +kernel
theorem d_Bs_count_17 : decode c_Bs_count 17 = .ok (.iload_n 2, 1) := by decide +kernel
theorem d_Bs_count_18 : decode c_Bs_count 18 = .ok (.invokestatic 87, 3) := by decide +kernel
theorem d_Bs_count_21 : decode c_Bs_count 21 = .ok (.ifCond .ne 5, 3) := by decide +kernel
theorem d_Bs_count_24 : decode c_Bs_count 24 = .ok (.iconst (-1), 1) := by decide +kernel
theorem d_Bs_count_25 : decode c_Bs_count 25 = .ok (.ireturn, 1) := by decide +kernel
theorem d_Bs_count_26 : decode c_Bs_count 26 = .ok (.aload_n 0, 1) := by decide +kernel
theorem d_Bs_count_27 : decode c_Bs_count 27 = .ok (.getfield 12, 3) := by decide +kernel
theorem d_Bs_count_30 : decode c_Bs_count 30 = .ok (.aload_n 3, 1) := by decide +kernel
theorem d_Bs_count_31 : decode c_Bs_count 31 = .ok (.getfield 124, 3) := by decide +kernel
theorem d_Bs_count_34 : decode c_Bs_count 34 = .ok (.iload_n 2, 1) := by decide +kernel
theorem d_Bs_count_35 : decode c_Bs_count 35 = .ok (.invokevirtual 127, 3) := by decide +kernel
theorem d_Bs_count_38 : decode c_Bs_count 38 = .ok (.ireturn, 1) := by decide +kernel
theorem d_Bs_gain_0 : decode c_Bs_gain 0 = .ok (.aload_n 0, 1) := by decide +kernel
theorem d_Bs_gain_1 : decode c_Bs_gain 1 = .ok (.invokevirtual 107, 3) := by decide +kernel
theorem d_Bs_gain_4 : decode c_Bs_gain 4 = .ok (.aload_n 0, 1) := by decide +kernel
theorem d_Bs_gain_5 : decode c_Bs_gain 5 = .ok (.getfield 37, 3) := by decide +kernel
theorem d_Bs_gain_8 : decode c_Bs_gain 8 = .ok (.iload_n 1, 1) := by decide +kernel
theorem d_Bs_gain_9 : decode c_Bs_gain 9 = .ok (.invokevirtual 111, 3) := by decide +kernel
theorem d_Bs_gain_12 : decode c_Bs_gain 12 = .ok (.astore_n 3, 1) := by decide +kernel
theorem d_Bs_gain_13 : decode c_Bs_gain 13 = .ok (.aload_n 3, 1) := by decide +kernel
theorem d_Bs_gain_14 : decode c_Bs_gain 14 = .ok (.ifnonnull 5, 3) := by decide +kernel
theorem d_Bs_gain_17 : decode c_Bs_gain 17 = .ok (.iconst (-1), 1) := by decide +kernel
theorem d_Bs_gain_18 : decode c_Bs_gain 18 = .ok (.ireturn, 1) := by decide +kernel
theorem d_Bs_gain_19 : decode c_Bs_gain 19 = .ok (.iload_n 2, 1) := by decide +kernel
theorem d_Bs_gain_20 : decode c_Bs_gain 20 = .ok (.invokestatic 130, 3) := by decide +kernel
theorem d_Bs_gain_23 : decode c_Bs_gain 23 = .ok (.ifCond .ne 6, 3) := by decide +kernel
theorem d_Bs_gain_26 : decode c_Bs_gain 26 = .ok (.bipush (-2), 2) := by decide +kernel
theorem d_Bs_gain_28 : decode c_Bs_gain 28 = .ok (.ireturn, 1) := by decide +kernel
theorem d_Bs_gain_29 : decode c_Bs_gain 29 = .ok (.aload_n 3, 1) := by decide +kernel
theorem d_Bs_gain_30 : decode c_Bs_gain 30 = .ok (.invokevirtual 133, 3) := by decide +kernel
theorem d_Bs_gain_33 : decode c_Bs_gain 33 = .ok (.ifCond .eq 6, 3) := by decide +kernel
theorem d_Bs_gain_36 : decode c_Bs_gain 36 = .ok (.bipush (-3), 2) := by decide +kernel
theorem d_Bs_gain_38 : decode c_Bs_gain 38 = .ok (.ireturn, 1) := by decide +kernel
theorem d_Bs_gain_39 : decode c_Bs_gain 39 = .ok (.aload_n 3, 1) := by decide +kernel
theorem d_Bs_gain_40 : decode c_Bs_gain 40 = .ok (.getfield 137, 3) := by decide +kernel
theorem d_Bs_gain_43 : decode c_Bs_gain 43 = .ok (.getfield 141, 3) := by decide +kernel
theorem d_Bs_gain_46 : decode c_Bs_gain 46 = .ok (.iload_n 2, 1) := by decide +kernel
theorem d_Bs_gain_47 : decode c_Bs_gain 47 = .ok (.invokevirtual 147, 3) := by decide +kernel
theorem d_Bs_gain_50 : decode c_Bs_gain 50 = .ok (.ireturn, 1) := by decide +kernel
theorem d_Bs_isPart_0 : decode c_Bs_isPart 0 = .ok (.iload_n 0, 1) := by decide +kernel
theorem d_Bs_isPart_1 : decode c_Bs_isPart 1 = .ok (.ifCond .eq 8, 3) := by decide +kernel
theorem d_Bs_isPart_4 : decode c_Bs_isPart 4 = .ok (.iload_n 0, 1) := by decide +kernel
theorem d_Bs_isPart_5 : decode c_Bs_isPart 5 = .ok (.iconst 1, 1) := by decide +kernel
theorem d_Bs_isPart_6 : decode c_Bs_isPart 6 = .ok (.if_icmp .ne 7, 3) := by decide +kernel
theorem d_Bs_isPart_9 : decode c_Bs_isPart 9 = .ok (.iconst 1, 1) := by decide +kernel
theorem d_Bs_isPart_10 : decode c_Bs_isPart 10 = .ok (.goto 4, 3) := by decide +kernel
theorem d_Bs_isPart_13 : decode c_Bs_isPart 13 = .ok (.iconst 0, 1) := by decide +kernel
theorem d_Bs_isPart_14 : decode c_Bs_isPart 14 = .ok (.ireturn, 1) := by decide +kernel
theorem d_Bs_leaf_0 : decode c_Bs_leaf 0 = .ok (.aload_n 0, 1) := by decide +kernel
theorem d_Bs_leaf_1 : decode c_Bs_leaf 1 = .ok (.iload_n 1, 1) := by decide +kernel
theorem d_Bs_leaf_2 : decode c_Bs_leaf 2 = .ok (.iload_n 2, 1) := by decide +kernel
theorem d_Bs_leaf_3 : decode c_Bs_leaf 3 = .ok (.iload_n 3, 1) := by decide +kernel
theorem d_Bs_leaf_4 : decode c_Bs_leaf 4 = .ok (.iload 4, 2) := by decide +kernel
theorem d_Bs_leaf_6 : decode c_Bs_leaf 6 = .ok (.invokevirtual 79, 3) := by decide +kernel
theorem d_Bs_leaf_9 : decode c_Bs_leaf 9 = .ok (.aload_n 0, 1) := by decide +kernel
theorem d_Bs_leaf_10 : decode c_Bs_leaf 10 = .ok (.getfield 12, 3) := by decide +kernel
theorem d_Bs_leaf_13 : decode c_Bs_leaf 13 = .ok (.aload_n 0, 1) := by decide +kernel
theorem d_Bs_leaf_14 : decode c_Bs_leaf 14 = .ok (.getfield 53, 3) := by decide +kernel
theorem d_Bs_leaf_17 : decode c_Bs_leaf 17 = .ok (.invokevirtual 83, 3) := by decide +kernel
theorem d_Bs_leaf_20 : decode c_Bs_leaf 20 = .ok (.ifCond .ne 6, 3) := by decide +kernel
theorem d_Bs_leaf_23 : decode c_Bs_leaf 23 = .ok (.bipush (-2), 2) := by decide +kernel
theorem d_Bs_leaf_25 : decode c_Bs_leaf 25 = .ok (.ireturn, 1) := by decide +kernel
theorem d_Bs_leaf_26 : decode c_Bs_leaf 26 = .ok (.aload_n 0, 1) := by decide +kernel
theorem d_Bs_leaf_27 : decode c_Bs_leaf 27 = .ok (.invokevirtual 107, 3) := by decide +kernel
theorem d_Bs_leaf_30 : decode c_Bs_leaf 30 = .ok (.aload_n 0, 1) := by decide +kernel
theorem d_Bs_leaf_31 : decode c_Bs_leaf 31 = .ok (.getfield 37, 3) := by decide +kernel
theorem d_Bs_leaf_34 : decode c_Bs_leaf 34 = .ok (.aload_n 0, 1) := by decide +kernel
theorem d_Bs_leaf_35 : decode c_Bs_leaf 35 = .ok (.getfield 53, 3) := by decide +kernel
theorem d_Bs_leaf_38 : decode c_Bs_leaf 38 = .ok (.invokevirtual 152, 3) := by decide +kernel
theorem d_Bs_leaf_41 : decode c_Bs_leaf 41 = .ok (.getfield 156, 3) := by decide +kernel
theorem d_Bs_leaf_44 : decode c_Bs_leaf 44 = .ok (.ireturn, 1) := by decide +kernel
theorem d_Tab_goesLeft_0 : decode c_Tab_goesLeft 0 = .ok (.aload_n 2, 1) := by decide +kernel
theorem d_Tab_goesLeft_1 : decode c_Tab_goesLeft 1 = .ok (.getfield 55, 3) := by decide +kernel
theorem d_Tab_goesLeft_4 : decode c_Tab_goesLeft 4 = .ok (.istore_n 3, 1) := by decide +kernel
theorem d_Tab_goesLeft_5 : decode c_Tab_goesLeft 5 = .ok (.iload_n 3, 1) := by decide +kernel
theorem d_Tab_goesLeft_6 : decode c_Tab_goesLeft 6 = .ok (.invokestatic 36, 3) := by decide +kernel
theorem d_Tab_goesLeft_9 : decode c_Tab_goesLeft 9 = .ok (.ifCond .eq 16, 3) := by decide +kernel
theorem d_Tab_goesLeft_12 : decode c_Tab_goesLeft 12 = .ok (.iload_n 3, 1) := by decide +kernel
theorem d_Tab_goesLeft_13 : decode c_Tab_goesLeft 13 = .ok (.aload_n 1, 1) := by decide +kernel
theorem d_Tab_goesLeft_14 : decode c_Tab_goesLeft 14 = .ok (.arraylength, 1) := by decide +kernel
theorem d_Tab_goesLeft_15 : decode c_Tab_goesLeft 15 = .ok (.if_icmp .ge 10, 3) := by decide +kernel
theorem d_Tab_goesLeft_18 : decode c_Tab_goesLeft 18 = .ok (.aload_n 1, 1) := by decide +kernel
theorem d_Tab_goesLeft_19 : decode c_Tab_goesLeft 19 = .ok (.iload_n 3, 1) := by decide +kernel
theorem d_Tab_goesLeft_20 : decode c_Tab_goesLeft 20 = .ok (.iaload, 1) := by decide +kernel
theorem d_Tab_goesLeft_21 : decode c_Tab_goesLeft 21 = .ok (.iconst (-1), 1) := by decide +kernel
theorem d_Tab_goesLeft_22 : decode c_Tab_goesLeft 22 = .ok (.if_icmp .ne 16, 3) := by decide +kernel
theorem d_Tab_goesLeft_25 : decode c_Tab_goesLeft 25 = .ok (.aload_n 2, 1) := by decide +kernel
theorem d_Tab_goesLeft_26 : decode c_Tab_goesLeft 26 = .ok (.getfield 60, 3) := by decide +kernel
theorem d_Tab_goesLeft_29 : decode c_Tab_goesLeft 29 = .ok (.ifCond .ne 7, 3) := by decide +kernel
theorem d_Tab_goesLeft_32 : decode c_Tab_goesLeft 32 = .ok (.iconst 1, 1) := by decide +kernel
theorem d_Tab_goesLeft_33 : decode c_Tab_goesLeft 33 = .ok (.goto 4, 3) := by decide +kernel
theorem d_Tab_goesLeft_36 : decode c_Tab_goesLeft 36 = .ok (.iconst 0, 1) := by decide +kernel
theorem d_Tab_goesLeft_37 : decode c_Tab_goesLeft 37 = .ok (.ireturn, 1) := by decide +kernel
theorem d_Tab_goesLeft_38 : decode c_Tab_goesLeft 38 = .ok (.aload_n 0, 1) := by decide +kernel
theorem d_Tab_goesLeft_39 : decode c_Tab_goesLeft 39 = .ok (.iload_n 3, 1) := by decide +kernel
theorem d_Tab_goesLeft_40 : decode c_Tab_goesLeft 40 = .ok (.aload_n 2, 1) := by decide +kernel
theorem d_Tab_goesLeft_41 : decode c_Tab_goesLeft 41 = .ok (.getfield 63, 3) := by decide +kernel
theorem d_Tab_goesLeft_44 : decode c_Tab_goesLeft 44 = .ok (.aload_n 1, 1) := by decide +kernel
theorem d_Tab_goesLeft_45 : decode c_Tab_goesLeft 45 = .ok (.iload_n 3, 1) := by decide +kernel
theorem d_Tab_goesLeft_46 : decode c_Tab_goesLeft 46 = .ok (.iaload, 1) := by decide +kernel
theorem d_Tab_goesLeft_47 : decode c_Tab_goesLeft 47 = .ok (.invokevirtual 51, 3) := by decide +kernel
theorem d_Tab_goesLeft_50 : decode c_Tab_goesLeft 50 = .ok (.ireturn, 1) := by decide +kernel
theorem d_Bs_leafOf_0 : decode c_Bs_leafOf 0 = .ok (.aload_n 0, 1) := by decide +kernel
theorem d_Bs_leafOf_1 : decode c_Bs_leafOf 1 = .ok (.getfield 12, 3) := by decide +kernel
theorem d_Bs_leafOf_4 : decode c_Bs_leafOf 4 = .ok (.iload_n 1, 1) := by decide +kernel
theorem d_Bs_leafOf_5 : decode c_Bs_leafOf 5 = .ok (.invokevirtual 159, 3) := by decide +kernel
theorem d_Bs_leafOf_8 : decode c_Bs_leafOf 8 = .ok (.ifCond .ne 5, 3) := by decide +kernel
theorem d_Bs_leafOf_11 : decode c_Bs_leafOf 11 = .ok (.iconst (-1), 1) := by decide +kernel
theorem d_Bs_leafOf_12 : decode c_Bs_leafOf 12 = .ok (.ireturn, 1) := by decide +kernel
theorem d_Bs_leafOf_13 : decode c_Bs_leafOf 13 = .ok (.aload_n 0, 1) := by decide +kernel
theorem d_Bs_leafOf_14 : decode c_Bs_leafOf 14 = .ok (.invokevirtual 107, 3) := by decide +kernel
theorem d_Bs_leafOf_17 : decode c_Bs_leafOf 17 = .ok (.aload_n 0, 1) := by decide +kernel
theorem d_Bs_leafOf_18 : decode c_Bs_leafOf 18 = .ok (.getfield 37, 3) := by decide +kernel
theorem d_Bs_leafOf_21 : decode c_Bs_leafOf 21 = .ok (.aload_n 0, 1) := by decide +kernel
theorem d_Bs_leafOf_22 : decode c_Bs_leafOf 22 = .ok (.getfield 12, 3) := by decide +kernel
theorem d_Bs_leafOf_25 : decode c_Bs_leafOf 25 = .ok (.getfield 162, 3) := by decide +kernel
theorem d_Bs_leafOf_28 : decode c_Bs_leafOf 28 = .ok (.iload_n 1, 1) := by decide +kernel
theorem d_Bs_leafOf_29 : decode c_Bs_leafOf 29 = .ok (.aaload, 1) := by decide +kernel
theorem d_Bs_leafOf_30 : decode c_Bs_leafOf 30 = .ok (.invokevirtual 152, 3) := by decide +kernel
theorem d_Bs_leafOf_33 : decode c_Bs_leafOf 33 = .ok (.getfield 156, 3) := by decide +kernel
theorem d_Bs_leafOf_36 : decode c_Bs_leafOf 36 = .ok (.ireturn, 1) := by decide +kernel
theorem d_Tab_has_0 : decode c_Tab_has 0 = .ok (.iload_n 1, 1) := by decide +kernel
theorem d_Tab_has_1 : decode c_Tab_has 1 = .ok (.ifCond .lt 21, 3) := by decide +kernel
theorem d_Tab_has_4 : decode c_Tab_has 4 = .ok (.iload_n 1, 1) := by decide +kernel
theorem d_Tab_has_5 : decode c_Tab_has 5 = .ok (.aload_n 0, 1) := by decide +kernel
theorem d_Tab_has_6 : decode c_Tab_has 6 = .ok (.getfield 20, 3) := by decide +kernel
theorem d_Tab_has_9 : decode c_Tab_has 9 = .ok (.if_icmp .ge 13, 3) := by decide +kernel
theorem d_Tab_has_12 : decode c_Tab_has 12 = .ok (.iload_n 1, 1) := by decide +kernel
theorem d_Tab_has_13 : decode c_Tab_has 13 = .ok (.bipush 24, 2) := by decide +kernel
theorem d_Tab_has_15 : decode c_Tab_has 15 = .ok (.if_icmp .ge 7, 3) := by decide +kernel
theorem d_Tab_has_18 : decode c_Tab_has 18 = .ok (.iconst 1, 1) := by decide +kernel
theorem d_Tab_has_19 : decode c_Tab_has 19 = .ok (.goto 4, 3) := by decide +kernel
theorem d_Tab_has_22 : decode c_Tab_has 22 = .ok (.iconst 0, 1) := by decide +kernel
theorem d_Tab_has_23 : decode c_Tab_has 23 = .ok (.ireturn, 1) := by decide +kernel
theorem d_Bs_cuts_0 : decode c_Bs_cuts 0 = .ok (.aload_n 0, 1) := by decide +kernel
theorem d_Bs_cuts_1 : decode c_Bs_cuts 1 = .ok (.getfield 28, 3) := by decide +kernel
theorem d_Bs_cuts_4 : decode c_Bs_cuts 4 = .ok (.aload_n 0, 1) := by decide +kernel
theorem d_Bs_cuts_5 : decode c_Bs_cuts 5 = .ok (.getfield 12, 3) := by decide +kernel
theorem d_Bs_cuts_8 : decode c_Bs_cuts 8 = .ok (.invokevirtual 166, 3) := by decide +kernel
theorem d_Bs_cuts_11 : decode c_Bs_cuts 11 = .ok (.invokevirtual 169, 3) := by decide +kernel
theorem d_Bs_cuts_14 : decode c_Bs_cuts 14 = .ok (.ireturn, 1) := by decide +kernel
theorem d_Bs_cutGain_0 : decode c_Bs_cutGain 0 = .ok (.iload_n 1, 1) := by decide +kernel
theorem d_Bs_cutGain_1 : decode c_Bs_cutGain 1 = .ok (.invokestatic 65, 3) := by decide +kernel
theorem d_Bs_cutGain_4 : decode c_Bs_cutGain 4 = .ok (.ifCond .ne 5, 3) := by decide +kernel
theorem d_Bs_cutGain_7 : decode c_Bs_cutGain 7 = .ok (.iconst (-1), 1) := by decide +kernel
theorem d_Bs_cutGain_8 : decode c_Bs_cutGain 8 = .ok (.ireturn, 1) := by decide +kernel
theorem d_Bs_cutGain_9 : decode c_Bs_cutGain 9 = .ok (.iload_n 3, 1) := by decide +kernel
theorem d_Bs_cutGain_10 : decode c_Bs_cutGain 10 = .ok (.ifCond .eq 8, 3) := by decide +kernel
theorem d_Bs_cutGain_13 : decode c_Bs_cutGain 13 = .ok (.iload_n 3, 1) := by decide +kernel
theorem d_Bs_cutGain_14 : decode c_Bs_cutGain 14 = .ok (.iconst 1, 1) := by decide +kernel
theorem d_Bs_cutGain_15 : decode c_Bs_cutGain 15 = .ok (.if_icmp .ne 11, 3) := by decide +kernel
theorem d_Bs_cutGain_18 : decode c_Bs_cutGain 18 = .ok (.iload 4, 2) := by decide +kernel
theorem d_Bs_cutGain_20 : decode c_Bs_cutGain 20 = .ok (.invokestatic 130, 3) := by decide +kernel
theorem d_Bs_cutGain_23 : decode c_Bs_cutGain 23 = .ok (.ifCond .ne 6, 3) := by decide +kernel
theorem d_Bs_cutGain_26 : decode c_Bs_cutGain 26 = .ok (.bipush (-2), 2) := by decide +kernel
theorem d_Bs_cutGain_28 : decode c_Bs_cutGain 28 = .ok (.ireturn, 1) := by decide +kernel
theorem d_Bs_cutGain_29 : decode c_Bs_cutGain 29 = .ok (.aload_n 0, 1) := by decide +kernel
theorem d_Bs_cutGain_30 : decode c_Bs_cutGain 30 = .ok (.getfield 12, 3) := by decide +kernel
theorem d_Bs_cutGain_33 : decode c_Bs_cutGain 33 = .ok (.invokevirtual 166, 3) := by decide +kernel
theorem d_Bs_cutGain_36 : decode c_Bs_cutGain 36 = .ok (.istore 5, 2) := by decide +kernel
theorem d_Bs_cutGain_38 : decode c_Bs_cutGain 38 = .ok (.aload_n 0, 1) := by decide +kernel
theorem d_Bs_cutGain_39 : decode c_Bs_cutGain 39 = .ok (.getfield 12, 3) := by decide +kernel
theorem d_Bs_cutGain_42 : decode c_Bs_cutGain 42 = .ok (.iload 5, 2) := by decide +kernel
theorem d_Bs_cutGain_44 : decode c_Bs_cutGain 44 = .ok (.iload_n 1, 1) := by decide +kernel
theorem d_Bs_cutGain_45 : decode c_Bs_cutGain 45 = .ok (.iload_n 2, 1) := by decide +kernel
theorem d_Bs_cutGain_46 : decode c_Bs_cutGain 46 = .ok (.invokevirtual 172, 3) := by decide +kernel
theorem d_Bs_cutGain_49 : decode c_Bs_cutGain 49 = .ok (.ifCond .eq 18, 3) := by decide +kernel
theorem d_Bs_cutGain_52 : decode c_Bs_cutGain 52 = .ok (.aload_n 0, 1) := by decide +kernel
theorem d_Bs_cutGain_53 : decode c_Bs_cutGain 53 = .ok (.getfield 28, 3) := by decide +kernel
theorem d_Bs_cutGain_56 : decode c_Bs_cutGain 56 = .ok (.iload 5, 2) := by decide +kernel
theorem d_Bs_cutGain_58 : decode c_Bs_cutGain 58 = .ok (.iload_n 1, 1) := by decide +kernel
theorem d_Bs_cutGain_59 : decode c_Bs_cutGain 59 = .ok (.iload_n 2, 1) := by decide +kernel
theorem d_Bs_cutGain_60 : decode c_Bs_cutGain 60 = .ok (.iload_n 3, 1) := by decide +kernel
theorem d_Bs_cutGain_61 : decode c_Bs_cutGain 61 = .ok (.invokevirtual 176, 3) := by decide +kernel
theorem d_Bs_cutGain_64 : decode c_Bs_cutGain 64 = .ok (.ifCond .ne 6, 3) := by decide +kernel
theorem d_Bs_cutGain_67 : decode c_Bs_cutGain 67 = .ok (.bipush (-3), 2) := by decide +kernel
theorem d_Bs_cutGain_69 : decode c_Bs_cutGain 69 = .ok (.ireturn, 1) := by decide +kernel
theorem d_Bs_cutGain_70 : decode c_Bs_cutGain 70 = .ok (.aload_n 0, 1) := by decide +kernel
theorem d_Bs_cutGain_71 : decode c_Bs_cutGain 71 = .ok (.getfield 28, 3) := by decide +kernel
theorem d_Bs_cutGain_74 : decode c_Bs_cutGain 74 = .ok (.getfield 180, 3) := by decide +kernel
theorem d_Bs_cutGain_77 : decode c_Bs_cutGain 77 = .ok (.getfield 141, 3) := by decide +kernel
theorem d_Bs_cutGain_80 : decode c_Bs_cutGain 80 = .ok (.iload 4, 2) := by decide +kernel
theorem d_Bs_cutGain_82 : decode c_Bs_cutGain 82 = .ok (.invokevirtual 147, 3) := by decide +kernel
theorem d_Bs_cutGain_85 : decode c_Bs_cutGain 85 = .ok (.ireturn, 1) := by decide +kernel
theorem d_Bs_stages_0 : decode c_Bs_stages 0 = .ok (.aload_n 0, 1) := by decide +kernel
theorem d_Bs_stages_1 : decode c_Bs_stages 1 = .ok (.invokevirtual 107, 3) := by decide +kernel
theorem d_Bs_stages_4 : decode c_Bs_stages 4 = .ok (.aload_n 0, 1) := by decide +kernel
theorem d_Bs_stages_5 : decode c_Bs_stages 5 = .ok (.getfield 49, 3) := by decide +kernel
theorem d_Bs_stages_8 : decode c_Bs_stages 8 = .ok (.getfield 183, 3) := by decide +kernel
theorem d_Bs_stages_11 : decode c_Bs_stages 11 = .ok (.ireturn, 1) := by decide +kernel
theorem d_Bs_alpha_0 : decode c_Bs_alpha 0 = .ok (.aload_n 0, 1) := by decide +kernel
theorem d_Bs_alpha_1 : decode c_Bs_alpha 1 = .ok (.invokevirtual 107, 3) := by decide +kernel
theorem d_Bs_alpha_4 : decode c_Bs_alpha 4 = .ok (.aload_n 0, 1) := by decide +kernel
theorem d_Bs_alpha_5 : decode c_Bs_alpha 5 = .ok (.getfield 49, 3) := by decide +kernel
theorem d_Bs_alpha_8 : decode c_Bs_alpha 8 = .ok (.iload_n 1, 1) := by decide +kernel
theorem d_Bs_alpha_9 : decode c_Bs_alpha 9 = .ok (.invokevirtual 184, 3) := by decide +kernel
theorem d_Bs_alpha_12 : decode c_Bs_alpha 12 = .ok (.ifCond .ne 5, 3) := by decide +kernel
theorem d_Bs_alpha_15 : decode c_Bs_alpha 15 = .ok (.iconst (-1), 1) := by decide +kernel
theorem d_Bs_alpha_16 : decode c_Bs_alpha 16 = .ok (.ireturn, 1) := by decide +kernel
theorem d_Bs_alpha_17 : decode c_Bs_alpha 17 = .ok (.iload_n 2, 1) := by decide +kernel
theorem d_Bs_alpha_18 : decode c_Bs_alpha 18 = .ok (.invokestatic 130, 3) := by decide +kernel
theorem d_Bs_alpha_21 : decode c_Bs_alpha 21 = .ok (.ifCond .ne 6, 3) := by decide +kernel
theorem d_Bs_alpha_24 : decode c_Bs_alpha 24 = .ok (.bipush (-2), 2) := by decide +kernel
theorem d_Bs_alpha_26 : decode c_Bs_alpha 26 = .ok (.ireturn, 1) := by decide +kernel
theorem d_Bs_alpha_27 : decode c_Bs_alpha 27 = .ok (.aload_n 0, 1) := by decide +kernel
theorem d_Bs_alpha_28 : decode c_Bs_alpha 28 = .ok (.getfield 49, 3) := by decide +kernel
theorem d_Bs_alpha_31 : decode c_Bs_alpha 31 = .ok (.getfield 185, 3) := by decide +kernel
theorem d_Bs_alpha_34 : decode c_Bs_alpha 34 = .ok (.iload_n 1, 1) := by decide +kernel
theorem d_Bs_alpha_35 : decode c_Bs_alpha 35 = .ok (.aaload, 1) := by decide +kernel
theorem d_Bs_alpha_36 : decode c_Bs_alpha 36 = .ok (.iload_n 2, 1) := by decide +kernel
theorem d_Bs_alpha_37 : decode c_Bs_alpha 37 = .ok (.invokevirtual 147, 3) := by decide +kernel
theorem d_Bs_alpha_40 : decode c_Bs_alpha 40 = .ok (.ireturn, 1) := by decide +kernel
theorem d_Bs_leaves_0 : decode c_Bs_leaves 0 = .ok (.aload_n 0, 1) := by decide +kernel
theorem d_Bs_leaves_1 : decode c_Bs_leaves 1 = .ok (.invokevirtual 107, 3) := by decide +kernel
theorem d_Bs_leaves_4 : decode c_Bs_leaves 4 = .ok (.aload_n 0, 1) := by decide +kernel
theorem d_Bs_leaves_5 : decode c_Bs_leaves 5 = .ok (.getfield 49, 3) := by decide +kernel
theorem d_Bs_leaves_8 : decode c_Bs_leaves 8 = .ok (.iload_n 1, 1) := by decide +kernel
theorem d_Bs_leaves_9 : decode c_Bs_leaves 9 = .ok (.invokevirtual 184, 3) := by decide +kernel
theorem d_Bs_leaves_12 : decode c_Bs_leaves 12 = .ok (.ifCond .eq 15, 3) := by decide +kernel
theorem d_Bs_leaves_15 : decode c_Bs_leaves 15 = .ok (.aload_n 0, 1) := by decide +kernel
theorem d_Bs_leaves_16 : decode c_Bs_leaves 16 = .ok (.getfield 49, 3) := by decide +kernel
theorem d_Bs_leaves_19 : decode c_Bs_leaves 19 = .ok (.getfield 189, 3) := by decide +kernel
theorem d_Bs_leaves_22 : decode c_Bs_leaves 22 = .ok (.iload_n 1, 1) := by decide +kernel
theorem d_Bs_leaves_23 : decode c_Bs_leaves 23 = .ok (.iaload, 1) := by decide +kernel
theorem d_Bs_leaves_24 : decode c_Bs_leaves 24 = .ok (.goto 4, 3) := by decide +kernel
theorem d_Bs_leaves_27 : decode c_Bs_leaves 27 = .ok (.iconst (-1), 1) := by decide +kernel
theorem d_Bs_leaves_28 : decode c_Bs_leaves 28 = .ok (.ireturn, 1) := by decide +kernel
theorem d_Bs_wrong_0 : decode c_Bs_wrong 0 = .ok (.aload_n 0, 1) := by decide +kernel
theorem d_Bs_wrong_1 : decode c_Bs_wrong 1 = .ok (.invokevirtual 107, 3) := by decide +kernel
theorem d_Bs_wrong_4 : decode c_Bs_wrong 4 = .ok (.aload_n 0, 1) := by decide +kernel
theorem d_Bs_wrong_5 : decode c_Bs_wrong 5 = .ok (.getfield 49, 3) := by decide +kernel
theorem d_Bs_wrong_8 : decode c_Bs_wrong 8 = .ok (.iload_n 1, 1) := by decide +kernel
theorem d_Bs_wrong_9 : decode c_Bs_wrong 9 = .ok (.invokevirtual 184, 3) := by decide +kernel
theorem d_Bs_wrong_12 : decode c_Bs_wrong 12 = .ok (.ifCond .eq 15, 3) := by decide +kernel
theorem d_Bs_wrong_15 : decode c_Bs_wrong 15 = .ok (.aload_n 0, 1) := by decide +kernel
theorem d_Bs_wrong_16 : decode c_Bs_wrong 16 = .ok (.getfield 49, 3) := by decide +kernel
theorem d_Bs_wrong_19 : decode c_Bs_wrong 19 = .ok (.getfield 192, 3) := by decide +kernel
theorem d_Bs_wrong_22 : decode c_Bs_wrong 22 = .ok (.iload_n 1, 1) := by decide +kernel
theorem d_Bs_wrong_23 : decode c_Bs_wrong 23 = .ok (.iaload, 1) := by decide +kernel
theorem d_Bs_wrong_24 : decode c_Bs_wrong 24 = .ok (.goto 4, 3) := by decide +kernel
theorem d_Bs_wrong_27 : decode c_Bs_wrong 27 = .ok (.iconst (-1), 1) := by decide +kernel
theorem d_Bs_wrong_28 : decode c_Bs_wrong 28 = .ok (.ireturn, 1) := by decide +kernel
theorem d_Bs_state_0 : decode c_Bs_state 0 = .ok (.aload_n 0, 1) := by decide +kernel
theorem d_Bs_state_1 : decode c_Bs_state 1 = .ok (.invokevirtual 107, 3) := by decide +kernel
theorem d_Bs_state_4 : decode c_Bs_state 4 = .ok (.aload_n 0, 1) := by decide +kernel
theorem d_Bs_state_5 : decode c_Bs_state 5 = .ok (.getfield 37, 3) := by decide +kernel
theorem d_Bs_state_8 : decode c_Bs_state 8 = .ok (.iload_n 2, 1) := by decide +kernel
theorem d_Bs_state_9 : decode c_Bs_state 9 = .ok (.invokevirtual 111, 3) := by decide +kernel
theorem d_Bs_state_12 : decode c_Bs_state 12 = .ok (.astore_n 3, 1) := by decide +kernel
theorem d_Bs_state_13 : decode c_Bs_state 13 = .ok (.aload_n 3, 1) := by decide +kernel
theorem d_Bs_state_14 : decode c_Bs_state 14 = .ok (.ifnull 14, 3) := by decide +kernel
theorem d_Bs_state_17 : decode c_Bs_state 17 = .ok (.aload_n 0, 1) := by decide +kernel
theorem d_Bs_state_18 : decode c_Bs_state 18 = .ok (.getfield 49, 3) := by decide +kernel
theorem d_Bs_state_21 : decode c_Bs_state 21 = .ok (.iload_n 1, 1) := by decide +kernel
theorem d_Bs_state_22 : decode c_Bs_state 22 = .ok (.invokevirtual 184, 3) := by decide +kernel
theorem d_Bs_state_25 : decode c_Bs_state 25 = .ok (.ifCond .ne 5, 3) := by decide +kernel
theorem d_Bs_state_28 : decode c_Bs_state 28 = .ok (.iconst (-1), 1) := by decide +kernel
theorem d_Bs_state_29 : decode c_Bs_state 29 = .ok (.ireturn, 1) := by decide +kernel
theorem d_Bs_state_30 : decode c_Bs_state 30 = .ok (.aload_n 3, 1) := by decide +kernel
theorem d_Bs_state_31 : decode c_Bs_state 31 = .ok (.iload_n 1, 1) := by decide +kernel
theorem d_Bs_state_32 : decode c_Bs_state 32 = .ok (.invokevirtual 195, 3) := by decide +kernel
theorem d_Bs_state_35 : decode c_Bs_state 35 = .ok (.ireturn, 1) := by decide +kernel
theorem d_Bs_leftOut_0 : decode c_Bs_leftOut 0 = .ok (.aload_n 0, 1) := by decide +kernel
theorem d_Bs_leftOut_1 : decode c_Bs_leftOut 1 = .ok (.getfield 61, 3) := by decide +kernel
theorem d_Bs_leftOut_4 : decode c_Bs_leftOut 4 = .ok (.iconst (-1), 1) := by decide +kernel
theorem d_Bs_leftOut_5 : decode c_Bs_leftOut 5 = .ok (.if_icmp .ne 49, 3) := by decide +kernel
theorem d_Bs_leftOut_8 : decode c_Bs_leftOut 8 = .ok (.aload_n 0, 1) := by decide +kernel
theorem d_Bs_leftOut_9 : decode c_Bs_leftOut 9 = .ok (.iconst 0, 1) := by decide +kernel
theorem d_Bs_leftOut_10 : decode c_Bs_leftOut 10 = .ok (.putfield 61, 3) := by decide +kernel
theorem d_Bs_leftOut_13 : decode c_Bs_leftOut 13 = .ok (.iconst 0, 1) := by decide +kernel
theorem d_Bs_leftOut_14 : decode c_Bs_leftOut 14 = .ok (.istore_n 1, 1) := by decide +kernel
theorem d_Bs_leftOut_15 : decode c_Bs_leftOut 15 = .ok (.iload_n 1, 1) := by decide +kernel
theorem d_Bs_leftOut_16 : decode c_Bs_leftOut 16 = .ok (.aload_n 0, 1) := by decide +kernel
theorem d_Bs_leftOut_17 : decode c_Bs_leftOut 17 = .ok (.getfield 12, 3) := by decide +kernel
theorem d_Bs_leftOut_20 : decode c_Bs_leftOut 20 = .ok (.getfield 69, 3) := by decide +kernel
theorem d_Bs_leftOut_23 : decode c_Bs_leftOut 23 = .ok (.if_icmp .ge 31, 3) := by decide +kernel
theorem d_Bs_leftOut_26 : decode c_Bs_leftOut 26 = .ok (.aload_n 0, 1) := by decide +kernel
theorem d_Bs_leftOut_27 : decode c_Bs_leftOut 27 = .ok (.dup, 1) := by decide +kernel
theorem d_Bs_leftOut_28 : decode c_Bs_leftOut 28 = .ok (.getfield 61, 3) := by decide +kernel
theorem d_Bs_leftOut_31 : decode c_Bs_leftOut 31 = .ok (.aload_n 0, 1) := by decide +kernel
theorem d_Bs_leftOut_32 : decode c_Bs_leftOut 32 = .ok (.iload_n 1, 1) := by decide +kernel
theorem d_Bs_leftOut_33 : decode c_Bs_leftOut 33 = .ok (.invokevirtual 198, 3) := by decide +kernel
theorem d_Bs_leftOut_36 : decode c_Bs_leftOut 36 = .ok (.ifCond .eq 7, 3) := by decide +kernel
theorem d_Bs_leftOut_39 : decode c_Bs_leftOut 39 = .ok (.iconst 1, 1) := by decide +kernel
theorem d_Bs_leftOut_40 : decode c_Bs_leftOut 40 = .ok (.goto 4, 3) := by decide +kernel
theorem d_Bs_leftOut_43 : decode c_Bs_leftOut 43 = .ok (.iconst 0, 1) := by decide +kernel
theorem d_Bs_leftOut_44 : decode c_Bs_leftOut 44 = .ok (.iadd, 1) := by decide +kernel
theorem d_Bs_leftOut_45 : decode c_Bs_leftOut 45 = .ok (.putfield 61, 3) := by decide +kernel
theorem d_Bs_leftOut_48 : decode c_Bs_leftOut 48 = .ok (.iinc 1 1, 3) := by decide +kernel
theorem d_Bs_leftOut_51 : decode c_Bs_leftOut 51 = .ok (.goto (-36), 3) := by decide +kernel
theorem d_Bs_leftOut_54 : decode c_Bs_leftOut 54 = .ok (.aload_n 0, 1) := by decide +kernel
theorem d_Bs_leftOut_55 : decode c_Bs_leftOut 55 = .ok (.getfield 61, 3) := by decide +kernel
theorem d_Bs_leftOut_58 : decode c_Bs_leftOut 58 = .ok (.ireturn, 1) := by decide +kernel
theorem d_Bs_isMistakenByOthers_0 : decode c_Bs_isMistakenByOthers 0 = .ok (.aload_n 0, 1) := by decide +kernel
theorem d_Bs_isMistakenByOthers_1 : decode c_Bs_isMistakenByOthers 1 = .ok (.getfield 12, 3) := by decide +kernel
theorem d_Bs_isMistakenByOthers_4 : decode c_Bs_isMistakenByOthers 4 = .ok (.iload_n 1, 1) := by decide +kernel
theorem d_Bs_isMistakenByOthers_5 : decode c_Bs_isMistakenByOthers 5 = .ok (.invokevirtual 159, 3) := by decide +kernel
theorem d_Bs_isMistakenByOthers_8 : decode c_Bs_isMistakenByOthers 8 = .ok (.ifCond .ne 5, 3) := by decide +kernel
theorem d_Bs_isMistakenByOthers_11 : decode c_Bs_isMistakenByOthers 11 = .ok (.iconst 0, 1) := by decide +kernel
theorem d_Bs_isMistakenByOthers_12 : decode c_Bs_isMistakenByOthers 12 = .ok (.ireturn, 1) := by decide +kernel
theorem d_Bs_isMistakenByOthers_13 : decode c_Bs_isMistakenByOthers 13 = .ok (.aload_n 0, 1) := by decide +kernel
theorem d_Bs_isMistakenByOthers_14 : decode c_Bs_isMistakenByOthers 14 = .ok (.getfield 41, 3) := by decide +kernel
theorem d_Bs_isMistakenByOthers_17 : decode c_Bs_isMistakenByOthers 17 = .ok (.aload_n 0, 1) := by decide +kernel
theorem d_Bs_isMistakenByOthers_18 : decode c_Bs_isMistakenByOthers 18 = .ok (.getfield 12, 3) := by decide +kernel
theorem d_Bs_isMistakenByOthers_21 : decode c_Bs_isMistakenByOthers 21 = .ok (.invokevirtual 166, 3) := by decide +kernel
theorem d_Bs_isMistakenByOthers_24 : decode c_Bs_isMistakenByOthers 24 = .ok (.iconst 1, 1) := by decide +kernel
theorem d_Bs_isMistakenByOthers_25 : decode c_Bs_isMistakenByOthers 25 = .ok (.iload_n 1, 1) := by decide +kernel
theorem d_Bs_isMistakenByOthers_26 : decode c_Bs_isMistakenByOthers 26 = .ok (.ishl, 1) := by decide +kernel
theorem d_Bs_isMistakenByOthers_27 : decode c_Bs_isMistakenByOthers 27 = .ok (.iconst (-1), 1) := by decide +kernel
theorem d_Bs_isMistakenByOthers_28 : decode c_Bs_isMistakenByOthers 28 = .ok (.ixor, 1) := by decide +kernel
theorem d_Bs_isMistakenByOthers_29 : decode c_Bs_isMistakenByOthers 29 = .ok (.iand, 1) := by decide +kernel
theorem d_Bs_isMistakenByOthers_30 : decode c_Bs_isMistakenByOthers 30 = .ok (.invokevirtual 201, 3) := by decide +kernel
theorem d_Bs_isMistakenByOthers_33 : decode c_Bs_isMistakenByOthers 33 = .ok (.aload_n 0, 1) := by decide +kernel
theorem d_Bs_isMistakenByOthers_34 : decode c_Bs_isMistakenByOthers 34 = .ok (.getfield 41, 3) := by decide +kernel
theorem d_Bs_isMistakenByOthers_37 : decode c_Bs_isMistakenByOthers 37 = .ok (.aload_n 0, 1) := by decide +kernel
theorem d_Bs_isMistakenByOthers_38 : decode c_Bs_isMistakenByOthers 38 = .ok (.getfield 12, 3) := by decide +kernel
theorem d_Bs_isMistakenByOthers_41 : decode c_Bs_isMistakenByOthers 41 = .ok (.getfield 162, 3) := by decide +kernel
theorem d_Bs_isMistakenByOthers_44 : decode c_Bs_isMistakenByOthers 44 = .ok (.iload_n 1, 1) := by decide +kernel
theorem d_Bs_isMistakenByOthers_45 : decode c_Bs_isMistakenByOthers 45 = .ok (.aaload, 1) := by decide +kernel
theorem d_Bs_isMistakenByOthers_46 : decode c_Bs_isMistakenByOthers 46 = .ok (.invokevirtual 152, 3) := by decide +kernel
theorem d_Bs_isMistakenByOthers_49 : decode c_Bs_isMistakenByOthers 49 = .ok (.getfield 205, 3) := by decide +kernel
theorem d_Bs_isMistakenByOthers_52 : decode c_Bs_isMistakenByOthers 52 = .ok (.aload_n 0, 1) := by decide +kernel
theorem d_Bs_isMistakenByOthers_53 : decode c_Bs_isMistakenByOthers 53 = .ok (.getfield 12, 3) := by decide +kernel
theorem d_Bs_isMistakenByOthers_56 : decode c_Bs_isMistakenByOthers 56 = .ok (.getfield 208, 3) := by decide +kernel
theorem d_Bs_isMistakenByOthers_59 : decode c_Bs_isMistakenByOthers 59 = .ok (.iload_n 1, 1) := by decide +kernel
theorem d_Bs_isMistakenByOthers_60 : decode c_Bs_isMistakenByOthers 60 = .ok (.iaload, 1) := by decide +kernel
theorem d_Bs_isMistakenByOthers_61 : decode c_Bs_isMistakenByOthers 61 = .ok (.if_icmp .eq 7, 3) := by decide +kernel
theorem d_Bs_isMistakenByOthers_64 : decode c_Bs_isMistakenByOthers 64 = .ok (.iconst 1, 1) := by decide +kernel
theorem d_Bs_isMistakenByOthers_65 : decode c_Bs_isMistakenByOthers 65 = .ok (.goto 4, 3) := by decide +kernel
theorem d_Bs_isMistakenByOthers_68 : decode c_Bs_isMistakenByOthers 68 = .ok (.iconst 0, 1) := by decide +kernel
theorem d_Bs_isMistakenByOthers_69 : decode c_Bs_isMistakenByOthers 69 = .ok (.ireturn, 1) := by decide +kernel
