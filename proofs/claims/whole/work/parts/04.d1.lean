theorem d_Lim_init_0 : decode c_Lim_init 0 = .ok (.aload_n 0, 1) := by decide +kernel
theorem d_Lim_init_1 : decode c_Lim_init 1 = .ok (.invokespecial 1, 3) := by decide +kernel
theorem d_Lim_init_4 : decode c_Lim_init 4 = .ok (.aload_n 0, 1) := by decide +kernel
theorem d_Lim_init_5 : decode c_Lim_init 5 = .ok (.iconst 3, 1) := by decide +kernel
theorem d_Lim_init_6 : decode c_Lim_init 6 = .ok (.putfield 7, 3) := by decide +kernel
theorem d_Lim_init_9 : decode c_Lim_init 9 = .ok (.aload_n 0, 1) := by decide +kernel
theorem d_Lim_init_10 : decode c_Lim_init 10 = .ok (.iconst 1, 1) := by decide +kernel
theorem d_Lim_init_11 : decode c_Lim_init 11 = .ok (.putfield 13, 3) := by decide +kernel
theorem d_Lim_init_14 : decode c_Lim_init 14 = .ok (.aload_n 0, 1) := by decide +kernel
theorem d_Lim_init_15 : decode c_Lim_init 15 = .ok (.iconst 0, 1) := by decide +kernel
theorem d_Lim_init_16 : decode c_Lim_init 16 = .ok (.putfield 16, 3) := by decide +kernel
theorem d_Lim_init_19 : decode c_Lim_init 19 = .ok (.return_, 1) := by decide +kernel
theorem d_Sur_init_0 : decode c_Sur_init 0 = .ok (.aload_n 0, 1) := by decide +kernel
theorem d_Sur_init_1 : decode c_Sur_init 1 = .ok (.invokespecial 3, 3) := by decide +kernel
theorem d_Sur_init_4 : decode c_Sur_init 4 = .ok (.aload_n 0, 1) := by decide +kernel
theorem d_Sur_init_5 : decode c_Sur_init 5 = .ok (.new 9, 3) := by decide +kernel
theorem d_Sur_init_8 : decode c_Sur_init 8 = .ok (.dup, 1) := by decide +kernel
theorem d_Sur_init_9 : decode c_Sur_init 9 = .ok (.invokespecial 11, 3) := by decide +kernel
theorem d_Sur_init_12 : decode c_Sur_init 12 = .ok (.putfield 12, 3) := by decide +kernel
theorem d_Sur_init_15 : decode c_Sur_init 15 = .ok (.aload_n 0, 1) := by decide +kernel
theorem d_Sur_init_16 : decode c_Sur_init 16 = .ok (.new 9, 3) := by decide +kernel
theorem d_Sur_init_19 : decode c_Sur_init 19 = .ok (.dup, 1) := by decide +kernel
theorem d_Sur_init_20 : decode c_Sur_init 20 = .ok (.invokespecial 11, 3) := by decide +kernel
theorem d_Sur_init_23 : decode c_Sur_init 23 = .ok (.putfield 18, 3) := by decide +kernel
theorem d_Sur_init_26 : decode c_Sur_init 26 = .ok (.aload_n 0, 1) := by decide +kernel
theorem d_Sur_init_27 : decode c_Sur_init 27 = .ok (.aload_n 1, 1) := by decide +kernel
theorem d_Sur_init_28 : decode c_Sur_init 28 = .ok (.putfield 21, 3) := by decide +kernel
theorem d_Sur_init_31 : decode c_Sur_init 31 = .ok (.aload_n 0, 1) := by decide +kernel
theorem d_Sur_init_32 : decode c_Sur_init 32 = .ok (.aload_n 2, 1) := by decide +kernel
theorem d_Sur_init_33 : decode c_Sur_init 33 = .ok (.putfield 25, 3) := by decide +kernel
theorem d_Sur_init_36 : decode c_Sur_init 36 = .ok (.return_, 1) := by decide +kernel
theorem d_Cut_init_0 : decode c_Cut_init 0 = .ok (.aload_n 0, 1) := by decide +kernel
theorem d_Cut_init_1 : decode c_Cut_init 1 = .ok (.invokespecial 1, 3) := by decide +kernel
theorem d_Cut_init_4 : decode c_Cut_init 4 = .ok (.aload_n 0, 1) := by decide +kernel
theorem d_Cut_init_5 : decode c_Cut_init 5 = .ok (.new 7, 3) := by decide +kernel
theorem d_Cut_init_8 : decode c_Cut_init 8 = .ok (.dup, 1) := by decide +kernel
theorem d_Cut_init_9 : decode c_Cut_init 9 = .ok (.invokespecial 9, 3) := by decide +kernel
theorem d_Cut_init_12 : decode c_Cut_init 12 = .ok (.putfield 10, 3) := by decide +kernel
theorem d_Cut_init_15 : decode c_Cut_init 15 = .ok (.return_, 1) := by decide +kernel
theorem d_Fra_init_0 : decode c_Fra_init 0 = .ok (.aload_n 0, 1) := by decide +kernel
theorem d_Fra_init_1 : decode c_Fra_init 1 = .ok (.invokespecial 3, 3) := by decide +kernel
theorem d_Fra_init_4 : decode c_Fra_init 4 = .ok (.aload_n 0, 1) := by decide +kernel
theorem d_Fra_init_5 : decode c_Fra_init 5 = .ok (.iconst 0, 1) := by decide +kernel
theorem d_Fra_init_6 : decode c_Fra_init 6 = .ok (.putfield 9, 3) := by decide +kernel
theorem d_Fra_init_9 : decode c_Fra_init 9 = .ok (.aload_n 0, 1) := by decide +kernel
theorem d_Fra_init_10 : decode c_Fra_init 10 = .ok (.iconst 1, 1) := by decide +kernel
theorem d_Fra_init_11 : decode c_Fra_init 11 = .ok (.putfield 15, 3) := by decide +kernel
theorem d_Fra_init_14 : decode c_Fra_init 14 = .ok (.return_, 1) := by decide +kernel
theorem d_Tre_init_0 : decode c_Tre_init 0 = .ok (.aload_n 0, 1) := by decide +kernel
theorem d_Tre_init_1 : decode c_Tre_init 1 = .ok (.invokespecial 3, 3) := by decide +kernel
theorem d_Tre_init_4 : decode c_Tre_init 4 = .ok (.aload_n 0, 1) := by decide +kernel
theorem d_Tre_init_5 : decode c_Tre_init 5 = .ok (.bipush 47, 2) := by decide +kernel
theorem d_Tre_init_7 : decode c_Tre_init 7 = .ok (.anewarray 9, 3) := by decide +kernel
theorem d_Tre_init_10 : decode c_Tre_init 10 = .ok (.putfield 11, 3) := by decide +kernel
theorem d_Tre_init_13 : decode c_Tre_init 13 = .ok (.aload_n 0, 1) := by decide +kernel
theorem d_Tre_init_14 : decode c_Tre_init 14 = .ok (.aload_n 1, 1) := by decide +kernel
theorem d_Tre_init_15 : decode c_Tre_init 15 = .ok (.putfield 17, 3) := by decide +kernel
theorem d_Tre_init_18 : decode c_Tre_init 18 = .ok (.aload_n 0, 1) := by decide +kernel
theorem d_Tre_init_19 : decode c_Tre_init 19 = .ok (.aload_n 2, 1) := by decide +kernel
theorem d_Tre_init_20 : decode c_Tre_init 20 = .ok (.putfield 21, 3) := by decide +kernel
theorem d_Tre_init_23 : decode c_Tre_init 23 = .ok (.aload_n 0, 1) := by decide +kernel
theorem d_Tre_init_24 : decode c_Tre_init 24 = .ok (.aload_n 3, 1) := by decide +kernel
theorem d_Tre_init_25 : decode c_Tre_init 25 = .ok (.putfield 25, 3) := by decide +kernel
theorem d_Tre_init_28 : decode c_Tre_init 28 = .ok (.iconst 0, 1) := by decide +kernel
theorem d_Tre_init_29 : decode c_Tre_init 29 = .ok (.istore 4, 2) := by decide +kernel
theorem d_Tre_init_31 : decode c_Tre_init 31 = .ok (.iload 4, 2) := by decide +kernel
theorem d_Tre_init_33 : decode c_Tre_init 33 = .ok (.bipush 47, 2) := by decide +kernel
theorem d_Tre_init_35 : decode c_Tre_init 35 = .ok (.if_icmp .ge 25, 3) := by decide +kernel
theorem d_Tre_init_38 : decode c_Tre_init 38 = .ok (.aload_n 0, 1) := by decide +kernel
theorem d_Tre_init_39 : decode c_Tre_init 39 = .ok (.getfield 11, 3) := by decide +kernel
theorem d_Tre_init_42 : decode c_Tre_init 42 = .ok (.iload 4, 2) := by decide +kernel
theorem d_Tre_init_44 : decode c_Tre_init 44 = .ok (.new 9, 3) := by decide +kernel
theorem d_Tre_init_47 : decode c_Tre_init 47 = .ok (.dup, 1) := by decide +kernel
theorem d_Tre_init_48 : decode c_Tre_init 48 = .ok (.iload 4, 2) := by decide +kernel
theorem d_Tre_init_50 : decode c_Tre_init 50 = .ok (.invokespecial 29, 3) := by decide +kernel
theorem d_Tre_init_53 : decode c_Tre_init 53 = .ok (.aastore, 1) := by decide +kernel
theorem d_Tre_init_54 : decode c_Tre_init 54 = .ok (.iinc 4 1, 3) := by decide +kernel
theorem d_Tre_init_57 : decode c_Tre_init 57 = .ok (.goto (-26), 3) := by decide +kernel
theorem d_Tre_init_60 : decode c_Tre_init 60 = .ok (.aload_n 0, 1) := by decide +kernel
theorem d_Tre_init_61 : decode c_Tre_init 61 = .ok (.aload_n 0, 1) := by decide +kernel
theorem d_Tre_init_62 : decode c_Tre_init 62 = .ok (.getfield 11, 3) := by decide +kernel
theorem d_Tre_init_65 : decode c_Tre_init 65 = .ok (.iconst 0, 1) := by decide +kernel
theorem d_Tre_init_66 : decode c_Tre_init 66 = .ok (.aaload, 1) := by decide +kernel
theorem d_Tre_init_67 : decode c_Tre_init 67 = .ok (.putfield 32, 3) := by decide +kernel
theorem d_Tre_init_70 : decode c_Tre_init 70 = .ok (.aload_n 0, 1) := by decide +kernel
theorem d_Tre_init_71 : decode c_Tre_init 71 = .ok (.iconst 1, 1) := by decide +kernel
theorem d_Tre_init_72 : decode c_Tre_init 72 = .ok (.putfield 36, 3) := by decide +kernel
theorem d_Tre_init_75 : decode c_Tre_init 75 = .ok (.return_, 1) := by decide +kernel
theorem d_Nod_init_0 : decode c_Nod_init 0 = .ok (.aload_n 0, 1) := by decide +kernel
theorem d_Nod_init_1 : decode c_Nod_init 1 = .ok (.invokespecial 3, 3) := by decide +kernel
theorem d_Nod_init_4 : decode c_Nod_init 4 = .ok (.aload_n 0, 1) := by decide +kernel
theorem d_Nod_init_5 : decode c_Nod_init 5 = .ok (.new 9, 3) := by decide +kernel
theorem d_Nod_init_8 : decode c_Nod_init 8 = .ok (.dup, 1) := by decide +kernel
theorem d_Nod_init_9 : decode c_Nod_init 9 = .ok (.invokespecial 11, 3) := by decide +kernel
theorem d_Nod_init_12 : decode c_Nod_init 12 = .ok (.putfield 12, 3) := by decide +kernel
theorem d_Nod_init_15 : decode c_Nod_init 15 = .ok (.aload_n 0, 1) := by decide +kernel
theorem d_Nod_init_16 : decode c_Nod_init 16 = .ok (.iload_n 1, 1) := by decide +kernel
theorem d_Nod_init_17 : decode c_Nod_init 17 = .ok (.putfield 18, 3) := by decide +kernel
theorem d_Nod_init_20 : decode c_Nod_init 20 = .ok (.return_, 1) := by decide +kernel
theorem d_Pru_init_0 : decode c_Pru_init 0 = .ok (.aload_n 0, 1) := by decide +kernel
theorem d_Pru_init_1 : decode c_Pru_init 1 = .ok (.invokespecial 3, 3) := by decide +kernel
theorem d_Pru_init_4 : decode c_Pru_init 4 = .ok (.aload_n 0, 1) := by decide +kernel
theorem d_Pru_init_5 : decode c_Pru_init 5 = .ok (.bipush 24, 2) := by decide +kernel
theorem d_Pru_init_7 : decode c_Pru_init 7 = .ok (.anewarray 9, 3) := by decide +kernel
theorem d_Pru_init_10 : decode c_Pru_init 10 = .ok (.putfield 11, 3) := by decide +kernel
theorem d_Pru_init_13 : decode c_Pru_init 13 = .ok (.aload_n 0, 1) := by decide +kernel
theorem d_Pru_init_14 : decode c_Pru_init 14 = .ok (.bipush 24, 2) := by decide +kernel
theorem d_Pru_init_16 : decode c_Pru_init 16 = .ok (.newarray .int, 2) := by decide +kernel
theorem d_Pru_init_18 : decode c_Pru_init 18 = .ok (.putfield 17, 3) := by decide +kernel
theorem d_Pru_init_21 : decode c_Pru_init 21 = .ok (.aload_n 0, 1) := by decide +kernel
theorem d_Pru_init_22 : decode c_Pru_init 22 = .ok (.bipush 24, 2) := by decide +kernel
theorem d_Pru_init_24 : decode c_Pru_init 24 = .ok (.newarray .int, 2) := by decide +kernel
theorem d_Pru_init_26 : decode c_Pru_init 26 = .ok (.putfield 21, 3) := by decide +kernel
theorem d_Pru_init_29 : decode c_Pru_init 29 = .ok (.aload_n 0, 1) := by decide +kernel
theorem d_Pru_init_30 : decode c_Pru_init 30 = .ok (.new 9, 3) := by decide +kernel
theorem d_Pru_init_33 : decode c_Pru_init 33 = .ok (.dup, 1) := by decide +kernel
theorem d_Pru_init_34 : decode c_Pru_init 34 = .ok (.invokespecial 24, 3) := by decide +kernel
theorem d_Pru_init_37 : decode c_Pru_init 37 = .ok (.putfield 25, 3) := by decide +kernel
theorem d_Pru_init_40 : decode c_Pru_init 40 = .ok (.aload_n 0, 1) := by decide +kernel
theorem d_Pru_init_41 : decode c_Pru_init 41 = .ok (.aload_n 1, 1) := by decide +kernel
theorem d_Pru_init_42 : decode c_Pru_init 42 = .ok (.putfield 29, 3) := by decide +kernel
theorem d_Pru_init_45 : decode c_Pru_init 45 = .ok (.iconst 0, 1) := by decide +kernel
theorem d_Pru_init_46 : decode c_Pru_init 46 = .ok (.istore_n 2, 1) := by decide +kernel
theorem d_Pru_init_47 : decode c_Pru_init 47 = .ok (.iload_n 2, 1) := by decide +kernel
theorem d_Pru_init_48 : decode c_Pru_init 48 = .ok (.bipush 24, 2) := by decide +kernel
theorem d_Pru_init_50 : decode c_Pru_init 50 = .ok (.if_icmp .ge 22, 3) := by decide +kernel
theorem d_Pru_init_53 : decode c_Pru_init 53 = .ok (.aload_n 0, 1) := by decide +kernel
theorem d_Pru_init_54 : decode c_Pru_init 54 = .ok (.getfield 11, 3) := by decide +kernel
theorem d_Pru_init_57 : decode c_Pru_init 57 = .ok (.iload_n 2, 1) := by decide +kernel
theorem d_Pru_init_58 : decode c_Pru_init 58 = .ok (.new 9, 3) := by decide +kernel
theorem d_Pru_init_61 : decode c_Pru_init 61 = .ok (.dup, 1) := by decide +kernel
theorem d_Pru_init_62 : decode c_Pru_init 62 = .ok (.invokespecial 24, 3) := by decide +kernel
theorem d_Pru_init_65 : decode c_Pru_init 65 = .ok (.aastore, 1) := by decide +kernel
theorem d_Pru_init_66 : decode c_Pru_init 66 = .ok (.iinc 2 1, 3) := by decide +kernel
theorem d_Pru_init_69 : decode c_Pru_init 69 = .ok (.goto (-22), 3) := by decide +kernel
theorem d_Pru_init_72 : decode c_Pru_init 72 = .ok (.aload_n 0, 1) := by decide +kernel
theorem d_Pru_init_73 : decode c_Pru_init 73 = .ok (.iconst 0, 1) := by decide +kernel
theorem d_Pru_init_74 : decode c_Pru_init 74 = .ok (.putfield 33, 3) := by decide +kernel
theorem d_Pru_init_77 : decode c_Pru_init 77 = .ok (.return_, 1) := by decide +kernel
theorem d_Tre_grow_0 : decode c_Tre_grow 0 = .ok (.aload_n 0, 1) := by decide +kernel
theorem d_Tre_grow_1 : decode c_Tre_grow 1 = .ok (.aload_n 0, 1) := by decide +kernel
theorem d_Tre_grow_2 : decode c_Tre_grow 2 = .ok (.getfield 32, 3) := by decide +kernel
theorem d_Tre_grow_5 : decode c_Tre_grow 5 = .ok (.iload_n 1, 1) := by decide +kernel
theorem d_Tre_grow_6 : decode c_Tre_grow 6 = .ok (.iconst 0, 1) := by decide +kernel
theorem d_Tre_grow_7 : decode c_Tre_grow 7 = .ok (.invokevirtual 40, 3) := by decide +kernel
theorem d_Tre_grow_10 : decode c_Tre_grow 10 = .ok (.aload_n 0, 1) := by decide +kernel
theorem d_Tre_grow_11 : decode c_Tre_grow 11 = .ok (.iconst 1, 1) := by decide +kernel
theorem d_Tre_grow_12 : decode c_Tre_grow 12 = .ok (.putfield 36, 3) := by decide +kernel
theorem d_Tre_grow_15 : decode c_Tre_grow 15 = .ok (.iconst 0, 1) := by decide +kernel
theorem d_Tre_grow_16 : decode c_Tre_grow 16 = .ok (.istore_n 2, 1) := by decide +kernel
theorem d_Tre_grow_17 : decode c_Tre_grow 17 = .ok (.iload_n 2, 1) := by decide +kernel
theorem d_Tre_grow_18 : decode c_Tre_grow 18 = .ok (.aload_n 0, 1) := by decide +kernel
theorem d_Tre_grow_19 : decode c_Tre_grow 19 = .ok (.getfield 36, 3) := by decide +kernel
theorem d_Tre_grow_22 : decode c_Tre_grow 22 = .ok (.if_icmp .ge 25, 3) := by decide +kernel
theorem d_Tre_grow_25 : decode c_Tre_grow 25 = .ok (.iload_n 2, 1) := by decide +kernel
theorem d_Tre_grow_26 : decode c_Tre_grow 26 = .ok (.bipush 47, 2) := by decide +kernel
theorem d_Tre_grow_28 : decode c_Tre_grow 28 = .ok (.if_icmp .ge 19, 3) := by decide +kernel
theorem d_Tre_grow_31 : decode c_Tre_grow 31 = .ok (.aload_n 0, 1) := by decide +kernel
theorem d_Tre_grow_32 : decode c_Tre_grow 32 = .ok (.aload_n 0, 1) := by decide +kernel
theorem d_Tre_grow_33 : decode c_Tre_grow 33 = .ok (.getfield 11, 3) := by decide +kernel
theorem d_Tre_grow_36 : decode c_Tre_grow 36 = .ok (.iload_n 2, 1) := by decide +kernel
theorem d_Tre_grow_37 : decode c_Tre_grow 37 = .ok (.aaload, 1) := by decide +kernel
theorem d_Tre_grow_38 : decode c_Tre_grow 38 = .ok (.invokevirtual 44, 3) := by decide +kernel
theorem d_Tre_grow_41 : decode c_Tre_grow 41 = .ok (.iinc 2 1, 3) := by decide +kernel
theorem d_Tre_grow_44 : decode c_Tre_grow 44 = .ok (.goto (-27), 3) := by decide +kernel
theorem d_Tre_grow_47 : decode c_Tre_grow 47 = .ok (.return_, 1) := by decide +kernel
theorem d_Tre_begin_0 : decode c_Tre_begin 0 = .ok (.aload_n 1, 1) := by decide +kernel
theorem d_Tre_begin_1 : decode c_Tre_begin 1 = .ok (.iload_n 2, 1) := by decide +kernel
theorem d_Tre_begin_2 : decode c_Tre_begin 2 = .ok (.putfield 48, 3) := by decide +kernel
theorem d_Tre_begin_5 : decode c_Tre_begin 5 = .ok (.aload_n 1, 1) := by decide +kernel
theorem d_Tre_begin_6 : decode c_Tre_begin 6 = .ok (.iload_n 3, 1) := by decide +kernel
theorem d_Tre_begin_7 : decode c_Tre_begin 7 = .ok (.putfield 51, 3) := by decide +kernel
theorem d_Tre_begin_10 : decode c_Tre_begin 10 = .ok (.aload_n 1, 1) := by decide +kernel
theorem d_Tre_begin_11 : decode c_Tre_begin 11 = .ok (.aload_n 0, 1) := by decide +kernel
theorem d_Tre_begin_12 : decode c_Tre_begin 12 = .ok (.getfield 17, 3) := by decide +kernel
theorem d_Tre_begin_15 : decode c_Tre_begin 15 = .ok (.iload_n 2, 1) := by decide +kernel
theorem d_Tre_begin_16 : decode c_Tre_begin 16 = .ok (.invokevirtual 54, 3) := by decide +kernel
theorem d_Tre_begin_19 : decode c_Tre_begin 19 = .ok (.putfield 60, 3) := by decide +kernel
theorem d_Tre_begin_22 : decode c_Tre_begin 22 = .ok (.aload_n 1, 1) := by decide +kernel
theorem d_Tre_begin_23 : decode c_Tre_begin 23 = .ok (.iload_n 2, 1) := by decide +kernel
theorem d_Tre_begin_24 : decode c_Tre_begin 24 = .ok (.invokestatic 63, 3) := by decide +kernel
theorem d_Tre_begin_27 : decode c_Tre_begin 27 = .ok (.aload_n 0, 1) := by decide +kernel
theorem d_Tre_begin_28 : decode c_Tre_begin 28 = .ok (.getfield 17, 3) := by decide +kernel
theorem d_Tre_begin_31 : decode c_Tre_begin 31 = .ok (.iload_n 2, 1) := by decide +kernel
theorem d_Tre_begin_32 : decode c_Tre_begin 32 = .ok (.aload_n 1, 1) := by decide +kernel
theorem d_Tre_begin_33 : decode c_Tre_begin 33 = .ok (.getfield 60, 3) := by decide +kernel
theorem d_Tre_begin_36 : decode c_Tre_begin 36 = .ok (.invokevirtual 68, 3) := by decide +kernel
theorem d_Tre_begin_39 : decode c_Tre_begin 39 = .ok (.isub, 1) := by decide +kernel
theorem d_Tre_begin_40 : decode c_Tre_begin 40 = .ok (.putfield 72, 3) := by decide +kernel
theorem d_Tre_begin_43 : decode c_Tre_begin 43 = .ok (.aload_n 1, 1) := by decide +kernel
theorem d_Tre_begin_44 : decode c_Tre_begin 44 = .ok (.aconst_null, 1) := by decide +kernel
theorem d_Tre_begin_45 : decode c_Tre_begin 45 = .ok (.putfield 75, 3) := by decide +kernel
theorem d_Tre_begin_48 : decode c_Tre_begin 48 = .ok (.aload_n 1, 1) := by decide +kernel
theorem d_Tre_begin_49 : decode c_Tre_begin 49 = .ok (.aconst_null, 1) := by decide +kernel
theorem d_Tre_begin_50 : decode c_Tre_begin 50 = .ok (.putfield 78, 3) := by decide +kernel
theorem d_Tre_begin_53 : decode c_Tre_begin 53 = .ok (.return_, 1) := by decide +kernel
theorem d_Int_bitCount_0 : decode c_Int_bitCount 0 = .ok (.iload_n 0, 1) := by decide +kernel
theorem d_Int_bitCount_1 : decode c_Int_bitCount 1 = .ok (.iload_n 0, 1) := by decide +kernel
theorem d_Int_bitCount_2 : decode c_Int_bitCount 2 = .ok (.iconst 1, 1) := by decide +kernel
theorem d_Int_bitCount_3 : decode c_Int_bitCount 3 = .ok (.iushr, 1) := by decide +kernel
theorem d_Int_bitCount_4 : decode c_Int_bitCount 4 = .ok (.ldc_w 265, 3) := by decide +kernel
theorem d_Int_bitCount_7 : decode c_Int_bitCount 7 = .ok (.iand, 1) := by decide +kernel
theorem d_Int_bitCount_8 : decode c_Int_bitCount 8 = .ok (.isub, 1) := by decide +kernel
theorem d_Int_bitCount_9 : decode c_Int_bitCount 9 = .ok (.istore_n 0, 1) := by decide +kernel
theorem d_Int_bitCount_10 : decode c_Int_bitCount 10 = .ok (.iload_n 0, 1) := by decide +kernel
theorem d_Int_bitCount_11 : decode c_Int_bitCount 11 = .ok (.ldc_w 266, 3) := by decide +kernel
theorem d_Int_bitCount_14 : decode c_Int_bitCount 14 = .ok (.iand, 1) := by decide +kernel
theorem d_Int_bitCount_15 : decode c_Int_bitCount 15 = .ok (.iload_n 0, 1) := by decide +kernel
theorem d_Int_bitCount_16 : decode c_Int_bitCount 16 = .ok (.iconst 2, 1) := by decide +kernel
theorem d_Int_bitCount_17 : decode c_Int_bitCount 17 = .ok (.iushr, 1) := by decide +kernel
theorem d_Int_bitCount_18 : decode c_Int_bitCount 18 = .ok (.ldc_w 266, 3) := by decide +kernel
theorem d_Int_bitCount_21 : decode c_Int_bitCount 21 = .ok (.iand, 1) := by decide +kernel
theorem d_Int_bitCount_22 : decode c_Int_bitCount 22 = .ok (.iadd, 1) := by decide +kernel
theorem d_Int_bitCount_23 : decode c_Int_bitCount 23 = .ok (.istore_n 0, 1) := by decide +kernel
theorem d_Int_bitCount_24 : decode c_Int_bitCount 24 = .ok (.iload_n 0, 1) := by decide +kernel
theorem d_Int_bitCount_25 : decode c_Int_bitCount 25 = .ok (.iload_n 0, 1) := by decide +kernel
theorem d_Int_bitCount_26 : decode c_Int_bitCount 26 = .ok (.iconst 4, 1) := by decide +kernel
theorem d_Int_bitCount_27 : decode c_Int_bitCount 27 = .ok (.iushr, 1) := by decide +kernel
theorem d_Int_bitCount_28 : decode c_Int_bitCount 28 = .ok (.iadd, 1) := by decide +kernel
theorem d_Int_bitCount_29 : decode c_Int_bitCount 29 = .ok (.ldc_w 267, 3) := by decide +kernel
theorem d_Int_bitCount_32 : decode c_Int_bitCount 32 = .ok (.iand, 1) := by decide +kernel
theorem d_Int_bitCount_33 : decode c_Int_bitCount 33 = .ok (.istore_n 0, 1) := by decide +kernel
theorem d_Int_bitCount_34 : decode c_Int_bitCount 34 = .ok (.iload_n 0, 1) := by decide +kernel
theorem d_Int_bitCount_35 : decode c_Int_bitCount 35 = .ok (.iload_n 0, 1) := by decide +kernel
theorem d_Int_bitCount_36 : decode c_Int_bitCount 36 = .ok (.bipush 8, 2) := by decide +kernel
theorem d_Int_bitCount_38 : decode c_Int_bitCount 38 = .ok (.iushr, 1) := by decide +kernel
theorem d_Int_bitCount_39 : decode c_Int_bitCount 39 = .ok (.iadd, 1) := by decide +kernel
theorem d_Int_bitCount_40 : decode c_Int_bitCount 40 = .ok (.istore_n 0, 1) := by decide +kernel
theorem d_Int_bitCount_41 : decode c_Int_bitCount 41 = .ok (.iload_n 0, 1) := by decide +kernel
theorem d_Int_bitCount_42 : decode c_Int_bitCount 42 = .ok (.iload_n 0, 1) := by decide +kernel
theorem d_Int_bitCount_43 : decode c_Int_bitCount 43 = .ok (.bipush 16, 2) := by decide +kernel
theorem d_Int_bitCount_45 : decode c_Int_bitCount 45 = .ok (.iushr, 1) := by decide +kernel
theorem d_Int_bitCount_46 : decode c_Int_bitCount 46 = .ok (.iadd, 1) := by decide +kernel
theorem d_Int_bitCount_47 : decode c_Int_bitCount 47 = .ok (.istore_n 0, 1) := by decide +kernel
theorem d_Int_bitCount_48 : decode c_Int_bitCount 48 = .ok (.iload_n 0, 1) := by decide +kernel
theorem d_Int_bitCount_49 : decode c_Int_bitCount 49 = .ok (.bipush 63, 2) := by decide +kernel
theorem d_Int_bitCount_51 : decode c_Int_bitCount 51 = .ok (.iand, 1) := by decide +kernel
theorem d_Int_bitCount_52 : decode c_Int_bitCount 52 = .ok (.ireturn, 1) := by decide +kernel
theorem d_Tre_partIfDue_0 : decode c_Tre_partIfDue 0 = .ok (.aload_n 1, 1) := by decide +kernel
theorem d_Tre_partIfDue_1 : decode c_Tre_partIfDue 1 = .ok (.getfield 72, 3) := by decide +kernel
theorem d_Tre_partIfDue_4 : decode c_Tre_partIfDue 4 = .ok (.ifCond .eq 28, 3) := by decide +kernel
theorem d_Tre_partIfDue_7 : decode c_Tre_partIfDue 7 = .ok (.aload_n 1, 1) := by decide +kernel
theorem d_Tre_partIfDue_8 : decode c_Tre_partIfDue 8 = .ok (.getfield 51, 3) := by decide +kernel
theorem d_Tre_partIfDue_11 : decode c_Tre_partIfDue 11 = .ok (.aload_n 0, 1) := by decide +kernel
theorem d_Tre_partIfDue_12 : decode c_Tre_partIfDue 12 = .ok (.getfield 21, 3) := by decide +kernel
theorem d_Tre_partIfDue_15 : decode c_Tre_partIfDue 15 = .ok (.getfield 81, 3) := by decide +kernel
theorem d_Tre_partIfDue_18 : decode c_Tre_partIfDue 18 = .ok (.if_icmp .ge 14, 3) := by decide +kernel
theorem d_Tre_partIfDue_21 : decode c_Tre_partIfDue 21 = .ok (.aload_n 0, 1) := by decide +kernel
theorem d_Tre_partIfDue_22 : decode c_Tre_partIfDue 22 = .ok (.getfield 36, 3) := by decide +kernel
theorem d_Tre_partIfDue_25 : decode c_Tre_partIfDue 25 = .ok (.iconst 2, 1) := by decide +kernel
theorem d_Tre_partIfDue_26 : decode c_Tre_partIfDue 26 = .ok (.iadd, 1) := by decide +kernel
theorem d_Tre_partIfDue_27 : decode c_Tre_partIfDue 27 = .ok (.bipush 47, 2) := by decide +kernel
theorem d_Tre_partIfDue_29 : decode c_Tre_partIfDue 29 = .ok (.if_icmp .le 4, 3) := by decide +kernel
theorem d_Tre_partIfDue_32 : decode c_Tre_partIfDue 32 = .ok (.return_, 1) := by decide +kernel
theorem d_Tre_partIfDue_33 : decode c_Tre_partIfDue 33 = .ok (.aload_n 0, 1) := by decide +kernel
theorem d_Tre_partIfDue_34 : decode c_Tre_partIfDue 34 = .ok (.getfield 25, 3) := by decide +kernel
theorem d_Tre_partIfDue_37 : decode c_Tre_partIfDue 37 = .ok (.aload_n 1, 1) := by decide +kernel
theorem d_Tre_partIfDue_38 : decode c_Tre_partIfDue 38 = .ok (.getfield 48, 3) := by decide +kernel
theorem d_Tre_partIfDue_41 : decode c_Tre_partIfDue 41 = .ok (.invokevirtual 84, 3) := by decide +kernel
theorem d_Tre_partIfDue_44 : decode c_Tre_partIfDue 44 = .ok (.ifCond .eq 26, 3) := by decide +kernel
theorem d_Tre_partIfDue_47 : decode c_Tre_partIfDue 47 = .ok (.aload_n 0, 1) := by decide +kernel
theorem d_Tre_partIfDue_48 : decode c_Tre_partIfDue 48 = .ok (.getfield 25, 3) := by decide +kernel
theorem d_Tre_partIfDue_51 : decode c_Tre_partIfDue 51 = .ok (.getfield 89, 3) := by decide +kernel
theorem d_Tre_partIfDue_54 : decode c_Tre_partIfDue 54 = .ok (.getfield 93, 3) := by decide +kernel
theorem d_Tre_partIfDue_57 : decode c_Tre_partIfDue 57 = .ok (.aload_n 0, 1) := by decide +kernel
theorem d_Tre_partIfDue_58 : decode c_Tre_partIfDue 58 = .ok (.getfield 21, 3) := by decide +kernel
theorem d_Tre_partIfDue_61 : decode c_Tre_partIfDue 61 = .ok (.getfield 99, 3) := by decide +kernel
theorem d_Tre_partIfDue_64 : decode c_Tre_partIfDue 64 = .ok (.invokevirtual 102, 3) := by decide +kernel
theorem d_Tre_partIfDue_67 : decode c_Tre_partIfDue 67 = .ok (.ifCond .ne 4, 3) := by decide +kernel
theorem d_Tre_partIfDue_70 : decode c_Tre_partIfDue 70 = .ok (.return_, 1) := by decide +kernel
theorem d_Tre_partIfDue_71 : decode c_Tre_partIfDue 71 = .ok (.aload_n 1, 1) := by decide +kernel
theorem d_Tre_partIfDue_72 : decode c_Tre_partIfDue 72 = .ok (.getfield 108, 3) := by decide +kernel
theorem d_Tre_partIfDue_75 : decode c_Tre_partIfDue 75 = .ok (.astore_n 2, 1) := by decide +kernel
theorem d_Tre_partIfDue_76 : decode c_Tre_partIfDue 76 = .ok (.aload_n 2, 1) := by decide +kernel
theorem d_Tre_partIfDue_77 : decode c_Tre_partIfDue 77 = .ok (.aload_n 0, 1) := by decide +kernel
theorem d_Tre_partIfDue_78 : decode c_Tre_partIfDue 78 = .ok (.getfield 25, 3) := by decide +kernel
theorem d_Tre_partIfDue_81 : decode c_Tre_partIfDue 81 = .ok (.getfield 89, 3) := by decide +kernel
theorem d_Tre_partIfDue_84 : decode c_Tre_partIfDue 84 = .ok (.invokevirtual 111, 3) := by decide +kernel
theorem d_Tre_partIfDue_87 : decode c_Tre_partIfDue 87 = .ok (.aload_n 0, 1) := by decide +kernel
theorem d_Tre_partIfDue_88 : decode c_Tre_partIfDue 88 = .ok (.getfield 17, 3) := by decide +kernel
theorem d_Tre_partIfDue_91 : decode c_Tre_partIfDue 91 = .ok (.aload_n 1, 1) := by decide +kernel
theorem d_Tre_partIfDue_92 : decode c_Tre_partIfDue 92 = .ok (.getfield 48, 3) := by decide +kernel
theorem d_Tre_partIfDue_95 : decode c_Tre_partIfDue 95 = .ok (.aload_n 2, 1) := by decide +kernel
theorem d_Tre_partIfDue_96 : decode c_Tre_partIfDue 96 = .ok (.getfield 115, 3) := by decide +kernel
theorem d_Tre_partIfDue_99 : decode c_Tre_partIfDue 99 = .ok (.aload_n 2, 1) := by decide +kernel
theorem d_Tre_partIfDue_100 : decode c_Tre_partIfDue 100 = .ok (.getfield 118, 3) := by decide +kernel
theorem d_Tre_partIfDue_103 : decode c_Tre_partIfDue 103 = .ok (.aload_n 2, 1) := by decide +kernel
theorem d_Tre_partIfDue_104 : decode c_Tre_partIfDue 104 = .ok (.getfield 121, 3) := by decide +kernel
theorem d_Tre_partIfDue_107 : decode c_Tre_partIfDue 107 = .ok (.invokevirtual 124, 3) := by decide +kernel
theorem d_Tre_partIfDue_110 : decode c_Tre_partIfDue 110 = .ok (.istore_n 3, 1) := by decide +kernel
theorem d_Tre_partIfDue_111 : decode c_Tre_partIfDue 111 = .ok (.aload_n 0, 1) := by decide +kernel
theorem d_Tre_partIfDue_112 : decode c_Tre_partIfDue 112 = .ok (.getfield 11, 3) := by decide +kernel
theorem d_Tre_partIfDue_115 : decode c_Tre_partIfDue 115 = .ok (.aload_n 0, 1) := by decide +kernel
theorem d_Tre_partIfDue_116 : decode c_Tre_partIfDue 116 = .ok (.getfield 36, 3) := by decide +kernel
theorem d_Tre_partIfDue_119 : decode c_Tre_partIfDue 119 = .ok (.aaload, 1) := by decide +kernel
theorem d_Tre_partIfDue_120 : decode c_Tre_partIfDue 120 = .ok (.astore 4, 2) := by decide +kernel
theorem d_Tre_partIfDue_122 : decode c_Tre_partIfDue 122 = .ok (.aload_n 0, 1) := by decide +kernel
theorem d_Tre_partIfDue_123 : decode c_Tre_partIfDue 123 = .ok (.getfield 11, 3) := by decide +kernel
theorem d_Tre_partIfDue_126 : decode c_Tre_partIfDue 126 = .ok (.aload_n 0, 1) := by decide +kernel
theorem d_Tre_partIfDue_127 : decode c_Tre_partIfDue 127 = .ok (.getfield 36, 3) := by decide +kernel
theorem d_Tre_partIfDue_130 : decode c_Tre_partIfDue 130 = .ok (.iconst 1, 1) := by decide +kernel
theorem d_Tre_partIfDue_131 : decode c_Tre_partIfDue 131 = .ok (.iadd, 1) := by decide +kernel
theorem d_Tre_partIfDue_132 : decode c_Tre_partIfDue 132 = .ok (.aaload, 1) := by decide +kernel
theorem d_Tre_partIfDue_133 : decode c_Tre_partIfDue 133 = .ok (.astore 5, 2) := by decide +kernel
theorem d_Tre_partIfDue_135 : decode c_Tre_partIfDue 135 = .ok (.aload_n 0, 1) := by decide +kernel
theorem d_Tre_partIfDue_136 : decode c_Tre_partIfDue 136 = .ok (.aload 4, 2) := by decide +kernel
theorem d_Tre_partIfDue_138 : decode c_Tre_partIfDue 138 = .ok (.iload_n 3, 1) := by decide +kernel
theorem d_Tre_partIfDue_139 : decode c_Tre_partIfDue 139 = .ok (.aload_n 1, 1) := by decide +kernel
theorem d_Tre_partIfDue_140 : decode c_Tre_partIfDue 140 = .ok (.getfield 51, 3) := by decide +kernel
theorem d_Tre_partIfDue_143 : decode c_Tre_partIfDue 143 = .ok (.iconst 1, 1) := by decide +kernel
theorem d_Tre_partIfDue_144 : decode c_Tre_partIfDue 144 = .ok (.iadd, 1) := by decide +kernel
theorem d_Tre_partIfDue_145 : decode c_Tre_partIfDue 145 = .ok (.invokevirtual 40, 3) := by decide +kernel
theorem d_Tre_partIfDue_148 : decode c_Tre_partIfDue 148 = .ok (.aload_n 0, 1) := by decide +kernel
theorem d_Tre_partIfDue_149 : decode c_Tre_partIfDue 149 = .ok (.aload 5, 2) := by decide +kernel
theorem d_Tre_partIfDue_151 : decode c_Tre_partIfDue 151 = .ok (.aload_n 1, 1) := by decide +kernel
theorem d_Tre_partIfDue_152 : decode c_Tre_partIfDue 152 = .ok (.getfield 48, 3) := by decide +kernel
theorem d_Tre_partIfDue_155 : decode c_Tre_partIfDue 155 = .ok (.iload_n 3, 1) := by decide +kernel
theorem d_Tre_partIfDue_156 : decode c_Tre_partIfDue 156 = .ok (.iconst (-1), 1) := by decide +kernel
theorem d_Tre_partIfDue_157 : decode c_Tre_partIfDue 157 = .ok (.ixor, 1) := by decide +kernel
theorem d_Tre_partIfDue_158 : decode c_Tre_partIfDue 158 = .ok (.iand, 1) := by decide +kernel
theorem d_Tre_partIfDue_159 : decode c_Tre_partIfDue 159 = .ok (.aload_n 1, 1) := by decide +kernel
theorem d_Tre_partIfDue_160 : decode c_Tre_partIfDue 160 = .ok (.getfield 51, 3) := by decide +kernel
theorem d_Tre_partIfDue_163 : decode c_Tre_partIfDue 163 = .ok (.iconst 1, 1) := by decide +kernel
theorem d_Tre_partIfDue_164 : decode c_Tre_partIfDue 164 = .ok (.iadd, 1) := by decide +kernel
theorem d_Tre_partIfDue_165 : decode c_Tre_partIfDue 165 = .ok (.invokevirtual 40, 3) := by decide +kernel
theorem d_Tre_partIfDue_168 : decode c_Tre_partIfDue 168 = .ok (.aload_n 1, 1) := by decide +kernel
theorem d_Tre_partIfDue_169 : decode c_Tre_partIfDue 169 = .ok (.aload 4, 2) := by decide +kernel
theorem d_Tre_partIfDue_171 : decode c_Tre_partIfDue 171 = .ok (.putfield 75, 3) := by decide +kernel
theorem d_Tre_partIfDue_174 : decode c_Tre_partIfDue 174 = .ok (.aload_n 1, 1) := by decide +kernel
theorem d_Tre_partIfDue_175 : decode c_Tre_partIfDue 175 = .ok (.aload 5, 2) := by decide +kernel
theorem d_Tre_partIfDue_177 : decode c_Tre_partIfDue 177 = .ok (.putfield 78, 3) := by decide +kernel
theorem d_Tre_partIfDue_180 : decode c_Tre_partIfDue 180 = .ok (.aload_n 0, 1) := by decide +kernel
theorem d_Tre_partIfDue_181 : decode c_Tre_partIfDue 181 = .ok (.dup, 1) := by decide +kernel
theorem d_Tre_partIfDue_182 : decode c_Tre_partIfDue 182 = .ok (.getfield 36, 3) := by decide +kernel
theorem d_Tre_partIfDue_185 : decode c_Tre_partIfDue 185 = .ok (.iconst 2, 1) := by decide +kernel
theorem d_Tre_partIfDue_186 : decode c_Tre_partIfDue 186 = .ok (.iadd, 1) := by decide +kernel
theorem d_Tre_partIfDue_187 : decode c_Tre_partIfDue 187 = .ok (.putfield 36, 3) := by decide +kernel
theorem d_Tre_partIfDue_190 : decode c_Tre_partIfDue 190 = .ok (.return_, 1) := by decide +kernel
theorem d_Sur_look_0 : decode c_Sur_look 0 = .ok (.iconst 0, 1) := by decide +kernel
theorem d_Sur_look_1 : decode c_Sur_look 1 = .ok (.istore_n 2, 1) := by decide +kernel
theorem d_Sur_look_2 : decode c_Sur_look 2 = .ok (.iconst 0, 1) := by decide +kernel
theorem d_Sur_look_3 : decode c_Sur_look 3 = .ok (.istore_n 3, 1) := by decide +kernel
theorem d_Sur_look_4 : decode c_Sur_look 4 = .ok (.iload_n 3, 1) := by decide +kernel
theorem d_Sur_look_5 : decode c_Sur_look 5 = .ok (.iconst 4, 1) := by decide +kernel
theorem d_Sur_look_6 : decode c_Sur_look 6 = .ok (.if_icmp .ge 86, 3) := by decide +kernel
theorem d_Sur_look_9 : decode c_Sur_look 9 = .ok (.iconst 0, 1) := by decide +kernel
theorem d_Sur_look_10 : decode c_Sur_look 10 = .ok (.istore 4, 2) := by decide +kernel
theorem d_Sur_look_12 : decode c_Sur_look 12 = .ok (.iload 4, 2) := by decide +kernel
theorem d_Sur_look_14 : decode c_Sur_look 14 = .ok (.bipush 100, 2) := by decide +kernel
theorem d_Sur_look_16 : decode c_Sur_look 16 = .ok (.if_icmp .gt 70, 3) := by decide +kernel
theorem d_Sur_look_19 : decode c_Sur_look 19 = .ok (.aload_n 0, 1) := by decide +kernel
theorem d_Sur_look_20 : decode c_Sur_look 20 = .ok (.getfield 21, 3) := by decide +kernel
theorem d_Sur_look_23 : decode c_Sur_look 23 = .ok (.iload_n 1, 1) := by decide +kernel
theorem d_Sur_look_24 : decode c_Sur_look 24 = .ok (.iload_n 3, 1) := by decide +kernel
theorem d_Sur_look_25 : decode c_Sur_look 25 = .ok (.iload 4, 2) := by decide +kernel
theorem d_Sur_look_27 : decode c_Sur_look 27 = .ok (.invokevirtual 29, 3) := by decide +kernel
theorem d_Sur_look_30 : decode c_Sur_look 30 = .ok (.ifCond .ne 6, 3) := by decide +kernel
theorem d_Sur_look_33 : decode c_Sur_look 33 = .ok (.goto 47, 3) := by decide +kernel
theorem d_Sur_look_36 : decode c_Sur_look 36 = .ok (.iconst 0, 1) := by decide +kernel
theorem d_Sur_look_37 : decode c_Sur_look 37 = .ok (.istore 5, 2) := by decide +kernel
theorem d_Sur_look_39 : decode c_Sur_look 39 = .ok (.iload 5, 2) := by decide +kernel
theorem d_Sur_look_41 : decode c_Sur_look 41 = .ok (.iconst 1, 1) := by decide +kernel
theorem d_Sur_look_42 : decode c_Sur_look 42 = .ok (.if_icmp .gt 38, 3) := by decide +kernel
theorem d_Sur_look_45 : decode c_Sur_look 45 = .ok (.aload_n 0, 1) := by decide +kernel
theorem d_Sur_look_46 : decode c_Sur_look 46 = .ok (.iload_n 1, 1) := by decide +kernel
theorem d_Sur_look_47 : decode c_Sur_look 47 = .ok (.iload_n 3, 1) := by decide +kernel
theorem d_Sur_look_48 : decode c_Sur_look 48 = .ok (.iload 4, 2) := by decide +kernel
theorem d_Sur_look_50 : decode c_Sur_look 50 = .ok (.iload 5, 2) := by decide +kernel
theorem d_Sur_look_52 : decode c_Sur_look 52 = .ok (.invokevirtual 35, 3) := by decide +kernel
theorem d_Sur_look_55 : decode c_Sur_look 55 = .ok (.ifCond .eq 19, 3) := by decide +kernel
theorem d_Sur_look_58 : decode c_Sur_look 58 = .ok (.aload_n 0, 1) := by decide +kernel
theorem d_Sur_look_59 : decode c_Sur_look 59 = .ok (.iload_n 2, 1) := by decide +kernel
theorem d_Sur_look_60 : decode c_Sur_look 60 = .ok (.ifCond .ne 7, 3) := by decide +kernel
theorem d_Sur_look_63 : decode c_Sur_look 63 = .ok (.iconst 1, 1) := by decide +kernel
theorem d_Sur_look_64 : decode c_Sur_look 64 = .ok (.goto 4, 3) := by decide +kernel
theorem d_Sur_look_67 : decode c_Sur_look 67 = .ok (.iconst 0, 1) := by decide +kernel
theorem d_Sur_look_68 : decode c_Sur_look 68 = .ok (.invokevirtual 39, 3) := by decide +kernel
theorem d_Sur_look_71 : decode c_Sur_look 71 = .ok (.iinc 2 1, 3) := by decide +kernel
theorem d_Sur_look_74 : decode c_Sur_look 74 = .ok (.iinc 5 1, 3) := by decide +kernel
theorem d_Sur_look_77 : decode c_Sur_look 77 = .ok (.goto (-38), 3) := by decide +kernel
theorem d_Sur_look_80 : decode c_Sur_look 80 = .ok (.iinc 4 1, 3) := by decide +kernel
theorem d_Sur_look_83 : decode c_Sur_look 83 = .ok (.goto (-71), 3) := by decide +kernel
theorem d_Sur_look_86 : decode c_Sur_look 86 = .ok (.iinc 3 1, 3) := by decide +kernel
theorem d_Sur_look_89 : decode c_Sur_look 89 = .ok (.goto (-85), 3) := by decide +kernel
theorem d_Sur_look_92 : decode c_Sur_look 92 = .ok (.iload_n 2, 1) := by decide +kernel
theorem d_Sur_look_93 : decode c_Sur_look 93 = .ok (.ireturn, 1) := by decide +kernel
theorem d_Sur_measure_0 : decode c_Sur_measure 0 = .ok (.iload 4, 2) := by decide +kernel
theorem d_Sur_measure_2 : decode c_Sur_measure 2 = .ok (.iconst 1, 1) := by decide +kernel
theorem d_Sur_measure_3 : decode c_Sur_measure 3 = .ok (.if_icmp .ne 17, 3) := by decide +kernel
theorem d_Sur_measure_6 : decode c_Sur_measure 6 = .ok (.aload_n 0, 1) := by decide +kernel
theorem d_Sur_measure_7 : decode c_Sur_measure 7 = .ok (.getfield 21, 3) := by decide +kernel
theorem d_Sur_measure_10 : decode c_Sur_measure 10 = .ok (.iload_n 1, 1) := by decide +kernel
theorem d_Sur_measure_11 : decode c_Sur_measure 11 = .ok (.iload_n 2, 1) := by decide +kernel
theorem d_Sur_measure_12 : decode c_Sur_measure 12 = .ok (.invokevirtual 57, 3) := by decide +kernel
theorem d_Sur_measure_15 : decode c_Sur_measure 15 = .ok (.ifCond .ne 5, 3) := by decide +kernel
theorem d_Sur_measure_18 : decode c_Sur_measure 18 = .ok (.iconst 0, 1) := by decide +kernel
theorem d_Sur_measure_19 : decode c_Sur_measure 19 = .ok (.ireturn, 1) := by decide +kernel
theorem d_Sur_measure_20 : decode c_Sur_measure 20 = .ok (.aload_n 0, 1) := by decide +kernel
theorem d_Sur_measure_21 : decode c_Sur_measure 21 = .ok (.getfield 21, 3) := by decide +kernel
theorem d_Sur_measure_24 : decode c_Sur_measure 24 = .ok (.iload_n 1, 1) := by decide +kernel
theorem d_Sur_measure_25 : decode c_Sur_measure 25 = .ok (.iload_n 2, 1) := by decide +kernel
theorem d_Sur_measure_26 : decode c_Sur_measure 26 = .ok (.iload_n 3, 1) := by decide +kernel
theorem d_Sur_measure_27 : decode c_Sur_measure 27 = .ok (.iload 4, 2) := by decide +kernel
theorem d_Sur_measure_29 : decode c_Sur_measure 29 = .ok (.invokevirtual 61, 3) := by decide +kernel
theorem d_Sur_measure_32 : decode c_Sur_measure 32 = .ok (.istore 5, 2) := by decide +kernel
theorem d_Sur_measure_34 : decode c_Sur_measure 34 = .ok (.iload_n 1, 1) := by decide +kernel
theorem d_Sur_measure_35 : decode c_Sur_measure 35 = .ok (.iload 5, 2) := by decide +kernel
theorem d_Sur_measure_37 : decode c_Sur_measure 37 = .ok (.iconst (-1), 1) := by decide +kernel
theorem d_Sur_measure_38 : decode c_Sur_measure 38 = .ok (.ixor, 1) := by decide +kernel
theorem d_Sur_measure_39 : decode c_Sur_measure 39 = .ok (.iand, 1) := by decide +kernel
theorem d_Sur_measure_40 : decode c_Sur_measure 40 = .ok (.istore 6, 2) := by decide +kernel
theorem d_Sur_measure_42 : decode c_Sur_measure 42 = .ok (.iload 5, 2) := by decide +kernel
theorem d_Sur_measure_44 : decode c_Sur_measure 44 = .ok (.invokestatic 65, 3) := by decide +kernel
theorem d_Sur_measure_47 : decode c_Sur_measure 47 = .ok (.istore 7, 2) := by decide +kernel
theorem d_Sur_measure_49 : decode c_Sur_measure 49 = .ok (.iload 6, 2) := by decide +kernel
theorem d_Sur_measure_51 : decode c_Sur_measure 51 = .ok (.invokestatic 65, 3) := by decide +kernel
theorem d_Sur_measure_54 : decode c_Sur_measure 54 = .ok (.istore 8, 2) := by decide +kernel
theorem d_Sur_measure_56 : decode c_Sur_measure 56 = .ok (.iload 7, 2) := by decide +kernel
theorem d_Sur_measure_58 : decode c_Sur_measure 58 = .ok (.aload_n 0, 1) := by decide +kernel
theorem d_Sur_measure_59 : decode c_Sur_measure 59 = .ok (.getfield 25, 3) := by decide +kernel
theorem d_Sur_measure_62 : decode c_Sur_measure 62 = .ok (.getfield 71, 3) := by decide +kernel
theorem d_Sur_measure_65 : decode c_Sur_measure 65 = .ok (.if_icmp .lt 15, 3) := by decide +kernel
theorem d_Sur_measure_68 : decode c_Sur_measure 68 = .ok (.iload 8, 2) := by decide +kernel
theorem d_Sur_measure_70 : decode c_Sur_measure 70 = .ok (.aload_n 0, 1) := by decide +kernel
theorem d_Sur_measure_71 : decode c_Sur_measure 71 = .ok (.getfield 25, 3) := by decide +kernel
theorem d_Sur_measure_74 : decode c_Sur_measure 74 = .ok (.getfield 71, 3) := by decide +kernel
theorem d_Sur_measure_77 : decode c_Sur_measure 77 = .ok (.if_icmp .ge 5, 3) := by decide +kernel
theorem d_Sur_measure_80 : decode c_Sur_measure 80 = .ok (.iconst 0, 1) := by decide +kernel
theorem d_Sur_measure_81 : decode c_Sur_measure 81 = .ok (.ireturn, 1) := by decide +kernel
theorem d_Sur_measure_82 : decode c_Sur_measure 82 = .ok (.iload 7, 2) := by decide +kernel
theorem d_Sur_measure_84 : decode c_Sur_measure 84 = .ok (.iload 8, 2) := by decide +kernel
theorem d_Sur_measure_86 : decode c_Sur_measure 86 = .ok (.iadd, 1) := by decide +kernel
theorem d_Sur_measure_87 : decode c_Sur_measure 87 = .ok (.istore 9, 2) := by decide +kernel
theorem d_Sur_measure_89 : decode c_Sur_measure 89 = .ok (.aload_n 0, 1) := by decide +kernel
theorem d_Sur_measure_90 : decode c_Sur_measure 90 = .ok (.getfield 21, 3) := by decide +kernel
theorem d_Sur_measure_93 : decode c_Sur_measure 93 = .ok (.iload 5, 2) := by decide +kernel
theorem d_Sur_measure_95 : decode c_Sur_measure 95 = .ok (.invokevirtual 77, 3) := by decide +kernel
theorem d_Sur_measure_98 : decode c_Sur_measure 98 = .ok (.iload 8, 2) := by decide +kernel
theorem d_Sur_measure_100 : decode c_Sur_measure 100 = .ok (.imul, 1) := by decide +kernel
theorem d_Sur_measure_101 : decode c_Sur_measure 101 = .ok (.aload_n 0, 1) := by decide +kernel
theorem d_Sur_measure_102 : decode c_Sur_measure 102 = .ok (.getfield 21, 3) := by decide +kernel
theorem d_Sur_measure_105 : decode c_Sur_measure 105 = .ok (.iload 6, 2) := by decide +kernel
theorem d_Sur_measure_107 : decode c_Sur_measure 107 = .ok (.invokevirtual 77, 3) := by decide +kernel
theorem d_Sur_measure_110 : decode c_Sur_measure 110 = .ok (.iload 7, 2) := by decide +kernel
theorem d_Sur_measure_112 : decode c_Sur_measure 112 = .ok (.imul, 1) := by decide +kernel
theorem d_Sur_measure_113 : decode c_Sur_measure 113 = .ok (.iadd, 1) := by decide +kernel
theorem d_Sur_measure_114 : decode c_Sur_measure 114 = .ok (.istore 10, 2) := by decide +kernel
theorem d_Sur_measure_116 : decode c_Sur_measure 116 = .ok (.aload_n 0, 1) := by decide +kernel
theorem d_Sur_measure_117 : decode c_Sur_measure 117 = .ok (.getfield 21, 3) := by decide +kernel
theorem d_Sur_measure_120 : decode c_Sur_measure 120 = .ok (.iload_n 1, 1) := by decide +kernel
theorem d_Sur_measure_121 : decode c_Sur_measure 121 = .ok (.invokevirtual 77, 3) := by decide +kernel
theorem d_Sur_measure_124 : decode c_Sur_measure 124 = .ok (.iload 7, 2) := by decide +kernel
theorem d_Sur_measure_126 : decode c_Sur_measure 126 = .ok (.imul, 1) := by decide +kernel
theorem d_Sur_measure_127 : decode c_Sur_measure 127 = .ok (.iload 8, 2) := by decide +kernel
theorem d_Sur_measure_129 : decode c_Sur_measure 129 = .ok (.imul, 1) := by decide +kernel
theorem d_Sur_measure_130 : decode c_Sur_measure 130 = .ok (.istore 11, 2) := by decide +kernel
theorem d_Sur_measure_132 : decode c_Sur_measure 132 = .ok (.aload_n 0, 1) := by decide +kernel
theorem d_Sur_measure_133 : decode c_Sur_measure 133 = .ok (.getfield 12, 3) := by decide +kernel
theorem d_Sur_measure_136 : decode c_Sur_measure 136 = .ok (.iload_n 2, 1) := by decide +kernel
theorem d_Sur_measure_137 : decode c_Sur_measure 137 = .ok (.iload_n 3, 1) := by decide +kernel
theorem d_Sur_measure_138 : decode c_Sur_measure 138 = .ok (.iload 4, 2) := by decide +kernel
theorem d_Sur_measure_140 : decode c_Sur_measure 140 = .ok (.invokevirtual 80, 3) := by decide +kernel
theorem d_Sur_measure_143 : decode c_Sur_measure 143 = .ok (.aload_n 0, 1) := by decide +kernel
theorem d_Sur_measure_144 : decode c_Sur_measure 144 = .ok (.getfield 12, 3) := by decide +kernel
theorem d_Sur_measure_147 : decode c_Sur_measure 147 = .ok (.getfield 43, 3) := by decide +kernel
theorem d_Sur_measure_150 : decode c_Sur_measure 150 = .ok (.iload 10, 2) := by decide +kernel
theorem d_Sur_measure_152 : decode c_Sur_measure 152 = .ok (.iload 9, 2) := by decide +kernel
theorem d_Sur_measure_154 : decode c_Sur_measure 154 = .ok (.imul, 1) := by decide +kernel
theorem d_Sur_measure_155 : decode c_Sur_measure 155 = .ok (.iload 11, 2) := by decide +kernel
theorem d_Sur_measure_157 : decode c_Sur_measure 157 = .ok (.isub, 1) := by decide +kernel
theorem d_Sur_measure_158 : decode c_Sur_measure 158 = .ok (.iload 7, 2) := by decide +kernel
theorem d_Sur_measure_160 : decode c_Sur_measure 160 = .ok (.iload 8, 2) := by decide +kernel
theorem d_Sur_measure_162 : decode c_Sur_measure 162 = .ok (.imul, 1) := by decide +kernel
theorem d_Sur_measure_163 : decode c_Sur_measure 163 = .ok (.iload 9, 2) := by decide +kernel
theorem d_Sur_measure_165 : decode c_Sur_measure 165 = .ok (.imul, 1) := by decide +kernel
theorem d_Sur_measure_166 : decode c_Sur_measure 166 = .ok (.invokevirtual 84, 3) := by decide +kernel
theorem d_Sur_measure_169 : decode c_Sur_measure 169 = .ok (.iconst 1, 1) := by decide +kernel
theorem d_Sur_measure_170 : decode c_Sur_measure 170 = .ok (.ireturn, 1) := by decide +kernel
theorem d_Cut_become_0 : decode c_Cut_become 0 = .ok (.aload_n 0, 1) := by decide +kernel
theorem d_Cut_become_1 : decode c_Cut_become 1 = .ok (.iload_n 1, 1) := by decide +kernel
theorem d_Cut_become_2 : decode c_Cut_become 2 = .ok (.putfield 16, 3) := by decide +kernel
theorem d_Cut_become_5 : decode c_Cut_become 5 = .ok (.aload_n 0, 1) := by decide +kernel
theorem d_Cut_become_6 : decode c_Cut_become 6 = .ok (.iload_n 2, 1) := by decide +kernel
theorem d_Cut_become_7 : decode c_Cut_become 7 = .ok (.putfield 20, 3) := by decide +kernel
theorem d_Cut_become_10 : decode c_Cut_become 10 = .ok (.aload_n 0, 1) := by decide +kernel
theorem d_Cut_become_11 : decode c_Cut_become 11 = .ok (.iload_n 3, 1) := by decide +kernel
theorem d_Cut_become_12 : decode c_Cut_become 12 = .ok (.putfield 23, 3) := by decide +kernel
theorem d_Cut_become_15 : decode c_Cut_become 15 = .ok (.return_, 1) := by decide +kernel
theorem d_Fra_become_0 : decode c_Fra_become 0 = .ok (.aload_n 0, 1) := by decide +kernel
theorem d_Fra_become_1 : decode c_Fra_become 1 = .ok (.iload_n 1, 1) := by decide +kernel
theorem d_Fra_become_2 : decode c_Fra_become 2 = .ok (.putfield 9, 3) := by decide +kernel
theorem d_Fra_become_5 : decode c_Fra_become 5 = .ok (.aload_n 0, 1) := by decide +kernel
theorem d_Fra_become_6 : decode c_Fra_become 6 = .ok (.iload_n 2, 1) := by decide +kernel
theorem d_Fra_become_7 : decode c_Fra_become 7 = .ok (.putfield 15, 3) := by decide +kernel
theorem d_Fra_become_10 : decode c_Fra_become 10 = .ok (.return_, 1) := by decide +kernel
theorem d_Sur_keepIfBetter_0 : decode c_Sur_keepIfBetter 0 = .ok (.iload_n 1, 1) := by decide +kernel
theorem d_Sur_keepIfBetter_1 : decode c_Sur_keepIfBetter 1 = .ok (.ifCond .ne 23, 3) := by decide +kernel
theorem d_Sur_keepIfBetter_4 : decode c_Sur_keepIfBetter 4 = .ok (.aload_n 0, 1) := by decide +kernel
theorem d_Sur_keepIfBetter_5 : decode c_Sur_keepIfBetter 5 = .ok (.getfield 12, 3) := by decide +kernel
theorem d_Sur_keepIfBetter_8 : decode c_Sur_keepIfBetter 8 = .ok (.getfield 43, 3) := by decide +kernel
theorem d_Sur_keepIfBetter_11 : decode c_Sur_keepIfBetter 11 = .ok (.aload_n 0, 1) := by decide +kernel
theorem d_Sur_keepIfBetter_12 : decode c_Sur_keepIfBetter 12 = .ok (.getfield 18, 3) := by decide +kernel
theorem d_Sur_keepIfBetter_15 : decode c_Sur_keepIfBetter 15 = .ok (.getfield 43, 3) := by decide +kernel
theorem d_Sur_keepIfBetter_18 : decode c_Sur_keepIfBetter 18 = .ok (.invokevirtual 47, 3) := by decide +kernel
theorem d_Sur_keepIfBetter_21 : decode c_Sur_keepIfBetter 21 = .ok (.ifCond .le 14, 3) := by decide +kernel
theorem d_Sur_keepIfBetter_24 : decode c_Sur_keepIfBetter 24 = .ok (.aload_n 0, 1) := by decide +kernel
theorem d_Sur_keepIfBetter_25 : decode c_Sur_keepIfBetter 25 = .ok (.getfield 18, 3) := by decide +kernel
theorem d_Sur_keepIfBetter_28 : decode c_Sur_keepIfBetter 28 = .ok (.aload_n 0, 1) := by decide +kernel
theorem d_Sur_keepIfBetter_29 : decode c_Sur_keepIfBetter 29 = .ok (.getfield 12, 3) := by decide +kernel
theorem d_Sur_keepIfBetter_32 : decode c_Sur_keepIfBetter 32 = .ok (.invokevirtual 53, 3) := by decide +kernel
theorem d_Sur_keepIfBetter_35 : decode c_Sur_keepIfBetter 35 = .ok (.return_, 1) := by decide +kernel
theorem d_Fra_compareWith_0 : decode c_Fra_compareWith 0 = .ok (.aload_n 0, 1) := by decide +kernel
theorem d_Fra_compareWith_1 : decode c_Fra_compareWith 1 = .ok (.getfield 9, 3) := by decide +kernel
theorem d_Fra_compareWith_4 : decode c_Fra_compareWith 4 = .ok (.i2l, 1) := by decide +kernel
theorem d_Fra_compareWith_5 : decode c_Fra_compareWith 5 = .ok (.aload_n 1, 1) := by decide +kernel
theorem d_Fra_compareWith_6 : decode c_Fra_compareWith 6 = .ok (.getfield 15, 3) := by decide +kernel
theorem d_Fra_compareWith_9 : decode c_Fra_compareWith 9 = .ok (.i2l, 1) := by decide +kernel
theorem d_Fra_compareWith_10 : decode c_Fra_compareWith 10 = .ok (.lmul, 1) := by decide +kernel
theorem d_Fra_compareWith_11 : decode c_Fra_compareWith 11 = .ok (.aload_n 1, 1) := by decide +kernel
theorem d_Fra_compareWith_12 : decode c_Fra_compareWith 12 = .ok (.getfield 9, 3) := by decide +kernel
theorem d_Fra_compareWith_15 : decode c_Fra_compareWith 15 = .ok (.i2l, 1) := by decide +kernel
theorem d_Fra_compareWith_16 : decode c_Fra_compareWith 16 = .ok (.aload_n 0, 1) := by decide +kernel
theorem d_Fra_compareWith_17 : decode c_Fra_compareWith 17 = .ok (.getfield 15, 3) := by decide +kernel
theorem d_Fra_compareWith_20 : decode c_Fra_compareWith 20 = .ok (.i2l, 1) := by decide +kernel
theorem d_Fra_compareWith_21 : decode c_Fra_compareWith 21 = .ok (.lmul, 1) := by decide +kernel
theorem d_Fra_compareWith_22 : decode c_Fra_compareWith 22 = .ok (.invokestatic 18, 3) := by decide +kernel
theorem d_Fra_compareWith_25 : decode c_Fra_compareWith 25 = .ok (.ireturn, 1) := by decide +kernel
theorem d_Lon_compare_0 : decode c_Lon_compare 0 = .ok (.lload_n 0, 1) := by decide +kernel
theorem d_Lon_compare_1 : decode c_Lon_compare 1 = .ok (.lload_n 2, 1) := by decide +kernel
theorem d_Lon_compare_2 : decode c_Lon_compare 2 = .ok (.lcmp, 1) := by decide +kernel
theorem d_Lon_compare_3 : decode c_Lon_compare 3 = .ok (.ifCond .ge 7, 3) := by decide +kernel
theorem d_Lon_compare_6 : decode c_Lon_compare 6 = .ok (.iconst (-1), 1) := by decide +kernel
theorem d_Lon_compare_7 : decode c_Lon_compare 7 = .ok (.goto 14, 3) := by decide +kernel
theorem d_Lon_compare_10 : decode c_Lon_compare 10 = .ok (.lload_n 0, 1) := by decide +kernel
theorem d_Lon_compare_11 : decode c_Lon_compare 11 = .ok (.lload_n 2, 1) := by decide +kernel
theorem d_Lon_compare_12 : decode c_Lon_compare 12 = .ok (.lcmp, 1) := by decide +kernel
theorem d_Lon_compare_13 : decode c_Lon_compare 13 = .ok (.ifCond .ne 7, 3) := by decide +kernel
theorem d_Lon_compare_16 : decode c_Lon_compare 16 = .ok (.iconst 0, 1) := by decide +kernel
theorem d_Lon_compare_17 : decode c_Lon_compare 17 = .ok (.goto 4, 3) := by decide +kernel
theorem d_Lon_compare_20 : decode c_Lon_compare 20 = .ok (.iconst 1, 1) := by decide +kernel
theorem d_Lon_compare_21 : decode c_Lon_compare 21 = .ok (.ireturn, 1) := by decide +kernel
theorem d_Cut_becomeAs_0 : decode c_Cut_becomeAs 0 = .ok (.aload_n 0, 1) := by decide +kernel
theorem d_Cut_becomeAs_1 : decode c_Cut_becomeAs 1 = .ok (.aload_n 1, 1) := by decide +kernel
theorem d_Cut_becomeAs_2 : decode c_Cut_becomeAs 2 = .ok (.getfield 16, 3) := by decide +kernel
theorem d_Cut_becomeAs_5 : decode c_Cut_becomeAs 5 = .ok (.aload_n 1, 1) := by decide +kernel
theorem d_Cut_becomeAs_6 : decode c_Cut_becomeAs 6 = .ok (.getfield 20, 3) := by decide +kernel
theorem d_Cut_becomeAs_9 : decode c_Cut_becomeAs 9 = .ok (.aload_n 1, 1) := by decide +kernel
theorem d_Cut_becomeAs_10 : decode c_Cut_becomeAs 10 = .ok (.getfield 23, 3) := by decide +kernel
theorem d_Cut_becomeAs_13 : decode c_Cut_becomeAs 13 = .ok (.invokevirtual 26, 3) := by decide +kernel
theorem d_Cut_becomeAs_16 : decode c_Cut_becomeAs 16 = .ok (.aload_n 0, 1) := by decide +kernel
theorem d_Cut_becomeAs_17 : decode c_Cut_becomeAs 17 = .ok (.getfield 10, 3) := by decide +kernel
theorem d_Cut_becomeAs_20 : decode c_Cut_becomeAs 20 = .ok (.aload_n 1, 1) := by decide +kernel
theorem d_Cut_becomeAs_21 : decode c_Cut_becomeAs 21 = .ok (.getfield 10, 3) := by decide +kernel
theorem d_Cut_becomeAs_24 : decode c_Cut_becomeAs 24 = .ok (.invokevirtual 30, 3) := by decide +kernel
theorem d_Cut_becomeAs_27 : decode c_Cut_becomeAs 27 = .ok (.return_, 1) := by decide +kernel
theorem d_Fra_becomeAs_0 : decode c_Fra_becomeAs 0 = .ok (.aload_n 0, 1) := by decide +kernel
theorem d_Fra_becomeAs_1 : decode c_Fra_becomeAs 1 = .ok (.aload_n 1, 1) := by decide +kernel
theorem d_Fra_becomeAs_2 : decode c_Fra_becomeAs 2 = .ok (.getfield 9, 3) := by decide +kernel
theorem d_Fra_becomeAs_5 : decode c_Fra_becomeAs 5 = .ok (.putfield 9, 3) := by decide +kernel
theorem d_Fra_becomeAs_8 : decode c_Fra_becomeAs 8 = .ok (.aload_n 0, 1) := by decide +kernel
theorem d_Fra_becomeAs_9 : decode c_Fra_becomeAs 9 = .ok (.aload_n 1, 1) := by decide +kernel
theorem d_Fra_becomeAs_10 : decode c_Fra_becomeAs 10 = .ok (.getfield 15, 3) := by decide +kernel
theorem d_Fra_becomeAs_13 : decode c_Fra_becomeAs 13 = .ok (.putfield 15, 3) := by decide +kernel
theorem d_Fra_becomeAs_16 : decode c_Fra_becomeAs 16 = .ok (.return_, 1) := by decide +kernel
theorem d_Fra_isAboveHundredths_0 : decode c_Fra_isAboveHundredths 0 = .ok (.ldc2_w 24, 3) := by decide +kernel
theorem d_Fra_isAboveHundredths_3 : decode c_Fra_isAboveHundredths 3 = .ok (.aload_n 0, 1) := by decide +kernel
theorem d_Fra_isAboveHundredths_4 : decode c_Fra_isAboveHundredths 4 = .ok (.getfield 9, 3) := by decide +kernel
theorem d_Fra_isAboveHundredths_7 : decode c_Fra_isAboveHundredths 7 = .ok (.i2l, 1) := by decide +kernel
theorem d_Fra_isAboveHundredths_8 : decode c_Fra_isAboveHundredths 8 = .ok (.lmul, 1) := by decide +kernel
theorem d_Fra_isAboveHundredths_9 : decode c_Fra_isAboveHundredths 9 = .ok (.iload_n 1, 1) := by decide +kernel
theorem d_Fra_isAboveHundredths_10 : decode c_Fra_isAboveHundredths 10 = .ok (.i2l, 1) := by decide +kernel
theorem d_Fra_isAboveHundredths_11 : decode c_Fra_isAboveHundredths 11 = .ok (.aload_n 0, 1) := by decide +kernel
theorem d_Fra_isAboveHundredths_12 : decode c_Fra_isAboveHundredths 12 = .ok (.getfield 15, 3) := by decide +kernel
theorem d_Fra_isAboveHundredths_15 : decode c_Fra_isAboveHundredths 15 = .ok (.i2l, 1) := by decide +kernel
theorem d_Fra_isAboveHundredths_16 : decode c_Fra_isAboveHundredths 16 = .ok (.lmul, 1) := by decide +kernel
theorem d_Fra_isAboveHundredths_17 : decode c_Fra_isAboveHundredths 17 = .ok (.lcmp, 1) := by decide +kernel
theorem d_Fra_isAboveHundredths_18 : decode c_Fra_isAboveHundredths 18 = .ok (.ifCond .le 7, 3) := by decide +kernel
theorem d_Fra_isAboveHundredths_21 : decode c_Fra_isAboveHundredths 21 = .ok (.iconst 1, 1) := by decide +kernel
theorem d_Fra_isAboveHundredths_22 : decode c_Fra_isAboveHundredths 22 = .ok (.goto 4, 3) := by decide +kernel
theorem d_Fra_isAboveHundredths_25 : decode c_Fra_isAboveHundredths 25 = .ok (.iconst 0, 1) := by decide +kernel
theorem d_Fra_isAboveHundredths_26 : decode c_Fra_isAboveHundredths 26 = .ok (.ireturn, 1) := by decide +kernel
theorem d_Pru_cutBackToRoot_0 : decode c_Pru_cutBackToRoot 0 = .ok (.iconst 0, 1) := by decide +kernel
theorem d_Pru_cutBackToRoot_1 : decode c_Pru_cutBackToRoot 1 = .ok (.istore_n 1, 1) := by decide +kernel
theorem d_Pru_cutBackToRoot_2 : decode c_Pru_cutBackToRoot 2 = .ok (.iload_n 1, 1) := by decide +kernel
theorem d_Pru_cutBackToRoot_3 : decode c_Pru_cutBackToRoot 3 = .ok (.aload_n 0, 1) := by decide +kernel
theorem d_Pru_cutBackToRoot_4 : decode c_Pru_cutBackToRoot 4 = .ok (.getfield 29, 3) := by decide +kernel
theorem d_Pru_cutBackToRoot_7 : decode c_Pru_cutBackToRoot 7 = .ok (.getfield 37, 3) := by decide +kernel
theorem d_Pru_cutBackToRoot_10 : decode c_Pru_cutBackToRoot 10 = .ok (.if_icmp .ge 26, 3) := by decide +kernel
theorem d_Pru_cutBackToRoot_13 : decode c_Pru_cutBackToRoot 13 = .ok (.aload_n 0, 1) := by decide +kernel
theorem d_Pru_cutBackToRoot_14 : decode c_Pru_cutBackToRoot 14 = .ok (.getfield 29, 3) := by decide +kernel
theorem d_Pru_cutBackToRoot_17 : decode c_Pru_cutBackToRoot 17 = .ok (.iload_n 1, 1) := by decide +kernel
theorem d_Pru_cutBackToRoot_18 : decode c_Pru_cutBackToRoot 18 = .ok (.invokevirtual 40, 3) := by decide +kernel
theorem d_Pru_cutBackToRoot_21 : decode c_Pru_cutBackToRoot 21 = .ok (.astore_n 2, 1) := by decide +kernel
theorem d_Pru_cutBackToRoot_22 : decode c_Pru_cutBackToRoot 22 = .ok (.aload_n 2, 1) := by decide +kernel
theorem d_Pru_cutBackToRoot_23 : decode c_Pru_cutBackToRoot 23 = .ok (.ifnull 7, 3) := by decide +kernel
theorem d_Pru_cutBackToRoot_26 : decode c_Pru_cutBackToRoot 26 = .ok (.aload_n 2, 1) := by decide +kernel
theorem d_Pru_cutBackToRoot_27 : decode c_Pru_cutBackToRoot 27 = .ok (.invokevirtual 44, 3) := by decide +kernel
theorem d_Pru_cutBackToRoot_30 : decode c_Pru_cutBackToRoot 30 = .ok (.iinc 1 1, 3) := by decide +kernel
theorem d_Pru_cutBackToRoot_33 : decode c_Pru_cutBackToRoot 33 = .ok (.goto (-31), 3) := by decide +kernel
theorem d_Pru_cutBackToRoot_36 : decode c_Pru_cutBackToRoot 36 = .ok (.aload_n 0, 1) := by decide +kernel
theorem d_Pru_cutBackToRoot_37 : decode c_Pru_cutBackToRoot 37 = .ok (.iconst 0, 1) := by decide +kernel
theorem d_Pru_cutBackToRoot_38 : decode c_Pru_cutBackToRoot 38 = .ok (.putfield 33, 3) := by decide +kernel
theorem d_Pru_cutBackToRoot_41 : decode c_Pru_cutBackToRoot 41 = .ok (.iconst 1, 1) := by decide +kernel
theorem d_Pru_cutBackToRoot_42 : decode c_Pru_cutBackToRoot 42 = .ok (.istore_n 1, 1) := by decide +kernel
theorem d_Pru_cutBackToRoot_43 : decode c_Pru_cutBackToRoot 43 = .ok (.iconst 0, 1) := by decide +kernel
theorem d_Pru_cutBackToRoot_44 : decode c_Pru_cutBackToRoot 44 = .ok (.istore_n 2, 1) := by decide +kernel
theorem d_Pru_cutBackToRoot_45 : decode c_Pru_cutBackToRoot 45 = .ok (.iload_n 2, 1) := by decide +kernel
theorem d_Pru_cutBackToRoot_46 : decode c_Pru_cutBackToRoot 46 = .ok (.bipush 24, 2) := by decide +kernel
theorem d_Pru_cutBackToRoot_48 : decode c_Pru_cutBackToRoot 48 = .ok (.if_icmp .ge 57, 3) := by decide +kernel
theorem d_Pru_cutBackToRoot_51 : decode c_Pru_cutBackToRoot 51 = .ok (.iload_n 1, 1) := by decide +kernel
theorem d_Pru_cutBackToRoot_52 : decode c_Pru_cutBackToRoot 52 = .ok (.ifCond .eq 53, 3) := by decide +kernel
theorem d_Pru_cutBackToRoot_55 : decode c_Pru_cutBackToRoot 55 = .ok (.aload_n 0, 1) := by decide +kernel
theorem d_Pru_cutBackToRoot_56 : decode c_Pru_cutBackToRoot 56 = .ok (.iload_n 2, 1) := by decide +kernel
theorem d_Pru_cutBackToRoot_57 : decode c_Pru_cutBackToRoot 57 = .ok (.invokevirtual 49, 3) := by decide +kernel
theorem d_Pru_cutBackToRoot_60 : decode c_Pru_cutBackToRoot 60 = .ok (.istore_n 1, 1) := by decide +kernel
theorem d_Pru_cutBackToRoot_61 : decode c_Pru_cutBackToRoot 61 = .ok (.iload_n 1, 1) := by decide +kernel
theorem d_Pru_cutBackToRoot_62 : decode c_Pru_cutBackToRoot 62 = .ok (.ifCond .eq 37, 3) := by decide +kernel
theorem d_Pru_cutBackToRoot_65 : decode c_Pru_cutBackToRoot 65 = .ok (.iload_n 2, 1) := by decide +kernel
theorem d_Pru_cutBackToRoot_66 : decode c_Pru_cutBackToRoot 66 = .ok (.iconst 1, 1) := by decide +kernel
theorem d_Pru_cutBackToRoot_67 : decode c_Pru_cutBackToRoot 67 = .ok (.iadd, 1) := by decide +kernel
theorem d_Pru_cutBackToRoot_68 : decode c_Pru_cutBackToRoot 68 = .ok (.bipush 24, 2) := by decide +kernel
theorem d_Pru_cutBackToRoot_70 : decode c_Pru_cutBackToRoot 70 = .ok (.if_icmp .ge 29, 3) := by decide +kernel
theorem d_Pru_cutBackToRoot_73 : decode c_Pru_cutBackToRoot 73 = .ok (.aload_n 0, 1) := by decide +kernel
theorem d_Pru_cutBackToRoot_74 : decode c_Pru_cutBackToRoot 74 = .ok (.iload_n 2, 1) := by decide +kernel
theorem d_Pru_cutBackToRoot_75 : decode c_Pru_cutBackToRoot 75 = .ok (.aload_n 0, 1) := by decide +kernel
theorem d_Pru_cutBackToRoot_76 : decode c_Pru_cutBackToRoot 76 = .ok (.getfield 11, 3) := by decide +kernel
theorem d_Pru_cutBackToRoot_79 : decode c_Pru_cutBackToRoot 79 = .ok (.iload_n 2, 1) := by decide +kernel
theorem d_Pru_cutBackToRoot_80 : decode c_Pru_cutBackToRoot 80 = .ok (.iconst 1, 1) := by decide +kernel
theorem d_Pru_cutBackToRoot_81 : decode c_Pru_cutBackToRoot 81 = .ok (.iadd, 1) := by decide +kernel
theorem d_Pru_cutBackToRoot_82 : decode c_Pru_cutBackToRoot 82 = .ok (.aaload, 1) := by decide +kernel
theorem d_Pru_cutBackToRoot_83 : decode c_Pru_cutBackToRoot 83 = .ok (.invokevirtual 53, 3) := by decide +kernel
theorem d_Pru_cutBackToRoot_86 : decode c_Pru_cutBackToRoot 86 = .ok (.aload_n 0, 1) := by decide +kernel
theorem d_Pru_cutBackToRoot_87 : decode c_Pru_cutBackToRoot 87 = .ok (.iload_n 2, 1) := by decide +kernel
theorem d_Pru_cutBackToRoot_88 : decode c_Pru_cutBackToRoot 88 = .ok (.aload_n 0, 1) := by decide +kernel
theorem d_Pru_cutBackToRoot_89 : decode c_Pru_cutBackToRoot 89 = .ok (.getfield 11, 3) := by decide +kernel
theorem d_Pru_cutBackToRoot_92 : decode c_Pru_cutBackToRoot 92 = .ok (.iload_n 2, 1) := by decide +kernel
theorem d_Pru_cutBackToRoot_93 : decode c_Pru_cutBackToRoot 93 = .ok (.iconst 1, 1) := by decide +kernel
theorem d_Pru_cutBackToRoot_94 : decode c_Pru_cutBackToRoot 94 = .ok (.iadd, 1) := by decide +kernel
theorem d_Pru_cutBackToRoot_95 : decode c_Pru_cutBackToRoot 95 = .ok (.aaload, 1) := by decide +kernel
theorem d_Pru_cutBackToRoot_96 : decode c_Pru_cutBackToRoot 96 = .ok (.invokevirtual 57, 3) := by decide +kernel
theorem d_Pru_cutBackToRoot_99 : decode c_Pru_cutBackToRoot 99 = .ok (.iinc 2 1, 3) := by decide +kernel
theorem d_Pru_cutBackToRoot_102 : decode c_Pru_cutBackToRoot 102 = .ok (.goto (-57), 3) := by decide +kernel
theorem d_Pru_cutBackToRoot_105 : decode c_Pru_cutBackToRoot 105 = .ok (.return_, 1) := by decide +kernel
theorem d_Tre_find_0 : decode c_Tre_find 0 = .ok (.iload_n 1, 1) := by decide +kernel
theorem d_Tre_find_1 : decode c_Tre_find 1 = .ok (.ifCond .lt 26, 3) := by decide +kernel
theorem d_Tre_find_4 : decode c_Tre_find 4 = .ok (.iload_n 1, 1) := by decide +kernel
theorem d_Tre_find_5 : decode c_Tre_find 5 = .ok (.aload_n 0, 1) := by decide +kernel
theorem d_Tre_find_6 : decode c_Tre_find 6 = .ok (.getfield 36, 3) := by decide +kernel
theorem d_Tre_find_9 : decode c_Tre_find 9 = .ok (.if_icmp .ge 18, 3) := by decide +kernel
theorem d_Tre_find_12 : decode c_Tre_find 12 = .ok (.iload_n 1, 1) := by decide +kernel
theorem d_Tre_find_13 : decode c_Tre_find 13 = .ok (.bipush 47, 2) := by decide +kernel
theorem d_Tre_find_15 : decode c_Tre_find 15 = .ok (.if_icmp .ge 12, 3) := by decide +kernel
theorem d_Tre_find_18 : decode c_Tre_find 18 = .ok (.aload_n 0, 1) := by decide +kernel
theorem d_Tre_find_19 : decode c_Tre_find 19 = .ok (.getfield 11, 3) := by decide +kernel
theorem d_Tre_find_22 : decode c_Tre_find 22 = .ok (.iload_n 1, 1) := by decide +kernel
theorem d_Tre_find_23 : decode c_Tre_find 23 = .ok (.aaload, 1) := by decide +kernel
theorem d_Tre_find_24 : decode c_Tre_find 24 = .ok (.goto 4, 3) := by decide +kernel
theorem d_Tre_find_27 : decode c_Tre_find 27 = .ok (.aconst_null, 1) := by decide +kernel
theorem d_Tre_find_28 : decode c_Tre_find 28 = .ok (.areturn, 1) := by decide +kernel
theorem d_Nod_beginStages_0 : decode c_Nod_beginStages 0 = .ok (.aload_n 0, 1) := by decide +kernel
theorem d_Nod_beginStages_1 : decode c_Nod_beginStages 1 = .ok (.aload_n 0, 1) := by decide +kernel
theorem d_Nod_beginStages_2 : decode c_Nod_beginStages 2 = .ok (.invokevirtual 60, 3) := by decide +kernel
theorem d_Nod_beginStages_5 : decode c_Nod_beginStages 5 = .ok (.ifCond .eq 7, 3) := by decide +kernel
theorem d_Nod_beginStages_8 : decode c_Nod_beginStages 8 = .ok (.iconst 0, 1) := by decide +kernel
theorem d_Nod_beginStages_9 : decode c_Nod_beginStages 9 = .ok (.goto 5, 3) := by decide +kernel
theorem d_Nod_beginStages_12 : decode c_Nod_beginStages 12 = .ok (.bipush 24, 2) := by decide +kernel
theorem d_Nod_beginStages_14 : decode c_Nod_beginStages 14 = .ok (.putfield 57, 3) := by decide +kernel
theorem d_Nod_beginStages_17 : decode c_Nod_beginStages 17 = .ok (.aload_n 0, 1) := by decide +kernel
theorem d_Nod_beginStages_18 : decode c_Nod_beginStages 18 = .ok (.bipush 24, 2) := by decide +kernel
theorem d_Nod_beginStages_20 : decode c_Nod_beginStages 20 = .ok (.putfield 54, 3) := by decide +kernel
theorem d_Nod_beginStages_23 : decode c_Nod_beginStages 23 = .ok (.return_, 1) := by decide +kernel
theorem d_Nod_isUnparted_0 : decode c_Nod_isUnparted 0 = .ok (.aload_n 0, 1) := by decide +kernel
theorem d_Nod_isUnparted_1 : decode c_Nod_isUnparted 1 = .ok (.getfield 22, 3) := by decide +kernel
theorem d_Nod_isUnparted_4 : decode c_Nod_isUnparted 4 = .ok (.ifnull 10, 3) := by decide +kernel
theorem d_Nod_isUnparted_7 : decode c_Nod_isUnparted 7 = .ok (.aload_n 0, 1) := by decide +kernel
theorem d_Nod_isUnparted_8 : decode c_Nod_isUnparted 8 = .ok (.getfield 26, 3) := by decide +kernel
theorem d_Nod_isUnparted_11 : decode c_Nod_isUnparted 11 = .ok (.ifnonnull 7, 3) := by decide +kernel
theorem d_Nod_isUnparted_14 : decode c_Nod_isUnparted 14 = .ok (.iconst 1, 1) := by decide +kernel
theorem d_Nod_isUnparted_15 : decode c_Nod_isUnparted 15 = .ok (.goto 4, 3) := by decide +kernel
theorem d_Nod_isUnparted_18 : decode c_Nod_isUnparted 18 = .ok (.iconst 0, 1) := by decide +kernel
theorem d_Nod_isUnparted_19 : decode c_Nod_isUnparted 19 = .ok (.ireturn, 1) := by decide +kernel
theorem d_Pru_recordStage_0 : decode c_Pru_recordStage 0 = .ok (.aload_n 0, 1) := by decide +kernel
theorem d_Pru_recordStage_1 : decode c_Pru_recordStage 1 = .ok (.getfield 29, 3) := by decide +kernel
theorem d_Pru_recordStage_4 : decode c_Pru_recordStage 4 = .ok (.getfield 37, 3) := by decide +kernel
theorem d_Pru_recordStage_7 : decode c_Pru_recordStage 7 = .ok (.iconst 1, 1) := by decide +kernel
theorem d_Pru_recordStage_8 : decode c_Pru_recordStage 8 = .ok (.isub, 1) := by decide +kernel
theorem d_Pru_recordStage_9 : decode c_Pru_recordStage 9 = .ok (.istore_n 2, 1) := by decide +kernel
theorem d_Pru_recordStage_10 : decode c_Pru_recordStage 10 = .ok (.iload_n 2, 1) := by decide +kernel
theorem d_Pru_recordStage_11 : decode c_Pru_recordStage 11 = .ok (.ifCond .lt 27, 3) := by decide +kernel
theorem d_Pru_recordStage_14 : decode c_Pru_recordStage 14 = .ok (.aload_n 0, 1) := by decide +kernel
theorem d_Pru_recordStage_15 : decode c_Pru_recordStage 15 = .ok (.getfield 29, 3) := by decide +kernel
theorem d_Pru_recordStage_18 : decode c_Pru_recordStage 18 = .ok (.iload_n 2, 1) := by decide +kernel
theorem d_Pru_recordStage_19 : decode c_Pru_recordStage 19 = .ok (.invokevirtual 40, 3) := by decide +kernel
theorem d_Pru_recordStage_22 : decode c_Pru_recordStage 22 = .ok (.astore_n 3, 1) := by decide +kernel
theorem d_Pru_recordStage_23 : decode c_Pru_recordStage 23 = .ok (.aload_n 3, 1) := by decide +kernel
theorem d_Pru_recordStage_24 : decode c_Pru_recordStage 24 = .ok (.ifnull 8, 3) := by decide +kernel
theorem d_Pru_recordStage_27 : decode c_Pru_recordStage 27 = .ok (.aload_n 3, 1) := by decide +kernel
theorem d_Pru_recordStage_28 : decode c_Pru_recordStage 28 = .ok (.iload_n 1, 1) := by decide +kernel
theorem d_Pru_recordStage_29 : decode c_Pru_recordStage 29 = .ok (.invokevirtual 60, 3) := by decide +kernel
theorem d_Pru_recordStage_32 : decode c_Pru_recordStage 32 = .ok (.iinc 2 (-1), 3) := by decide +kernel
theorem d_Pru_recordStage_35 : decode c_Pru_recordStage 35 = .ok (.goto (-25), 3) := by decide +kernel
theorem d_Pru_recordStage_38 : decode c_Pru_recordStage 38 = .ok (.aload_n 0, 1) := by decide +kernel
theorem d_Pru_recordStage_39 : decode c_Pru_recordStage 39 = .ok (.getfield 29, 3) := by decide +kernel
theorem d_Pru_recordStage_42 : decode c_Pru_recordStage 42 = .ok (.getfield 64, 3) := by decide +kernel
theorem d_Pru_recordStage_45 : decode c_Pru_recordStage 45 = .ok (.astore_n 2, 1) := by decide +kernel
theorem d_Pru_recordStage_46 : decode c_Pru_recordStage 46 = .ok (.aload_n 0, 1) := by decide +kernel
theorem d_Pru_recordStage_47 : decode c_Pru_recordStage 47 = .ok (.getfield 17, 3) := by decide +kernel
theorem d_Pru_recordStage_50 : decode c_Pru_recordStage 50 = .ok (.iload_n 1, 1) := by decide +kernel
theorem d_Pru_recordStage_51 : decode c_Pru_recordStage 51 = .ok (.aload_n 2, 1) := by decide +kernel
theorem d_Pru_recordStage_52 : decode c_Pru_recordStage 52 = .ok (.getfield 68, 3) := by decide +kernel
theorem d_Pru_recordStage_55 : decode c_Pru_recordStage 55 = .ok (.iastore, 1) := by decide +kernel
theorem d_Pru_recordStage_56 : decode c_Pru_recordStage 56 = .ok (.aload_n 0, 1) := by decide +kernel
theorem d_Pru_recordStage_57 : decode c_Pru_recordStage 57 = .ok (.getfield 21, 3) := by decide +kernel
theorem d_Pru_recordStage_60 : decode c_Pru_recordStage 60 = .ok (.iload_n 1, 1) := by decide +kernel
theorem d_Pru_recordStage_61 : decode c_Pru_recordStage 61 = .ok (.aload_n 2, 1) := by decide +kernel
theorem d_Pru_recordStage_62 : decode c_Pru_recordStage 62 = .ok (.getfield 71, 3) := by decide +kernel
theorem d_Pru_recordStage_65 : decode c_Pru_recordStage 65 = .ok (.iastore, 1) := by decide +kernel
theorem d_Pru_recordStage_66 : decode c_Pru_recordStage 66 = .ok (.aload_n 0, 1) := by decide +kernel
theorem d_Pru_recordStage_67 : decode c_Pru_recordStage 67 = .ok (.iload_n 1, 1) := by decide +kernel
theorem d_Pru_recordStage_68 : decode c_Pru_recordStage 68 = .ok (.iconst 1, 1) := by decide +kernel
theorem d_Pru_recordStage_69 : decode c_Pru_recordStage 69 = .ok (.iadd, 1) := by decide +kernel
theorem d_Pru_recordStage_70 : decode c_Pru_recordStage 70 = .ok (.putfield 33, 3) := by decide +kernel
theorem d_Pru_recordStage_73 : decode c_Pru_recordStage 73 = .ok (.aload_n 2, 1) := by decide +kernel
theorem d_Pru_recordStage_74 : decode c_Pru_recordStage 74 = .ok (.iload_n 1, 1) := by decide +kernel
theorem d_Pru_recordStage_75 : decode c_Pru_recordStage 75 = .ok (.invokevirtual 74, 3) := by decide +kernel
theorem d_Pru_recordStage_78 : decode c_Pru_recordStage 78 = .ok (.ifCond .ne 7, 3) := by decide +kernel
theorem d_Pru_recordStage_81 : decode c_Pru_recordStage 81 = .ok (.iconst 1, 1) := by decide +kernel
theorem d_Pru_recordStage_82 : decode c_Pru_recordStage 82 = .ok (.goto 4, 3) := by decide +kernel
theorem d_Pru_recordStage_85 : decode c_Pru_recordStage 85 = .ok (.iconst 0, 1) := by decide +kernel
theorem d_Pru_recordStage_86 : decode c_Pru_recordStage 86 = .ok (.ireturn, 1) := by decide +kernel
theorem d_Nod_sumUp_0 : decode c_Nod_sumUp 0 = .ok (.aload_n 0, 1) := by decide +kernel
theorem d_Nod_sumUp_1 : decode c_Nod_sumUp 1 = .ok (.getfield 22, 3) := by decide +kernel
theorem d_Nod_sumUp_4 : decode c_Nod_sumUp 4 = .ok (.ifnull 18, 3) := by decide +kernel
theorem d_Nod_sumUp_7 : decode c_Nod_sumUp 7 = .ok (.aload_n 0, 1) := by decide +kernel
theorem d_Nod_sumUp_8 : decode c_Nod_sumUp 8 = .ok (.getfield 26, 3) := by decide +kernel
theorem d_Nod_sumUp_11 : decode c_Nod_sumUp 11 = .ok (.ifnull 11, 3) := by decide +kernel
theorem d_Nod_sumUp_14 : decode c_Nod_sumUp 14 = .ok (.iload_n 1, 1) := by decide +kernel
theorem d_Nod_sumUp_15 : decode c_Nod_sumUp 15 = .ok (.aload_n 0, 1) := by decide +kernel
theorem d_Nod_sumUp_16 : decode c_Nod_sumUp 16 = .ok (.getfield 57, 3) := by decide +kernel
theorem d_Nod_sumUp_19 : decode c_Nod_sumUp 19 = .ok (.if_icmp .lt 19, 3) := by decide +kernel
theorem d_Nod_sumUp_22 : decode c_Nod_sumUp 22 = .ok (.aload_n 0, 1) := by decide +kernel
theorem d_Nod_sumUp_23 : decode c_Nod_sumUp 23 = .ok (.iconst 1, 1) := by decide +kernel
theorem d_Nod_sumUp_24 : decode c_Nod_sumUp 24 = .ok (.putfield 64, 3) := by decide +kernel
theorem d_Nod_sumUp_27 : decode c_Nod_sumUp 27 = .ok (.aload_n 0, 1) := by decide +kernel
theorem d_Nod_sumUp_28 : decode c_Nod_sumUp 28 = .ok (.aload_n 0, 1) := by decide +kernel
theorem d_Nod_sumUp_29 : decode c_Nod_sumUp 29 = .ok (.getfield 51, 3) := by decide +kernel
theorem d_Nod_sumUp_32 : decode c_Nod_sumUp 32 = .ok (.putfield 67, 3) := by decide +kernel
theorem d_Nod_sumUp_35 : decode c_Nod_sumUp 35 = .ok (.goto 41, 3) := by decide +kernel
theorem d_Nod_sumUp_38 : decode c_Nod_sumUp 38 = .ok (.aload_n 0, 1) := by decide +kernel
theorem d_Nod_sumUp_39 : decode c_Nod_sumUp 39 = .ok (.aload_n 0, 1) := by decide +kernel
theorem d_Nod_sumUp_40 : decode c_Nod_sumUp 40 = .ok (.getfield 22, 3) := by decide +kernel
theorem d_Nod_sumUp_43 : decode c_Nod_sumUp 43 = .ok (.getfield 64, 3) := by decide +kernel
theorem d_Nod_sumUp_46 : decode c_Nod_sumUp 46 = .ok (.aload_n 0, 1) := by decide +kernel
theorem d_Nod_sumUp_47 : decode c_Nod_sumUp 47 = .ok (.getfield 26, 3) := by decide +kernel
theorem d_Nod_sumUp_50 : decode c_Nod_sumUp 50 = .ok (.getfield 64, 3) := by decide +kernel
theorem d_Nod_sumUp_53 : decode c_Nod_sumUp 53 = .ok (.iadd, 1) := by decide +kernel
theorem d_Nod_sumUp_54 : decode c_Nod_sumUp 54 = .ok (.putfield 64, 3) := by decide +kernel
theorem d_Nod_sumUp_57 : decode c_Nod_sumUp 57 = .ok (.aload_n 0, 1) := by decide +kernel
theorem d_Nod_sumUp_58 : decode c_Nod_sumUp 58 = .ok (.aload_n 0, 1) := by decide +kernel
theorem d_Nod_sumUp_59 : decode c_Nod_sumUp 59 = .ok (.getfield 22, 3) := by decide +kernel
theorem d_Nod_sumUp_62 : decode c_Nod_sumUp 62 = .ok (.getfield 67, 3) := by decide +kernel
theorem d_Nod_sumUp_65 : decode c_Nod_sumUp 65 = .ok (.aload_n 0, 1) := by decide +kernel
theorem d_Nod_sumUp_66 : decode c_Nod_sumUp 66 = .ok (.getfield 26, 3) := by decide +kernel
theorem d_Nod_sumUp_69 : decode c_Nod_sumUp 69 = .ok (.getfield 67, 3) := by decide +kernel
theorem d_Nod_sumUp_72 : decode c_Nod_sumUp 72 = .ok (.iadd, 1) := by decide +kernel
theorem d_Nod_sumUp_73 : decode c_Nod_sumUp 73 = .ok (.putfield 67, 3) := by decide +kernel
theorem d_Nod_sumUp_76 : decode c_Nod_sumUp 76 = .ok (.return_, 1) := by decide +kernel
theorem d_Nod_stateAt_0 : decode c_Nod_stateAt 0 = .ok (.iload_n 1, 1) := by decide +kernel
theorem d_Nod_stateAt_1 : decode c_Nod_stateAt 1 = .ok (.aload_n 0, 1) := by decide +kernel
theorem d_Nod_stateAt_2 : decode c_Nod_stateAt 2 = .ok (.getfield 54, 3) := by decide +kernel
theorem d_Nod_stateAt_5 : decode c_Nod_stateAt 5 = .ok (.if_icmp .lt 5, 3) := by decide +kernel
theorem d_Nod_stateAt_8 : decode c_Nod_stateAt 8 = .ok (.iconst 2, 1) := by decide +kernel
theorem d_Nod_stateAt_9 : decode c_Nod_stateAt 9 = .ok (.ireturn, 1) := by decide +kernel
theorem d_Nod_stateAt_10 : decode c_Nod_stateAt 10 = .ok (.iload_n 1, 1) := by decide +kernel
theorem d_Nod_stateAt_11 : decode c_Nod_stateAt 11 = .ok (.aload_n 0, 1) := by decide +kernel
theorem d_Nod_stateAt_12 : decode c_Nod_stateAt 12 = .ok (.getfield 57, 3) := by decide +kernel
theorem d_Nod_stateAt_15 : decode c_Nod_stateAt 15 = .ok (.if_icmp .lt 7, 3) := by decide +kernel
theorem d_Nod_stateAt_18 : decode c_Nod_stateAt 18 = .ok (.iconst 1, 1) := by decide +kernel
theorem d_Nod_stateAt_19 : decode c_Nod_stateAt 19 = .ok (.goto 4, 3) := by decide +kernel
theorem d_Nod_stateAt_22 : decode c_Nod_stateAt 22 = .ok (.iconst 0, 1) := by decide +kernel
theorem d_Nod_stateAt_23 : decode c_Nod_stateAt 23 = .ok (.ireturn, 1) := by decide +kernel
theorem d_Pru_findAlpha_0 : decode c_Pru_findAlpha 0 = .ok (.iconst 1, 1) := by decide +kernel
theorem d_Pru_findAlpha_1 : decode c_Pru_findAlpha 1 = .ok (.istore_n 3, 1) := by decide +kernel
theorem d_Pru_findAlpha_2 : decode c_Pru_findAlpha 2 = .ok (.iconst 0, 1) := by decide +kernel
theorem d_Pru_findAlpha_3 : decode c_Pru_findAlpha 3 = .ok (.istore 4, 2) := by decide +kernel
theorem d_Pru_findAlpha_5 : decode c_Pru_findAlpha 5 = .ok (.iload 4, 2) := by decide +kernel
theorem d_Pru_findAlpha_7 : decode c_Pru_findAlpha 7 = .ok (.aload_n 0, 1) := by decide +kernel
theorem d_Pru_findAlpha_8 : decode c_Pru_findAlpha 8 = .ok (.getfield 29, 3) := by decide +kernel
theorem d_Pru_findAlpha_11 : decode c_Pru_findAlpha 11 = .ok (.getfield 37, 3) := by decide +kernel
theorem d_Pru_findAlpha_14 : decode c_Pru_findAlpha 14 = .ok (.if_icmp .ge 65, 3) := by decide +kernel
theorem d_Pru_findAlpha_17 : decode c_Pru_findAlpha 17 = .ok (.aload_n 0, 1) := by decide +kernel
theorem d_Pru_findAlpha_18 : decode c_Pru_findAlpha 18 = .ok (.getfield 29, 3) := by decide +kernel
theorem d_Pru_findAlpha_21 : decode c_Pru_findAlpha 21 = .ok (.iload 4, 2) := by decide +kernel
theorem d_Pru_findAlpha_23 : decode c_Pru_findAlpha 23 = .ok (.invokevirtual 40, 3) := by decide +kernel
theorem d_Pru_findAlpha_26 : decode c_Pru_findAlpha 26 = .ok (.astore 5, 2) := by decide +kernel
theorem d_Pru_findAlpha_28 : decode c_Pru_findAlpha 28 = .ok (.aload 5, 2) := by decide +kernel
theorem d_Pru_findAlpha_30 : decode c_Pru_findAlpha 30 = .ok (.ifnull 43, 3) := by decide +kernel
theorem d_Pru_findAlpha_33 : decode c_Pru_findAlpha 33 = .ok (.aload 5, 2) := by decide +kernel
theorem d_Pru_findAlpha_35 : decode c_Pru_findAlpha 35 = .ok (.iload_n 1, 1) := by decide +kernel
theorem d_Pru_findAlpha_36 : decode c_Pru_findAlpha 36 = .ok (.invokevirtual 74, 3) := by decide +kernel
theorem d_Pru_findAlpha_39 : decode c_Pru_findAlpha 39 = .ok (.ifCond .ne 34, 3) := by decide +kernel
theorem d_Pru_findAlpha_42 : decode c_Pru_findAlpha 42 = .ok (.aload_n 0, 1) := by decide +kernel
theorem d_Pru_findAlpha_43 : decode c_Pru_findAlpha 43 = .ok (.aload 5, 2) := by decide +kernel
theorem d_Pru_findAlpha_45 : decode c_Pru_findAlpha 45 = .ok (.invokevirtual 78, 3) := by decide +kernel
theorem d_Pru_findAlpha_48 : decode c_Pru_findAlpha 48 = .ok (.iload_n 3, 1) := by decide +kernel
theorem d_Pru_findAlpha_49 : decode c_Pru_findAlpha 49 = .ok (.ifCond .ne 14, 3) := by decide +kernel
theorem d_Pru_findAlpha_52 : decode c_Pru_findAlpha 52 = .ok (.aload_n 0, 1) := by decide +kernel
theorem d_Pru_findAlpha_53 : decode c_Pru_findAlpha 53 = .ok (.getfield 25, 3) := by decide +kernel
theorem d_Pru_findAlpha_56 : decode c_Pru_findAlpha 56 = .ok (.aload_n 2, 1) := by decide +kernel
theorem d_Pru_findAlpha_57 : decode c_Pru_findAlpha 57 = .ok (.invokevirtual 82, 3) := by decide +kernel
theorem d_Pru_findAlpha_60 : decode c_Pru_findAlpha 60 = .ok (.ifCond .ge 11, 3) := by decide +kernel
theorem d_Pru_findAlpha_63 : decode c_Pru_findAlpha 63 = .ok (.aload_n 2, 1) := by decide +kernel
theorem d_Pru_findAlpha_64 : decode c_Pru_findAlpha 64 = .ok (.aload_n 0, 1) := by decide +kernel
theorem d_Pru_findAlpha_65 : decode c_Pru_findAlpha 65 = .ok (.getfield 25, 3) := by decide +kernel
theorem d_Pru_findAlpha_68 : decode c_Pru_findAlpha 68 = .ok (.invokevirtual 86, 3) := by decide +kernel
theorem d_Pru_findAlpha_71 : decode c_Pru_findAlpha 71 = .ok (.iconst 0, 1) := by decide +kernel
theorem d_Pru_findAlpha_72 : decode c_Pru_findAlpha 72 = .ok (.istore_n 3, 1) := by decide +kernel
theorem d_Pru_findAlpha_73 : decode c_Pru_findAlpha 73 = .ok (.iinc 4 1, 3) := by decide +kernel
theorem d_Pru_findAlpha_76 : decode c_Pru_findAlpha 76 = .ok (.goto (-71), 3) := by decide +kernel
theorem d_Pru_findAlpha_79 : decode c_Pru_findAlpha 79 = .ok (.return_, 1) := by decide +kernel
theorem d_Pru_weigh_0 : decode c_Pru_weigh 0 = .ok (.aload_n 0, 1) := by decide +kernel
theorem d_Pru_weigh_1 : decode c_Pru_weigh 1 = .ok (.getfield 25, 3) := by decide +kernel
theorem d_Pru_weigh_4 : decode c_Pru_weigh 4 = .ok (.aload_n 1, 1) := by decide +kernel
theorem d_Pru_weigh_5 : decode c_Pru_weigh 5 = .ok (.getfield 96, 3) := by decide +kernel
theorem d_Pru_weigh_8 : decode c_Pru_weigh 8 = .ok (.aload_n 1, 1) := by decide +kernel
theorem d_Pru_weigh_9 : decode c_Pru_weigh 9 = .ok (.getfield 71, 3) := by decide +kernel
theorem d_Pru_weigh_12 : decode c_Pru_weigh 12 = .ok (.isub, 1) := by decide +kernel
theorem d_Pru_weigh_13 : decode c_Pru_weigh 13 = .ok (.aload_n 1, 1) := by decide +kernel
theorem d_Pru_weigh_14 : decode c_Pru_weigh 14 = .ok (.getfield 68, 3) := by decide +kernel
theorem d_Pru_weigh_17 : decode c_Pru_weigh 17 = .ok (.iconst 1, 1) := by decide +kernel
theorem d_Pru_weigh_18 : decode c_Pru_weigh 18 = .ok (.isub, 1) := by decide +kernel
theorem d_Pru_weigh_19 : decode c_Pru_weigh 19 = .ok (.invokevirtual 99, 3) := by decide +kernel
theorem d_Pru_weigh_22 : decode c_Pru_weigh 22 = .ok (.return_, 1) := by decide +kernel
theorem d_Pru_cutBack_0 : decode c_Pru_cutBack 0 = .ok (.iconst 0, 1) := by decide +kernel
theorem d_Pru_cutBack_1 : decode c_Pru_cutBack 1 = .ok (.istore_n 3, 1) := by decide +kernel
theorem d_Pru_cutBack_2 : decode c_Pru_cutBack 2 = .ok (.iload_n 3, 1) := by decide +kernel
theorem d_Pru_cutBack_3 : decode c_Pru_cutBack 3 = .ok (.aload_n 0, 1) := by decide +kernel
theorem d_Pru_cutBack_4 : decode c_Pru_cutBack 4 = .ok (.getfield 29, 3) := by decide +kernel
theorem d_Pru_cutBack_7 : decode c_Pru_cutBack 7 = .ok (.getfield 37, 3) := by decide +kernel
theorem d_Pru_cutBack_10 : decode c_Pru_cutBack 10 = .ok (.if_icmp .ge 80, 3) := by decide +kernel
theorem d_Pru_cutBack_13 : decode c_Pru_cutBack 13 = .ok (.aload_n 0, 1) := by decide +kernel
theorem d_Pru_cutBack_14 : decode c_Pru_cutBack 14 = .ok (.getfield 29, 3) := by decide +kernel
theorem d_Pru_cutBack_17 : decode c_Pru_cutBack 17 = .ok (.iload_n 3, 1) := by decide +kernel
theorem d_Pru_cutBack_18 : decode c_Pru_cutBack 18 = .ok (.invokevirtual 40, 3) := by decide +kernel
theorem d_Pru_cutBack_21 : decode c_Pru_cutBack 21 = .ok (.astore 4, 2) := by decide +kernel
theorem d_Pru_cutBack_23 : decode c_Pru_cutBack 23 = .ok (.aload 4, 2) := by decide +kernel
theorem d_Pru_cutBack_25 : decode c_Pru_cutBack 25 = .ok (.ifnonnull 6, 3) := by decide +kernel
theorem d_Pru_cutBack_28 : decode c_Pru_cutBack 28 = .ok (.goto 56, 3) := by decide +kernel
theorem d_Pru_cutBack_31 : decode c_Pru_cutBack 31 = .ok (.aload 4, 2) := by decide +kernel
theorem d_Pru_cutBack_33 : decode c_Pru_cutBack 33 = .ok (.iload_n 1, 1) := by decide +kernel
theorem d_Pru_cutBack_34 : decode c_Pru_cutBack 34 = .ok (.invokevirtual 74, 3) := by decide +kernel
theorem d_Pru_cutBack_37 : decode c_Pru_cutBack 37 = .ok (.ifCond .ne 28, 3) := by decide +kernel
theorem d_Pru_cutBack_40 : decode c_Pru_cutBack 40 = .ok (.aload_n 0, 1) := by decide +kernel
theorem d_Pru_cutBack_41 : decode c_Pru_cutBack 41 = .ok (.aload 4, 2) := by decide +kernel
theorem d_Pru_cutBack_43 : decode c_Pru_cutBack 43 = .ok (.invokevirtual 78, 3) := by decide +kernel
theorem d_Pru_cutBack_46 : decode c_Pru_cutBack 46 = .ok (.aload_n 0, 1) := by decide +kernel
theorem d_Pru_cutBack_47 : decode c_Pru_cutBack 47 = .ok (.getfield 25, 3) := by decide +kernel
theorem d_Pru_cutBack_50 : decode c_Pru_cutBack 50 = .ok (.aload_n 2, 1) := by decide +kernel
theorem d_Pru_cutBack_51 : decode c_Pru_cutBack 51 = .ok (.invokevirtual 82, 3) := by decide +kernel
theorem d_Pru_cutBack_54 : decode c_Pru_cutBack 54 = .ok (.ifCond .ne 11, 3) := by decide +kernel
theorem d_Pru_cutBack_57 : decode c_Pru_cutBack 57 = .ok (.aload 4, 2) := by decide +kernel
theorem d_Pru_cutBack_59 : decode c_Pru_cutBack 59 = .ok (.iload_n 1, 1) := by decide +kernel
theorem d_Pru_cutBack_60 : decode c_Pru_cutBack 60 = .ok (.iconst 1, 1) := by decide +kernel
theorem d_Pru_cutBack_61 : decode c_Pru_cutBack 61 = .ok (.iadd, 1) := by decide +kernel
theorem d_Pru_cutBack_62 : decode c_Pru_cutBack 62 = .ok (.putfield 90, 3) := by decide +kernel
theorem d_Pru_cutBack_65 : decode c_Pru_cutBack 65 = .ok (.aload 4, 2) := by decide +kernel
theorem d_Pru_cutBack_67 : decode c_Pru_cutBack 67 = .ok (.iload_n 1, 1) := by decide +kernel
theorem d_Pru_cutBack_68 : decode c_Pru_cutBack 68 = .ok (.iconst 1, 1) := by decide +kernel
theorem d_Pru_cutBack_69 : decode c_Pru_cutBack 69 = .ok (.iadd, 1) := by decide +kernel
theorem d_Pru_cutBack_70 : decode c_Pru_cutBack 70 = .ok (.invokevirtual 74, 3) := by decide +kernel
theorem d_Pru_cutBack_73 : decode c_Pru_cutBack 73 = .ok (.ifCond .eq 11, 3) := by decide +kernel
theorem d_Pru_cutBack_76 : decode c_Pru_cutBack 76 = .ok (.aload 4, 2) := by decide +kernel
theorem d_Pru_cutBack_78 : decode c_Pru_cutBack 78 = .ok (.iload_n 1, 1) := by decide +kernel
theorem d_Pru_cutBack_79 : decode c_Pru_cutBack 79 = .ok (.iconst 1, 1) := by decide +kernel
theorem d_Pru_cutBack_80 : decode c_Pru_cutBack 80 = .ok (.iadd, 1) := by decide +kernel
theorem d_Pru_cutBack_81 : decode c_Pru_cutBack 81 = .ok (.invokevirtual 93, 3) := by decide +kernel
theorem d_Pru_cutBack_84 : decode c_Pru_cutBack 84 = .ok (.iinc 3 1, 3) := by decide +kernel
theorem d_Pru_cutBack_87 : decode c_Pru_cutBack 87 = .ok (.goto (-85), 3) := by decide +kernel
theorem d_Pru_cutBack_90 : decode c_Pru_cutBack 90 = .ok (.return_, 1) := by decide +kernel
theorem d_Nod_loseThoseBelow_0 : decode c_Nod_loseThoseBelow 0 = .ok (.aload_n 0, 1) := by decide +kernel
theorem d_Nod_loseThoseBelow_1 : decode c_Nod_loseThoseBelow 1 = .ok (.getfield 22, 3) := by decide +kernel
theorem d_Nod_loseThoseBelow_4 : decode c_Nod_loseThoseBelow 4 = .ok (.ifnull 46, 3) := by decide +kernel
theorem d_Nod_loseThoseBelow_7 : decode c_Nod_loseThoseBelow 7 = .ok (.aload_n 0, 1) := by decide +kernel
theorem d_Nod_loseThoseBelow_8 : decode c_Nod_loseThoseBelow 8 = .ok (.getfield 26, 3) := by decide +kernel
theorem d_Nod_loseThoseBelow_11 : decode c_Nod_loseThoseBelow 11 = .ok (.ifnull 39, 3) := by decide +kernel
theorem d_Nod_loseThoseBelow_14 : decode c_Nod_loseThoseBelow 14 = .ok (.aload_n 0, 1) := by decide +kernel
theorem d_Nod_loseThoseBelow_15 : decode c_Nod_loseThoseBelow 15 = .ok (.getfield 22, 3) := by decide +kernel
theorem d_Nod_loseThoseBelow_18 : decode c_Nod_loseThoseBelow 18 = .ok (.aload_n 0, 1) := by decide +kernel
theorem d_Nod_loseThoseBelow_19 : decode c_Nod_loseThoseBelow 19 = .ok (.getfield 22, 3) := by decide +kernel
theorem d_Nod_loseThoseBelow_22 : decode c_Nod_loseThoseBelow 22 = .ok (.getfield 54, 3) := by decide +kernel
theorem d_Nod_loseThoseBelow_25 : decode c_Nod_loseThoseBelow 25 = .ok (.iload_n 1, 1) := by decide +kernel
theorem d_Nod_loseThoseBelow_26 : decode c_Nod_loseThoseBelow 26 = .ok (.invokestatic 70, 3) := by decide +kernel
theorem d_Nod_loseThoseBelow_29 : decode c_Nod_loseThoseBelow 29 = .ok (.putfield 54, 3) := by decide +kernel
theorem d_Nod_loseThoseBelow_32 : decode c_Nod_loseThoseBelow 32 = .ok (.aload_n 0, 1) := by decide +kernel
theorem d_Nod_loseThoseBelow_33 : decode c_Nod_loseThoseBelow 33 = .ok (.getfield 26, 3) := by decide +kernel
theorem d_Nod_loseThoseBelow_36 : decode c_Nod_loseThoseBelow 36 = .ok (.aload_n 0, 1) := by decide +kernel
theorem d_Nod_loseThoseBelow_37 : decode c_Nod_loseThoseBelow 37 = .ok (.getfield 26, 3) := by decide +kernel
theorem d_Nod_loseThoseBelow_40 : decode c_Nod_loseThoseBelow 40 = .ok (.getfield 54, 3) := by decide +kernel
theorem d_Nod_loseThoseBelow_43 : decode c_Nod_loseThoseBelow 43 = .ok (.iload_n 1, 1) := by decide +kernel
theorem d_Nod_loseThoseBelow_44 : decode c_Nod_loseThoseBelow 44 = .ok (.invokestatic 70, 3) := by decide +kernel
theorem d_Nod_loseThoseBelow_47 : decode c_Nod_loseThoseBelow 47 = .ok (.putfield 54, 3) := by decide +kernel
theorem d_Nod_loseThoseBelow_50 : decode c_Nod_loseThoseBelow 50 = .ok (.return_, 1) := by decide +kernel
theorem d_Mat_min_0 : decode c_Mat_min 0 = .ok (.iload_n 0, 1) := by decide +kernel
theorem d_Mat_min_1 : decode c_Mat_min 1 = .ok (.iload_n 1, 1) := by decide +kernel
theorem d_Mat_min_2 : decode c_Mat_min 2 = .ok (.if_icmp .gt 7, 3) := by decide +kernel
theorem d_Mat_min_5 : decode c_Mat_min 5 = .ok (.iload_n 0, 1) := by decide +kernel
theorem d_Mat_min_6 : decode c_Mat_min 6 = .ok (.goto 4, 3) := by decide +kernel
theorem d_Mat_min_9 : decode c_Mat_min 9 = .ok (.iload_n 1, 1) := by decide +kernel
theorem d_Mat_min_10 : decode c_Mat_min 10 = .ok (.ireturn, 1) := by decide +kernel
theorem d_Nod_cutDetail_0 : decode c_Nod_cutDetail 0 = .ok (.aload_n 0, 1) := by decide +kernel
theorem d_Nod_cutDetail_1 : decode c_Nod_cutDetail 1 = .ok (.getfield 22, 3) := by decide +kernel
theorem d_Nod_cutDetail_4 : decode c_Nod_cutDetail 4 = .ok (.ifnull 10, 3) := by decide +kernel
theorem d_Nod_cutDetail_7 : decode c_Nod_cutDetail 7 = .ok (.aload_n 0, 1) := by decide +kernel
theorem d_Nod_cutDetail_8 : decode c_Nod_cutDetail 8 = .ok (.getfield 26, 3) := by decide +kernel
theorem d_Nod_cutDetail_11 : decode c_Nod_cutDetail 11 = .ok (.ifnonnull 6, 3) := by decide +kernel
theorem d_Nod_cutDetail_14 : decode c_Nod_cutDetail 14 = .ok (.bipush (-3), 2) := by decide +kernel
theorem d_Nod_cutDetail_16 : decode c_Nod_cutDetail 16 = .ok (.ireturn, 1) := by decide +kernel
theorem d_Nod_cutDetail_17 : decode c_Nod_cutDetail 17 = .ok (.iload_n 1, 1) := by decide +kernel
theorem d_Nod_cutDetail_18 : decode c_Nod_cutDetail 18 = .ok (.tableswitch 62 0 3 #[30, 38, 46, 54], 30) := by decide +kernel
theorem d_Nod_cutDetail_48 : decode c_Nod_cutDetail 48 = .ok (.aload_n 0, 1) := by decide +kernel
theorem d_Nod_cutDetail_49 : decode c_Nod_cutDetail 49 = .ok (.getfield 12, 3) := by decide +kernel
theorem d_Nod_cutDetail_52 : decode c_Nod_cutDetail 52 = .ok (.getfield 29, 3) := by decide +kernel
theorem d_Nod_cutDetail_55 : decode c_Nod_cutDetail 55 = .ok (.ireturn, 1) := by decide +kernel
theorem d_Nod_cutDetail_56 : decode c_Nod_cutDetail 56 = .ok (.aload_n 0, 1) := by decide +kernel
theorem d_Nod_cutDetail_57 : decode c_Nod_cutDetail 57 = .ok (.getfield 12, 3) := by decide +kernel
theorem d_Nod_cutDetail_60 : decode c_Nod_cutDetail 60 = .ok (.getfield 32, 3) := by decide +kernel
theorem d_Nod_cutDetail_63 : decode c_Nod_cutDetail 63 = .ok (.ireturn, 1) := by decide +kernel
theorem d_Nod_cutDetail_64 : decode c_Nod_cutDetail 64 = .ok (.aload_n 0, 1) := by decide +kernel
theorem d_Nod_cutDetail_65 : decode c_Nod_cutDetail 65 = .ok (.getfield 12, 3) := by decide +kernel
theorem d_Nod_cutDetail_68 : decode c_Nod_cutDetail 68 = .ok (.getfield 33, 3) := by decide +kernel
theorem d_Nod_cutDetail_71 : decode c_Nod_cutDetail 71 = .ok (.ireturn, 1) := by decide +kernel
theorem d_Nod_cutDetail_72 : decode c_Nod_cutDetail 72 = .ok (.aload_n 0, 1) := by decide +kernel
theorem d_Nod_cutDetail_73 : decode c_Nod_cutDetail 73 = .ok (.getfield 22, 3) := by decide +kernel
theorem d_Nod_cutDetail_76 : decode c_Nod_cutDetail 76 = .ok (.getfield 18, 3) := by decide +kernel
theorem d_Nod_cutDetail_79 : decode c_Nod_cutDetail 79 = .ok (.ireturn, 1) := by decide +kernel
theorem d_Nod_cutDetail_80 : decode c_Nod_cutDetail 80 = .ok (.aload_n 0, 1) := by decide +kernel
theorem d_Nod_cutDetail_81 : decode c_Nod_cutDetail 81 = .ok (.getfield 26, 3) := by decide +kernel
theorem d_Nod_cutDetail_84 : decode c_Nod_cutDetail 84 = .ok (.getfield 18, 3) := by decide +kernel
theorem d_Nod_cutDetail_87 : decode c_Nod_cutDetail 87 = .ok (.ireturn, 1) := by decide +kernel
theorem d_Nod_ownDetail_0 : decode c_Nod_ownDetail 0 = .ok (.iload_n 1, 1) := by decide +kernel
theorem d_Nod_ownDetail_1 : decode c_Nod_ownDetail 1 = .ok (.tableswitch 45 5 7 #[27, 32, 40], 27) := by decide +kernel
theorem d_Nod_ownDetail_28 : decode c_Nod_ownDetail 28 = .ok (.aload_n 0, 1) := by decide +kernel
theorem d_Nod_ownDetail_29 : decode c_Nod_ownDetail 29 = .ok (.getfield 36, 3) := by decide +kernel
theorem d_Nod_ownDetail_32 : decode c_Nod_ownDetail 32 = .ok (.ireturn, 1) := by decide +kernel
theorem d_Nod_ownDetail_33 : decode c_Nod_ownDetail 33 = .ok (.aload_n 0, 1) := by decide +kernel
theorem d_Nod_ownDetail_34 : decode c_Nod_ownDetail 34 = .ok (.getfield 39, 3) := by decide +kernel
theorem d_Nod_ownDetail_37 : decode c_Nod_ownDetail 37 = .ok (.invokestatic 42, 3) := by decide +kernel
theorem d_Nod_ownDetail_40 : decode c_Nod_ownDetail 40 = .ok (.ireturn, 1) := by decide +kernel
theorem d_Nod_ownDetail_41 : decode c_Nod_ownDetail 41 = .ok (.aload_n 0, 1) := by decide +kernel
theorem d_Nod_ownDetail_42 : decode c_Nod_ownDetail 42 = .ok (.getfield 48, 3) := by decide +kernel
theorem d_Nod_ownDetail_45 : decode c_Nod_ownDetail 45 = .ok (.ireturn, 1) := by decide +kernel
theorem d_Nod_ownDetail_46 : decode c_Nod_ownDetail 46 = .ok (.aload_n 0, 1) := by decide +kernel
theorem d_Nod_ownDetail_47 : decode c_Nod_ownDetail 47 = .ok (.getfield 51, 3) := by decide +kernel
theorem d_Nod_ownDetail_50 : decode c_Nod_ownDetail 50 = .ok (.ireturn, 1) := by decide +kernel
theorem d_Fra_inLowestTerms_0 : decode c_Fra_inLowestTerms 0 = .ok (.aload_n 0, 1) := by decide +kernel
theorem d_Fra_inLowestTerms_1 : decode c_Fra_inLowestTerms 1 = .ok (.invokevirtual 26, 3) := by decide +kernel
theorem d_Fra_inLowestTerms_4 : decode c_Fra_inLowestTerms 4 = .ok (.istore_n 2, 1) := by decide +kernel
theorem d_Fra_inLowestTerms_5 : decode c_Fra_inLowestTerms 5 = .ok (.iload_n 1, 1) := by decide +kernel
theorem d_Fra_inLowestTerms_6 : decode c_Fra_inLowestTerms 6 = .ok (.ifCond .ne 10, 3) := by decide +kernel
theorem d_Fra_inLowestTerms_9 : decode c_Fra_inLowestTerms 9 = .ok (.aload_n 0, 1) := by decide +kernel
theorem d_Fra_inLowestTerms_10 : decode c_Fra_inLowestTerms 10 = .ok (.getfield 9, 3) := by decide +kernel
theorem d_Fra_inLowestTerms_13 : decode c_Fra_inLowestTerms 13 = .ok (.goto 7, 3) := by decide +kernel
theorem d_Fra_inLowestTerms_16 : decode c_Fra_inLowestTerms 16 = .ok (.aload_n 0, 1) := by decide +kernel
theorem d_Fra_inLowestTerms_17 : decode c_Fra_inLowestTerms 17 = .ok (.getfield 15, 3) := by decide +kernel
theorem d_Fra_inLowestTerms_20 : decode c_Fra_inLowestTerms 20 = .ok (.istore_n 3, 1) := by decide +kernel
theorem d_Fra_inLowestTerms_21 : decode c_Fra_inLowestTerms 21 = .ok (.iload_n 2, 1) := by decide +kernel
theorem d_Fra_inLowestTerms_22 : decode c_Fra_inLowestTerms 22 = .ok (.ifCond .ne 7, 3) := by decide +kernel
theorem d_Fra_inLowestTerms_25 : decode c_Fra_inLowestTerms 25 = .ok (.iload_n 3, 1) := by decide +kernel
theorem d_Fra_inLowestTerms_26 : decode c_Fra_inLowestTerms 26 = .ok (.goto 6, 3) := by decide +kernel
theorem d_Fra_inLowestTerms_29 : decode c_Fra_inLowestTerms 29 = .ok (.iload_n 3, 1) := by decide +kernel
theorem d_Fra_inLowestTerms_30 : decode c_Fra_inLowestTerms 30 = .ok (.iload_n 2, 1) := by decide +kernel
theorem d_Fra_inLowestTerms_31 : decode c_Fra_inLowestTerms 31 = .ok (.idiv, 1) := by decide +kernel
theorem d_Fra_inLowestTerms_32 : decode c_Fra_inLowestTerms 32 = .ok (.ireturn, 1) := by decide +kernel
theorem d_Fra_greatestCommonDivisor_0 : decode c_Fra_greatestCommonDivisor 0 = .ok (.aload_n 0, 1) := by decide +kernel
theorem d_Fra_greatestCommonDivisor_1 : decode c_Fra_greatestCommonDivisor 1 = .ok (.getfield 9, 3) := by decide +kernel
theorem d_Fra_greatestCommonDivisor_4 : decode c_Fra_greatestCommonDivisor 4 = .ok (.istore_n 1, 1) := by decide +kernel
theorem d_Fra_greatestCommonDivisor_5 : decode c_Fra_greatestCommonDivisor 5 = .ok (.aload_n 0, 1) := by decide +kernel
theorem d_Fra_greatestCommonDivisor_6 : decode c_Fra_greatestCommonDivisor 6 = .ok (.getfield 15, 3) := by decide +kernel
theorem d_Fra_greatestCommonDivisor_9 : decode c_Fra_greatestCommonDivisor 9 = .ok (.istore_n 2, 1) := by decide +kernel
theorem d_Fra_greatestCommonDivisor_10 : decode c_Fra_greatestCommonDivisor 10 = .ok (.iconst 0, 1) := by decide +kernel
theorem d_Fra_greatestCommonDivisor_11 : decode c_Fra_greatestCommonDivisor 11 = .ok (.istore_n 3, 1) := by decide +kernel
theorem d_Fra_greatestCommonDivisor_12 : decode c_Fra_greatestCommonDivisor 12 = .ok (.iload_n 3, 1) := by decide +kernel
theorem d_Fra_greatestCommonDivisor_13 : decode c_Fra_greatestCommonDivisor 13 = .ok (.bipush 64, 2) := by decide +kernel
theorem d_Fra_greatestCommonDivisor_15 : decode c_Fra_greatestCommonDivisor 15 = .ok (.if_icmp .ge 23, 3) := by decide +kernel
theorem d_Fra_greatestCommonDivisor_18 : decode c_Fra_greatestCommonDivisor 18 = .ok (.iload_n 2, 1) := by decide +kernel
theorem d_Fra_greatestCommonDivisor_19 : decode c_Fra_greatestCommonDivisor 19 = .ok (.ifCond .eq 19, 3) := by decide +kernel
theorem d_Fra_greatestCommonDivisor_22 : decode c_Fra_greatestCommonDivisor 22 = .ok (.iload_n 1, 1) := by decide +kernel
theorem d_Fra_greatestCommonDivisor_23 : decode c_Fra_greatestCommonDivisor 23 = .ok (.iload_n 2, 1) := by decide +kernel
theorem d_Fra_greatestCommonDivisor_24 : decode c_Fra_greatestCommonDivisor 24 = .ok (.irem, 1) := by decide +kernel
theorem d_Fra_greatestCommonDivisor_25 : decode c_Fra_greatestCommonDivisor 25 = .ok (.istore 4, 2) := by decide +kernel
theorem d_Fra_greatestCommonDivisor_27 : decode c_Fra_greatestCommonDivisor 27 = .ok (.iload_n 2, 1) := by decide +kernel
theorem d_Fra_greatestCommonDivisor_28 : decode c_Fra_greatestCommonDivisor 28 = .ok (.istore_n 1, 1) := by decide +kernel
theorem d_Fra_greatestCommonDivisor_29 : decode c_Fra_greatestCommonDivisor 29 = .ok (.iload 4, 2) := by decide +kernel
theorem d_Fra_greatestCommonDivisor_31 : decode c_Fra_greatestCommonDivisor 31 = .ok (.istore_n 2, 1) := by decide +kernel
theorem d_Fra_greatestCommonDivisor_32 : decode c_Fra_greatestCommonDivisor 32 = .ok (.iinc 3 1, 3) := by decide +kernel
theorem d_Fra_greatestCommonDivisor_35 : decode c_Fra_greatestCommonDivisor 35 = .ok (.goto (-23), 3) := by decide +kernel
theorem d_Fra_greatestCommonDivisor_38 : decode c_Fra_greatestCommonDivisor 38 = .ok (.iload_n 1, 1) := by decide +kernel
theorem d_Fra_greatestCommonDivisor_39 : decode c_Fra_greatestCommonDivisor 39 = .ok (.ireturn, 1) := by decide +kernel
theorem d_Tre_whereComes_0 : decode c_Tre_whereComes 0 = .ok (.aload_n 0, 1) := by decide +kernel
theorem d_Tre_whereComes_1 : decode c_Tre_whereComes 1 = .ok (.getfield 32, 3) := by decide +kernel
theorem d_Tre_whereComes_4 : decode c_Tre_whereComes 4 = .ok (.astore_n 2, 1) := by decide +kernel
theorem d_Tre_whereComes_5 : decode c_Tre_whereComes 5 = .ok (.iconst 0, 1) := by decide +kernel
theorem d_Tre_whereComes_6 : decode c_Tre_whereComes 6 = .ok (.istore_n 3, 1) := by decide +kernel
theorem d_Tre_whereComes_7 : decode c_Tre_whereComes 7 = .ok (.iload_n 3, 1) := by decide +kernel
theorem d_Tre_whereComes_8 : decode c_Tre_whereComes 8 = .ok (.iconst 5, 1) := by decide +kernel
theorem d_Tre_whereComes_9 : decode c_Tre_whereComes 9 = .ok (.if_icmp .ge 47, 3) := by decide +kernel
theorem d_Tre_whereComes_12 : decode c_Tre_whereComes 12 = .ok (.aload_n 0, 1) := by decide +kernel
theorem d_Tre_whereComes_13 : decode c_Tre_whereComes 13 = .ok (.getfield 17, 3) := by decide +kernel
theorem d_Tre_whereComes_16 : decode c_Tre_whereComes 16 = .ok (.aload_n 1, 1) := by decide +kernel
theorem d_Tre_whereComes_17 : decode c_Tre_whereComes 17 = .ok (.aload_n 2, 1) := by decide +kernel
theorem d_Tre_whereComes_18 : decode c_Tre_whereComes 18 = .ok (.getfield 108, 3) := by decide +kernel
theorem d_Tre_whereComes_21 : decode c_Tre_whereComes 21 = .ok (.invokevirtual 128, 3) := by decide +kernel
theorem d_Tre_whereComes_24 : decode c_Tre_whereComes 24 = .ok (.ifCond .eq 10, 3) := by decide +kernel
theorem d_Tre_whereComes_27 : decode c_Tre_whereComes 27 = .ok (.aload_n 2, 1) := by decide +kernel
theorem d_Tre_whereComes_28 : decode c_Tre_whereComes 28 = .ok (.getfield 75, 3) := by decide +kernel
theorem d_Tre_whereComes_31 : decode c_Tre_whereComes 31 = .ok (.goto 7, 3) := by decide +kernel
theorem d_Tre_whereComes_34 : decode c_Tre_whereComes 34 = .ok (.aload_n 2, 1) := by decide +kernel
theorem d_Tre_whereComes_35 : decode c_Tre_whereComes 35 = .ok (.getfield 78, 3) := by decide +kernel
theorem d_Tre_whereComes_38 : decode c_Tre_whereComes 38 = .ok (.astore 4, 2) := by decide +kernel
theorem d_Tre_whereComes_40 : decode c_Tre_whereComes 40 = .ok (.aload 4, 2) := by decide +kernel
theorem d_Tre_whereComes_42 : decode c_Tre_whereComes 42 = .ok (.ifnonnull 5, 3) := by decide +kernel
theorem d_Tre_whereComes_45 : decode c_Tre_whereComes 45 = .ok (.aload_n 2, 1) := by decide +kernel
theorem d_Tre_whereComes_46 : decode c_Tre_whereComes 46 = .ok (.areturn, 1) := by decide +kernel
theorem d_Tre_whereComes_47 : decode c_Tre_whereComes 47 = .ok (.aload 4, 2) := by decide +kernel
theorem d_Tre_whereComes_49 : decode c_Tre_whereComes 49 = .ok (.astore_n 2, 1) := by decide +kernel
theorem d_Tre_whereComes_50 : decode c_Tre_whereComes 50 = .ok (.iinc 3 1, 3) := by decide +kernel
theorem d_Tre_whereComes_53 : decode c_Tre_whereComes 53 = .ok (.goto (-46), 3) := by decide +kernel
theorem d_Tre_whereComes_56 : decode c_Tre_whereComes 56 = .ok (.aload_n 2, 1) := by decide +kernel
theorem d_Tre_whereComes_57 : decode c_Tre_whereComes 57 = .ok (.areturn, 1) := by decide +kernel
theorem d_Pru_has_0 : decode c_Pru_has 0 = .ok (.iload_n 1, 1) := by decide +kernel
theorem d_Pru_has_1 : decode c_Pru_has 1 = .ok (.ifCond .lt 21, 3) := by decide +kernel
theorem d_Pru_has_4 : decode c_Pru_has 4 = .ok (.iload_n 1, 1) := by decide +kernel
theorem d_Pru_has_5 : decode c_Pru_has 5 = .ok (.aload_n 0, 1) := by decide +kernel
theorem d_Pru_has_6 : decode c_Pru_has 6 = .ok (.getfield 33, 3) := by decide +kernel
theorem d_Pru_has_9 : decode c_Pru_has 9 = .ok (.if_icmp .ge 13, 3) := by decide +kernel
theorem d_Pru_has_12 : decode c_Pru_has 12 = .ok (.iload_n 1, 1) := by decide +kernel
theorem d_Pru_has_13 : decode c_Pru_has 13 = .ok (.bipush 24, 2) := by decide +kernel
theorem d_Pru_has_15 : decode c_Pru_has 15 = .ok (.if_icmp .ge 7, 3) := by decide +kernel
theorem d_Pru_has_18 : decode c_Pru_has 18 = .ok (.iconst 1, 1) := by decide +kernel
theorem d_Pru_has_19 : decode c_Pru_has 19 = .ok (.goto 4, 3) := by decide +kernel
theorem d_Pru_has_22 : decode c_Pru_has 22 = .ok (.iconst 0, 1) := by decide +kernel
theorem d_Pru_has_23 : decode c_Pru_has 23 = .ok (.ireturn, 1) := by decide +kernel
