theorem d_Arr_fill_0 : decode c_Arr_fill 0 = .ok (.iconst 0, 1) := by decide +kernel
theorem d_Arr_fill_1 : decode c_Arr_fill 1 = .ok (.istore_n 2, 1) := by decide +kernel
theorem d_Arr_fill_2 : decode c_Arr_fill 2 = .ok (.aload_n 0, 1) := by decide +kernel
theorem d_Arr_fill_3 : decode c_Arr_fill 3 = .ok (.arraylength, 1) := by decide +kernel
theorem d_Arr_fill_4 : decode c_Arr_fill 4 = .ok (.istore_n 3, 1) := by decide +kernel
theorem d_Arr_fill_5 : decode c_Arr_fill 5 = .ok (.iload_n 2, 1) := by decide +kernel
theorem d_Arr_fill_6 : decode c_Arr_fill 6 = .ok (.iload_n 3, 1) := by decide +kernel
theorem d_Arr_fill_7 : decode c_Arr_fill 7 = .ok (.if_icmp .ge 13, 3) := by decide +kernel
theorem d_Arr_fill_10 : decode c_Arr_fill 10 = .ok (.aload_n 0, 1) := by decide +kernel
theorem d_Arr_fill_11 : decode c_Arr_fill 11 = .ok (.iload_n 2, 1) := by decide +kernel
theorem d_Arr_fill_12 : decode c_Arr_fill 12 = .ok (.iload_n 1, 1) := by decide +kernel
theorem d_Arr_fill_13 : decode c_Arr_fill 13 = .ok (.iastore, 1) := by decide +kernel
theorem d_Arr_fill_14 : decode c_Arr_fill 14 = .ok (.iinc 2 1, 3) := by decide +kernel
theorem d_Arr_fill_17 : decode c_Arr_fill 17 = .ok (.goto (-12), 3) := by decide +kernel
theorem d_Arr_fill_20 : decode c_Arr_fill 20 = .ok (.return_, 1) := by decide +kernel
theorem d_Int_bitCount_0 : decode c_Int_bitCount 0 = .ok (.iload_n 0, 1) := by decide +kernel
theorem d_Int_bitCount_1 : decode c_Int_bitCount 1 = .ok (.iload_n 0, 1) := by decide +kernel
theorem d_Int_bitCount_2 : decode c_Int_bitCount 2 = .ok (.iconst 1, 1) := by decide +kernel
theorem d_Int_bitCount_3 : decode c_Int_bitCount 3 = .ok (.iushr, 1) := by decide +kernel
theorem d_Int_bitCount_4 : decode c_Int_bitCount 4 = .ok (.ldc_w 265, 3) := by decide +kernel
theorem d_Int_bitCount_7 : decode c_Int_bitCount 7 = .ok (.iand, 1) := by decide +kernel
theorem d_Int_bitCount_8 : decode c_Int_bitCount 8 = .ok (.isub, 1) := by decide +kernel
theorem d_Int_bitCount_9 : decode c_Int_bitCount 9 = .ok (.istore_n 0, 1) := by decide +kernel
theorem d_Int_bitCount_10 : decode c_Int_bitCount 10 = .ok (.iload_n 0, 1) := by decide +kernel
theorem d_Int_bitCount_11 : decode c_Int_bitCount 11 = .ok (.ldc_w 266, 3) := by decide +kernel
theorem d_Int_bitCount_14 : decode c_Int_bitCount 14 = .ok (.iand, 1) := by decide +kernel
theorem d_Int_bitCount_15 : decode c_Int_bitCount 15 = .ok (.iload_n 0, 1) := by decide +kernel
theorem d_Int_bitCount_16 : decode c_Int_bitCount 16 = .ok (.iconst 2, 1) := by decide +kernel
theorem d_Int_bitCount_17 : decode c_Int_bitCount 17 = .ok (.iushr, 1) := by decide +kernel
theorem d_Int_bitCount_18 : decode c_Int_bitCount 18 = .ok (.ldc_w 266, 3) := by decide +kernel
theorem d_Int_bitCount_21 : decode c_Int_bitCount 21 = .ok (.iand, 1) := by decide +kernel
theorem d_Int_bitCount_22 : decode c_Int_bitCount 22 = .ok (.iadd, 1) := by decide +kernel
theorem d_Int_bitCount_23 : decode c_Int_bitCount 23 = .ok (.istore_n 0, 1) := by decide +kernel
theorem d_Int_bitCount_24 : decode c_Int_bitCount 24 = .ok (.iload_n 0, 1) := by decide +kernel
theorem d_Int_bitCount_25 : decode c_Int_bitCount 25 = .ok (.iload_n 0, 1) := by decide +kernel
theorem d_Int_bitCount_26 : decode c_Int_bitCount 26 = .ok (.iconst 4, 1) := by decide +kernel
theorem d_Int_bitCount_27 : decode c_Int_bitCount 27 = .ok (.iushr, 1) := by decide +kernel
theorem d_Int_bitCount_28 : decode c_Int_bitCount 28 = .ok (.iadd, 1) := by decide +kernel
theorem d_Int_bitCount_29 : decode c_Int_bitCount 29 = .ok (.ldc_w 267, 3) := by decide +kernel
theorem d_Int_bitCount_32 : decode c_Int_bitCount 32 = .ok (.iand, 1) := by decide +kernel
theorem d_Int_bitCount_33 : decode c_Int_bitCount 33 = .ok (.istore_n 0, 1) := by decide +kernel
theorem d_Int_bitCount_34 : decode c_Int_bitCount 34 = .ok (.iload_n 0, 1) := by decide +kernel
theorem d_Int_bitCount_35 : decode c_Int_bitCount 35 = .ok (.iload_n 0, 1) := by decide +kernel
theorem d_Int_bitCount_36 : decode c_Int_bitCount 36 = .ok (.bipush 8, 2) := by decide +kernel
theorem d_Int_bitCount_38 : decode c_Int_bitCount 38 = .ok (.iushr, 1) := by decide +kernel
theorem d_Int_bitCount_39 : decode c_Int_bitCount 39 = .ok (.iadd, 1) := by decide +kernel
theorem d_Int_bitCount_40 : decode c_Int_bitCount 40 = .ok (.istore_n 0, 1) := by decide +kernel
theorem d_Int_bitCount_41 : decode c_Int_bitCount 41 = .ok (.iload_n 0, 1) := by decide +kernel
theorem d_Int_bitCount_42 : decode c_Int_bitCount 42 = .ok (.iload_n 0, 1) := by decide +kernel
theorem d_Int_bitCount_43 : decode c_Int_bitCount 43 = .ok (.bipush 16, 2) := by decide +kernel
theorem d_Int_bitCount_45 : decode c_Int_bitCount 45 = .ok (.iushr, 1) := by decide +kernel
theorem d_Int_bitCount_46 : decode c_Int_bitCount 46 = .ok (.iadd, 1) := by decide +kernel
theorem d_Int_bitCount_47 : decode c_Int_bitCount 47 = .ok (.istore_n 0, 1) := by decide +kernel
theorem d_Int_bitCount_48 : decode c_Int_bitCount 48 = .ok (.iload_n 0, 1) := by decide +kernel
theorem d_Int_bitCount_49 : decode c_Int_bitCount 49 = .ok (.bipush 63, 2) := by decide +kernel
theorem d_Int_bitCount_51 : decode c_Int_bitCount 51 = .ok (.iand, 1) := by decide +kernel
theorem d_Int_bitCount_52 : decode c_Int_bitCount 52 = .ok (.ireturn, 1) := by decide +kernel
theorem d_La_put_0 : decode c_La_put 0 = .ok (.aload_n 2, 1) := by decide +kernel
theorem d_La_put_1 : decode c_La_put 1 = .ok (.iconst 0, 1) := by decide +kernel
theorem d_La_put_2 : decode c_La_put 2 = .ok (.aload_n 0, 1) := by decide +kernel
theorem d_La_put_3 : decode c_La_put 3 = .ok (.iload_n 1, 1) := by decide +kernel
theorem d_La_put_4 : decode c_La_put 4 = .ok (.invokevirtual 7, 3) := by decide +kernel
theorem d_La_put_7 : decode c_La_put 7 = .ok (.i2l, 1) := by decide +kernel
theorem d_La_put_8 : decode c_La_put 8 = .ok (.lastore, 1) := by decide +kernel
theorem d_La_put_9 : decode c_La_put 9 = .ok (.goto 9, 3) := by decide +kernel
theorem d_La_put_12 : decode c_La_put 12 = .ok (.astore_n 3, 1) := by decide +kernel
theorem d_La_put_13 : decode c_La_put 13 = .ok (.iconst 1, 1) := by decide +kernel
theorem d_La_put_14 : decode c_La_put 14 = .ok (.ireturn, 1) := by decide +kernel
theorem d_La_put_15 : decode c_La_put 15 = .ok (.astore_n 3, 1) := by decide +kernel
theorem d_La_put_16 : decode c_La_put 16 = .ok (.iconst 2, 1) := by decide +kernel
theorem d_La_put_17 : decode c_La_put 17 = .ok (.ireturn, 1) := by decide +kernel
theorem d_La_put_18 : decode c_La_put 18 = .ok (.iconst 0, 1) := by decide +kernel
theorem d_La_put_19 : decode c_La_put 19 = .ok (.ireturn, 1) := by decide +kernel
theorem d_Thr_init1_0 : decode c_Thr_init1 0 = .ok (.aload_n 0, 1) := by decide +kernel
theorem d_Thr_init1_1 : decode c_Thr_init1 1 = .ok (.invokespecial 1, 3) := by decide +kernel
theorem d_Thr_init1_4 : decode c_Thr_init1 4 = .ok (.aload_n 0, 1) := by decide +kernel
theorem d_Thr_init1_5 : decode c_Thr_init1 5 = .ok (.aload_n 0, 1) := by decide +kernel
theorem d_Thr_init1_6 : decode c_Thr_init1 6 = .ok (.putfield 7, 3) := by decide +kernel
theorem d_Thr_init1_9 : decode c_Thr_init1 9 = .ok (.aload_n 0, 1) := by decide +kernel
theorem d_Thr_init1_10 : decode c_Thr_init1 10 = .ok (.getstatic 13, 3) := by decide +kernel
theorem d_Thr_init1_13 : decode c_Thr_init1 13 = .ok (.putfield 17, 3) := by decide +kernel
theorem d_Thr_init1_16 : decode c_Thr_init1 16 = .ok (.aload_n 0, 1) := by decide +kernel
theorem d_Thr_init1_17 : decode c_Thr_init1 17 = .ok (.getstatic 20, 3) := by decide +kernel
theorem d_Thr_init1_20 : decode c_Thr_init1 20 = .ok (.putfield 24, 3) := by decide +kernel
theorem d_Thr_init1_23 : decode c_Thr_init1 23 = .ok (.aload_n 0, 1) := by decide +kernel
theorem d_Thr_init1_24 : decode c_Thr_init1 24 = .ok (.invokevirtual 27, 3) := by decide +kernel
theorem d_Thr_init1_27 : decode c_Thr_init1 27 = .ok (.pop, 1) := by decide +kernel
theorem d_Thr_init1_28 : decode c_Thr_init1 28 = .ok (.return_, 1) := by decide +kernel
theorem d_Thr_fillInStackTrace_0 : decode c_Thr_fillInStackTrace 0 = .ok (.aload_n 0, 1) := by decide +kernel
theorem d_Thr_fillInStackTrace_1 : decode c_Thr_fillInStackTrace 1 = .ok (.getfield 17, 3) := by decide +kernel
theorem d_Thr_fillInStackTrace_4 : decode c_Thr_fillInStackTrace 4 = .ok (.ifnonnull 10, 3) := by decide +kernel
theorem d_Thr_fillInStackTrace_7 : decode c_Thr_fillInStackTrace 7 = .ok (.aload_n 0, 1) := by decide +kernel
theorem d_Thr_fillInStackTrace_8 : decode c_Thr_fillInStackTrace 8 = .ok (.getfield 198, 3) := by decide +kernel
theorem d_Thr_fillInStackTrace_11 : decode c_Thr_fillInStackTrace 11 = .ok (.ifnull 16, 3) := by decide +kernel
theorem d_Thr_fillInStackTrace_14 : decode c_Thr_fillInStackTrace 14 = .ok (.aload_n 0, 1) := by decide +kernel
theorem d_Thr_fillInStackTrace_15 : decode c_Thr_fillInStackTrace 15 = .ok (.iconst 0, 1) := by decide +kernel
theorem d_Thr_fillInStackTrace_16 : decode c_Thr_fillInStackTrace 16 = .ok (.invokevirtual 202, 3) := by decide +kernel
theorem d_Thr_fillInStackTrace_19 : decode c_Thr_fillInStackTrace 19 = .ok (.pop, 1) := by decide +kernel
theorem d_Thr_fillInStackTrace_20 : decode c_Thr_fillInStackTrace 20 = .ok (.aload_n 0, 1) := by decide +kernel
theorem d_Thr_fillInStackTrace_21 : decode c_Thr_fillInStackTrace 21 = .ok (.getstatic 13, 3) := by decide +kernel
theorem d_Thr_fillInStackTrace_24 : decode c_Thr_fillInStackTrace 24 = .ok (.putfield 17, 3) := by decide +kernel
theorem d_Thr_fillInStackTrace_27 : decode c_Thr_fillInStackTrace 27 = .ok (.aload_n 0, 1) := by decide +kernel
theorem d_Thr_fillInStackTrace_28 : decode c_Thr_fillInStackTrace 28 = .ok (.areturn, 1) := by decide +kernel
theorem d_Iae_init_0 : decode c_Iae_init 0 = .ok (.aload_n 0, 1) := by decide +kernel
theorem d_Iae_init_1 : decode c_Iae_init 1 = .ok (.aload_n 1, 1) := by decide +kernel
theorem d_Iae_init_2 : decode c_Iae_init 2 = .ok (.invokespecial 7, 3) := by decide +kernel
theorem d_Iae_init_5 : decode c_Iae_init 5 = .ok (.return_, 1) := by decide +kernel
theorem d_Rte_init_0 : decode c_Rte_init 0 = .ok (.aload_n 0, 1) := by decide +kernel
theorem d_Rte_init_1 : decode c_Rte_init 1 = .ok (.aload_n 1, 1) := by decide +kernel
theorem d_Rte_init_2 : decode c_Rte_init 2 = .ok (.invokespecial 7, 3) := by decide +kernel
theorem d_Rte_init_5 : decode c_Rte_init 5 = .ok (.return_, 1) := by decide +kernel
theorem d_Exc_init_0 : decode c_Exc_init 0 = .ok (.aload_n 0, 1) := by decide +kernel
theorem d_Exc_init_1 : decode c_Exc_init 1 = .ok (.aload_n 1, 1) := by decide +kernel
theorem d_Exc_init_2 : decode c_Exc_init 2 = .ok (.invokespecial 7, 3) := by decide +kernel
theorem d_Exc_init_5 : decode c_Exc_init 5 = .ok (.return_, 1) := by decide +kernel
theorem d_Thr_init2_0 : decode c_Thr_init2 0 = .ok (.aload_n 0, 1) := by decide +kernel
theorem d_Thr_init2_1 : decode c_Thr_init2 1 = .ok (.invokespecial 1, 3) := by decide +kernel
theorem d_Thr_init2_4 : decode c_Thr_init2 4 = .ok (.aload_n 0, 1) := by decide +kernel
theorem d_Thr_init2_5 : decode c_Thr_init2 5 = .ok (.aload_n 0, 1) := by decide +kernel
theorem d_Thr_init2_6 : decode c_Thr_init2 6 = .ok (.putfield 7, 3) := by decide +kernel
theorem d_Thr_init2_9 : decode c_Thr_init2 9 = .ok (.aload_n 0, 1) := by decide +kernel
theorem d_Thr_init2_10 : decode c_Thr_init2 10 = .ok (.getstatic 13, 3) := by decide +kernel
theorem d_Thr_init2_13 : decode c_Thr_init2 13 = .ok (.putfield 17, 3) := by decide +kernel
theorem d_Thr_init2_16 : decode c_Thr_init2 16 = .ok (.aload_n 0, 1) := by decide +kernel
theorem d_Thr_init2_17 : decode c_Thr_init2 17 = .ok (.getstatic 20, 3) := by decide +kernel
theorem d_Thr_init2_20 : decode c_Thr_init2 20 = .ok (.putfield 24, 3) := by decide +kernel
theorem d_Thr_init2_23 : decode c_Thr_init2 23 = .ok (.aload_n 0, 1) := by decide +kernel
theorem d_Thr_init2_24 : decode c_Thr_init2 24 = .ok (.invokevirtual 27, 3) := by decide +kernel
theorem d_Thr_init2_27 : decode c_Thr_init2 27 = .ok (.pop, 1) := by decide +kernel
theorem d_Thr_init2_28 : decode c_Thr_init2 28 = .ok (.aload_n 0, 1) := by decide +kernel
theorem d_Thr_init2_29 : decode c_Thr_init2 29 = .ok (.aload_n 1, 1) := by decide +kernel
theorem d_Thr_init2_30 : decode c_Thr_init2 30 = .ok (.putfield 31, 3) := by decide +kernel
theorem d_Thr_init2_33 : decode c_Thr_init2 33 = .ok (.return_, 1) := by decide +kernel
theorem d_Uoe_init_0 : decode c_Uoe_init 0 = .ok (.aload_n 0, 1) := by decide +kernel
theorem d_Uoe_init_1 : decode c_Uoe_init 1 = .ok (.aload_n 1, 1) := by decide +kernel
theorem d_Uoe_init_2 : decode c_Uoe_init 2 = .ok (.invokespecial 7, 3) := by decide +kernel
theorem d_Uoe_init_5 : decode c_Uoe_init 5 = .ok (.return_, 1) := by decide +kernel
theorem d_La_read_0 : decode c_La_read 0 = .ok (.aload_n 2, 1) := by decide +kernel
theorem d_La_read_1 : decode c_La_read 1 = .ok (.iconst 0, 1) := by decide +kernel
theorem d_La_read_2 : decode c_La_read 2 = .ok (.aload_n 0, 1) := by decide +kernel
theorem d_La_read_3 : decode c_La_read 3 = .ok (.iload_n 1, 1) := by decide +kernel
theorem d_La_read_4 : decode c_La_read 4 = .ok (.invokevirtual 17, 3) := by decide +kernel
theorem d_La_read_7 : decode c_La_read 7 = .ok (.i2l, 1) := by decide +kernel
theorem d_La_read_8 : decode c_La_read 8 = .ok (.lastore, 1) := by decide +kernel
theorem d_La_read_9 : decode c_La_read 9 = .ok (.goto 6, 3) := by decide +kernel
theorem d_La_read_12 : decode c_La_read 12 = .ok (.astore_n 3, 1) := by decide +kernel
theorem d_La_read_13 : decode c_La_read 13 = .ok (.iconst 1, 1) := by decide +kernel
theorem d_La_read_14 : decode c_La_read 14 = .ok (.ireturn, 1) := by decide +kernel
theorem d_La_read_15 : decode c_La_read 15 = .ok (.iconst 0, 1) := by decide +kernel
theorem d_La_read_16 : decode c_La_read 16 = .ok (.ireturn, 1) := by decide +kernel
theorem d_Ioe_init_0 : decode c_Ioe_init 0 = .ok (.aload_n 0, 1) := by decide +kernel
theorem d_Ioe_init_1 : decode c_Ioe_init 1 = .ok (.aload_n 1, 1) := by decide +kernel
theorem d_Ioe_init_2 : decode c_Ioe_init 2 = .ok (.invokespecial 7, 3) := by decide +kernel
theorem d_Ioe_init_5 : decode c_Ioe_init 5 = .ok (.return_, 1) := by decide +kernel
theorem d_Mat_min_0 : decode c_Mat_min 0 = .ok (.iload_n 0, 1) := by decide +kernel
theorem d_Mat_min_1 : decode c_Mat_min 1 = .ok (.iload_n 1, 1) := by decide +kernel
theorem d_Mat_min_2 : decode c_Mat_min 2 = .ok (.if_icmp .gt 7, 3) := by decide +kernel
theorem d_Mat_min_5 : decode c_Mat_min 5 = .ok (.iload_n 0, 1) := by decide +kernel
theorem d_Mat_min_6 : decode c_Mat_min 6 = .ok (.goto 4, 3) := by decide +kernel
theorem d_Mat_min_9 : decode c_Mat_min 9 = .ok (.iload_n 1, 1) := by decide +kernel
theorem d_Mat_min_10 : decode c_Mat_min 10 = .ok (.ireturn, 1) := by decide +kernel
theorem d_Str_length_0 : decode c_Str_length 0 = .ok (.aload_n 0, 1) := by decide +kernel
theorem d_Str_length_1 : decode c_Str_length 1 = .ok (.getfield 9, 3) := by decide +kernel
theorem d_Str_length_4 : decode c_Str_length 4 = .ok (.arraylength, 1) := by decide +kernel
theorem d_Str_length_5 : decode c_Str_length 5 = .ok (.aload_n 0, 1) := by decide +kernel
theorem d_Str_length_6 : decode c_Str_length 6 = .ok (.invokevirtual 335, 3) := by decide +kernel
theorem d_Str_length_9 : decode c_Str_length 9 = .ok (.ishr, 1) := by decide +kernel
theorem d_Str_length_10 : decode c_Str_length 10 = .ok (.ireturn, 1) := by decide +kernel
theorem d_Str_coder_0 : decode c_Str_coder 0 = .ok (.getstatic 38, 3) := by decide +kernel
theorem d_Str_coder_3 : decode c_Str_coder 3 = .ok (.ifCond .eq 10, 3) := by decide +kernel
theorem d_Str_coder_6 : decode c_Str_coder 6 = .ok (.aload_n 0, 1) := by decide +kernel
theorem d_Str_coder_7 : decode c_Str_coder 7 = .ok (.getfield 15, 3) := by decide +kernel
theorem d_Str_coder_10 : decode c_Str_coder 10 = .ok (.goto 4, 3) := by decide +kernel
theorem d_Str_coder_13 : decode c_Str_coder 13 = .ok (.iconst 1, 1) := by decide +kernel
theorem d_Str_coder_14 : decode c_Str_coder 14 = .ok (.ireturn, 1) := by decide +kernel
theorem d_Str_charAt_0 : decode c_Str_charAt 0 = .ok (.aload_n 0, 1) := by decide +kernel
theorem d_Str_charAt_1 : decode c_Str_charAt 1 = .ok (.invokevirtual 492, 3) := by decide +kernel
theorem d_Str_charAt_4 : decode c_Str_charAt 4 = .ok (.ifCond .eq 12, 3) := by decide +kernel
theorem d_Str_charAt_7 : decode c_Str_charAt 7 = .ok (.aload_n 0, 1) := by decide +kernel
theorem d_Str_charAt_8 : decode c_Str_charAt 8 = .ok (.getfield 9, 3) := by decide +kernel
theorem d_Str_charAt_11 : decode c_Str_charAt 11 = .ok (.iload_n 1, 1) := by decide +kernel
theorem d_Str_charAt_12 : decode c_Str_charAt 12 = .ok (.invokestatic 495, 3) := by decide +kernel
theorem d_Str_charAt_15 : decode c_Str_charAt 15 = .ok (.ireturn, 1) := by decide +kernel
theorem d_Str_charAt_16 : decode c_Str_charAt 16 = .ok (.aload_n 0, 1) := by decide +kernel
theorem d_Str_charAt_17 : decode c_Str_charAt 17 = .ok (.getfield 9, 3) := by decide +kernel
theorem d_Str_charAt_20 : decode c_Str_charAt 20 = .ok (.iload_n 1, 1) := by decide +kernel
theorem d_Str_charAt_21 : decode c_Str_charAt 21 = .ok (.invokestatic 498, 3) := by decide +kernel
theorem d_Str_charAt_24 : decode c_Str_charAt 24 = .ok (.ireturn, 1) := by decide +kernel
theorem d_Str_isLatin1_0 : decode c_Str_isLatin1 0 = .ok (.getstatic 38, 3) := by decide +kernel
theorem d_Str_isLatin1_3 : decode c_Str_isLatin1 3 = .ok (.ifCond .eq 14, 3) := by decide +kernel
theorem d_Str_isLatin1_6 : decode c_Str_isLatin1 6 = .ok (.aload_n 0, 1) := by decide +kernel
theorem d_Str_isLatin1_7 : decode c_Str_isLatin1 7 = .ok (.getfield 15, 3) := by decide +kernel
theorem d_Str_isLatin1_10 : decode c_Str_isLatin1 10 = .ok (.ifCond .ne 7, 3) := by decide +kernel
theorem d_Str_isLatin1_13 : decode c_Str_isLatin1 13 = .ok (.iconst 1, 1) := by decide +kernel
theorem d_Str_isLatin1_14 : decode c_Str_isLatin1 14 = .ok (.goto 4, 3) := by decide +kernel
theorem d_Str_isLatin1_17 : decode c_Str_isLatin1 17 = .ok (.iconst 0, 1) := by decide +kernel
theorem d_Str_isLatin1_18 : decode c_Str_isLatin1 18 = .ok (.ireturn, 1) := by decide +kernel
theorem d_SLa_charAt_0 : decode c_SLa_charAt 0 = .ok (.iload_n 1, 1) := by decide +kernel
theorem d_SLa_charAt_1 : decode c_SLa_charAt 1 = .ok (.aload_n 0, 1) := by decide +kernel
theorem d_SLa_charAt_2 : decode c_SLa_charAt 2 = .ok (.arraylength, 1) := by decide +kernel
theorem d_SLa_charAt_3 : decode c_SLa_charAt 3 = .ok (.invokestatic 9, 3) := by decide +kernel
theorem d_SLa_charAt_6 : decode c_SLa_charAt 6 = .ok (.aload_n 0, 1) := by decide +kernel
theorem d_SLa_charAt_7 : decode c_SLa_charAt 7 = .ok (.iload_n 1, 1) := by decide +kernel
theorem d_SLa_charAt_8 : decode c_SLa_charAt 8 = .ok (.baload, 1) := by decide +kernel
theorem d_SLa_charAt_9 : decode c_SLa_charAt 9 = .ok (.sipush 255, 3) := by decide +kernel
theorem d_SLa_charAt_12 : decode c_SLa_charAt 12 = .ok (.iand, 1) := by decide +kernel
theorem d_SLa_charAt_13 : decode c_SLa_charAt 13 = .ok (.i2c, 1) := by decide +kernel
theorem d_SLa_charAt_14 : decode c_SLa_charAt 14 = .ok (.ireturn, 1) := by decide +kernel
theorem d_Str_checkIndex_0 : decode c_Str_checkIndex 0 = .ok (.iload_n 0, 1) := by decide +kernel
theorem d_Str_checkIndex_1 : decode c_Str_checkIndex 1 = .ok (.iload_n 1, 1) := by decide +kernel
theorem d_Str_checkIndex_2 : decode c_Str_checkIndex 2 = .ok (.getstatic 1053, 3) := by decide +kernel
theorem d_Str_checkIndex_5 : decode c_Str_checkIndex 5 = .ok (.invokestatic 1059, 3) := by decide +kernel
theorem d_Str_checkIndex_8 : decode c_Str_checkIndex 8 = .ok (.pop, 1) := by decide +kernel
theorem d_Str_checkIndex_9 : decode c_Str_checkIndex 9 = .ok (.return_, 1) := by decide +kernel
theorem d_La_remove_0 : decode c_La_remove 0 = .ok (.aload_n 0, 1) := by decide +kernel
theorem d_La_remove_1 : decode c_La_remove 1 = .ok (.iload_n 1, 1) := by decide +kernel
theorem d_La_remove_2 : decode c_La_remove 2 = .ok (.iload_n 2, 1) := by decide +kernel
theorem d_La_remove_3 : decode c_La_remove 3 = .ok (.invokevirtual 22, 3) := by decide +kernel
theorem d_La_remove_6 : decode c_La_remove 6 = .ok (.goto 9, 3) := by decide +kernel
theorem d_La_remove_9 : decode c_La_remove 9 = .ok (.astore_n 3, 1) := by decide +kernel
theorem d_La_remove_10 : decode c_La_remove 10 = .ok (.iconst 1, 1) := by decide +kernel
theorem d_La_remove_11 : decode c_La_remove 11 = .ok (.ireturn, 1) := by decide +kernel
theorem d_La_remove_12 : decode c_La_remove 12 = .ok (.astore_n 3, 1) := by decide +kernel
theorem d_La_remove_13 : decode c_La_remove 13 = .ok (.iconst 2, 1) := by decide +kernel
theorem d_La_remove_14 : decode c_La_remove 14 = .ok (.ireturn, 1) := by decide +kernel
theorem d_La_remove_15 : decode c_La_remove 15 = .ok (.iconst 0, 1) := by decide +kernel
theorem d_La_remove_16 : decode c_La_remove 16 = .ok (.ireturn, 1) := by decide +kernel
theorem d_La_swap_0 : decode c_La_swap 0 = .ok (.aload_n 0, 1) := by decide +kernel
theorem d_La_swap_1 : decode c_La_swap 1 = .ok (.iload_n 1, 1) := by decide +kernel
theorem d_La_swap_2 : decode c_La_swap 2 = .ok (.iload_n 2, 1) := by decide +kernel
theorem d_La_swap_3 : decode c_La_swap 3 = .ok (.invokevirtual 26, 3) := by decide +kernel
theorem d_La_swap_6 : decode c_La_swap 6 = .ok (.goto 9, 3) := by decide +kernel
theorem d_La_swap_9 : decode c_La_swap 9 = .ok (.astore_n 3, 1) := by decide +kernel
theorem d_La_swap_10 : decode c_La_swap 10 = .ok (.iconst 1, 1) := by decide +kernel
theorem d_La_swap_11 : decode c_La_swap 11 = .ok (.ireturn, 1) := by decide +kernel
theorem d_La_swap_12 : decode c_La_swap 12 = .ok (.astore_n 3, 1) := by decide +kernel
theorem d_La_swap_13 : decode c_La_swap 13 = .ok (.iconst 2, 1) := by decide +kernel
theorem d_La_swap_14 : decode c_La_swap 14 = .ok (.ireturn, 1) := by decide +kernel
theorem d_La_swap_15 : decode c_La_swap 15 = .ok (.iconst 0, 1) := by decide +kernel
theorem d_La_swap_16 : decode c_La_swap 16 = .ok (.ireturn, 1) := by decide +kernel
theorem d_La_rules_0 : decode c_La_rules 0 = .ok (.aload_n 2, 1) := by decide +kernel
theorem d_La_rules_1 : decode c_La_rules 1 = .ok (.iconst 0, 1) := by decide +kernel
theorem d_La_rules_2 : decode c_La_rules 2 = .ok (.aload_n 0, 1) := by decide +kernel
theorem d_La_rules_3 : decode c_La_rules 3 = .ok (.iload_n 1, 1) := by decide +kernel
theorem d_La_rules_4 : decode c_La_rules 4 = .ok (.invokevirtual 29, 3) := by decide +kernel
theorem d_La_rules_7 : decode c_La_rules 7 = .ok (.i2l, 1) := by decide +kernel
theorem d_La_rules_8 : decode c_La_rules 8 = .ok (.lastore, 1) := by decide +kernel
theorem d_La_rules_9 : decode c_La_rules 9 = .ok (.goto 6, 3) := by decide +kernel
theorem d_La_rules_12 : decode c_La_rules 12 = .ok (.astore_n 3, 1) := by decide +kernel
theorem d_La_rules_13 : decode c_La_rules 13 = .ok (.iconst 1, 1) := by decide +kernel
theorem d_La_rules_14 : decode c_La_rules 14 = .ok (.ireturn, 1) := by decide +kernel
theorem d_La_rules_15 : decode c_La_rules 15 = .ok (.iconst 0, 1) := by decide +kernel
theorem d_La_rules_16 : decode c_La_rules 16 = .ok (.ireturn, 1) := by decide +kernel
theorem d_La_rule_0 : decode c_La_rule 0 = .ok (.aload 4, 2) := by decide +kernel
theorem d_La_rule_2 : decode c_La_rule 2 = .ok (.iconst 0, 1) := by decide +kernel
theorem d_La_rule_3 : decode c_La_rule 3 = .ok (.aload_n 0, 1) := by decide +kernel
theorem d_La_rule_4 : decode c_La_rule 4 = .ok (.iload_n 1, 1) := by decide +kernel
theorem d_La_rule_5 : decode c_La_rule 5 = .ok (.iload_n 2, 1) := by decide +kernel
theorem d_La_rule_6 : decode c_La_rule 6 = .ok (.iload_n 3, 1) := by decide +kernel
theorem d_La_rule_7 : decode c_La_rule 7 = .ok (.invokevirtual 32, 3) := by decide +kernel
theorem d_La_rule_10 : decode c_La_rule 10 = .ok (.i2l, 1) := by decide +kernel
theorem d_La_rule_11 : decode c_La_rule 11 = .ok (.lastore, 1) := by decide +kernel
theorem d_La_rule_12 : decode c_La_rule 12 = .ok (.goto 11, 3) := by decide +kernel
theorem d_La_rule_15 : decode c_La_rule 15 = .ok (.astore 5, 2) := by decide +kernel
theorem d_La_rule_17 : decode c_La_rule 17 = .ok (.iconst 1, 1) := by decide +kernel
theorem d_La_rule_18 : decode c_La_rule 18 = .ok (.ireturn, 1) := by decide +kernel
theorem d_La_rule_19 : decode c_La_rule 19 = .ok (.astore 5, 2) := by decide +kernel
theorem d_La_rule_21 : decode c_La_rule 21 = .ok (.iconst 2, 1) := by decide +kernel
theorem d_La_rule_22 : decode c_La_rule 22 = .ok (.ireturn, 1) := by decide +kernel
theorem d_La_rule_23 : decode c_La_rule 23 = .ok (.iconst 0, 1) := by decide +kernel
theorem d_La_rule_24 : decode c_La_rule 24 = .ok (.ireturn, 1) := by decide +kernel
theorem d_La_verdict_0 : decode c_La_verdict 0 = .ok (.aload 6, 2) := by decide +kernel
theorem d_La_verdict_2 : decode c_La_verdict 2 = .ok (.iconst 0, 1) := by decide +kernel
theorem d_La_verdict_3 : decode c_La_verdict 3 = .ok (.aload_n 0, 1) := by decide +kernel
theorem d_La_verdict_4 : decode c_La_verdict 4 = .ok (.iload_n 1, 1) := by decide +kernel
theorem d_La_verdict_5 : decode c_La_verdict 5 = .ok (.iload_n 2, 1) := by decide +kernel
theorem d_La_verdict_6 : decode c_La_verdict 6 = .ok (.iload_n 3, 1) := by decide +kernel
theorem d_La_verdict_7 : decode c_La_verdict 7 = .ok (.iload 4, 2) := by decide +kernel
theorem d_La_verdict_9 : decode c_La_verdict 9 = .ok (.iload 5, 2) := by decide +kernel
theorem d_La_verdict_11 : decode c_La_verdict 11 = .ok (.invokevirtual 36, 3) := by decide +kernel
theorem d_La_verdict_14 : decode c_La_verdict 14 = .ok (.i2l, 1) := by decide +kernel
theorem d_La_verdict_15 : decode c_La_verdict 15 = .ok (.lastore, 1) := by decide +kernel
theorem d_La_verdict_16 : decode c_La_verdict 16 = .ok (.goto 11, 3) := by decide +kernel
theorem d_La_verdict_19 : decode c_La_verdict 19 = .ok (.astore 7, 2) := by decide +kernel
theorem d_La_verdict_21 : decode c_La_verdict 21 = .ok (.iconst 1, 1) := by decide +kernel
theorem d_La_verdict_22 : decode c_La_verdict 22 = .ok (.ireturn, 1) := by decide +kernel
theorem d_La_verdict_23 : decode c_La_verdict 23 = .ok (.astore 7, 2) := by decide +kernel
theorem d_La_verdict_25 : decode c_La_verdict 25 = .ok (.iconst 2, 1) := by decide +kernel
theorem d_La_verdict_26 : decode c_La_verdict 26 = .ok (.ireturn, 1) := by decide +kernel
theorem d_La_verdict_27 : decode c_La_verdict 27 = .ok (.iconst 0, 1) := by decide +kernel
theorem d_La_verdict_28 : decode c_La_verdict 28 = .ok (.ireturn, 1) := by decide +kernel
theorem d_La_first_0 : decode c_La_first 0 = .ok (.aload 6, 2) := by decide +kernel
theorem d_La_first_2 : decode c_La_first 2 = .ok (.iconst 0, 1) := by decide +kernel
theorem d_La_first_3 : decode c_La_first 3 = .ok (.aload_n 0, 1) := by decide +kernel
theorem d_La_first_4 : decode c_La_first 4 = .ok (.iload_n 1, 1) := by decide +kernel
theorem d_La_first_5 : decode c_La_first 5 = .ok (.iload_n 2, 1) := by decide +kernel
theorem d_La_first_6 : decode c_La_first 6 = .ok (.iload_n 3, 1) := by decide +kernel
theorem d_La_first_7 : decode c_La_first 7 = .ok (.iload 4, 2) := by decide +kernel
theorem d_La_first_9 : decode c_La_first 9 = .ok (.iload 5, 2) := by decide +kernel
theorem d_La_first_11 : decode c_La_first 11 = .ok (.invokevirtual 40, 3) := by decide +kernel
theorem d_La_first_14 : decode c_La_first 14 = .ok (.i2l, 1) := by decide +kernel
theorem d_La_first_15 : decode c_La_first 15 = .ok (.lastore, 1) := by decide +kernel
theorem d_La_first_16 : decode c_La_first 16 = .ok (.goto 11, 3) := by decide +kernel
theorem d_La_first_19 : decode c_La_first 19 = .ok (.astore 7, 2) := by decide +kernel
theorem d_La_first_21 : decode c_La_first 21 = .ok (.iconst 1, 1) := by decide +kernel
theorem d_La_first_22 : decode c_La_first 22 = .ok (.ireturn, 1) := by decide +kernel
theorem d_La_first_23 : decode c_La_first 23 = .ok (.astore 7, 2) := by decide +kernel
theorem d_La_first_25 : decode c_La_first 25 = .ok (.iconst 2, 1) := by decide +kernel
theorem d_La_first_26 : decode c_La_first 26 = .ok (.ireturn, 1) := by decide +kernel
theorem d_La_first_27 : decode c_La_first 27 = .ok (.iconst 0, 1) := by decide +kernel
theorem d_La_first_28 : decode c_La_first 28 = .ok (.ireturn, 1) := by decide +kernel
theorem d_La_count_0 : decode c_La_count 0 = .ok (.aload_n 3, 1) := by decide +kernel
theorem d_La_count_1 : decode c_La_count 1 = .ok (.iconst 0, 1) := by decide +kernel
theorem d_La_count_2 : decode c_La_count 2 = .ok (.aload_n 0, 1) := by decide +kernel
theorem d_La_count_3 : decode c_La_count 3 = .ok (.iload_n 1, 1) := by decide +kernel
theorem d_La_count_4 : decode c_La_count 4 = .ok (.iload_n 2, 1) := by decide +kernel
theorem d_La_count_5 : decode c_La_count 5 = .ok (.invokevirtual 43, 3) := by decide +kernel
theorem d_La_count_8 : decode c_La_count 8 = .ok (.i2l, 1) := by decide +kernel
theorem d_La_count_9 : decode c_La_count 9 = .ok (.lastore, 1) := by decide +kernel
theorem d_La_count_10 : decode c_La_count 10 = .ok (.goto 11, 3) := by decide +kernel
theorem d_La_count_13 : decode c_La_count 13 = .ok (.astore 4, 2) := by decide +kernel
theorem d_La_count_15 : decode c_La_count 15 = .ok (.iconst 1, 1) := by decide +kernel
theorem d_La_count_16 : decode c_La_count 16 = .ok (.ireturn, 1) := by decide +kernel
theorem d_La_count_17 : decode c_La_count 17 = .ok (.astore 4, 2) := by decide +kernel
theorem d_La_count_19 : decode c_La_count 19 = .ok (.iconst 2, 1) := by decide +kernel
theorem d_La_count_20 : decode c_La_count 20 = .ok (.ireturn, 1) := by decide +kernel
theorem d_La_count_21 : decode c_La_count 21 = .ok (.iconst 0, 1) := by decide +kernel
theorem d_La_count_22 : decode c_La_count 22 = .ok (.ireturn, 1) := by decide +kernel
theorem d_La_nodes_0 : decode c_La_nodes 0 = .ok (.aload_n 3, 1) := by decide +kernel
theorem d_La_nodes_1 : decode c_La_nodes 1 = .ok (.iconst 0, 1) := by decide +kernel
theorem d_La_nodes_2 : decode c_La_nodes 2 = .ok (.aload_n 0, 1) := by decide +kernel
theorem d_La_nodes_3 : decode c_La_nodes 3 = .ok (.iload_n 1, 1) := by decide +kernel
theorem d_La_nodes_4 : decode c_La_nodes 4 = .ok (.iload_n 2, 1) := by decide +kernel
theorem d_La_nodes_5 : decode c_La_nodes 5 = .ok (.invokevirtual 47, 3) := by decide +kernel
theorem d_La_nodes_8 : decode c_La_nodes 8 = .ok (.i2l, 1) := by decide +kernel
theorem d_La_nodes_9 : decode c_La_nodes 9 = .ok (.lastore, 1) := by decide +kernel
theorem d_La_nodes_10 : decode c_La_nodes 10 = .ok (.goto 11, 3) := by decide +kernel
theorem d_La_nodes_13 : decode c_La_nodes 13 = .ok (.astore 4, 2) := by decide +kernel
theorem d_La_nodes_15 : decode c_La_nodes 15 = .ok (.iconst 1, 1) := by decide +kernel
theorem d_La_nodes_16 : decode c_La_nodes 16 = .ok (.ireturn, 1) := by decide +kernel
theorem d_La_nodes_17 : decode c_La_nodes 17 = .ok (.astore 4, 2) := by decide +kernel
theorem d_La_nodes_19 : decode c_La_nodes 19 = .ok (.iconst 2, 1) := by decide +kernel
theorem d_La_nodes_20 : decode c_La_nodes 20 = .ok (.ireturn, 1) := by decide +kernel
theorem d_La_nodes_21 : decode c_La_nodes 21 = .ok (.iconst 0, 1) := by decide +kernel
theorem d_La_nodes_22 : decode c_La_nodes 22 = .ok (.ireturn, 1) := by decide +kernel
theorem d_La_edges_0 : decode c_La_edges 0 = .ok (.aload_n 2, 1) := by decide +kernel
theorem d_La_edges_1 : decode c_La_edges 1 = .ok (.iconst 0, 1) := by decide +kernel
theorem d_La_edges_2 : decode c_La_edges 2 = .ok (.aload_n 0, 1) := by decide +kernel
theorem d_La_edges_3 : decode c_La_edges 3 = .ok (.iload_n 1, 1) := by decide +kernel
theorem d_La_edges_4 : decode c_La_edges 4 = .ok (.invokevirtual 50, 3) := by decide +kernel
theorem d_La_edges_7 : decode c_La_edges 7 = .ok (.i2l, 1) := by decide +kernel
theorem d_La_edges_8 : decode c_La_edges 8 = .ok (.lastore, 1) := by decide +kernel
theorem d_La_edges_9 : decode c_La_edges 9 = .ok (.goto 6, 3) := by decide +kernel
theorem d_La_edges_12 : decode c_La_edges 12 = .ok (.astore_n 3, 1) := by decide +kernel
theorem d_La_edges_13 : decode c_La_edges 13 = .ok (.iconst 1, 1) := by decide +kernel
theorem d_La_edges_14 : decode c_La_edges 14 = .ok (.ireturn, 1) := by decide +kernel
theorem d_La_edges_15 : decode c_La_edges 15 = .ok (.iconst 0, 1) := by decide +kernel
theorem d_La_edges_16 : decode c_La_edges 16 = .ok (.ireturn, 1) := by decide +kernel
theorem d_La_witness_0 : decode c_La_witness 0 = .ok (.aload_n 2, 1) := by decide +kernel
theorem d_La_witness_1 : decode c_La_witness 1 = .ok (.iconst 0, 1) := by decide +kernel
theorem d_La_witness_2 : decode c_La_witness 2 = .ok (.aload_n 0, 1) := by decide +kernel
theorem d_La_witness_3 : decode c_La_witness 3 = .ok (.iload_n 1, 1) := by decide +kernel
theorem d_La_witness_4 : decode c_La_witness 4 = .ok (.invokevirtual 53, 3) := by decide +kernel
theorem d_La_witness_7 : decode c_La_witness 7 = .ok (.i2l, 1) := by decide +kernel
theorem d_La_witness_8 : decode c_La_witness 8 = .ok (.lastore, 1) := by decide +kernel
theorem d_La_witness_9 : decode c_La_witness 9 = .ok (.goto 6, 3) := by decide +kernel
theorem d_La_witness_12 : decode c_La_witness 12 = .ok (.astore_n 3, 1) := by decide +kernel
theorem d_La_witness_13 : decode c_La_witness 13 = .ok (.iconst 1, 1) := by decide +kernel
theorem d_La_witness_14 : decode c_La_witness 14 = .ok (.ireturn, 1) := by decide +kernel
theorem d_La_witness_15 : decode c_La_witness 15 = .ok (.iconst 0, 1) := by decide +kernel
theorem d_La_witness_16 : decode c_La_witness 16 = .ok (.ireturn, 1) := by decide +kernel
theorem d_La_used_0 : decode c_La_used 0 = .ok (.aload_n 3, 1) := by decide +kernel
theorem d_La_used_1 : decode c_La_used 1 = .ok (.iconst 0, 1) := by decide +kernel
theorem d_La_used_2 : decode c_La_used 2 = .ok (.aload_n 0, 1) := by decide +kernel
theorem d_La_used_3 : decode c_La_used 3 = .ok (.iload_n 1, 1) := by decide +kernel
theorem d_La_used_4 : decode c_La_used 4 = .ok (.iload_n 2, 1) := by decide +kernel
theorem d_La_used_5 : decode c_La_used 5 = .ok (.invokevirtual 56, 3) := by decide +kernel
theorem d_La_used_8 : decode c_La_used 8 = .ok (.i2l, 1) := by decide +kernel
theorem d_La_used_9 : decode c_La_used 9 = .ok (.lastore, 1) := by decide +kernel
theorem d_La_used_10 : decode c_La_used 10 = .ok (.goto 11, 3) := by decide +kernel
theorem d_La_used_13 : decode c_La_used 13 = .ok (.astore 4, 2) := by decide +kernel
theorem d_La_used_15 : decode c_La_used 15 = .ok (.iconst 1, 1) := by decide +kernel
theorem d_La_used_16 : decode c_La_used 16 = .ok (.ireturn, 1) := by decide +kernel
theorem d_La_used_17 : decode c_La_used 17 = .ok (.astore 4, 2) := by decide +kernel
theorem d_La_used_19 : decode c_La_used 19 = .ok (.iconst 2, 1) := by decide +kernel
theorem d_La_used_20 : decode c_La_used 20 = .ok (.ireturn, 1) := by decide +kernel
theorem d_La_used_21 : decode c_La_used 21 = .ok (.iconst 0, 1) := by decide +kernel
theorem d_La_used_22 : decode c_La_used 22 = .ok (.ireturn, 1) := by decide +kernel
theorem d_La_prune_0 : decode c_La_prune 0 = .ok (.aload_n 2, 1) := by decide +kernel
theorem d_La_prune_1 : decode c_La_prune 1 = .ok (.iconst 0, 1) := by decide +kernel
theorem d_La_prune_2 : decode c_La_prune 2 = .ok (.aload_n 0, 1) := by decide +kernel
theorem d_La_prune_3 : decode c_La_prune 3 = .ok (.iload_n 1, 1) := by decide +kernel
theorem d_La_prune_4 : decode c_La_prune 4 = .ok (.invokevirtual 59, 3) := by decide +kernel
theorem d_La_prune_7 : decode c_La_prune 7 = .ok (.i2l, 1) := by decide +kernel
theorem d_La_prune_8 : decode c_La_prune 8 = .ok (.lastore, 1) := by decide +kernel
theorem d_La_prune_9 : decode c_La_prune 9 = .ok (.goto 6, 3) := by decide +kernel
theorem d_La_prune_12 : decode c_La_prune 12 = .ok (.astore_n 3, 1) := by decide +kernel
theorem d_La_prune_13 : decode c_La_prune 13 = .ok (.iconst 1, 1) := by decide +kernel
theorem d_La_prune_14 : decode c_La_prune 14 = .ok (.ireturn, 1) := by decide +kernel
theorem d_La_prune_15 : decode c_La_prune 15 = .ok (.iconst 0, 1) := by decide +kernel
theorem d_La_prune_16 : decode c_La_prune 16 = .ok (.ireturn, 1) := by decide +kernel
theorem d_La_pass_0 : decode c_La_pass 0 = .ok (.aload 6, 2) := by decide +kernel
theorem d_La_pass_2 : decode c_La_pass 2 = .ok (.iconst 0, 1) := by decide +kernel
theorem d_La_pass_3 : decode c_La_pass 3 = .ok (.aload_n 0, 1) := by decide +kernel
theorem d_La_pass_4 : decode c_La_pass 4 = .ok (.iload_n 1, 1) := by decide +kernel
theorem d_La_pass_5 : decode c_La_pass 5 = .ok (.iload_n 2, 1) := by decide +kernel
theorem d_La_pass_6 : decode c_La_pass 6 = .ok (.iload_n 3, 1) := by decide +kernel
theorem d_La_pass_7 : decode c_La_pass 7 = .ok (.iload 4, 2) := by decide +kernel
theorem d_La_pass_9 : decode c_La_pass 9 = .ok (.iload 5, 2) := by decide +kernel
theorem d_La_pass_11 : decode c_La_pass 11 = .ok (.invokevirtual 62, 3) := by decide +kernel
theorem d_La_pass_14 : decode c_La_pass 14 = .ok (.i2l, 1) := by decide +kernel
theorem d_La_pass_15 : decode c_La_pass 15 = .ok (.lastore, 1) := by decide +kernel
theorem d_La_pass_16 : decode c_La_pass 16 = .ok (.goto 11, 3) := by decide +kernel
theorem d_La_pass_19 : decode c_La_pass 19 = .ok (.astore 7, 2) := by decide +kernel
theorem d_La_pass_21 : decode c_La_pass 21 = .ok (.iconst 1, 1) := by decide +kernel
theorem d_La_pass_22 : decode c_La_pass 22 = .ok (.ireturn, 1) := by decide +kernel
theorem d_La_pass_23 : decode c_La_pass 23 = .ok (.astore 7, 2) := by decide +kernel
theorem d_La_pass_25 : decode c_La_pass 25 = .ok (.iconst 2, 1) := by decide +kernel
theorem d_La_pass_26 : decode c_La_pass 26 = .ok (.ireturn, 1) := by decide +kernel
theorem d_La_pass_27 : decode c_La_pass 27 = .ok (.iconst 0, 1) := by decide +kernel
theorem d_La_pass_28 : decode c_La_pass 28 = .ok (.ireturn, 1) := by decide +kernel
theorem d_La_connection_0 : decode c_La_connection 0 = .ok (.aload_n 3, 1) := by decide +kernel
theorem d_La_connection_1 : decode c_La_connection 1 = .ok (.iconst 0, 1) := by decide +kernel
theorem d_La_connection_2 : decode c_La_connection 2 = .ok (.aload_n 0, 1) := by decide +kernel
theorem d_La_connection_3 : decode c_La_connection 3 = .ok (.iload_n 1, 1) := by decide +kernel
theorem d_La_connection_4 : decode c_La_connection 4 = .ok (.iload_n 2, 1) := by decide +kernel
theorem d_La_connection_5 : decode c_La_connection 5 = .ok (.invokevirtual 65, 3) := by decide +kernel
theorem d_La_connection_8 : decode c_La_connection 8 = .ok (.i2l, 1) := by decide +kernel
theorem d_La_connection_9 : decode c_La_connection 9 = .ok (.lastore, 1) := by decide +kernel
theorem d_La_connection_10 : decode c_La_connection 10 = .ok (.goto 7, 3) := by decide +kernel
theorem d_La_connection_13 : decode c_La_connection 13 = .ok (.astore 4, 2) := by decide +kernel
theorem d_La_connection_15 : decode c_La_connection 15 = .ok (.iconst 1, 1) := by decide +kernel
theorem d_La_connection_16 : decode c_La_connection 16 = .ok (.ireturn, 1) := by decide +kernel
theorem d_La_connection_17 : decode c_La_connection 17 = .ok (.iconst 0, 1) := by decide +kernel
theorem d_La_connection_18 : decode c_La_connection 18 = .ok (.ireturn, 1) := by decide +kernel
