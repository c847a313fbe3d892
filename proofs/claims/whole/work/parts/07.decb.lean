theorem d_RL_init_0 : decode c_RL_init 0 = .ok (.aload_n 0, 1) := by decide +kernel
theorem d_RL_init_1 : decode c_RL_init 1 = .ok (.invokespecial 3, 3) := by decide +kernel
theorem d_RL_init_4 : decode c_RL_init 4 = .ok (.aload_n 0, 1) := by decide +kernel
theorem d_RL_init_5 : decode c_RL_init 5 = .ok (.bipush 8, 2) := by decide +kernel
theorem d_RL_init_7 : decode c_RL_init 7 = .ok (.anewarray 9, 3) := by decide +kernel
theorem d_RL_init_10 : decode c_RL_init 10 = .ok (.putfield 11, 3) := by decide +kernel
theorem d_RL_init_13 : decode c_RL_init 13 = .ok (.iconst 0, 1) := by decide +kernel
theorem d_RL_init_14 : decode c_RL_init 14 = .ok (.istore_n 1, 1) := by decide +kernel
theorem d_RL_init_15 : decode c_RL_init 15 = .ok (.iload_n 1, 1) := by decide +kernel
theorem d_RL_init_16 : decode c_RL_init 16 = .ok (.bipush 8, 2) := by decide +kernel
theorem d_RL_init_18 : decode c_RL_init 18 = .ok (.if_icmp .ge 22, 3) := by decide +kernel
theorem d_RL_init_21 : decode c_RL_init 21 = .ok (.aload_n 0, 1) := by decide +kernel
theorem d_RL_init_22 : decode c_RL_init 22 = .ok (.getfield 11, 3) := by decide +kernel
theorem d_RL_init_25 : decode c_RL_init 25 = .ok (.iload_n 1, 1) := by decide +kernel
theorem d_RL_init_26 : decode c_RL_init 26 = .ok (.new 9, 3) := by decide +kernel
theorem d_RL_init_29 : decode c_RL_init 29 = .ok (.dup, 1) := by decide +kernel
theorem d_RL_init_30 : decode c_RL_init 30 = .ok (.invokespecial 17, 3) := by decide +kernel
theorem d_RL_init_33 : decode c_RL_init 33 = .ok (.aastore, 1) := by decide +kernel
theorem d_RL_init_34 : decode c_RL_init 34 = .ok (.iinc 1 1, 3) := by decide +kernel
theorem d_RL_init_37 : decode c_RL_init 37 = .ok (.goto (-22), 3) := by decide +kernel
theorem d_RL_init_40 : decode c_RL_init 40 = .ok (.aload_n 0, 1) := by decide +kernel
theorem d_RL_init_41 : decode c_RL_init 41 = .ok (.iconst 0, 1) := by decide +kernel
theorem d_RL_init_42 : decode c_RL_init 42 = .ok (.putfield 18, 3) := by decide +kernel
theorem d_RL_init_45 : decode c_RL_init 45 = .ok (.return_, 1) := by decide +kernel
theorem d_Di_init_0 : decode c_Di_init 0 = .ok (.aload_n 0, 1) := by decide +kernel
theorem d_Di_init_1 : decode c_Di_init 1 = .ok (.invokespecial 3, 3) := by decide +kernel
theorem d_Di_init_4 : decode c_Di_init 4 = .ok (.aload_n 0, 1) := by decide +kernel
theorem d_Di_init_5 : decode c_Di_init 5 = .ok (.aload_n 1, 1) := by decide +kernel
theorem d_Di_init_6 : decode c_Di_init 6 = .ok (.putfield 9, 3) := by decide +kernel
theorem d_Di_init_9 : decode c_Di_init 9 = .ok (.aload_n 0, 1) := by decide +kernel
theorem d_Di_init_10 : decode c_Di_init 10 = .ok (.iconst 4, 1) := by decide +kernel
theorem d_Di_init_11 : decode c_Di_init 11 = .ok (.anewarray 15, 3) := by decide +kernel
theorem d_Di_init_14 : decode c_Di_init 14 = .ok (.putfield 17, 3) := by decide +kernel
theorem d_Di_init_17 : decode c_Di_init 17 = .ok (.iconst 0, 1) := by decide +kernel
theorem d_Di_init_18 : decode c_Di_init 18 = .ok (.istore_n 2, 1) := by decide +kernel
theorem d_Di_init_19 : decode c_Di_init 19 = .ok (.iload_n 2, 1) := by decide +kernel
theorem d_Di_init_20 : decode c_Di_init 20 = .ok (.iconst 4, 1) := by decide +kernel
theorem d_Di_init_21 : decode c_Di_init 21 = .ok (.if_icmp .ge 25, 3) := by decide +kernel
theorem d_Di_init_24 : decode c_Di_init 24 = .ok (.aload_n 0, 1) := by decide +kernel
theorem d_Di_init_25 : decode c_Di_init 25 = .ok (.getfield 17, 3) := by decide +kernel
theorem d_Di_init_28 : decode c_Di_init 28 = .ok (.iload_n 2, 1) := by decide +kernel
theorem d_Di_init_29 : decode c_Di_init 29 = .ok (.new 15, 3) := by decide +kernel
theorem d_Di_init_32 : decode c_Di_init 32 = .ok (.dup, 1) := by decide +kernel
theorem d_Di_init_33 : decode c_Di_init 33 = .ok (.iload_n 2, 1) := by decide +kernel
theorem d_Di_init_34 : decode c_Di_init 34 = .ok (.bipush 8, 2) := by decide +kernel
theorem d_Di_init_36 : decode c_Di_init 36 = .ok (.invokespecial 21, 3) := by decide +kernel
theorem d_Di_init_39 : decode c_Di_init 39 = .ok (.aastore, 1) := by decide +kernel
theorem d_Di_init_40 : decode c_Di_init 40 = .ok (.iinc 2 1, 3) := by decide +kernel
theorem d_Di_init_43 : decode c_Di_init 43 = .ok (.goto (-24), 3) := by decide +kernel
theorem d_Di_init_46 : decode c_Di_init 46 = .ok (.aload_n 0, 1) := by decide +kernel
theorem d_Di_init_47 : decode c_Di_init 47 = .ok (.iconst 5, 1) := by decide +kernel
theorem d_Di_init_48 : decode c_Di_init 48 = .ok (.sipush 256, 3) := by decide +kernel
theorem d_Di_init_51 : decode c_Di_init 51 = .ok (.multianewarray 24 2, 4) := by decide +kernel
theorem d_Di_init_55 : decode c_Di_init 55 = .ok (.putfield 26, 3) := by decide +kernel
theorem d_Di_init_58 : decode c_Di_init 58 = .ok (.aload_n 0, 1) := by decide +kernel
theorem d_Di_init_59 : decode c_Di_init 59 = .ok (.iconst 5, 1) := by decide +kernel
theorem d_Di_init_60 : decode c_Di_init 60 = .ok (.sipush 256, 3) := by decide +kernel
theorem d_Di_init_63 : decode c_Di_init 63 = .ok (.multianewarray 24 2, 4) := by decide +kernel
theorem d_Di_init_67 : decode c_Di_init 67 = .ok (.putfield 29, 3) := by decide +kernel
theorem d_Di_init_70 : decode c_Di_init 70 = .ok (.aload_n 0, 1) := by decide +kernel
theorem d_Di_init_71 : decode c_Di_init 71 = .ok (.iconst 1, 1) := by decide +kernel
theorem d_Di_init_72 : decode c_Di_init 72 = .ok (.putfield 32, 3) := by decide +kernel
theorem d_Di_init_75 : decode c_Di_init 75 = .ok (.return_, 1) := by decide +kernel
theorem d_Cu_init_0 : decode c_Cu_init 0 = .ok (.aload_n 0, 1) := by decide +kernel
theorem d_Cu_init_1 : decode c_Cu_init 1 = .ok (.invokespecial 1, 3) := by decide +kernel
theorem d_Cu_init_4 : decode c_Cu_init 4 = .ok (.aload_n 0, 1) := by decide +kernel
theorem d_Cu_init_5 : decode c_Cu_init 5 = .ok (.iload_n 1, 1) := by decide +kernel
theorem d_Cu_init_6 : decode c_Cu_init 6 = .ok (.putfield 7, 3) := by decide +kernel
theorem d_Cu_init_9 : decode c_Cu_init 9 = .ok (.aload_n 0, 1) := by decide +kernel
theorem d_Cu_init_10 : decode c_Cu_init 10 = .ok (.iconst 1, 1) := by decide +kernel
theorem d_Cu_init_11 : decode c_Cu_init 11 = .ok (.iconst 2, 1) := by decide +kernel
theorem d_Cu_init_12 : decode c_Cu_init 12 = .ok (.iload_n 2, 1) := by decide +kernel
theorem d_Cu_init_13 : decode c_Cu_init 13 = .ok (.imul, 1) := by decide +kernel
theorem d_Cu_init_14 : decode c_Cu_init 14 = .ok (.iadd, 1) := by decide +kernel
theorem d_Cu_init_15 : decode c_Cu_init 15 = .ok (.newarray .int, 2) := by decide +kernel
theorem d_Cu_init_17 : decode c_Cu_init 17 = .ok (.putfield 13, 3) := by decide +kernel
theorem d_Cu_init_20 : decode c_Cu_init 20 = .ok (.aload_n 0, 1) := by decide +kernel
theorem d_Cu_init_21 : decode c_Cu_init 21 = .ok (.iconst 1, 1) := by decide +kernel
theorem d_Cu_init_22 : decode c_Cu_init 22 = .ok (.iconst 2, 1) := by decide +kernel
theorem d_Cu_init_23 : decode c_Cu_init 23 = .ok (.iload_n 2, 1) := by decide +kernel
theorem d_Cu_init_24 : decode c_Cu_init 24 = .ok (.imul, 1) := by decide +kernel
theorem d_Cu_init_25 : decode c_Cu_init 25 = .ok (.iadd, 1) := by decide +kernel
theorem d_Cu_init_26 : decode c_Cu_init 26 = .ok (.newarray .int, 2) := by decide +kernel
theorem d_Cu_init_28 : decode c_Cu_init 28 = .ok (.putfield 17, 3) := by decide +kernel
theorem d_Cu_init_31 : decode c_Cu_init 31 = .ok (.aload_n 0, 1) := by decide +kernel
theorem d_Cu_init_32 : decode c_Cu_init 32 = .ok (.iconst 1, 1) := by decide +kernel
theorem d_Cu_init_33 : decode c_Cu_init 33 = .ok (.putfield 20, 3) := by decide +kernel
theorem d_Cu_init_36 : decode c_Cu_init 36 = .ok (.return_, 1) := by decide +kernel
theorem d_Co_init_0 : decode c_Co_init 0 = .ok (.aload_n 0, 1) := by decide +kernel
theorem d_Co_init_1 : decode c_Co_init 1 = .ok (.invokespecial 3, 3) := by decide +kernel
theorem d_Co_init_4 : decode c_Co_init 4 = .ok (.aload_n 0, 1) := by decide +kernel
theorem d_Co_init_5 : decode c_Co_init 5 = .ok (.aload_n 1, 1) := by decide +kernel
theorem d_Co_init_6 : decode c_Co_init 6 = .ok (.putfield 9, 3) := by decide +kernel
theorem d_Co_init_9 : decode c_Co_init 9 = .ok (.aload_n 0, 1) := by decide +kernel
theorem d_Co_init_10 : decode c_Co_init 10 = .ok (.aload_n 2, 1) := by decide +kernel
theorem d_Co_init_11 : decode c_Co_init 11 = .ok (.putfield 15, 3) := by decide +kernel
theorem d_Co_init_14 : decode c_Co_init 14 = .ok (.aload_n 0, 1) := by decide +kernel
theorem d_Co_init_15 : decode c_Co_init 15 = .ok (.iconst 4, 1) := by decide +kernel
theorem d_Co_init_16 : decode c_Co_init 16 = .ok (.anewarray 18, 3) := by decide +kernel
theorem d_Co_init_19 : decode c_Co_init 19 = .ok (.putfield 20, 3) := by decide +kernel
theorem d_Co_init_22 : decode c_Co_init 22 = .ok (.iconst 0, 1) := by decide +kernel
theorem d_Co_init_23 : decode c_Co_init 23 = .ok (.istore_n 3, 1) := by decide +kernel
theorem d_Co_init_24 : decode c_Co_init 24 = .ok (.iload_n 3, 1) := by decide +kernel
theorem d_Co_init_25 : decode c_Co_init 25 = .ok (.iconst 4, 1) := by decide +kernel
theorem d_Co_init_26 : decode c_Co_init 26 = .ok (.if_icmp .ge 25, 3) := by decide +kernel
theorem d_Co_init_29 : decode c_Co_init 29 = .ok (.aload_n 0, 1) := by decide +kernel
theorem d_Co_init_30 : decode c_Co_init 30 = .ok (.getfield 20, 3) := by decide +kernel
theorem d_Co_init_33 : decode c_Co_init 33 = .ok (.iload_n 3, 1) := by decide +kernel
theorem d_Co_init_34 : decode c_Co_init 34 = .ok (.new 18, 3) := by decide +kernel
theorem d_Co_init_37 : decode c_Co_init 37 = .ok (.dup, 1) := by decide +kernel
theorem d_Co_init_38 : decode c_Co_init 38 = .ok (.iload_n 3, 1) := by decide +kernel
theorem d_Co_init_39 : decode c_Co_init 39 = .ok (.bipush 16, 2) := by decide +kernel
theorem d_Co_init_41 : decode c_Co_init 41 = .ok (.invokespecial 24, 3) := by decide +kernel
theorem d_Co_init_44 : decode c_Co_init 44 = .ok (.aastore, 1) := by decide +kernel
theorem d_Co_init_45 : decode c_Co_init 45 = .ok (.iinc 3 1, 3) := by decide +kernel
theorem d_Co_init_48 : decode c_Co_init 48 = .ok (.goto (-24), 3) := by decide +kernel
theorem d_Co_init_51 : decode c_Co_init 51 = .ok (.return_, 1) := by decide +kernel
theorem d_Ga_init_0 : decode c_Ga_init 0 = .ok (.aload_n 0, 1) := by decide +kernel
theorem d_Ga_init_1 : decode c_Ga_init 1 = .ok (.invokespecial 3, 3) := by decide +kernel
theorem d_Ga_init_4 : decode c_Ga_init 4 = .ok (.aload_n 0, 1) := by decide +kernel
theorem d_Ga_init_5 : decode c_Ga_init 5 = .ok (.iconst 4, 1) := by decide +kernel
theorem d_Ga_init_6 : decode c_Ga_init 6 = .ok (.newarray .int, 2) := by decide +kernel
theorem d_Ga_init_8 : decode c_Ga_init 8 = .ok (.putfield 9, 3) := by decide +kernel
theorem d_Ga_init_11 : decode c_Ga_init 11 = .ok (.aload_n 0, 1) := by decide +kernel
theorem d_Ga_init_12 : decode c_Ga_init 12 = .ok (.iconst 0, 1) := by decide +kernel
theorem d_Ga_init_13 : decode c_Ga_init 13 = .ok (.putfield 15, 3) := by decide +kernel
theorem d_Ga_init_16 : decode c_Ga_init 16 = .ok (.return_, 1) := by decide +kernel
theorem d_Co_compile_0 : decode c_Co_compile 0 = .ok (.iconst 0, 1) := by decide +kernel
theorem d_Co_compile_1 : decode c_Co_compile 1 = .ok (.istore_n 1, 1) := by decide +kernel
theorem d_Co_compile_2 : decode c_Co_compile 2 = .ok (.iload_n 1, 1) := by decide +kernel
theorem d_Co_compile_3 : decode c_Co_compile 3 = .ok (.iconst 4, 1) := by decide +kernel
theorem d_Co_compile_4 : decode c_Co_compile 4 = .ok (.if_icmp .ge 73, 3) := by decide +kernel
theorem d_Co_compile_7 : decode c_Co_compile 7 = .ok (.aload_n 0, 1) := by decide +kernel
theorem d_Co_compile_8 : decode c_Co_compile 8 = .ok (.getfield 20, 3) := by decide +kernel
theorem d_Co_compile_11 : decode c_Co_compile 11 = .ok (.iload_n 1, 1) := by decide +kernel
theorem d_Co_compile_12 : decode c_Co_compile 12 = .ok (.aaload, 1) := by decide +kernel
theorem d_Co_compile_13 : decode c_Co_compile 13 = .ok (.invokevirtual 27, 3) := by decide +kernel
theorem d_Co_compile_16 : decode c_Co_compile 16 = .ok (.aload_n 0, 1) := by decide +kernel
theorem d_Co_compile_17 : decode c_Co_compile 17 = .ok (.getfield 20, 3) := by decide +kernel
theorem d_Co_compile_20 : decode c_Co_compile 20 = .ok (.iload_n 1, 1) := by decide +kernel
theorem d_Co_compile_21 : decode c_Co_compile 21 = .ok (.aaload, 1) := by decide +kernel
theorem d_Co_compile_22 : decode c_Co_compile 22 = .ok (.aload_n 0, 1) := by decide +kernel
theorem d_Co_compile_23 : decode c_Co_compile 23 = .ok (.getfield 9, 3) := by decide +kernel
theorem d_Co_compile_26 : decode c_Co_compile 26 = .ok (.invokevirtual 30, 3) := by decide +kernel
theorem d_Co_compile_29 : decode c_Co_compile 29 = .ok (.aload_n 0, 1) := by decide +kernel
theorem d_Co_compile_30 : decode c_Co_compile 30 = .ok (.getfield 20, 3) := by decide +kernel
theorem d_Co_compile_33 : decode c_Co_compile 33 = .ok (.iload_n 1, 1) := by decide +kernel
theorem d_Co_compile_34 : decode c_Co_compile 34 = .ok (.aaload, 1) := by decide +kernel
theorem d_Co_compile_35 : decode c_Co_compile 35 = .ok (.aload_n 0, 1) := by decide +kernel
theorem d_Co_compile_36 : decode c_Co_compile 36 = .ok (.getfield 15, 3) := by decide +kernel
theorem d_Co_compile_39 : decode c_Co_compile 39 = .ok (.invokevirtual 30, 3) := by decide +kernel
theorem d_Co_compile_42 : decode c_Co_compile 42 = .ok (.aload_n 0, 1) := by decide +kernel
theorem d_Co_compile_43 : decode c_Co_compile 43 = .ok (.getfield 20, 3) := by decide +kernel
theorem d_Co_compile_46 : decode c_Co_compile 46 = .ok (.iload_n 1, 1) := by decide +kernel
theorem d_Co_compile_47 : decode c_Co_compile 47 = .ok (.aaload, 1) := by decide +kernel
theorem d_Co_compile_48 : decode c_Co_compile 48 = .ok (.aload_n 0, 1) := by decide +kernel
theorem d_Co_compile_49 : decode c_Co_compile 49 = .ok (.getfield 9, 3) := by decide +kernel
theorem d_Co_compile_52 : decode c_Co_compile 52 = .ok (.iconst 0, 1) := by decide +kernel
theorem d_Co_compile_53 : decode c_Co_compile 53 = .ok (.invokevirtual 34, 3) := by decide +kernel
theorem d_Co_compile_56 : decode c_Co_compile 56 = .ok (.aload_n 0, 1) := by decide +kernel
theorem d_Co_compile_57 : decode c_Co_compile 57 = .ok (.getfield 20, 3) := by decide +kernel
theorem d_Co_compile_60 : decode c_Co_compile 60 = .ok (.iload_n 1, 1) := by decide +kernel
theorem d_Co_compile_61 : decode c_Co_compile 61 = .ok (.aaload, 1) := by decide +kernel
theorem d_Co_compile_62 : decode c_Co_compile 62 = .ok (.aload_n 0, 1) := by decide +kernel
theorem d_Co_compile_63 : decode c_Co_compile 63 = .ok (.getfield 15, 3) := by decide +kernel
theorem d_Co_compile_66 : decode c_Co_compile 66 = .ok (.bipush 8, 2) := by decide +kernel
theorem d_Co_compile_68 : decode c_Co_compile 68 = .ok (.invokevirtual 34, 3) := by decide +kernel
theorem d_Co_compile_71 : decode c_Co_compile 71 = .ok (.iinc 1 1, 3) := by decide +kernel
theorem d_Co_compile_74 : decode c_Co_compile 74 = .ok (.goto (-72), 3) := by decide +kernel
theorem d_Co_compile_77 : decode c_Co_compile 77 = .ok (.return_, 1) := by decide +kernel
theorem d_Cu_clear_0 : decode c_Cu_clear 0 = .ok (.aload_n 0, 1) := by decide +kernel
theorem d_Cu_clear_1 : decode c_Cu_clear 1 = .ok (.iconst 1, 1) := by decide +kernel
theorem d_Cu_clear_2 : decode c_Cu_clear 2 = .ok (.putfield 20, 3) := by decide +kernel
theorem d_Cu_clear_5 : decode c_Cu_clear 5 = .ok (.aload_n 0, 1) := by decide +kernel
theorem d_Cu_clear_6 : decode c_Cu_clear 6 = .ok (.getfield 17, 3) := by decide +kernel
theorem d_Cu_clear_9 : decode c_Cu_clear 9 = .ok (.iconst 0, 1) := by decide +kernel
theorem d_Cu_clear_10 : decode c_Cu_clear 10 = .ok (.invokestatic 23, 3) := by decide +kernel
theorem d_Cu_clear_13 : decode c_Cu_clear 13 = .ok (.return_, 1) := by decide +kernel
theorem d_Cu_cutBy_0 : decode c_Cu_cutBy 0 = .ok (.iconst 0, 1) := by decide +kernel
theorem d_Cu_cutBy_1 : decode c_Cu_cutBy 1 = .ok (.istore_n 2, 1) := by decide +kernel
theorem d_Cu_cutBy_2 : decode c_Cu_cutBy 2 = .ok (.iload_n 2, 1) := by decide +kernel
theorem d_Cu_cutBy_3 : decode c_Cu_cutBy 3 = .ok (.aload_n 1, 1) := by decide +kernel
theorem d_Cu_cutBy_4 : decode c_Cu_cutBy 4 = .ok (.invokevirtual 29, 3) := by decide +kernel
theorem d_Cu_cutBy_7 : decode c_Cu_cutBy 7 = .ok (.if_icmp .ge 41, 3) := by decide +kernel
theorem d_Cu_cutBy_10 : decode c_Cu_cutBy 10 = .ok (.aload_n 0, 1) := by decide +kernel
theorem d_Cu_cutBy_11 : decode c_Cu_cutBy 11 = .ok (.aload_n 1, 1) := by decide +kernel
theorem d_Cu_cutBy_12 : decode c_Cu_cutBy 12 = .ok (.iload_n 2, 1) := by decide +kernel
theorem d_Cu_cutBy_13 : decode c_Cu_cutBy 13 = .ok (.invokevirtual 34, 3) := by decide +kernel
theorem d_Cu_cutBy_16 : decode c_Cu_cutBy 16 = .ok (.aload_n 0, 1) := by decide +kernel
theorem d_Cu_cutBy_17 : decode c_Cu_cutBy 17 = .ok (.getfield 7, 3) := by decide +kernel
theorem d_Cu_cutBy_20 : decode c_Cu_cutBy 20 = .ok (.invokevirtual 38, 3) := by decide +kernel
theorem d_Cu_cutBy_23 : decode c_Cu_cutBy 23 = .ok (.invokevirtual 44, 3) := by decide +kernel
theorem d_Cu_cutBy_26 : decode c_Cu_cutBy 26 = .ok (.aload_n 0, 1) := by decide +kernel
theorem d_Cu_cutBy_27 : decode c_Cu_cutBy 27 = .ok (.aload_n 1, 1) := by decide +kernel
theorem d_Cu_cutBy_28 : decode c_Cu_cutBy 28 = .ok (.iload_n 2, 1) := by decide +kernel
theorem d_Cu_cutBy_29 : decode c_Cu_cutBy 29 = .ok (.invokevirtual 34, 3) := by decide +kernel
theorem d_Cu_cutBy_32 : decode c_Cu_cutBy 32 = .ok (.aload_n 0, 1) := by decide +kernel
theorem d_Cu_cutBy_33 : decode c_Cu_cutBy 33 = .ok (.getfield 7, 3) := by decide +kernel
theorem d_Cu_cutBy_36 : decode c_Cu_cutBy 36 = .ok (.invokevirtual 48, 3) := by decide +kernel
theorem d_Cu_cutBy_39 : decode c_Cu_cutBy 39 = .ok (.invokevirtual 44, 3) := by decide +kernel
theorem d_Cu_cutBy_42 : decode c_Cu_cutBy 42 = .ok (.iinc 2 1, 3) := by decide +kernel
theorem d_Cu_cutBy_45 : decode c_Cu_cutBy 45 = .ok (.goto (-43), 3) := by decide +kernel
theorem d_Cu_cutBy_48 : decode c_Cu_cutBy 48 = .ok (.return_, 1) := by decide +kernel
theorem d_RL_size_0 : decode c_RL_size 0 = .ok (.aload_n 0, 1) := by decide +kernel
theorem d_RL_size_1 : decode c_RL_size 1 = .ok (.getfield 18, 3) := by decide +kernel
theorem d_RL_size_4 : decode c_RL_size 4 = .ok (.ireturn, 1) := by decide +kernel
theorem d_RL_at_0 : decode c_RL_at 0 = .ok (.aload_n 0, 1) := by decide +kernel
theorem d_RL_at_1 : decode c_RL_at 1 = .ok (.getfield 11, 3) := by decide +kernel
theorem d_RL_at_4 : decode c_RL_at 4 = .ok (.iload_n 1, 1) := by decide +kernel
theorem d_RL_at_5 : decode c_RL_at 5 = .ok (.aaload, 1) := by decide +kernel
theorem d_RL_at_6 : decode c_RL_at 6 = .ok (.areturn, 1) := by decide +kernel
theorem d_Cu_startRow_0 : decode c_Cu_startRow 0 = .ok (.iconst 0, 1) := by decide +kernel
theorem d_Cu_startRow_1 : decode c_Cu_startRow 1 = .ok (.istore_n 2, 1) := by decide +kernel
theorem d_Cu_startRow_2 : decode c_Cu_startRow 2 = .ok (.iload_n 2, 1) := by decide +kernel
theorem d_Cu_startRow_3 : decode c_Cu_startRow 3 = .ok (.aload_n 0, 1) := by decide +kernel
theorem d_Cu_startRow_4 : decode c_Cu_startRow 4 = .ok (.getfield 20, 3) := by decide +kernel
theorem d_Cu_startRow_7 : decode c_Cu_startRow 7 = .ok (.if_icmp .ge 19, 3) := by decide +kernel
theorem d_Cu_startRow_10 : decode c_Cu_startRow 10 = .ok (.aload_n 0, 1) := by decide +kernel
theorem d_Cu_startRow_11 : decode c_Cu_startRow 11 = .ok (.getfield 13, 3) := by decide +kernel
theorem d_Cu_startRow_14 : decode c_Cu_startRow 14 = .ok (.iload_n 2, 1) := by decide +kernel
theorem d_Cu_startRow_15 : decode c_Cu_startRow 15 = .ok (.iaload, 1) := by decide +kernel
theorem d_Cu_startRow_16 : decode c_Cu_startRow 16 = .ok (.iload_n 1, 1) := by decide +kernel
theorem d_Cu_startRow_17 : decode c_Cu_startRow 17 = .ok (.if_icmp .ge 9, 3) := by decide +kernel
theorem d_Cu_startRow_20 : decode c_Cu_startRow 20 = .ok (.iinc 2 1, 3) := by decide +kernel
theorem d_Cu_startRow_23 : decode c_Cu_startRow 23 = .ok (.goto (-21), 3) := by decide +kernel
theorem d_Cu_startRow_26 : decode c_Cu_startRow 26 = .ok (.iload_n 2, 1) := by decide +kernel
theorem d_Cu_startRow_27 : decode c_Cu_startRow 27 = .ok (.aload_n 0, 1) := by decide +kernel
theorem d_Cu_startRow_28 : decode c_Cu_startRow 28 = .ok (.getfield 20, 3) := by decide +kernel
theorem d_Cu_startRow_31 : decode c_Cu_startRow 31 = .ok (.if_icmp .ge 17, 3) := by decide +kernel
theorem d_Cu_startRow_34 : decode c_Cu_startRow 34 = .ok (.aload_n 0, 1) := by decide +kernel
theorem d_Cu_startRow_35 : decode c_Cu_startRow 35 = .ok (.getfield 13, 3) := by decide +kernel
theorem d_Cu_startRow_38 : decode c_Cu_startRow 38 = .ok (.iload_n 2, 1) := by decide +kernel
theorem d_Cu_startRow_39 : decode c_Cu_startRow 39 = .ok (.iaload, 1) := by decide +kernel
theorem d_Cu_startRow_40 : decode c_Cu_startRow 40 = .ok (.iload_n 1, 1) := by decide +kernel
theorem d_Cu_startRow_41 : decode c_Cu_startRow 41 = .ok (.if_icmp .ne 7, 3) := by decide +kernel
theorem d_Cu_startRow_44 : decode c_Cu_startRow 44 = .ok (.iconst 1, 1) := by decide +kernel
theorem d_Cu_startRow_45 : decode c_Cu_startRow 45 = .ok (.goto 4, 3) := by decide +kernel
theorem d_Cu_startRow_48 : decode c_Cu_startRow 48 = .ok (.iconst 0, 1) := by decide +kernel
theorem d_Cu_startRow_49 : decode c_Cu_startRow 49 = .ok (.istore_n 3, 1) := by decide +kernel
theorem d_Cu_startRow_50 : decode c_Cu_startRow 50 = .ok (.iload_n 3, 1) := by decide +kernel
theorem d_Cu_startRow_51 : decode c_Cu_startRow 51 = .ok (.ifCond .ne 26, 3) := by decide +kernel
theorem d_Cu_startRow_54 : decode c_Cu_startRow 54 = .ok (.iload_n 1, 1) := by decide +kernel
theorem d_Cu_startRow_55 : decode c_Cu_startRow 55 = .ok (.aload_n 0, 1) := by decide +kernel
theorem d_Cu_startRow_56 : decode c_Cu_startRow 56 = .ok (.getfield 7, 3) := by decide +kernel
theorem d_Cu_startRow_59 : decode c_Cu_startRow 59 = .ok (.invokestatic 55, 3) := by decide +kernel
theorem d_Cu_startRow_62 : decode c_Cu_startRow 62 = .ok (.if_icmp .gt 15, 3) := by decide +kernel
theorem d_Cu_startRow_65 : decode c_Cu_startRow 65 = .ok (.aload_n 0, 1) := by decide +kernel
theorem d_Cu_startRow_66 : decode c_Cu_startRow 66 = .ok (.getfield 20, 3) := by decide +kernel
theorem d_Cu_startRow_69 : decode c_Cu_startRow 69 = .ok (.aload_n 0, 1) := by decide +kernel
theorem d_Cu_startRow_70 : decode c_Cu_startRow 70 = .ok (.getfield 13, 3) := by decide +kernel
theorem d_Cu_startRow_73 : decode c_Cu_startRow 73 = .ok (.arraylength, 1) := by decide +kernel
theorem d_Cu_startRow_74 : decode c_Cu_startRow 74 = .ok (.if_icmp .lt 4, 3) := by decide +kernel
theorem d_Cu_startRow_77 : decode c_Cu_startRow 77 = .ok (.return_, 1) := by decide +kernel
theorem d_Cu_startRow_78 : decode c_Cu_startRow 78 = .ok (.aload_n 0, 1) := by decide +kernel
theorem d_Cu_startRow_79 : decode c_Cu_startRow 79 = .ok (.getfield 13, 3) := by decide +kernel
theorem d_Cu_startRow_82 : decode c_Cu_startRow 82 = .ok (.iload_n 2, 1) := by decide +kernel
theorem d_Cu_startRow_83 : decode c_Cu_startRow 83 = .ok (.aload_n 0, 1) := by decide +kernel
theorem d_Cu_startRow_84 : decode c_Cu_startRow 84 = .ok (.getfield 13, 3) := by decide +kernel
theorem d_Cu_startRow_87 : decode c_Cu_startRow 87 = .ok (.iload_n 2, 1) := by decide +kernel
theorem d_Cu_startRow_88 : decode c_Cu_startRow 88 = .ok (.iconst 1, 1) := by decide +kernel
theorem d_Cu_startRow_89 : decode c_Cu_startRow 89 = .ok (.iadd, 1) := by decide +kernel
theorem d_Cu_startRow_90 : decode c_Cu_startRow 90 = .ok (.aload_n 0, 1) := by decide +kernel
theorem d_Cu_startRow_91 : decode c_Cu_startRow 91 = .ok (.getfield 20, 3) := by decide +kernel
theorem d_Cu_startRow_94 : decode c_Cu_startRow 94 = .ok (.iload_n 2, 1) := by decide +kernel
theorem d_Cu_startRow_95 : decode c_Cu_startRow 95 = .ok (.isub, 1) := by decide +kernel
theorem d_Cu_startRow_96 : decode c_Cu_startRow 96 = .ok (.invokestatic 60, 3) := by decide +kernel
theorem d_Cu_startRow_99 : decode c_Cu_startRow 99 = .ok (.aload_n 0, 1) := by decide +kernel
theorem d_Cu_startRow_100 : decode c_Cu_startRow 100 = .ok (.getfield 13, 3) := by decide +kernel
theorem d_Cu_startRow_103 : decode c_Cu_startRow 103 = .ok (.iload_n 2, 1) := by decide +kernel
theorem d_Cu_startRow_104 : decode c_Cu_startRow 104 = .ok (.iload_n 1, 1) := by decide +kernel
theorem d_Cu_startRow_105 : decode c_Cu_startRow 105 = .ok (.iastore, 1) := by decide +kernel
theorem d_Cu_startRow_106 : decode c_Cu_startRow 106 = .ok (.aload_n 0, 1) := by decide +kernel
theorem d_Cu_startRow_107 : decode c_Cu_startRow 107 = .ok (.dup, 1) := by decide +kernel
theorem d_Cu_startRow_108 : decode c_Cu_startRow 108 = .ok (.getfield 20, 3) := by decide +kernel
theorem d_Cu_startRow_111 : decode c_Cu_startRow 111 = .ok (.iconst 1, 1) := by decide +kernel
theorem d_Cu_startRow_112 : decode c_Cu_startRow 112 = .ok (.iadd, 1) := by decide +kernel
theorem d_Cu_startRow_113 : decode c_Cu_startRow 113 = .ok (.putfield 20, 3) := by decide +kernel
theorem d_Cu_startRow_116 : decode c_Cu_startRow 116 = .ok (.return_, 1) := by decide +kernel
theorem d_Cu_mark_0 : decode c_Cu_mark 0 = .ok (.iconst 0, 1) := by decide +kernel
theorem d_Cu_mark_1 : decode c_Cu_mark 1 = .ok (.istore_n 3, 1) := by decide +kernel
theorem d_Cu_mark_2 : decode c_Cu_mark 2 = .ok (.iload_n 3, 1) := by decide +kernel
theorem d_Cu_mark_3 : decode c_Cu_mark 3 = .ok (.aload_n 0, 1) := by decide +kernel
theorem d_Cu_mark_4 : decode c_Cu_mark 4 = .ok (.getfield 20, 3) := by decide +kernel
theorem d_Cu_mark_7 : decode c_Cu_mark 7 = .ok (.if_icmp .ge 34, 3) := by decide +kernel
theorem d_Cu_mark_10 : decode c_Cu_mark 10 = .ok (.aload_n 0, 1) := by decide +kernel
theorem d_Cu_mark_11 : decode c_Cu_mark 11 = .ok (.getfield 17, 3) := by decide +kernel
theorem d_Cu_mark_14 : decode c_Cu_mark 14 = .ok (.iload_n 3, 1) := by decide +kernel
theorem d_Cu_mark_15 : decode c_Cu_mark 15 = .ok (.dup2, 1) := by decide +kernel
theorem d_Cu_mark_16 : decode c_Cu_mark 16 = .ok (.iaload, 1) := by decide +kernel
theorem d_Cu_mark_17 : decode c_Cu_mark 17 = .ok (.aload_n 1, 1) := by decide +kernel
theorem d_Cu_mark_18 : decode c_Cu_mark 18 = .ok (.aload_n 0, 1) := by decide +kernel
theorem d_Cu_mark_19 : decode c_Cu_mark 19 = .ok (.getfield 7, 3) := by decide +kernel
theorem d_Cu_mark_22 : decode c_Cu_mark 22 = .ok (.aload_n 0, 1) := by decide +kernel
theorem d_Cu_mark_23 : decode c_Cu_mark 23 = .ok (.getfield 13, 3) := by decide +kernel
theorem d_Cu_mark_26 : decode c_Cu_mark 26 = .ok (.iload_n 3, 1) := by decide +kernel
theorem d_Cu_mark_27 : decode c_Cu_mark 27 = .ok (.iaload, 1) := by decide +kernel
theorem d_Cu_mark_28 : decode c_Cu_mark 28 = .ok (.invokevirtual 51, 3) := by decide +kernel
theorem d_Cu_mark_31 : decode c_Cu_mark 31 = .ok (.iload_n 2, 1) := by decide +kernel
theorem d_Cu_mark_32 : decode c_Cu_mark 32 = .ok (.ishl, 1) := by decide +kernel
theorem d_Cu_mark_33 : decode c_Cu_mark 33 = .ok (.ior, 1) := by decide +kernel
theorem d_Cu_mark_34 : decode c_Cu_mark 34 = .ok (.iastore, 1) := by decide +kernel
theorem d_Cu_mark_35 : decode c_Cu_mark 35 = .ok (.iinc 3 1, 3) := by decide +kernel
theorem d_Cu_mark_38 : decode c_Cu_mark 38 = .ok (.goto (-36), 3) := by decide +kernel
theorem d_Cu_mark_41 : decode c_Cu_mark 41 = .ok (.return_, 1) := by decide +kernel
theorem d_RL_agreeing_0 : decode c_RL_agreeing 0 = .ok (.iconst 0, 1) := by decide +kernel
theorem d_RL_agreeing_1 : decode c_RL_agreeing 1 = .ok (.istore_n 3, 1) := by decide +kernel
theorem d_RL_agreeing_2 : decode c_RL_agreeing 2 = .ok (.iconst 0, 1) := by decide +kernel
theorem d_RL_agreeing_3 : decode c_RL_agreeing 3 = .ok (.istore 4, 2) := by decide +kernel
theorem d_RL_agreeing_5 : decode c_RL_agreeing 5 = .ok (.iload 4, 2) := by decide +kernel
theorem d_RL_agreeing_7 : decode c_RL_agreeing 7 = .ok (.aload_n 0, 1) := by decide +kernel
theorem d_RL_agreeing_8 : decode c_RL_agreeing 8 = .ok (.getfield 18, 3) := by decide +kernel
theorem d_RL_agreeing_11 : decode c_RL_agreeing 11 = .ok (.if_icmp .ge 31, 3) := by decide +kernel
theorem d_RL_agreeing_14 : decode c_RL_agreeing 14 = .ok (.aload_n 0, 1) := by decide +kernel
theorem d_RL_agreeing_15 : decode c_RL_agreeing 15 = .ok (.getfield 11, 3) := by decide +kernel
theorem d_RL_agreeing_18 : decode c_RL_agreeing 18 = .ok (.iload 4, 2) := by decide +kernel
theorem d_RL_agreeing_20 : decode c_RL_agreeing 20 = .ok (.aaload, 1) := by decide +kernel
theorem d_RL_agreeing_21 : decode c_RL_agreeing 21 = .ok (.iload_n 1, 1) := by decide +kernel
theorem d_RL_agreeing_22 : decode c_RL_agreeing 22 = .ok (.iload_n 2, 1) := by decide +kernel
theorem d_RL_agreeing_23 : decode c_RL_agreeing 23 = .ok (.invokevirtual 45, 3) := by decide +kernel
theorem d_RL_agreeing_26 : decode c_RL_agreeing 26 = .ok (.ifCond .eq 10, 3) := by decide +kernel
theorem d_RL_agreeing_29 : decode c_RL_agreeing 29 = .ok (.iload_n 3, 1) := by decide +kernel
theorem d_RL_agreeing_30 : decode c_RL_agreeing 30 = .ok (.iconst 1, 1) := by decide +kernel
theorem d_RL_agreeing_31 : decode c_RL_agreeing 31 = .ok (.iload 4, 2) := by decide +kernel
theorem d_RL_agreeing_33 : decode c_RL_agreeing 33 = .ok (.ishl, 1) := by decide +kernel
theorem d_RL_agreeing_34 : decode c_RL_agreeing 34 = .ok (.ior, 1) := by decide +kernel
theorem d_RL_agreeing_35 : decode c_RL_agreeing 35 = .ok (.istore_n 3, 1) := by decide +kernel
theorem d_RL_agreeing_36 : decode c_RL_agreeing 36 = .ok (.iinc 4 1, 3) := by decide +kernel
theorem d_RL_agreeing_39 : decode c_RL_agreeing 39 = .ok (.goto (-34), 3) := by decide +kernel
theorem d_RL_agreeing_42 : decode c_RL_agreeing 42 = .ok (.iload_n 3, 1) := by decide +kernel
theorem d_RL_agreeing_43 : decode c_RL_agreeing 43 = .ok (.ireturn, 1) := by decide +kernel
theorem d_Co_unlikePackets_0 : decode c_Co_unlikePackets 0 = .ok (.aload_n 0, 1) := by decide +kernel
theorem d_Co_unlikePackets_1 : decode c_Co_unlikePackets 1 = .ok (.iconst 0, 1) := by decide +kernel
theorem d_Co_unlikePackets_2 : decode c_Co_unlikePackets 2 = .ok (.invokestatic 38, 3) := by decide +kernel
theorem d_Co_unlikePackets_5 : decode c_Co_unlikePackets 5 = .ok (.invokestatic 42, 3) := by decide +kernel
theorem d_Co_unlikePackets_8 : decode c_Co_unlikePackets 8 = .ok (.ireturn, 1) := by decide +kernel
theorem d_Co_everyRule_0 : decode c_Co_everyRule 0 = .ok (.ldc 76, 2) := by decide +kernel
theorem d_Co_everyRule_2 : decode c_Co_everyRule 2 = .ok (.ireturn, 1) := by decide +kernel
theorem d_Co_unlikeFrom_0 : decode c_Co_unlikeFrom 0 = .ok (.iload_n 2, 1) := by decide +kernel
theorem d_Co_unlikeFrom_1 : decode c_Co_unlikeFrom 1 = .ok (.ifCond .ne 5, 3) := by decide +kernel
theorem d_Co_unlikeFrom_4 : decode c_Co_unlikeFrom 4 = .ok (.iconst 0, 1) := by decide +kernel
theorem d_Co_unlikeFrom_5 : decode c_Co_unlikeFrom 5 = .ok (.ireturn, 1) := by decide +kernel
theorem d_Co_unlikeFrom_6 : decode c_Co_unlikeFrom 6 = .ok (.iload_n 1, 1) := by decide +kernel
theorem d_Co_unlikeFrom_7 : decode c_Co_unlikeFrom 7 = .ok (.iconst 4, 1) := by decide +kernel
theorem d_Co_unlikeFrom_8 : decode c_Co_unlikeFrom 8 = .ok (.if_icmp .lt 17, 3) := by decide +kernel
theorem d_Co_unlikeFrom_11 : decode c_Co_unlikeFrom 11 = .ok (.aload_n 0, 1) := by decide +kernel
theorem d_Co_unlikeFrom_12 : decode c_Co_unlikeFrom 12 = .ok (.iload_n 2, 1) := by decide +kernel
theorem d_Co_unlikeFrom_13 : decode c_Co_unlikeFrom 13 = .ok (.invokevirtual 64, 3) := by decide +kernel
theorem d_Co_unlikeFrom_16 : decode c_Co_unlikeFrom 16 = .ok (.ifCond .eq 7, 3) := by decide +kernel
theorem d_Co_unlikeFrom_19 : decode c_Co_unlikeFrom 19 = .ok (.iconst 1, 1) := by decide +kernel
theorem d_Co_unlikeFrom_20 : decode c_Co_unlikeFrom 20 = .ok (.goto 4, 3) := by decide +kernel
theorem d_Co_unlikeFrom_23 : decode c_Co_unlikeFrom 23 = .ok (.iconst 0, 1) := by decide +kernel
theorem d_Co_unlikeFrom_24 : decode c_Co_unlikeFrom 24 = .ok (.ireturn, 1) := by decide +kernel
theorem d_Co_unlikeFrom_25 : decode c_Co_unlikeFrom 25 = .ok (.aload_n 0, 1) := by decide +kernel
theorem d_Co_unlikeFrom_26 : decode c_Co_unlikeFrom 26 = .ok (.getfield 20, 3) := by decide +kernel
theorem d_Co_unlikeFrom_29 : decode c_Co_unlikeFrom 29 = .ok (.iload_n 1, 1) := by decide +kernel
theorem d_Co_unlikeFrom_30 : decode c_Co_unlikeFrom 30 = .ok (.aaload, 1) := by decide +kernel
theorem d_Co_unlikeFrom_31 : decode c_Co_unlikeFrom 31 = .ok (.astore_n 3, 1) := by decide +kernel
theorem d_Co_unlikeFrom_32 : decode c_Co_unlikeFrom 32 = .ok (.iconst 0, 1) := by decide +kernel
theorem d_Co_unlikeFrom_33 : decode c_Co_unlikeFrom 33 = .ok (.istore 4, 2) := by decide +kernel
theorem d_Co_unlikeFrom_35 : decode c_Co_unlikeFrom 35 = .ok (.iconst 0, 1) := by decide +kernel
theorem d_Co_unlikeFrom_36 : decode c_Co_unlikeFrom 36 = .ok (.istore 5, 2) := by decide +kernel
theorem d_Co_unlikeFrom_38 : decode c_Co_unlikeFrom 38 = .ok (.iconst 0, 1) := by decide +kernel
theorem d_Co_unlikeFrom_39 : decode c_Co_unlikeFrom 39 = .ok (.istore 6, 2) := by decide +kernel
theorem d_Co_unlikeFrom_41 : decode c_Co_unlikeFrom 41 = .ok (.iconst 0, 1) := by decide +kernel
theorem d_Co_unlikeFrom_42 : decode c_Co_unlikeFrom 42 = .ok (.istore 7, 2) := by decide +kernel
theorem d_Co_unlikeFrom_44 : decode c_Co_unlikeFrom 44 = .ok (.iload 7, 2) := by decide +kernel
theorem d_Co_unlikeFrom_46 : decode c_Co_unlikeFrom 46 = .ok (.aload_n 3, 1) := by decide +kernel
theorem d_Co_unlikeFrom_47 : decode c_Co_unlikeFrom 47 = .ok (.invokevirtual 61, 3) := by decide +kernel
theorem d_Co_unlikeFrom_50 : decode c_Co_unlikeFrom 50 = .ok (.if_icmp .ge 55, 3) := by decide +kernel
theorem d_Co_unlikeFrom_53 : decode c_Co_unlikeFrom 53 = .ok (.iload_n 2, 1) := by decide +kernel
theorem d_Co_unlikeFrom_54 : decode c_Co_unlikeFrom 54 = .ok (.aload_n 3, 1) := by decide +kernel
theorem d_Co_unlikeFrom_55 : decode c_Co_unlikeFrom 55 = .ok (.iload 7, 2) := by decide +kernel
theorem d_Co_unlikeFrom_57 : decode c_Co_unlikeFrom 57 = .ok (.invokevirtual 58, 3) := by decide +kernel
theorem d_Co_unlikeFrom_60 : decode c_Co_unlikeFrom 60 = .ok (.iand, 1) := by decide +kernel
theorem d_Co_unlikeFrom_61 : decode c_Co_unlikeFrom 61 = .ok (.istore 8, 2) := by decide +kernel
theorem d_Co_unlikeFrom_63 : decode c_Co_unlikeFrom 63 = .ok (.iload 8, 2) := by decide +kernel
theorem d_Co_unlikeFrom_65 : decode c_Co_unlikeFrom 65 = .ok (.iload 5, 2) := by decide +kernel
theorem d_Co_unlikeFrom_67 : decode c_Co_unlikeFrom 67 = .ok (.if_icmp .eq 18, 3) := by decide +kernel
theorem d_Co_unlikeFrom_70 : decode c_Co_unlikeFrom 70 = .ok (.iload 8, 2) := by decide +kernel
theorem d_Co_unlikeFrom_72 : decode c_Co_unlikeFrom 72 = .ok (.istore 5, 2) := by decide +kernel
theorem d_Co_unlikeFrom_74 : decode c_Co_unlikeFrom 74 = .ok (.aload_n 0, 1) := by decide +kernel
theorem d_Co_unlikeFrom_75 : decode c_Co_unlikeFrom 75 = .ok (.iload_n 1, 1) := by decide +kernel
theorem d_Co_unlikeFrom_76 : decode c_Co_unlikeFrom 76 = .ok (.iconst 1, 1) := by decide +kernel
theorem d_Co_unlikeFrom_77 : decode c_Co_unlikeFrom 77 = .ok (.iadd, 1) := by decide +kernel
theorem d_Co_unlikeFrom_78 : decode c_Co_unlikeFrom 78 = .ok (.iload 8, 2) := by decide +kernel
theorem d_Co_unlikeFrom_80 : decode c_Co_unlikeFrom 80 = .ok (.invokestatic 42, 3) := by decide +kernel
theorem d_Co_unlikeFrom_83 : decode c_Co_unlikeFrom 83 = .ok (.istore 6, 2) := by decide +kernel
theorem d_Co_unlikeFrom_85 : decode c_Co_unlikeFrom 85 = .ok (.iload 4, 2) := by decide +kernel
theorem d_Co_unlikeFrom_87 : decode c_Co_unlikeFrom 87 = .ok (.iload 6, 2) := by decide +kernel
theorem d_Co_unlikeFrom_89 : decode c_Co_unlikeFrom 89 = .ok (.aload_n 3, 1) := by decide +kernel
theorem d_Co_unlikeFrom_90 : decode c_Co_unlikeFrom 90 = .ok (.iload 7, 2) := by decide +kernel
theorem d_Co_unlikeFrom_92 : decode c_Co_unlikeFrom 92 = .ok (.invokevirtual 68, 3) := by decide +kernel
theorem d_Co_unlikeFrom_95 : decode c_Co_unlikeFrom 95 = .ok (.imul, 1) := by decide +kernel
theorem d_Co_unlikeFrom_96 : decode c_Co_unlikeFrom 96 = .ok (.iadd, 1) := by decide +kernel
theorem d_Co_unlikeFrom_97 : decode c_Co_unlikeFrom 97 = .ok (.istore 4, 2) := by decide +kernel
theorem d_Co_unlikeFrom_99 : decode c_Co_unlikeFrom 99 = .ok (.iinc 7 1, 3) := by decide +kernel
theorem d_Co_unlikeFrom_102 : decode c_Co_unlikeFrom 102 = .ok (.goto (-58), 3) := by decide +kernel
theorem d_Co_unlikeFrom_105 : decode c_Co_unlikeFrom 105 = .ok (.iload 4, 2) := by decide +kernel
theorem d_Co_unlikeFrom_107 : decode c_Co_unlikeFrom 107 = .ok (.ireturn, 1) := by decide +kernel
theorem d_Co_judgesUnlike_0 : decode c_Co_judgesUnlike 0 = .ok (.iload_n 1, 1) := by decide +kernel
theorem d_Co_judgesUnlike_1 : decode c_Co_judgesUnlike 1 = .ok (.sipush 255, 3) := by decide +kernel
theorem d_Co_judgesUnlike_4 : decode c_Co_judgesUnlike 4 = .ok (.iand, 1) := by decide +kernel
theorem d_Co_judgesUnlike_5 : decode c_Co_judgesUnlike 5 = .ok (.istore_n 2, 1) := by decide +kernel
theorem d_Co_judgesUnlike_6 : decode c_Co_judgesUnlike 6 = .ok (.iload_n 1, 1) := by decide +kernel
theorem d_Co_judgesUnlike_7 : decode c_Co_judgesUnlike 7 = .ok (.bipush 8, 2) := by decide +kernel
theorem d_Co_judgesUnlike_9 : decode c_Co_judgesUnlike 9 = .ok (.iushr, 1) := by decide +kernel
theorem d_Co_judgesUnlike_10 : decode c_Co_judgesUnlike 10 = .ok (.istore_n 3, 1) := by decide +kernel
theorem d_Co_judgesUnlike_11 : decode c_Co_judgesUnlike 11 = .ok (.aload_n 0, 1) := by decide +kernel
theorem d_Co_judgesUnlike_12 : decode c_Co_judgesUnlike 12 = .ok (.getfield 9, 3) := by decide +kernel
theorem d_Co_judgesUnlike_15 : decode c_Co_judgesUnlike 15 = .ok (.iload_n 2, 1) := by decide +kernel
theorem d_Co_judgesUnlike_16 : decode c_Co_judgesUnlike 16 = .ok (.invokevirtual 71, 3) := by decide +kernel
theorem d_Co_judgesUnlike_19 : decode c_Co_judgesUnlike 19 = .ok (.aload_n 0, 1) := by decide +kernel
theorem d_Co_judgesUnlike_20 : decode c_Co_judgesUnlike 20 = .ok (.getfield 15, 3) := by decide +kernel
theorem d_Co_judgesUnlike_23 : decode c_Co_judgesUnlike 23 = .ok (.iload_n 3, 1) := by decide +kernel
theorem d_Co_judgesUnlike_24 : decode c_Co_judgesUnlike 24 = .ok (.invokevirtual 71, 3) := by decide +kernel
theorem d_Co_judgesUnlike_27 : decode c_Co_judgesUnlike 27 = .ok (.if_icmp .eq 7, 3) := by decide +kernel
theorem d_Co_judgesUnlike_30 : decode c_Co_judgesUnlike 30 = .ok (.iconst 1, 1) := by decide +kernel
theorem d_Co_judgesUnlike_31 : decode c_Co_judgesUnlike 31 = .ok (.goto 4, 3) := by decide +kernel
theorem d_Co_judgesUnlike_34 : decode c_Co_judgesUnlike 34 = .ok (.iconst 0, 1) := by decide +kernel
theorem d_Co_judgesUnlike_35 : decode c_Co_judgesUnlike 35 = .ok (.ireturn, 1) := by decide +kernel
theorem d_RL_judgeSet_0 : decode c_RL_judgeSet 0 = .ok (.iload_n 1, 1) := by decide +kernel
theorem d_RL_judgeSet_1 : decode c_RL_judgeSet 1 = .ok (.ifCond .ne 7, 3) := by decide +kernel
theorem d_RL_judgeSet_4 : decode c_RL_judgeSet 4 = .ok (.iconst 0, 1) := by decide +kernel
theorem d_RL_judgeSet_5 : decode c_RL_judgeSet 5 = .ok (.goto 15, 3) := by decide +kernel
theorem d_RL_judgeSet_8 : decode c_RL_judgeSet 8 = .ok (.aload_n 0, 1) := by decide +kernel
theorem d_RL_judgeSet_9 : decode c_RL_judgeSet 9 = .ok (.getfield 11, 3) := by decide +kernel
theorem d_RL_judgeSet_12 : decode c_RL_judgeSet 12 = .ok (.iload_n 1, 1) := by decide +kernel
theorem d_RL_judgeSet_13 : decode c_RL_judgeSet 13 = .ok (.invokestatic 42, 3) := by decide +kernel
theorem d_RL_judgeSet_16 : decode c_RL_judgeSet 16 = .ok (.aaload, 1) := by decide +kernel
theorem d_RL_judgeSet_17 : decode c_RL_judgeSet 17 = .ok (.invokevirtual 38, 3) := by decide +kernel
theorem d_RL_judgeSet_20 : decode c_RL_judgeSet 20 = .ok (.ireturn, 1) := by decide +kernel
theorem d_Cu_size_0 : decode c_Cu_size 0 = .ok (.aload_n 0, 1) := by decide +kernel
theorem d_Cu_size_1 : decode c_Cu_size 1 = .ok (.getfield 20, 3) := by decide +kernel
theorem d_Cu_size_4 : decode c_Cu_size 4 = .ok (.ireturn, 1) := by decide +kernel
theorem d_Cu_set_0 : decode c_Cu_set 0 = .ok (.aload_n 0, 1) := by decide +kernel
theorem d_Cu_set_1 : decode c_Cu_set 1 = .ok (.getfield 17, 3) := by decide +kernel
theorem d_Cu_set_4 : decode c_Cu_set 4 = .ok (.iload_n 1, 1) := by decide +kernel
theorem d_Cu_set_5 : decode c_Cu_set 5 = .ok (.iaload, 1) := by decide +kernel
theorem d_Cu_set_6 : decode c_Cu_set 6 = .ok (.ireturn, 1) := by decide +kernel
theorem d_Cu_width_0 : decode c_Cu_width 0 = .ok (.iload_n 1, 1) := by decide +kernel
theorem d_Cu_width_1 : decode c_Cu_width 1 = .ok (.iconst 1, 1) := by decide +kernel
theorem d_Cu_width_2 : decode c_Cu_width 2 = .ok (.iadd, 1) := by decide +kernel
theorem d_Cu_width_3 : decode c_Cu_width 3 = .ok (.aload_n 0, 1) := by decide +kernel
theorem d_Cu_width_4 : decode c_Cu_width 4 = .ok (.getfield 20, 3) := by decide +kernel
theorem d_Cu_width_7 : decode c_Cu_width 7 = .ok (.if_icmp .ge 14, 3) := by decide +kernel
theorem d_Cu_width_10 : decode c_Cu_width 10 = .ok (.aload_n 0, 1) := by decide +kernel
theorem d_Cu_width_11 : decode c_Cu_width 11 = .ok (.getfield 13, 3) := by decide +kernel
theorem d_Cu_width_14 : decode c_Cu_width 14 = .ok (.iload_n 1, 1) := by decide +kernel
theorem d_Cu_width_15 : decode c_Cu_width 15 = .ok (.iconst 1, 1) := by decide +kernel
theorem d_Cu_width_16 : decode c_Cu_width 16 = .ok (.iadd, 1) := by decide +kernel
theorem d_Cu_width_17 : decode c_Cu_width 17 = .ok (.iaload, 1) := by decide +kernel
theorem d_Cu_width_18 : decode c_Cu_width 18 = .ok (.goto 12, 3) := by decide +kernel
theorem d_Cu_width_21 : decode c_Cu_width 21 = .ok (.aload_n 0, 1) := by decide +kernel
theorem d_Cu_width_22 : decode c_Cu_width 22 = .ok (.getfield 7, 3) := by decide +kernel
theorem d_Cu_width_25 : decode c_Cu_width 25 = .ok (.invokestatic 55, 3) := by decide +kernel
theorem d_Cu_width_28 : decode c_Cu_width 28 = .ok (.iconst 1, 1) := by decide +kernel
theorem d_Cu_width_29 : decode c_Cu_width 29 = .ok (.iadd, 1) := by decide +kernel
theorem d_Cu_width_30 : decode c_Cu_width 30 = .ok (.istore_n 2, 1) := by decide +kernel
theorem d_Cu_width_31 : decode c_Cu_width 31 = .ok (.iload_n 2, 1) := by decide +kernel
theorem d_Cu_width_32 : decode c_Cu_width 32 = .ok (.aload_n 0, 1) := by decide +kernel
theorem d_Cu_width_33 : decode c_Cu_width 33 = .ok (.getfield 13, 3) := by decide +kernel
theorem d_Cu_width_36 : decode c_Cu_width 36 = .ok (.iload_n 1, 1) := by decide +kernel
theorem d_Cu_width_37 : decode c_Cu_width 37 = .ok (.iaload, 1) := by decide +kernel
theorem d_Cu_width_38 : decode c_Cu_width 38 = .ok (.isub, 1) := by decide +kernel
theorem d_Cu_width_39 : decode c_Cu_width 39 = .ok (.ireturn, 1) := by decide +kernel
theorem d_RL_room_0 : decode c_RL_room 0 = .ok (.bipush 8, 2) := by decide +kernel
theorem d_RL_room_2 : decode c_RL_room 2 = .ok (.aload_n 0, 1) := by decide +kernel
theorem d_RL_room_3 : decode c_RL_room 3 = .ok (.getfield 18, 3) := by decide +kernel
theorem d_RL_room_6 : decode c_RL_room 6 = .ok (.isub, 1) := by decide +kernel
theorem d_RL_room_7 : decode c_RL_room 7 = .ok (.ireturn, 1) := by decide +kernel
theorem d_RL_append_0 : decode c_RL_append 0 = .ok (.aload_n 0, 1) := by decide +kernel
theorem d_RL_append_1 : decode c_RL_append 1 = .ok (.getfield 18, 3) := by decide +kernel
theorem d_RL_append_4 : decode c_RL_append 4 = .ok (.bipush 8, 2) := by decide +kernel
theorem d_RL_append_6 : decode c_RL_append 6 = .ok (.if_icmp .ge 26, 3) := by decide +kernel
theorem d_RL_append_9 : decode c_RL_append 9 = .ok (.aload_n 0, 1) := by decide +kernel
theorem d_RL_append_10 : decode c_RL_append 10 = .ok (.getfield 11, 3) := by decide +kernel
theorem d_RL_append_13 : decode c_RL_append 13 = .ok (.aload_n 0, 1) := by decide +kernel
theorem d_RL_append_14 : decode c_RL_append 14 = .ok (.getfield 18, 3) := by decide +kernel
theorem d_RL_append_17 : decode c_RL_append 17 = .ok (.aaload, 1) := by decide +kernel
theorem d_RL_append_18 : decode c_RL_append 18 = .ok (.aload_n 1, 1) := by decide +kernel
theorem d_RL_append_19 : decode c_RL_append 19 = .ok (.invokevirtual 22, 3) := by decide +kernel
theorem d_RL_append_22 : decode c_RL_append 22 = .ok (.aload_n 0, 1) := by decide +kernel
theorem d_RL_append_23 : decode c_RL_append 23 = .ok (.dup, 1) := by decide +kernel
theorem d_RL_append_24 : decode c_RL_append 24 = .ok (.getfield 18, 3) := by decide +kernel
theorem d_RL_append_27 : decode c_RL_append 27 = .ok (.iconst 1, 1) := by decide +kernel
theorem d_RL_append_28 : decode c_RL_append 28 = .ok (.iadd, 1) := by decide +kernel
theorem d_RL_append_29 : decode c_RL_append 29 = .ok (.putfield 18, 3) := by decide +kernel
theorem d_RL_append_32 : decode c_RL_append 32 = .ok (.return_, 1) := by decide +kernel
theorem d_RL_has_0 : decode c_RL_has 0 = .ok (.iload_n 1, 1) := by decide +kernel
theorem d_RL_has_1 : decode c_RL_has 1 = .ok (.ifCond .lt 15, 3) := by decide +kernel
theorem d_RL_has_4 : decode c_RL_has 4 = .ok (.iload_n 1, 1) := by decide +kernel
theorem d_RL_has_5 : decode c_RL_has 5 = .ok (.aload_n 0, 1) := by decide +kernel
theorem d_RL_has_6 : decode c_RL_has 6 = .ok (.getfield 18, 3) := by decide +kernel
theorem d_RL_has_9 : decode c_RL_has 9 = .ok (.if_icmp .ge 7, 3) := by decide +kernel
theorem d_RL_has_12 : decode c_RL_has 12 = .ok (.iconst 1, 1) := by decide +kernel
theorem d_RL_has_13 : decode c_RL_has 13 = .ok (.goto 4, 3) := by decide +kernel
theorem d_RL_has_16 : decode c_RL_has 16 = .ok (.iconst 0, 1) := by decide +kernel
theorem d_RL_has_17 : decode c_RL_has 17 = .ok (.ireturn, 1) := by decide +kernel
theorem d_RL_takeOut_0 : decode c_RL_takeOut 0 = .ok (.iload_n 1, 1) := by decide +kernel
theorem d_RL_takeOut_1 : decode c_RL_takeOut 1 = .ok (.istore_n 2, 1) := by decide +kernel
theorem d_RL_takeOut_2 : decode c_RL_takeOut 2 = .ok (.iload_n 2, 1) := by decide +kernel
theorem d_RL_takeOut_3 : decode c_RL_takeOut 3 = .ok (.iconst 1, 1) := by decide +kernel
theorem d_RL_takeOut_4 : decode c_RL_takeOut 4 = .ok (.iadd, 1) := by decide +kernel
theorem d_RL_takeOut_5 : decode c_RL_takeOut 5 = .ok (.aload_n 0, 1) := by decide +kernel
theorem d_RL_takeOut_6 : decode c_RL_takeOut 6 = .ok (.getfield 18, 3) := by decide +kernel
theorem d_RL_takeOut_9 : decode c_RL_takeOut 9 = .ok (.if_icmp .ge 14, 3) := by decide +kernel
theorem d_RL_takeOut_12 : decode c_RL_takeOut 12 = .ok (.aload_n 0, 1) := by decide +kernel
theorem d_RL_takeOut_13 : decode c_RL_takeOut 13 = .ok (.iload_n 2, 1) := by decide +kernel
theorem d_RL_takeOut_14 : decode c_RL_takeOut 14 = .ok (.invokevirtual 26, 3) := by decide +kernel
theorem d_RL_takeOut_17 : decode c_RL_takeOut 17 = .ok (.iinc 2 1, 3) := by decide +kernel
theorem d_RL_takeOut_20 : decode c_RL_takeOut 20 = .ok (.goto (-18), 3) := by decide +kernel
theorem d_RL_takeOut_23 : decode c_RL_takeOut 23 = .ok (.aload_n 0, 1) := by decide +kernel
theorem d_RL_takeOut_24 : decode c_RL_takeOut 24 = .ok (.dup, 1) := by decide +kernel
theorem d_RL_takeOut_25 : decode c_RL_takeOut 25 = .ok (.getfield 18, 3) := by decide +kernel
theorem d_RL_takeOut_28 : decode c_RL_takeOut 28 = .ok (.iconst 1, 1) := by decide +kernel
theorem d_RL_takeOut_29 : decode c_RL_takeOut 29 = .ok (.isub, 1) := by decide +kernel
theorem d_RL_takeOut_30 : decode c_RL_takeOut 30 = .ok (.putfield 18, 3) := by decide +kernel
theorem d_RL_takeOut_33 : decode c_RL_takeOut 33 = .ok (.return_, 1) := by decide +kernel
theorem d_RL_exchange_0 : decode c_RL_exchange 0 = .ok (.aload_n 0, 1) := by decide +kernel
theorem d_RL_exchange_1 : decode c_RL_exchange 1 = .ok (.getfield 11, 3) := by decide +kernel
theorem d_RL_exchange_4 : decode c_RL_exchange 4 = .ok (.iload_n 1, 1) := by decide +kernel
theorem d_RL_exchange_5 : decode c_RL_exchange 5 = .ok (.aaload, 1) := by decide +kernel
theorem d_RL_exchange_6 : decode c_RL_exchange 6 = .ok (.astore_n 2, 1) := by decide +kernel
theorem d_RL_exchange_7 : decode c_RL_exchange 7 = .ok (.aload_n 0, 1) := by decide +kernel
theorem d_RL_exchange_8 : decode c_RL_exchange 8 = .ok (.getfield 11, 3) := by decide +kernel
theorem d_RL_exchange_11 : decode c_RL_exchange 11 = .ok (.iload_n 1, 1) := by decide +kernel
theorem d_RL_exchange_12 : decode c_RL_exchange 12 = .ok (.aload_n 0, 1) := by decide +kernel
theorem d_RL_exchange_13 : decode c_RL_exchange 13 = .ok (.getfield 11, 3) := by decide +kernel
theorem d_RL_exchange_16 : decode c_RL_exchange 16 = .ok (.iload_n 1, 1) := by decide +kernel
theorem d_RL_exchange_17 : decode c_RL_exchange 17 = .ok (.iconst 1, 1) := by decide +kernel
theorem d_RL_exchange_18 : decode c_RL_exchange 18 = .ok (.iadd, 1) := by decide +kernel
theorem d_RL_exchange_19 : decode c_RL_exchange 19 = .ok (.aaload, 1) := by decide +kernel
theorem d_RL_exchange_20 : decode c_RL_exchange 20 = .ok (.aastore, 1) := by decide +kernel
theorem d_RL_exchange_21 : decode c_RL_exchange 21 = .ok (.aload_n 0, 1) := by decide +kernel
theorem d_RL_exchange_22 : decode c_RL_exchange 22 = .ok (.getfield 11, 3) := by decide +kernel
theorem d_RL_exchange_25 : decode c_RL_exchange 25 = .ok (.iload_n 1, 1) := by decide +kernel
theorem d_RL_exchange_26 : decode c_RL_exchange 26 = .ok (.iconst 1, 1) := by decide +kernel
theorem d_RL_exchange_27 : decode c_RL_exchange 27 = .ok (.iadd, 1) := by decide +kernel
theorem d_RL_exchange_28 : decode c_RL_exchange 28 = .ok (.aload_n 2, 1) := by decide +kernel
theorem d_RL_exchange_29 : decode c_RL_exchange 29 = .ok (.aastore, 1) := by decide +kernel
theorem d_RL_exchange_30 : decode c_RL_exchange 30 = .ok (.return_, 1) := by decide +kernel
theorem d_RL_judge_0 : decode c_RL_judge 0 = .ok (.aload_n 0, 1) := by decide +kernel
theorem d_RL_judge_1 : decode c_RL_judge 1 = .ok (.iload_n 1, 1) := by decide +kernel
theorem d_RL_judge_2 : decode c_RL_judge 2 = .ok (.invokevirtual 34, 3) := by decide +kernel
theorem d_RL_judge_5 : decode c_RL_judge 5 = .ok (.istore_n 2, 1) := by decide +kernel
theorem d_RL_judge_6 : decode c_RL_judge 6 = .ok (.iload_n 2, 1) := by decide +kernel
theorem d_RL_judge_7 : decode c_RL_judge 7 = .ok (.iconst (-1), 1) := by decide +kernel
theorem d_RL_judge_8 : decode c_RL_judge 8 = .ok (.if_icmp .ne 7, 3) := by decide +kernel
theorem d_RL_judge_11 : decode c_RL_judge 11 = .ok (.iconst 0, 1) := by decide +kernel
theorem d_RL_judge_12 : decode c_RL_judge 12 = .ok (.goto 12, 3) := by decide +kernel
theorem d_RL_judge_15 : decode c_RL_judge 15 = .ok (.aload_n 0, 1) := by decide +kernel
theorem d_RL_judge_16 : decode c_RL_judge 16 = .ok (.getfield 11, 3) := by decide +kernel
theorem d_RL_judge_19 : decode c_RL_judge 19 = .ok (.iload_n 2, 1) := by decide +kernel
theorem d_RL_judge_20 : decode c_RL_judge 20 = .ok (.aaload, 1) := by decide +kernel
theorem d_RL_judge_21 : decode c_RL_judge 21 = .ok (.invokevirtual 38, 3) := by decide +kernel
theorem d_RL_judge_24 : decode c_RL_judge 24 = .ok (.ireturn, 1) := by decide +kernel
theorem d_RL_firstFor_0 : decode c_RL_firstFor 0 = .ok (.iconst 0, 1) := by decide +kernel
theorem d_RL_firstFor_1 : decode c_RL_firstFor 1 = .ok (.istore_n 2, 1) := by decide +kernel
theorem d_RL_firstFor_2 : decode c_RL_firstFor 2 = .ok (.iload_n 2, 1) := by decide +kernel
theorem d_RL_firstFor_3 : decode c_RL_firstFor 3 = .ok (.aload_n 0, 1) := by decide +kernel
theorem d_RL_firstFor_4 : decode c_RL_firstFor 4 = .ok (.getfield 18, 3) := by decide +kernel
theorem d_RL_firstFor_7 : decode c_RL_firstFor 7 = .ok (.if_icmp .ge 24, 3) := by decide +kernel
theorem d_RL_firstFor_10 : decode c_RL_firstFor 10 = .ok (.aload_n 0, 1) := by decide +kernel
theorem d_RL_firstFor_11 : decode c_RL_firstFor 11 = .ok (.getfield 11, 3) := by decide +kernel
theorem d_RL_firstFor_14 : decode c_RL_firstFor 14 = .ok (.iload_n 2, 1) := by decide +kernel
theorem d_RL_firstFor_15 : decode c_RL_firstFor 15 = .ok (.aaload, 1) := by decide +kernel
theorem d_RL_firstFor_16 : decode c_RL_firstFor 16 = .ok (.iload_n 1, 1) := by decide +kernel
theorem d_RL_firstFor_17 : decode c_RL_firstFor 17 = .ok (.invokevirtual 30, 3) := by decide +kernel
theorem d_RL_firstFor_20 : decode c_RL_firstFor 20 = .ok (.ifCond .eq 5, 3) := by decide +kernel
theorem d_RL_firstFor_23 : decode c_RL_firstFor 23 = .ok (.iload_n 2, 1) := by decide +kernel
theorem d_RL_firstFor_24 : decode c_RL_firstFor 24 = .ok (.ireturn, 1) := by decide +kernel
theorem d_RL_firstFor_25 : decode c_RL_firstFor 25 = .ok (.iinc 2 1, 3) := by decide +kernel
theorem d_RL_firstFor_28 : decode c_RL_firstFor 28 = .ok (.goto (-26), 3) := by decide +kernel
theorem d_RL_firstFor_31 : decode c_RL_firstFor 31 = .ok (.iconst (-1), 1) := by decide +kernel
theorem d_RL_firstFor_32 : decode c_RL_firstFor 32 = .ok (.ireturn, 1) := by decide +kernel
theorem d_Di_compile_0 : decode c_Di_compile 0 = .ok (.aload_n 0, 1) := by decide +kernel
theorem d_Di_compile_1 : decode c_Di_compile 1 = .ok (.iconst 1, 1) := by decide +kernel
theorem d_Di_compile_2 : decode c_Di_compile 2 = .ok (.aload_n 0, 1) := by decide +kernel
theorem d_Di_compile_3 : decode c_Di_compile 3 = .ok (.getfield 9, 3) := by decide +kernel
theorem d_Di_compile_6 : decode c_Di_compile 6 = .ok (.invokevirtual 36, 3) := by decide +kernel
theorem d_Di_compile_9 : decode c_Di_compile 9 = .ok (.ishl, 1) := by decide +kernel
theorem d_Di_compile_10 : decode c_Di_compile 10 = .ok (.putfield 32, 3) := by decide +kernel
theorem d_Di_compile_13 : decode c_Di_compile 13 = .ok (.iconst 0, 1) := by decide +kernel
theorem d_Di_compile_14 : decode c_Di_compile 14 = .ok (.istore_n 1, 1) := by decide +kernel
theorem d_Di_compile_15 : decode c_Di_compile 15 = .ok (.iload_n 1, 1) := by decide +kernel
theorem d_Di_compile_16 : decode c_Di_compile 16 = .ok (.iconst 4, 1) := by decide +kernel
theorem d_Di_compile_17 : decode c_Di_compile 17 = .ok (.if_icmp .ge 45, 3) := by decide +kernel
theorem d_Di_compile_20 : decode c_Di_compile 20 = .ok (.aload_n 0, 1) := by decide +kernel
theorem d_Di_compile_21 : decode c_Di_compile 21 = .ok (.getfield 17, 3) := by decide +kernel
theorem d_Di_compile_24 : decode c_Di_compile 24 = .ok (.iload_n 1, 1) := by decide +kernel
theorem d_Di_compile_25 : decode c_Di_compile 25 = .ok (.aaload, 1) := by decide +kernel
theorem d_Di_compile_26 : decode c_Di_compile 26 = .ok (.invokevirtual 42, 3) := by decide +kernel
theorem d_Di_compile_29 : decode c_Di_compile 29 = .ok (.aload_n 0, 1) := by decide +kernel
theorem d_Di_compile_30 : decode c_Di_compile 30 = .ok (.getfield 17, 3) := by decide +kernel
theorem d_Di_compile_33 : decode c_Di_compile 33 = .ok (.iload_n 1, 1) := by decide +kernel
theorem d_Di_compile_34 : decode c_Di_compile 34 = .ok (.aaload, 1) := by decide +kernel
theorem d_Di_compile_35 : decode c_Di_compile 35 = .ok (.aload_n 0, 1) := by decide +kernel
theorem d_Di_compile_36 : decode c_Di_compile 36 = .ok (.getfield 9, 3) := by decide +kernel
theorem d_Di_compile_39 : decode c_Di_compile 39 = .ok (.invokevirtual 45, 3) := by decide +kernel
theorem d_Di_compile_42 : decode c_Di_compile 42 = .ok (.aload_n 0, 1) := by decide +kernel
theorem d_Di_compile_43 : decode c_Di_compile 43 = .ok (.getfield 17, 3) := by decide +kernel
theorem d_Di_compile_46 : decode c_Di_compile 46 = .ok (.iload_n 1, 1) := by decide +kernel
theorem d_Di_compile_47 : decode c_Di_compile 47 = .ok (.aaload, 1) := by decide +kernel
theorem d_Di_compile_48 : decode c_Di_compile 48 = .ok (.aload_n 0, 1) := by decide +kernel
theorem d_Di_compile_49 : decode c_Di_compile 49 = .ok (.getfield 9, 3) := by decide +kernel
theorem d_Di_compile_52 : decode c_Di_compile 52 = .ok (.iconst 0, 1) := by decide +kernel
theorem d_Di_compile_53 : decode c_Di_compile 53 = .ok (.invokevirtual 49, 3) := by decide +kernel
theorem d_Di_compile_56 : decode c_Di_compile 56 = .ok (.iinc 1 1, 3) := by decide +kernel
theorem d_Di_compile_59 : decode c_Di_compile 59 = .ok (.goto (-44), 3) := by decide +kernel
theorem d_Di_compile_62 : decode c_Di_compile 62 = .ok (.aload_n 0, 1) := by decide +kernel
theorem d_Di_compile_63 : decode c_Di_compile 63 = .ok (.invokevirtual 53, 3) := by decide +kernel
theorem d_Di_compile_66 : decode c_Di_compile 66 = .ok (.return_, 1) := by decide +kernel
theorem d_Di_countWays_0 : decode c_Di_countWays 0 = .ok (.iconst 0, 1) := by decide +kernel
theorem d_Di_countWays_1 : decode c_Di_countWays 1 = .ok (.istore_n 1, 1) := by decide +kernel
theorem d_Di_countWays_2 : decode c_Di_countWays 2 = .ok (.iload_n 1, 1) := by decide +kernel
theorem d_Di_countWays_3 : decode c_Di_countWays 3 = .ok (.iconst 4, 1) := by decide +kernel
theorem d_Di_countWays_4 : decode c_Di_countWays 4 = .ok (.if_icmp .gt 19, 3) := by decide +kernel
theorem d_Di_countWays_7 : decode c_Di_countWays 7 = .ok (.aload_n 0, 1) := by decide +kernel
theorem d_Di_countWays_8 : decode c_Di_countWays 8 = .ok (.getfield 26, 3) := by decide +kernel
theorem d_Di_countWays_11 : decode c_Di_countWays 11 = .ok (.iload_n 1, 1) := by decide +kernel
theorem d_Di_countWays_12 : decode c_Di_countWays 12 = .ok (.aaload, 1) := by decide +kernel
theorem d_Di_countWays_13 : decode c_Di_countWays 13 = .ok (.iconst 0, 1) := by decide +kernel
theorem d_Di_countWays_14 : decode c_Di_countWays 14 = .ok (.invokestatic 77, 3) := by decide +kernel
theorem d_Di_countWays_17 : decode c_Di_countWays 17 = .ok (.iinc 1 1, 3) := by decide +kernel
theorem d_Di_countWays_20 : decode c_Di_countWays 20 = .ok (.goto (-18), 3) := by decide +kernel
theorem d_Di_countWays_23 : decode c_Di_countWays 23 = .ok (.aload_n 0, 1) := by decide +kernel
theorem d_Di_countWays_24 : decode c_Di_countWays 24 = .ok (.getfield 26, 3) := by decide +kernel
theorem d_Di_countWays_27 : decode c_Di_countWays 27 = .ok (.iconst 0, 1) := by decide +kernel
theorem d_Di_countWays_28 : decode c_Di_countWays 28 = .ok (.aaload, 1) := by decide +kernel
theorem d_Di_countWays_29 : decode c_Di_countWays 29 = .ok (.aload_n 0, 1) := by decide +kernel
theorem d_Di_countWays_30 : decode c_Di_countWays 30 = .ok (.getfield 32, 3) := by decide +kernel
theorem d_Di_countWays_33 : decode c_Di_countWays 33 = .ok (.iconst 1, 1) := by decide +kernel
theorem d_Di_countWays_34 : decode c_Di_countWays 34 = .ok (.isub, 1) := by decide +kernel
theorem d_Di_countWays_35 : decode c_Di_countWays 35 = .ok (.iconst 1, 1) := by decide +kernel
theorem d_Di_countWays_36 : decode c_Di_countWays 36 = .ok (.iastore, 1) := by decide +kernel
theorem d_Di_countWays_37 : decode c_Di_countWays 37 = .ok (.iconst 0, 1) := by decide +kernel
theorem d_Di_countWays_38 : decode c_Di_countWays 38 = .ok (.istore_n 1, 1) := by decide +kernel
theorem d_Di_countWays_39 : decode c_Di_countWays 39 = .ok (.iload_n 1, 1) := by decide +kernel
theorem d_Di_countWays_40 : decode c_Di_countWays 40 = .ok (.iconst 4, 1) := by decide +kernel
theorem d_Di_countWays_41 : decode c_Di_countWays 41 = .ok (.if_icmp .ge 40, 3) := by decide +kernel
theorem d_Di_countWays_44 : decode c_Di_countWays 44 = .ok (.iconst 0, 1) := by decide +kernel
theorem d_Di_countWays_45 : decode c_Di_countWays 45 = .ok (.istore_n 2, 1) := by decide +kernel
theorem d_Di_countWays_46 : decode c_Di_countWays 46 = .ok (.iload_n 2, 1) := by decide +kernel
theorem d_Di_countWays_47 : decode c_Di_countWays 47 = .ok (.aload_n 0, 1) := by decide +kernel
theorem d_Di_countWays_48 : decode c_Di_countWays 48 = .ok (.getfield 32, 3) := by decide +kernel
theorem d_Di_countWays_51 : decode c_Di_countWays 51 = .ok (.if_icmp .ge 24, 3) := by decide +kernel
theorem d_Di_countWays_54 : decode c_Di_countWays 54 = .ok (.aload_n 0, 1) := by decide +kernel
theorem d_Di_countWays_55 : decode c_Di_countWays 55 = .ok (.iload_n 1, 1) := by decide +kernel
theorem d_Di_countWays_56 : decode c_Di_countWays 56 = .ok (.iload_n 2, 1) := by decide +kernel
theorem d_Di_countWays_57 : decode c_Di_countWays 57 = .ok (.invokevirtual 63, 3) := by decide +kernel
theorem d_Di_countWays_60 : decode c_Di_countWays 60 = .ok (.ifCond .eq 9, 3) := by decide +kernel
theorem d_Di_countWays_63 : decode c_Di_countWays 63 = .ok (.aload_n 0, 1) := by decide +kernel
theorem d_Di_countWays_64 : decode c_Di_countWays 64 = .ok (.iload_n 1, 1) := by decide +kernel
theorem d_Di_countWays_65 : decode c_Di_countWays 65 = .ok (.iload_n 2, 1) := by decide +kernel
theorem d_Di_countWays_66 : decode c_Di_countWays 66 = .ok (.invokevirtual 83, 3) := by decide +kernel
theorem d_Di_countWays_69 : decode c_Di_countWays 69 = .ok (.iinc 2 1, 3) := by decide +kernel
theorem d_Di_countWays_72 : decode c_Di_countWays 72 = .ok (.goto (-26), 3) := by decide +kernel
theorem d_Di_countWays_75 : decode c_Di_countWays 75 = .ok (.iinc 1 1, 3) := by decide +kernel
theorem d_Di_countWays_78 : decode c_Di_countWays 78 = .ok (.goto (-39), 3) := by decide +kernel
theorem d_Di_countWays_81 : decode c_Di_countWays 81 = .ok (.return_, 1) := by decide +kernel
theorem d_Di_isTable_0 : decode c_Di_isTable 0 = .ok (.aload_n 0, 1) := by decide +kernel
theorem d_Di_isTable_1 : decode c_Di_isTable 1 = .ok (.getfield 26, 3) := by decide +kernel
theorem d_Di_isTable_4 : decode c_Di_isTable 4 = .ok (.iload_n 1, 1) := by decide +kernel
theorem d_Di_isTable_5 : decode c_Di_isTable 5 = .ok (.aaload, 1) := by decide +kernel
theorem d_Di_isTable_6 : decode c_Di_isTable 6 = .ok (.iload_n 2, 1) := by decide +kernel
theorem d_Di_isTable_7 : decode c_Di_isTable 7 = .ok (.iaload, 1) := by decide +kernel
theorem d_Di_isTable_8 : decode c_Di_isTable 8 = .ok (.ifCond .le 7, 3) := by decide +kernel
theorem d_Di_isTable_11 : decode c_Di_isTable 11 = .ok (.iconst 1, 1) := by decide +kernel
theorem d_Di_isTable_12 : decode c_Di_isTable 12 = .ok (.goto 4, 3) := by decide +kernel
theorem d_Di_isTable_15 : decode c_Di_isTable 15 = .ok (.iconst 0, 1) := by decide +kernel
theorem d_Di_isTable_16 : decode c_Di_isTable 16 = .ok (.ireturn, 1) := by decide +kernel
theorem d_Di_countWaysBehind_0 : decode c_Di_countWaysBehind 0 = .ok (.aload_n 0, 1) := by decide +kernel
theorem d_Di_countWaysBehind_1 : decode c_Di_countWaysBehind 1 = .ok (.getfield 17, 3) := by decide +kernel
theorem d_Di_countWaysBehind_4 : decode c_Di_countWaysBehind 4 = .ok (.iload_n 1, 1) := by decide +kernel
theorem d_Di_countWaysBehind_5 : decode c_Di_countWaysBehind 5 = .ok (.aaload, 1) := by decide +kernel
theorem d_Di_countWaysBehind_6 : decode c_Di_countWaysBehind 6 = .ok (.astore_n 3, 1) := by decide +kernel
theorem d_Di_countWaysBehind_7 : decode c_Di_countWaysBehind 7 = .ok (.iconst 0, 1) := by decide +kernel
theorem d_Di_countWaysBehind_8 : decode c_Di_countWaysBehind 8 = .ok (.istore 4, 2) := by decide +kernel
theorem d_Di_countWaysBehind_10 : decode c_Di_countWaysBehind 10 = .ok (.iload 4, 2) := by decide +kernel
theorem d_Di_countWaysBehind_12 : decode c_Di_countWaysBehind 12 = .ok (.aload_n 3, 1) := by decide +kernel
theorem d_Di_countWaysBehind_13 : decode c_Di_countWaysBehind 13 = .ok (.invokevirtual 86, 3) := by decide +kernel
theorem d_Di_countWaysBehind_16 : decode c_Di_countWaysBehind 16 = .ok (.if_icmp .ge 44, 3) := by decide +kernel
theorem d_Di_countWaysBehind_19 : decode c_Di_countWaysBehind 19 = .ok (.aload_n 0, 1) := by decide +kernel
theorem d_Di_countWaysBehind_20 : decode c_Di_countWaysBehind 20 = .ok (.getfield 26, 3) := by decide +kernel
theorem d_Di_countWaysBehind_23 : decode c_Di_countWaysBehind 23 = .ok (.iload_n 1, 1) := by decide +kernel
theorem d_Di_countWaysBehind_24 : decode c_Di_countWaysBehind 24 = .ok (.iconst 1, 1) := by decide +kernel
theorem d_Di_countWaysBehind_25 : decode c_Di_countWaysBehind 25 = .ok (.iadd, 1) := by decide +kernel
theorem d_Di_countWaysBehind_26 : decode c_Di_countWaysBehind 26 = .ok (.aaload, 1) := by decide +kernel
theorem d_Di_countWaysBehind_27 : decode c_Di_countWaysBehind 27 = .ok (.iload_n 2, 1) := by decide +kernel
theorem d_Di_countWaysBehind_28 : decode c_Di_countWaysBehind 28 = .ok (.aload_n 3, 1) := by decide +kernel
theorem d_Di_countWaysBehind_29 : decode c_Di_countWaysBehind 29 = .ok (.iload 4, 2) := by decide +kernel
theorem d_Di_countWaysBehind_31 : decode c_Di_countWaysBehind 31 = .ok (.invokevirtual 87, 3) := by decide +kernel
theorem d_Di_countWaysBehind_34 : decode c_Di_countWaysBehind 34 = .ok (.iand, 1) := by decide +kernel
theorem d_Di_countWaysBehind_35 : decode c_Di_countWaysBehind 35 = .ok (.dup2, 1) := by decide +kernel
theorem d_Di_countWaysBehind_36 : decode c_Di_countWaysBehind 36 = .ok (.iaload, 1) := by decide +kernel
theorem d_Di_countWaysBehind_37 : decode c_Di_countWaysBehind 37 = .ok (.aload_n 0, 1) := by decide +kernel
theorem d_Di_countWaysBehind_38 : decode c_Di_countWaysBehind 38 = .ok (.getfield 26, 3) := by decide +kernel
theorem d_Di_countWaysBehind_41 : decode c_Di_countWaysBehind 41 = .ok (.iload_n 1, 1) := by decide +kernel
theorem d_Di_countWaysBehind_42 : decode c_Di_countWaysBehind 42 = .ok (.aaload, 1) := by decide +kernel
theorem d_Di_countWaysBehind_43 : decode c_Di_countWaysBehind 43 = .ok (.iload_n 2, 1) := by decide +kernel
theorem d_Di_countWaysBehind_44 : decode c_Di_countWaysBehind 44 = .ok (.iaload, 1) := by decide +kernel
theorem d_Di_countWaysBehind_45 : decode c_Di_countWaysBehind 45 = .ok (.aload_n 3, 1) := by decide +kernel
theorem d_Di_countWaysBehind_46 : decode c_Di_countWaysBehind 46 = .ok (.iload 4, 2) := by decide +kernel
theorem d_Di_countWaysBehind_48 : decode c_Di_countWaysBehind 48 = .ok (.invokevirtual 90, 3) := by decide +kernel
theorem d_Di_countWaysBehind_51 : decode c_Di_countWaysBehind 51 = .ok (.imul, 1) := by decide +kernel
theorem d_Di_countWaysBehind_52 : decode c_Di_countWaysBehind 52 = .ok (.iadd, 1) := by decide +kernel
theorem d_Di_countWaysBehind_53 : decode c_Di_countWaysBehind 53 = .ok (.iastore, 1) := by decide +kernel
theorem d_Di_countWaysBehind_54 : decode c_Di_countWaysBehind 54 = .ok (.iinc 4 1, 3) := by decide +kernel
theorem d_Di_countWaysBehind_57 : decode c_Di_countWaysBehind 57 = .ok (.goto (-47), 3) := by decide +kernel
theorem d_Di_countWaysBehind_60 : decode c_Di_countWaysBehind 60 = .ok (.return_, 1) := by decide +kernel
theorem d_Di_packetsWith_0 : decode c_Di_packetsWith 0 = .ok (.iconst 0, 1) := by decide +kernel
theorem d_Di_packetsWith_1 : decode c_Di_packetsWith 1 = .ok (.istore_n 2, 1) := by decide +kernel
theorem d_Di_packetsWith_2 : decode c_Di_packetsWith 2 = .ok (.iconst 0, 1) := by decide +kernel
theorem d_Di_packetsWith_3 : decode c_Di_packetsWith 3 = .ok (.istore_n 3, 1) := by decide +kernel
theorem d_Di_packetsWith_4 : decode c_Di_packetsWith 4 = .ok (.iload_n 3, 1) := by decide +kernel
theorem d_Di_packetsWith_5 : decode c_Di_packetsWith 5 = .ok (.aload_n 0, 1) := by decide +kernel
theorem d_Di_packetsWith_6 : decode c_Di_packetsWith 6 = .ok (.getfield 32, 3) := by decide +kernel
theorem d_Di_packetsWith_9 : decode c_Di_packetsWith 9 = .ok (.if_icmp .ge 32, 3) := by decide +kernel
theorem d_Di_packetsWith_12 : decode c_Di_packetsWith 12 = .ok (.aload_n 0, 1) := by decide +kernel
theorem d_Di_packetsWith_13 : decode c_Di_packetsWith 13 = .ok (.getfield 9, 3) := by decide +kernel
theorem d_Di_packetsWith_16 : decode c_Di_packetsWith 16 = .ok (.iload_n 3, 1) := by decide +kernel
theorem d_Di_packetsWith_17 : decode c_Di_packetsWith 17 = .ok (.invokevirtual 56, 3) := by decide +kernel
theorem d_Di_packetsWith_20 : decode c_Di_packetsWith 20 = .ok (.iload_n 1, 1) := by decide +kernel
theorem d_Di_packetsWith_21 : decode c_Di_packetsWith 21 = .ok (.if_icmp .ne 14, 3) := by decide +kernel
theorem d_Di_packetsWith_24 : decode c_Di_packetsWith 24 = .ok (.iload_n 2, 1) := by decide +kernel
theorem d_Di_packetsWith_25 : decode c_Di_packetsWith 25 = .ok (.aload_n 0, 1) := by decide +kernel
theorem d_Di_packetsWith_26 : decode c_Di_packetsWith 26 = .ok (.getfield 26, 3) := by decide +kernel
theorem d_Di_packetsWith_29 : decode c_Di_packetsWith 29 = .ok (.iconst 4, 1) := by decide +kernel
theorem d_Di_packetsWith_30 : decode c_Di_packetsWith 30 = .ok (.aaload, 1) := by decide +kernel
theorem d_Di_packetsWith_31 : decode c_Di_packetsWith 31 = .ok (.iload_n 3, 1) := by decide +kernel
theorem d_Di_packetsWith_32 : decode c_Di_packetsWith 32 = .ok (.iaload, 1) := by decide +kernel
theorem d_Di_packetsWith_33 : decode c_Di_packetsWith 33 = .ok (.iadd, 1) := by decide +kernel
theorem d_Di_packetsWith_34 : decode c_Di_packetsWith 34 = .ok (.istore_n 2, 1) := by decide +kernel
theorem d_Di_packetsWith_35 : decode c_Di_packetsWith 35 = .ok (.iinc 3 1, 3) := by decide +kernel
theorem d_Di_packetsWith_38 : decode c_Di_packetsWith 38 = .ok (.goto (-34), 3) := by decide +kernel
theorem d_Di_packetsWith_41 : decode c_Di_packetsWith 41 = .ok (.iload_n 2, 1) := by decide +kernel
theorem d_Di_packetsWith_42 : decode c_Di_packetsWith 42 = .ok (.ireturn, 1) := by decide +kernel
theorem d_Di_uniteTables_0 : decode c_Di_uniteTables 0 = .ok (.iconst 0, 1) := by decide +kernel
theorem d_Di_uniteTables_1 : decode c_Di_uniteTables 1 = .ok (.istore_n 1, 1) := by decide +kernel
theorem d_Di_uniteTables_2 : decode c_Di_uniteTables 2 = .ok (.iload_n 1, 1) := by decide +kernel
theorem d_Di_uniteTables_3 : decode c_Di_uniteTables 3 = .ok (.aload_n 0, 1) := by decide +kernel
theorem d_Di_uniteTables_4 : decode c_Di_uniteTables 4 = .ok (.getfield 32, 3) := by decide +kernel
theorem d_Di_uniteTables_7 : decode c_Di_uniteTables 7 = .ok (.if_icmp .ge 25, 3) := by decide +kernel
theorem d_Di_uniteTables_10 : decode c_Di_uniteTables 10 = .ok (.aload_n 0, 1) := by decide +kernel
theorem d_Di_uniteTables_11 : decode c_Di_uniteTables 11 = .ok (.getfield 29, 3) := by decide +kernel
theorem d_Di_uniteTables_14 : decode c_Di_uniteTables 14 = .ok (.iconst 4, 1) := by decide +kernel
theorem d_Di_uniteTables_15 : decode c_Di_uniteTables 15 = .ok (.aaload, 1) := by decide +kernel
theorem d_Di_uniteTables_16 : decode c_Di_uniteTables 16 = .ok (.iload_n 1, 1) := by decide +kernel
theorem d_Di_uniteTables_17 : decode c_Di_uniteTables 17 = .ok (.aload_n 0, 1) := by decide +kernel
theorem d_Di_uniteTables_18 : decode c_Di_uniteTables 18 = .ok (.getfield 9, 3) := by decide +kernel
theorem d_Di_uniteTables_21 : decode c_Di_uniteTables 21 = .ok (.iload_n 1, 1) := by decide +kernel
theorem d_Di_uniteTables_22 : decode c_Di_uniteTables 22 = .ok (.invokevirtual 56, 3) := by decide +kernel
theorem d_Di_uniteTables_25 : decode c_Di_uniteTables 25 = .ok (.iastore, 1) := by decide +kernel
theorem d_Di_uniteTables_26 : decode c_Di_uniteTables 26 = .ok (.iinc 1 1, 3) := by decide +kernel
theorem d_Di_uniteTables_29 : decode c_Di_uniteTables 29 = .ok (.goto (-27), 3) := by decide +kernel
theorem d_Di_uniteTables_32 : decode c_Di_uniteTables 32 = .ok (.iconst 3, 1) := by decide +kernel
theorem d_Di_uniteTables_33 : decode c_Di_uniteTables 33 = .ok (.istore_n 1, 1) := by decide +kernel
theorem d_Di_uniteTables_34 : decode c_Di_uniteTables 34 = .ok (.iload_n 1, 1) := by decide +kernel
theorem d_Di_uniteTables_35 : decode c_Di_uniteTables 35 = .ok (.ifCond .lt 48, 3) := by decide +kernel
theorem d_Di_uniteTables_38 : decode c_Di_uniteTables 38 = .ok (.iconst 0, 1) := by decide +kernel
theorem d_Di_uniteTables_39 : decode c_Di_uniteTables 39 = .ok (.istore_n 2, 1) := by decide +kernel
theorem d_Di_uniteTables_40 : decode c_Di_uniteTables 40 = .ok (.iload_n 2, 1) := by decide +kernel
theorem d_Di_uniteTables_41 : decode c_Di_uniteTables 41 = .ok (.aload_n 0, 1) := by decide +kernel
theorem d_Di_uniteTables_42 : decode c_Di_uniteTables 42 = .ok (.getfield 32, 3) := by decide +kernel
theorem d_Di_uniteTables_45 : decode c_Di_uniteTables 45 = .ok (.if_icmp .ge 32, 3) := by decide +kernel
theorem d_Di_uniteTables_48 : decode c_Di_uniteTables 48 = .ok (.aload_n 0, 1) := by decide +kernel
theorem d_Di_uniteTables_49 : decode c_Di_uniteTables 49 = .ok (.iload_n 1, 1) := by decide +kernel
theorem d_Di_uniteTables_50 : decode c_Di_uniteTables 50 = .ok (.iload_n 2, 1) := by decide +kernel
theorem d_Di_uniteTables_51 : decode c_Di_uniteTables 51 = .ok (.invokevirtual 63, 3) := by decide +kernel
theorem d_Di_uniteTables_54 : decode c_Di_uniteTables 54 = .ok (.ifCond .eq 17, 3) := by decide +kernel
theorem d_Di_uniteTables_57 : decode c_Di_uniteTables 57 = .ok (.aload_n 0, 1) := by decide +kernel
theorem d_Di_uniteTables_58 : decode c_Di_uniteTables 58 = .ok (.getfield 29, 3) := by decide +kernel
theorem d_Di_uniteTables_61 : decode c_Di_uniteTables 61 = .ok (.iload_n 1, 1) := by decide +kernel
theorem d_Di_uniteTables_62 : decode c_Di_uniteTables 62 = .ok (.aaload, 1) := by decide +kernel
theorem d_Di_uniteTables_63 : decode c_Di_uniteTables 63 = .ok (.iload_n 2, 1) := by decide +kernel
theorem d_Di_uniteTables_64 : decode c_Di_uniteTables 64 = .ok (.aload_n 0, 1) := by decide +kernel
theorem d_Di_uniteTables_65 : decode c_Di_uniteTables 65 = .ok (.iload_n 1, 1) := by decide +kernel
theorem d_Di_uniteTables_66 : decode c_Di_uniteTables 66 = .ok (.iload_n 2, 1) := by decide +kernel
theorem d_Di_uniteTables_67 : decode c_Di_uniteTables 67 = .ok (.invokevirtual 67, 3) := by decide +kernel
theorem d_Di_uniteTables_70 : decode c_Di_uniteTables 70 = .ok (.iastore, 1) := by decide +kernel
theorem d_Di_uniteTables_71 : decode c_Di_uniteTables 71 = .ok (.iinc 2 1, 3) := by decide +kernel
theorem d_Di_uniteTables_74 : decode c_Di_uniteTables 74 = .ok (.goto (-34), 3) := by decide +kernel
theorem d_Di_uniteTables_77 : decode c_Di_uniteTables 77 = .ok (.iinc 1 (-1), 3) := by decide +kernel
theorem d_Di_uniteTables_80 : decode c_Di_uniteTables 80 = .ok (.goto (-46), 3) := by decide +kernel
theorem d_Di_uniteTables_83 : decode c_Di_uniteTables 83 = .ok (.return_, 1) := by decide +kernel
theorem d_Di_firstLike_0 : decode c_Di_firstLike 0 = .ok (.iconst 0, 1) := by decide +kernel
theorem d_Di_firstLike_1 : decode c_Di_firstLike 1 = .ok (.istore_n 3, 1) := by decide +kernel
theorem d_Di_firstLike_2 : decode c_Di_firstLike 2 = .ok (.iload_n 3, 1) := by decide +kernel
theorem d_Di_firstLike_3 : decode c_Di_firstLike 3 = .ok (.iload_n 2, 1) := by decide +kernel
theorem d_Di_firstLike_4 : decode c_Di_firstLike 4 = .ok (.if_icmp .ge 42, 3) := by decide +kernel
theorem d_Di_firstLike_7 : decode c_Di_firstLike 7 = .ok (.aload_n 0, 1) := by decide +kernel
theorem d_Di_firstLike_8 : decode c_Di_firstLike 8 = .ok (.iload_n 1, 1) := by decide +kernel
theorem d_Di_firstLike_9 : decode c_Di_firstLike 9 = .ok (.iload_n 3, 1) := by decide +kernel
theorem d_Di_firstLike_10 : decode c_Di_firstLike 10 = .ok (.invokevirtual 63, 3) := by decide +kernel
theorem d_Di_firstLike_13 : decode c_Di_firstLike 13 = .ok (.ifCond .eq 27, 3) := by decide +kernel
theorem d_Di_firstLike_16 : decode c_Di_firstLike 16 = .ok (.aload_n 0, 1) := by decide +kernel
theorem d_Di_firstLike_17 : decode c_Di_firstLike 17 = .ok (.getfield 29, 3) := by decide +kernel
theorem d_Di_firstLike_20 : decode c_Di_firstLike 20 = .ok (.iload_n 1, 1) := by decide +kernel
theorem d_Di_firstLike_21 : decode c_Di_firstLike 21 = .ok (.aaload, 1) := by decide +kernel
theorem d_Di_firstLike_22 : decode c_Di_firstLike 22 = .ok (.iload_n 3, 1) := by decide +kernel
theorem d_Di_firstLike_23 : decode c_Di_firstLike 23 = .ok (.iaload, 1) := by decide +kernel
theorem d_Di_firstLike_24 : decode c_Di_firstLike 24 = .ok (.iload_n 3, 1) := by decide +kernel
theorem d_Di_firstLike_25 : decode c_Di_firstLike 25 = .ok (.if_icmp .ne 15, 3) := by decide +kernel
theorem d_Di_firstLike_28 : decode c_Di_firstLike 28 = .ok (.aload_n 0, 1) := by decide +kernel
theorem d_Di_firstLike_29 : decode c_Di_firstLike 29 = .ok (.iload_n 1, 1) := by decide +kernel
theorem d_Di_firstLike_30 : decode c_Di_firstLike 30 = .ok (.iload_n 3, 1) := by decide +kernel
theorem d_Di_firstLike_31 : decode c_Di_firstLike 31 = .ok (.iload_n 2, 1) := by decide +kernel
theorem d_Di_firstLike_32 : decode c_Di_firstLike 32 = .ok (.invokevirtual 93, 3) := by decide +kernel
theorem d_Di_firstLike_35 : decode c_Di_firstLike 35 = .ok (.ifCond .eq 5, 3) := by decide +kernel
theorem d_Di_firstLike_38 : decode c_Di_firstLike 38 = .ok (.iload_n 3, 1) := by decide +kernel
theorem d_Di_firstLike_39 : decode c_Di_firstLike 39 = .ok (.ireturn, 1) := by decide +kernel
theorem d_Di_firstLike_40 : decode c_Di_firstLike 40 = .ok (.iinc 3 1, 3) := by decide +kernel
theorem d_Di_firstLike_43 : decode c_Di_firstLike 43 = .ok (.goto (-41), 3) := by decide +kernel
theorem d_Di_firstLike_46 : decode c_Di_firstLike 46 = .ok (.iload_n 2, 1) := by decide +kernel
theorem d_Di_firstLike_47 : decode c_Di_firstLike 47 = .ok (.ireturn, 1) := by decide +kernel
theorem d_Di_areAlike_0 : decode c_Di_areAlike 0 = .ok (.iconst 0, 1) := by decide +kernel
theorem d_Di_areAlike_1 : decode c_Di_areAlike 1 = .ok (.istore 4, 2) := by decide +kernel
theorem d_Di_areAlike_3 : decode c_Di_areAlike 3 = .ok (.iload 4, 2) := by decide +kernel
theorem d_Di_areAlike_5 : decode c_Di_areAlike 5 = .ok (.aload_n 0, 1) := by decide +kernel
theorem d_Di_areAlike_6 : decode c_Di_areAlike 6 = .ok (.getfield 17, 3) := by decide +kernel
theorem d_Di_areAlike_9 : decode c_Di_areAlike 9 = .ok (.iload_n 1, 1) := by decide +kernel
theorem d_Di_areAlike_10 : decode c_Di_areAlike 10 = .ok (.aaload, 1) := by decide +kernel
theorem d_Di_areAlike_11 : decode c_Di_areAlike 11 = .ok (.invokevirtual 86, 3) := by decide +kernel
theorem d_Di_areAlike_14 : decode c_Di_areAlike 14 = .ok (.if_icmp .ge 30, 3) := by decide +kernel
theorem d_Di_areAlike_17 : decode c_Di_areAlike 17 = .ok (.aload_n 0, 1) := by decide +kernel
theorem d_Di_areAlike_18 : decode c_Di_areAlike 18 = .ok (.iload_n 1, 1) := by decide +kernel
theorem d_Di_areAlike_19 : decode c_Di_areAlike 19 = .ok (.iload_n 2, 1) := by decide +kernel
theorem d_Di_areAlike_20 : decode c_Di_areAlike 20 = .ok (.iload 4, 2) := by decide +kernel
theorem d_Di_areAlike_22 : decode c_Di_areAlike 22 = .ok (.invokevirtual 97, 3) := by decide +kernel
theorem d_Di_areAlike_25 : decode c_Di_areAlike 25 = .ok (.aload_n 0, 1) := by decide +kernel
theorem d_Di_areAlike_26 : decode c_Di_areAlike 26 = .ok (.iload_n 1, 1) := by decide +kernel
theorem d_Di_areAlike_27 : decode c_Di_areAlike 27 = .ok (.iload_n 3, 1) := by decide +kernel
theorem d_Di_areAlike_28 : decode c_Di_areAlike 28 = .ok (.iload 4, 2) := by decide +kernel
theorem d_Di_areAlike_30 : decode c_Di_areAlike 30 = .ok (.invokevirtual 97, 3) := by decide +kernel
theorem d_Di_areAlike_33 : decode c_Di_areAlike 33 = .ok (.if_icmp .eq 5, 3) := by decide +kernel
theorem d_Di_areAlike_36 : decode c_Di_areAlike 36 = .ok (.iconst 0, 1) := by decide +kernel
theorem d_Di_areAlike_37 : decode c_Di_areAlike 37 = .ok (.ireturn, 1) := by decide +kernel
theorem d_Di_areAlike_38 : decode c_Di_areAlike 38 = .ok (.iinc 4 1, 3) := by decide +kernel
theorem d_Di_areAlike_41 : decode c_Di_areAlike 41 = .ok (.goto (-38), 3) := by decide +kernel
theorem d_Di_areAlike_44 : decode c_Di_areAlike 44 = .ok (.iconst 1, 1) := by decide +kernel
theorem d_Di_areAlike_45 : decode c_Di_areAlike 45 = .ok (.ireturn, 1) := by decide +kernel
theorem d_Di_restOf_0 : decode c_Di_restOf 0 = .ok (.aload_n 0, 1) := by decide +kernel
theorem d_Di_restOf_1 : decode c_Di_restOf 1 = .ok (.getfield 29, 3) := by decide +kernel
theorem d_Di_restOf_4 : decode c_Di_restOf 4 = .ok (.iload_n 1, 1) := by decide +kernel
theorem d_Di_restOf_5 : decode c_Di_restOf 5 = .ok (.iconst 1, 1) := by decide +kernel
theorem d_Di_restOf_6 : decode c_Di_restOf 6 = .ok (.iadd, 1) := by decide +kernel
theorem d_Di_restOf_7 : decode c_Di_restOf 7 = .ok (.aaload, 1) := by decide +kernel
theorem d_Di_restOf_8 : decode c_Di_restOf 8 = .ok (.iload_n 2, 1) := by decide +kernel
theorem d_Di_restOf_9 : decode c_Di_restOf 9 = .ok (.aload_n 0, 1) := by decide +kernel
theorem d_Di_restOf_10 : decode c_Di_restOf 10 = .ok (.getfield 17, 3) := by decide +kernel
theorem d_Di_restOf_13 : decode c_Di_restOf 13 = .ok (.iload_n 1, 1) := by decide +kernel
theorem d_Di_restOf_14 : decode c_Di_restOf 14 = .ok (.aaload, 1) := by decide +kernel
theorem d_Di_restOf_15 : decode c_Di_restOf 15 = .ok (.iload_n 3, 1) := by decide +kernel
theorem d_Di_restOf_16 : decode c_Di_restOf 16 = .ok (.invokevirtual 87, 3) := by decide +kernel
theorem d_Di_restOf_19 : decode c_Di_restOf 19 = .ok (.iand, 1) := by decide +kernel
theorem d_Di_restOf_20 : decode c_Di_restOf 20 = .ok (.iaload, 1) := by decide +kernel
theorem d_Di_restOf_21 : decode c_Di_restOf 21 = .ok (.ireturn, 1) := by decide +kernel
theorem d_Di_nodesOf_0 : decode c_Di_nodesOf 0 = .ok (.iconst 0, 1) := by decide +kernel
theorem d_Di_nodesOf_1 : decode c_Di_nodesOf 1 = .ok (.istore_n 2, 1) := by decide +kernel
theorem d_Di_nodesOf_2 : decode c_Di_nodesOf 2 = .ok (.iconst 0, 1) := by decide +kernel
theorem d_Di_nodesOf_3 : decode c_Di_nodesOf 3 = .ok (.istore_n 3, 1) := by decide +kernel
theorem d_Di_nodesOf_4 : decode c_Di_nodesOf 4 = .ok (.iload_n 3, 1) := by decide +kernel
theorem d_Di_nodesOf_5 : decode c_Di_nodesOf 5 = .ok (.aload_n 0, 1) := by decide +kernel
theorem d_Di_nodesOf_6 : decode c_Di_nodesOf 6 = .ok (.getfield 32, 3) := by decide +kernel
theorem d_Di_nodesOf_9 : decode c_Di_nodesOf 9 = .ok (.if_icmp .ge 21, 3) := by decide +kernel
theorem d_Di_nodesOf_12 : decode c_Di_nodesOf 12 = .ok (.aload_n 0, 1) := by decide +kernel
theorem d_Di_nodesOf_13 : decode c_Di_nodesOf 13 = .ok (.iload_n 1, 1) := by decide +kernel
theorem d_Di_nodesOf_14 : decode c_Di_nodesOf 14 = .ok (.iload_n 3, 1) := by decide +kernel
theorem d_Di_nodesOf_15 : decode c_Di_nodesOf 15 = .ok (.invokevirtual 71, 3) := by decide +kernel
theorem d_Di_nodesOf_18 : decode c_Di_nodesOf 18 = .ok (.ifCond .eq 6, 3) := by decide +kernel
theorem d_Di_nodesOf_21 : decode c_Di_nodesOf 21 = .ok (.iinc 2 1, 3) := by decide +kernel
theorem d_Di_nodesOf_24 : decode c_Di_nodesOf 24 = .ok (.iinc 3 1, 3) := by decide +kernel
theorem d_Di_nodesOf_27 : decode c_Di_nodesOf 27 = .ok (.goto (-23), 3) := by decide +kernel
theorem d_Di_nodesOf_30 : decode c_Di_nodesOf 30 = .ok (.iload_n 2, 1) := by decide +kernel
theorem d_Di_nodesOf_31 : decode c_Di_nodesOf 31 = .ok (.ireturn, 1) := by decide +kernel
theorem d_Di_isNode_0 : decode c_Di_isNode 0 = .ok (.aload_n 0, 1) := by decide +kernel
theorem d_Di_isNode_1 : decode c_Di_isNode 1 = .ok (.iload_n 1, 1) := by decide +kernel
theorem d_Di_isNode_2 : decode c_Di_isNode 2 = .ok (.iload_n 2, 1) := by decide +kernel
theorem d_Di_isNode_3 : decode c_Di_isNode 3 = .ok (.invokevirtual 63, 3) := by decide +kernel
theorem d_Di_isNode_6 : decode c_Di_isNode 6 = .ok (.ifCond .eq 29, 3) := by decide +kernel
theorem d_Di_isNode_9 : decode c_Di_isNode 9 = .ok (.aload_n 0, 1) := by decide +kernel
theorem d_Di_isNode_10 : decode c_Di_isNode 10 = .ok (.getfield 29, 3) := by decide +kernel
theorem d_Di_isNode_13 : decode c_Di_isNode 13 = .ok (.iload_n 1, 1) := by decide +kernel
theorem d_Di_isNode_14 : decode c_Di_isNode 14 = .ok (.aaload, 1) := by decide +kernel
theorem d_Di_isNode_15 : decode c_Di_isNode 15 = .ok (.iload_n 2, 1) := by decide +kernel
theorem d_Di_isNode_16 : decode c_Di_isNode 16 = .ok (.iaload, 1) := by decide +kernel
theorem d_Di_isNode_17 : decode c_Di_isNode 17 = .ok (.iload_n 2, 1) := by decide +kernel
theorem d_Di_isNode_18 : decode c_Di_isNode 18 = .ok (.if_icmp .ne 17, 3) := by decide +kernel
theorem d_Di_isNode_21 : decode c_Di_isNode 21 = .ok (.aload_n 0, 1) := by decide +kernel
theorem d_Di_isNode_22 : decode c_Di_isNode 22 = .ok (.iload_n 1, 1) := by decide +kernel
theorem d_Di_isNode_23 : decode c_Di_isNode 23 = .ok (.iload_n 2, 1) := by decide +kernel
theorem d_Di_isNode_24 : decode c_Di_isNode 24 = .ok (.invokevirtual 74, 3) := by decide +kernel
theorem d_Di_isNode_27 : decode c_Di_isNode 27 = .ok (.iconst 1, 1) := by decide +kernel
theorem d_Di_isNode_28 : decode c_Di_isNode 28 = .ok (.if_icmp .le 7, 3) := by decide +kernel
theorem d_Di_isNode_31 : decode c_Di_isNode 31 = .ok (.iconst 1, 1) := by decide +kernel
theorem d_Di_isNode_32 : decode c_Di_isNode 32 = .ok (.goto 4, 3) := by decide +kernel
theorem d_Di_isNode_35 : decode c_Di_isNode 35 = .ok (.iconst 0, 1) := by decide +kernel
theorem d_Di_isNode_36 : decode c_Di_isNode 36 = .ok (.ireturn, 1) := by decide +kernel
theorem d_Di_rowsOf_0 : decode c_Di_rowsOf 0 = .ok (.iconst 1, 1) := by decide +kernel
theorem d_Di_rowsOf_1 : decode c_Di_rowsOf 1 = .ok (.istore_n 3, 1) := by decide +kernel
theorem d_Di_rowsOf_2 : decode c_Di_rowsOf 2 = .ok (.iconst 1, 1) := by decide +kernel
theorem d_Di_rowsOf_3 : decode c_Di_rowsOf 3 = .ok (.istore 4, 2) := by decide +kernel
theorem d_Di_rowsOf_5 : decode c_Di_rowsOf 5 = .ok (.iload 4, 2) := by decide +kernel
theorem d_Di_rowsOf_7 : decode c_Di_rowsOf 7 = .ok (.aload_n 0, 1) := by decide +kernel
theorem d_Di_rowsOf_8 : decode c_Di_rowsOf 8 = .ok (.getfield 17, 3) := by decide +kernel
theorem d_Di_rowsOf_11 : decode c_Di_rowsOf 11 = .ok (.iload_n 1, 1) := by decide +kernel
theorem d_Di_rowsOf_12 : decode c_Di_rowsOf 12 = .ok (.aaload, 1) := by decide +kernel
theorem d_Di_rowsOf_13 : decode c_Di_rowsOf 13 = .ok (.invokevirtual 86, 3) := by decide +kernel
theorem d_Di_rowsOf_16 : decode c_Di_rowsOf 16 = .ok (.if_icmp .ge 33, 3) := by decide +kernel
theorem d_Di_rowsOf_19 : decode c_Di_rowsOf 19 = .ok (.aload_n 0, 1) := by decide +kernel
theorem d_Di_rowsOf_20 : decode c_Di_rowsOf 20 = .ok (.iload_n 1, 1) := by decide +kernel
theorem d_Di_rowsOf_21 : decode c_Di_rowsOf 21 = .ok (.iload_n 2, 1) := by decide +kernel
theorem d_Di_rowsOf_22 : decode c_Di_rowsOf 22 = .ok (.iload 4, 2) := by decide +kernel
theorem d_Di_rowsOf_24 : decode c_Di_rowsOf 24 = .ok (.invokevirtual 97, 3) := by decide +kernel
theorem d_Di_rowsOf_27 : decode c_Di_rowsOf 27 = .ok (.aload_n 0, 1) := by decide +kernel
theorem d_Di_rowsOf_28 : decode c_Di_rowsOf 28 = .ok (.iload_n 1, 1) := by decide +kernel
theorem d_Di_rowsOf_29 : decode c_Di_rowsOf 29 = .ok (.iload_n 2, 1) := by decide +kernel
theorem d_Di_rowsOf_30 : decode c_Di_rowsOf 30 = .ok (.iload 4, 2) := by decide +kernel
theorem d_Di_rowsOf_32 : decode c_Di_rowsOf 32 = .ok (.iconst 1, 1) := by decide +kernel
theorem d_Di_rowsOf_33 : decode c_Di_rowsOf 33 = .ok (.isub, 1) := by decide +kernel
theorem d_Di_rowsOf_34 : decode c_Di_rowsOf 34 = .ok (.invokevirtual 97, 3) := by decide +kernel
theorem d_Di_rowsOf_37 : decode c_Di_rowsOf 37 = .ok (.if_icmp .eq 6, 3) := by decide +kernel
theorem d_Di_rowsOf_40 : decode c_Di_rowsOf 40 = .ok (.iinc 3 1, 3) := by decide +kernel
theorem d_Di_rowsOf_43 : decode c_Di_rowsOf 43 = .ok (.iinc 4 1, 3) := by decide +kernel
theorem d_Di_rowsOf_46 : decode c_Di_rowsOf 46 = .ok (.goto (-41), 3) := by decide +kernel
theorem d_Di_rowsOf_49 : decode c_Di_rowsOf 49 = .ok (.iload_n 3, 1) := by decide +kernel
theorem d_Di_rowsOf_50 : decode c_Di_rowsOf 50 = .ok (.ireturn, 1) := by decide +kernel
theorem d_Di_edgesOf_0 : decode c_Di_edgesOf 0 = .ok (.iconst 0, 1) := by decide +kernel
theorem d_Di_edgesOf_1 : decode c_Di_edgesOf 1 = .ok (.istore_n 2, 1) := by decide +kernel
theorem d_Di_edgesOf_2 : decode c_Di_edgesOf 2 = .ok (.iconst 0, 1) := by decide +kernel
theorem d_Di_edgesOf_3 : decode c_Di_edgesOf 3 = .ok (.istore_n 3, 1) := by decide +kernel
theorem d_Di_edgesOf_4 : decode c_Di_edgesOf 4 = .ok (.iload_n 3, 1) := by decide +kernel
theorem d_Di_edgesOf_5 : decode c_Di_edgesOf 5 = .ok (.aload_n 0, 1) := by decide +kernel
theorem d_Di_edgesOf_6 : decode c_Di_edgesOf 6 = .ok (.getfield 32, 3) := by decide +kernel
theorem d_Di_edgesOf_9 : decode c_Di_edgesOf 9 = .ok (.if_icmp .ge 27, 3) := by decide +kernel
theorem d_Di_edgesOf_12 : decode c_Di_edgesOf 12 = .ok (.aload_n 0, 1) := by decide +kernel
theorem d_Di_edgesOf_13 : decode c_Di_edgesOf 13 = .ok (.iload_n 1, 1) := by decide +kernel
theorem d_Di_edgesOf_14 : decode c_Di_edgesOf 14 = .ok (.iload_n 3, 1) := by decide +kernel
theorem d_Di_edgesOf_15 : decode c_Di_edgesOf 15 = .ok (.invokevirtual 71, 3) := by decide +kernel
theorem d_Di_edgesOf_18 : decode c_Di_edgesOf 18 = .ok (.ifCond .eq 12, 3) := by decide +kernel
theorem d_Di_edgesOf_21 : decode c_Di_edgesOf 21 = .ok (.iload_n 2, 1) := by decide +kernel
theorem d_Di_edgesOf_22 : decode c_Di_edgesOf 22 = .ok (.aload_n 0, 1) := by decide +kernel
theorem d_Di_edgesOf_23 : decode c_Di_edgesOf 23 = .ok (.iload_n 1, 1) := by decide +kernel
theorem d_Di_edgesOf_24 : decode c_Di_edgesOf 24 = .ok (.iload_n 3, 1) := by decide +kernel
theorem d_Di_edgesOf_25 : decode c_Di_edgesOf 25 = .ok (.invokevirtual 74, 3) := by decide +kernel
theorem d_Di_edgesOf_28 : decode c_Di_edgesOf 28 = .ok (.iadd, 1) := by decide +kernel
theorem d_Di_edgesOf_29 : decode c_Di_edgesOf 29 = .ok (.istore_n 2, 1) := by decide +kernel
theorem d_Di_edgesOf_30 : decode c_Di_edgesOf 30 = .ok (.iinc 3 1, 3) := by decide +kernel
theorem d_Di_edgesOf_33 : decode c_Di_edgesOf 33 = .ok (.goto (-29), 3) := by decide +kernel
theorem d_Di_edgesOf_36 : decode c_Di_edgesOf 36 = .ok (.iload_n 2, 1) := by decide +kernel
theorem d_Di_edgesOf_37 : decode c_Di_edgesOf 37 = .ok (.ireturn, 1) := by decide +kernel
theorem d_Co_firstUnlike_0 : decode c_Co_firstUnlike 0 = .ok (.iconst 0, 1) := by decide +kernel
theorem d_Co_firstUnlike_1 : decode c_Co_firstUnlike 1 = .ok (.istore_n 1, 1) := by decide +kernel
theorem d_Co_firstUnlike_2 : decode c_Co_firstUnlike 2 = .ok (.invokestatic 38, 3) := by decide +kernel
theorem d_Co_firstUnlike_5 : decode c_Co_firstUnlike 5 = .ok (.istore_n 2, 1) := by decide +kernel
theorem d_Co_firstUnlike_6 : decode c_Co_firstUnlike 6 = .ok (.iconst 0, 1) := by decide +kernel
theorem d_Co_firstUnlike_7 : decode c_Co_firstUnlike 7 = .ok (.istore_n 3, 1) := by decide +kernel
theorem d_Co_firstUnlike_8 : decode c_Co_firstUnlike 8 = .ok (.iload_n 3, 1) := by decide +kernel
theorem d_Co_firstUnlike_9 : decode c_Co_firstUnlike 9 = .ok (.iconst 4, 1) := by decide +kernel
theorem d_Co_firstUnlike_10 : decode c_Co_firstUnlike 10 = .ok (.if_icmp .ge 59, 3) := by decide +kernel
theorem d_Co_firstUnlike_13 : decode c_Co_firstUnlike 13 = .ok (.aload_n 0, 1) := by decide +kernel
theorem d_Co_firstUnlike_14 : decode c_Co_firstUnlike 14 = .ok (.iload_n 3, 1) := by decide +kernel
theorem d_Co_firstUnlike_15 : decode c_Co_firstUnlike 15 = .ok (.iload_n 2, 1) := by decide +kernel
theorem d_Co_firstUnlike_16 : decode c_Co_firstUnlike 16 = .ok (.invokevirtual 46, 3) := by decide +kernel
theorem d_Co_firstUnlike_19 : decode c_Co_firstUnlike 19 = .ok (.istore 4, 2) := by decide +kernel
theorem d_Co_firstUnlike_21 : decode c_Co_firstUnlike 21 = .ok (.iload 4, 2) := by decide +kernel
theorem d_Co_firstUnlike_23 : decode c_Co_firstUnlike 23 = .ok (.iconst (-1), 1) := by decide +kernel
theorem d_Co_firstUnlike_24 : decode c_Co_firstUnlike 24 = .ok (.if_icmp .ne 5, 3) := by decide +kernel
theorem d_Co_firstUnlike_27 : decode c_Co_firstUnlike 27 = .ok (.iconst (-1), 1) := by decide +kernel
theorem d_Co_firstUnlike_28 : decode c_Co_firstUnlike 28 = .ok (.ireturn, 1) := by decide +kernel
theorem d_Co_firstUnlike_29 : decode c_Co_firstUnlike 29 = .ok (.iload_n 1, 1) := by decide +kernel
theorem d_Co_firstUnlike_30 : decode c_Co_firstUnlike 30 = .ok (.aload_n 0, 1) := by decide +kernel
theorem d_Co_firstUnlike_31 : decode c_Co_firstUnlike 31 = .ok (.getfield 20, 3) := by decide +kernel
theorem d_Co_firstUnlike_34 : decode c_Co_firstUnlike 34 = .ok (.iload_n 3, 1) := by decide +kernel
theorem d_Co_firstUnlike_35 : decode c_Co_firstUnlike 35 = .ok (.aaload, 1) := by decide +kernel
theorem d_Co_firstUnlike_36 : decode c_Co_firstUnlike 36 = .ok (.iload 4, 2) := by decide +kernel
theorem d_Co_firstUnlike_38 : decode c_Co_firstUnlike 38 = .ok (.invokevirtual 50, 3) := by decide +kernel
theorem d_Co_firstUnlike_41 : decode c_Co_firstUnlike 41 = .ok (.getstatic 54, 3) := by decide +kernel
theorem d_Co_firstUnlike_44 : decode c_Co_firstUnlike 44 = .ok (.iload_n 3, 1) := by decide +kernel
theorem d_Co_firstUnlike_45 : decode c_Co_firstUnlike 45 = .ok (.iaload, 1) := by decide +kernel
theorem d_Co_firstUnlike_46 : decode c_Co_firstUnlike 46 = .ok (.ishl, 1) := by decide +kernel
theorem d_Co_firstUnlike_47 : decode c_Co_firstUnlike 47 = .ok (.ior, 1) := by decide +kernel
theorem d_Co_firstUnlike_48 : decode c_Co_firstUnlike 48 = .ok (.istore_n 1, 1) := by decide +kernel
theorem d_Co_firstUnlike_49 : decode c_Co_firstUnlike 49 = .ok (.iload_n 2, 1) := by decide +kernel
theorem d_Co_firstUnlike_50 : decode c_Co_firstUnlike 50 = .ok (.aload_n 0, 1) := by decide +kernel
theorem d_Co_firstUnlike_51 : decode c_Co_firstUnlike 51 = .ok (.getfield 20, 3) := by decide +kernel
theorem d_Co_firstUnlike_54 : decode c_Co_firstUnlike 54 = .ok (.iload_n 3, 1) := by decide +kernel
theorem d_Co_firstUnlike_55 : decode c_Co_firstUnlike 55 = .ok (.aaload, 1) := by decide +kernel
theorem d_Co_firstUnlike_56 : decode c_Co_firstUnlike 56 = .ok (.iload 4, 2) := by decide +kernel
theorem d_Co_firstUnlike_58 : decode c_Co_firstUnlike 58 = .ok (.invokevirtual 58, 3) := by decide +kernel
theorem d_Co_firstUnlike_61 : decode c_Co_firstUnlike 61 = .ok (.iand, 1) := by decide +kernel
theorem d_Co_firstUnlike_62 : decode c_Co_firstUnlike 62 = .ok (.istore_n 2, 1) := by decide +kernel
theorem d_Co_firstUnlike_63 : decode c_Co_firstUnlike 63 = .ok (.iinc 3 1, 3) := by decide +kernel
theorem d_Co_firstUnlike_66 : decode c_Co_firstUnlike 66 = .ok (.goto (-58), 3) := by decide +kernel
theorem d_Co_firstUnlike_69 : decode c_Co_firstUnlike 69 = .ok (.iload_n 1, 1) := by decide +kernel
theorem d_Co_firstUnlike_70 : decode c_Co_firstUnlike 70 = .ok (.ireturn, 1) := by decide +kernel
theorem d_Co_firstUnlikeRow_0 : decode c_Co_firstUnlikeRow 0 = .ok (.iconst 0, 1) := by decide +kernel
theorem d_Co_firstUnlikeRow_1 : decode c_Co_firstUnlikeRow 1 = .ok (.istore_n 3, 1) := by decide +kernel
theorem d_Co_firstUnlikeRow_2 : decode c_Co_firstUnlikeRow 2 = .ok (.iload_n 3, 1) := by decide +kernel
theorem d_Co_firstUnlikeRow_3 : decode c_Co_firstUnlikeRow 3 = .ok (.aload_n 0, 1) := by decide +kernel
theorem d_Co_firstUnlikeRow_4 : decode c_Co_firstUnlikeRow 4 = .ok (.getfield 20, 3) := by decide +kernel
theorem d_Co_firstUnlikeRow_7 : decode c_Co_firstUnlikeRow 7 = .ok (.iload_n 1, 1) := by decide +kernel
theorem d_Co_firstUnlikeRow_8 : decode c_Co_firstUnlikeRow 8 = .ok (.aaload, 1) := by decide +kernel
theorem d_Co_firstUnlikeRow_9 : decode c_Co_firstUnlikeRow 9 = .ok (.invokevirtual 61, 3) := by decide +kernel
theorem d_Co_firstUnlikeRow_12 : decode c_Co_firstUnlikeRow 12 = .ok (.if_icmp .ge 33, 3) := by decide +kernel
theorem d_Co_firstUnlikeRow_15 : decode c_Co_firstUnlikeRow 15 = .ok (.aload_n 0, 1) := by decide +kernel
theorem d_Co_firstUnlikeRow_16 : decode c_Co_firstUnlikeRow 16 = .ok (.iload_n 1, 1) := by decide +kernel
theorem d_Co_firstUnlikeRow_17 : decode c_Co_firstUnlikeRow 17 = .ok (.iconst 1, 1) := by decide +kernel
theorem d_Co_firstUnlikeRow_18 : decode c_Co_firstUnlikeRow 18 = .ok (.iadd, 1) := by decide +kernel
theorem d_Co_firstUnlikeRow_19 : decode c_Co_firstUnlikeRow 19 = .ok (.iload_n 2, 1) := by decide +kernel
theorem d_Co_firstUnlikeRow_20 : decode c_Co_firstUnlikeRow 20 = .ok (.aload_n 0, 1) := by decide +kernel
theorem d_Co_firstUnlikeRow_21 : decode c_Co_firstUnlikeRow 21 = .ok (.getfield 20, 3) := by decide +kernel
theorem d_Co_firstUnlikeRow_24 : decode c_Co_firstUnlikeRow 24 = .ok (.iload_n 1, 1) := by decide +kernel
theorem d_Co_firstUnlikeRow_25 : decode c_Co_firstUnlikeRow 25 = .ok (.aaload, 1) := by decide +kernel
theorem d_Co_firstUnlikeRow_26 : decode c_Co_firstUnlikeRow 26 = .ok (.iload_n 3, 1) := by decide +kernel
theorem d_Co_firstUnlikeRow_27 : decode c_Co_firstUnlikeRow 27 = .ok (.invokevirtual 58, 3) := by decide +kernel
theorem d_Co_firstUnlikeRow_30 : decode c_Co_firstUnlikeRow 30 = .ok (.iand, 1) := by decide +kernel
theorem d_Co_firstUnlikeRow_31 : decode c_Co_firstUnlikeRow 31 = .ok (.invokestatic 42, 3) := by decide +kernel
theorem d_Co_firstUnlikeRow_34 : decode c_Co_firstUnlikeRow 34 = .ok (.ifCond .le 5, 3) := by decide +kernel
theorem d_Co_firstUnlikeRow_37 : decode c_Co_firstUnlikeRow 37 = .ok (.iload_n 3, 1) := by decide +kernel
theorem d_Co_firstUnlikeRow_38 : decode c_Co_firstUnlikeRow 38 = .ok (.ireturn, 1) := by decide +kernel
theorem d_Co_firstUnlikeRow_39 : decode c_Co_firstUnlikeRow 39 = .ok (.iinc 3 1, 3) := by decide +kernel
theorem d_Co_firstUnlikeRow_42 : decode c_Co_firstUnlikeRow 42 = .ok (.goto (-40), 3) := by decide +kernel
theorem d_Co_firstUnlikeRow_45 : decode c_Co_firstUnlikeRow 45 = .ok (.iconst (-1), 1) := by decide +kernel
theorem d_Co_firstUnlikeRow_46 : decode c_Co_firstUnlikeRow 46 = .ok (.ireturn, 1) := by decide +kernel
theorem d_Cu_start_0 : decode c_Cu_start 0 = .ok (.aload_n 0, 1) := by decide +kernel
theorem d_Cu_start_1 : decode c_Cu_start 1 = .ok (.getfield 13, 3) := by decide +kernel
theorem d_Cu_start_4 : decode c_Cu_start 4 = .ok (.iload_n 1, 1) := by decide +kernel
theorem d_Cu_start_5 : decode c_Cu_start 5 = .ok (.iaload, 1) := by decide +kernel
theorem d_Cu_start_6 : decode c_Cu_start 6 = .ok (.ireturn, 1) := by decide +kernel
theorem d_Di_packetsOf_0 : decode c_Di_packetsOf 0 = .ok (.iconst 0, 1) := by decide +kernel
theorem d_Di_packetsOf_1 : decode c_Di_packetsOf 1 = .ok (.istore_n 2, 1) := by decide +kernel
theorem d_Di_packetsOf_2 : decode c_Di_packetsOf 2 = .ok (.iconst 1, 1) := by decide +kernel
theorem d_Di_packetsOf_3 : decode c_Di_packetsOf 3 = .ok (.istore_n 3, 1) := by decide +kernel
theorem d_Di_packetsOf_4 : decode c_Di_packetsOf 4 = .ok (.iload_n 3, 1) := by decide +kernel
theorem d_Di_packetsOf_5 : decode c_Di_packetsOf 5 = .ok (.aload_n 0, 1) := by decide +kernel
theorem d_Di_packetsOf_6 : decode c_Di_packetsOf 6 = .ok (.getfield 32, 3) := by decide +kernel
theorem d_Di_packetsOf_9 : decode c_Di_packetsOf 9 = .ok (.if_icmp .ge 28, 3) := by decide +kernel
theorem d_Di_packetsOf_12 : decode c_Di_packetsOf 12 = .ok (.iload_n 3, 1) := by decide +kernel
theorem d_Di_packetsOf_13 : decode c_Di_packetsOf 13 = .ok (.invokestatic 60, 3) := by decide +kernel
theorem d_Di_packetsOf_16 : decode c_Di_packetsOf 16 = .ok (.iload_n 1, 1) := by decide +kernel
theorem d_Di_packetsOf_17 : decode c_Di_packetsOf 17 = .ok (.if_icmp .ne 14, 3) := by decide +kernel
theorem d_Di_packetsOf_20 : decode c_Di_packetsOf 20 = .ok (.iload_n 2, 1) := by decide +kernel
theorem d_Di_packetsOf_21 : decode c_Di_packetsOf 21 = .ok (.aload_n 0, 1) := by decide +kernel
theorem d_Di_packetsOf_22 : decode c_Di_packetsOf 22 = .ok (.getfield 26, 3) := by decide +kernel
theorem d_Di_packetsOf_25 : decode c_Di_packetsOf 25 = .ok (.iconst 4, 1) := by decide +kernel
theorem d_Di_packetsOf_26 : decode c_Di_packetsOf 26 = .ok (.aaload, 1) := by decide +kernel
theorem d_Di_packetsOf_27 : decode c_Di_packetsOf 27 = .ok (.iload_n 3, 1) := by decide +kernel
theorem d_Di_packetsOf_28 : decode c_Di_packetsOf 28 = .ok (.iaload, 1) := by decide +kernel
theorem d_Di_packetsOf_29 : decode c_Di_packetsOf 29 = .ok (.iadd, 1) := by decide +kernel
theorem d_Di_packetsOf_30 : decode c_Di_packetsOf 30 = .ok (.istore_n 2, 1) := by decide +kernel
theorem d_Di_packetsOf_31 : decode c_Di_packetsOf 31 = .ok (.iinc 3 1, 3) := by decide +kernel
theorem d_Di_packetsOf_34 : decode c_Di_packetsOf 34 = .ok (.goto (-30), 3) := by decide +kernel
theorem d_Di_packetsOf_37 : decode c_Di_packetsOf 37 = .ok (.iload_n 2, 1) := by decide +kernel
theorem d_Di_packetsOf_38 : decode c_Di_packetsOf 38 = .ok (.ireturn, 1) := by decide +kernel
theorem d_Ga_connectionOf_0 : decode c_Ga_connectionOf 0 = .ok (.iload_n 1, 1) := by decide +kernel
theorem d_Ga_connectionOf_1 : decode c_Ga_connectionOf 1 = .ok (.iconst 1, 1) := by decide +kernel
theorem d_Ga_connectionOf_2 : decode c_Ga_connectionOf 2 = .ok (.invokestatic 19, 3) := by decide +kernel
theorem d_Ga_connectionOf_5 : decode c_Ga_connectionOf 5 = .ok (.iload_n 1, 1) := by decide +kernel
theorem d_Ga_connectionOf_6 : decode c_Ga_connectionOf 6 = .ok (.iconst 0, 1) := by decide +kernel
theorem d_Ga_connectionOf_7 : decode c_Ga_connectionOf 7 = .ok (.invokestatic 19, 3) := by decide +kernel
theorem d_Ga_connectionOf_10 : decode c_Ga_connectionOf 10 = .ok (.iload_n 1, 1) := by decide +kernel
theorem d_Ga_connectionOf_11 : decode c_Ga_connectionOf 11 = .ok (.iconst 2, 1) := by decide +kernel
theorem d_Ga_connectionOf_12 : decode c_Ga_connectionOf 12 = .ok (.invokestatic 19, 3) := by decide +kernel
theorem d_Ga_connectionOf_15 : decode c_Ga_connectionOf 15 = .ok (.iload_n 1, 1) := by decide +kernel
theorem d_Ga_connectionOf_16 : decode c_Ga_connectionOf 16 = .ok (.iconst 3, 1) := by decide +kernel
theorem d_Ga_connectionOf_17 : decode c_Ga_connectionOf 17 = .ok (.invokestatic 19, 3) := by decide +kernel
theorem d_Ga_connectionOf_20 : decode c_Ga_connectionOf 20 = .ok (.invokestatic 23, 3) := by decide +kernel
theorem d_Ga_connectionOf_23 : decode c_Ga_connectionOf 23 = .ok (.istore_n 2, 1) := by decide +kernel
theorem d_Ga_connectionOf_24 : decode c_Ga_connectionOf 24 = .ok (.iconst 0, 1) := by decide +kernel
theorem d_Ga_connectionOf_25 : decode c_Ga_connectionOf 25 = .ok (.istore_n 3, 1) := by decide +kernel
theorem d_Ga_connectionOf_26 : decode c_Ga_connectionOf 26 = .ok (.iload_n 3, 1) := by decide +kernel
theorem d_Ga_connectionOf_27 : decode c_Ga_connectionOf 27 = .ok (.aload_n 0, 1) := by decide +kernel
theorem d_Ga_connectionOf_28 : decode c_Ga_connectionOf 28 = .ok (.getfield 15, 3) := by decide +kernel
theorem d_Ga_connectionOf_31 : decode c_Ga_connectionOf 31 = .ok (.if_icmp .ge 31, 3) := by decide +kernel
theorem d_Ga_connectionOf_34 : decode c_Ga_connectionOf 34 = .ok (.aload_n 0, 1) := by decide +kernel
theorem d_Ga_connectionOf_35 : decode c_Ga_connectionOf 35 = .ok (.getfield 9, 3) := by decide +kernel
theorem d_Ga_connectionOf_38 : decode c_Ga_connectionOf 38 = .ok (.iload_n 3, 1) := by decide +kernel
theorem d_Ga_connectionOf_39 : decode c_Ga_connectionOf 39 = .ok (.iaload, 1) := by decide +kernel
theorem d_Ga_connectionOf_40 : decode c_Ga_connectionOf 40 = .ok (.iload_n 1, 1) := by decide +kernel
theorem d_Ga_connectionOf_41 : decode c_Ga_connectionOf 41 = .ok (.if_icmp .eq 13, 3) := by decide +kernel
theorem d_Ga_connectionOf_44 : decode c_Ga_connectionOf 44 = .ok (.aload_n 0, 1) := by decide +kernel
theorem d_Ga_connectionOf_45 : decode c_Ga_connectionOf 45 = .ok (.getfield 9, 3) := by decide +kernel
theorem d_Ga_connectionOf_48 : decode c_Ga_connectionOf 48 = .ok (.iload_n 3, 1) := by decide +kernel
theorem d_Ga_connectionOf_49 : decode c_Ga_connectionOf 49 = .ok (.iaload, 1) := by decide +kernel
theorem d_Ga_connectionOf_50 : decode c_Ga_connectionOf 50 = .ok (.iload_n 2, 1) := by decide +kernel
theorem d_Ga_connectionOf_51 : decode c_Ga_connectionOf 51 = .ok (.if_icmp .ne 5, 3) := by decide +kernel
theorem d_Ga_connectionOf_54 : decode c_Ga_connectionOf 54 = .ok (.iload_n 3, 1) := by decide +kernel
theorem d_Ga_connectionOf_55 : decode c_Ga_connectionOf 55 = .ok (.ireturn, 1) := by decide +kernel
theorem d_Ga_connectionOf_56 : decode c_Ga_connectionOf 56 = .ok (.iinc 3 1, 3) := by decide +kernel
theorem d_Ga_connectionOf_59 : decode c_Ga_connectionOf 59 = .ok (.goto (-33), 3) := by decide +kernel
theorem d_Ga_connectionOf_62 : decode c_Ga_connectionOf 62 = .ok (.iconst (-1), 1) := by decide +kernel
theorem d_Ga_connectionOf_63 : decode c_Ga_connectionOf 63 = .ok (.ireturn, 1) := by decide +kernel
theorem d_Ga_renew_0 : decode c_Ga_renew 0 = .ok (.aload_n 0, 1) := by decide +kernel
theorem d_Ga_renew_1 : decode c_Ga_renew 1 = .ok (.getfield 9, 3) := by decide +kernel
theorem d_Ga_renew_4 : decode c_Ga_renew 4 = .ok (.iload_n 1, 1) := by decide +kernel
theorem d_Ga_renew_5 : decode c_Ga_renew 5 = .ok (.iaload, 1) := by decide +kernel
theorem d_Ga_renew_6 : decode c_Ga_renew 6 = .ok (.istore_n 2, 1) := by decide +kernel
theorem d_Ga_renew_7 : decode c_Ga_renew 7 = .ok (.aload_n 0, 1) := by decide +kernel
theorem d_Ga_renew_8 : decode c_Ga_renew 8 = .ok (.iload_n 1, 1) := by decide +kernel
theorem d_Ga_renew_9 : decode c_Ga_renew 9 = .ok (.invokevirtual 27, 3) := by decide +kernel
theorem d_Ga_renew_12 : decode c_Ga_renew 12 = .ok (.aload_n 0, 1) := by decide +kernel
theorem d_Ga_renew_13 : decode c_Ga_renew 13 = .ok (.iload_n 2, 1) := by decide +kernel
theorem d_Ga_renew_14 : decode c_Ga_renew 14 = .ok (.invokevirtual 31, 3) := by decide +kernel
theorem d_Ga_renew_17 : decode c_Ga_renew 17 = .ok (.return_, 1) := by decide +kernel
theorem d_Ga_close_0 : decode c_Ga_close 0 = .ok (.iload_n 1, 1) := by decide +kernel
theorem d_Ga_close_1 : decode c_Ga_close 1 = .ok (.istore_n 2, 1) := by decide +kernel
theorem d_Ga_close_2 : decode c_Ga_close 2 = .ok (.iload_n 2, 1) := by decide +kernel
theorem d_Ga_close_3 : decode c_Ga_close 3 = .ok (.iconst 1, 1) := by decide +kernel
theorem d_Ga_close_4 : decode c_Ga_close 4 = .ok (.iadd, 1) := by decide +kernel
theorem d_Ga_close_5 : decode c_Ga_close 5 = .ok (.aload_n 0, 1) := by decide +kernel
theorem d_Ga_close_6 : decode c_Ga_close 6 = .ok (.getfield 15, 3) := by decide +kernel
theorem d_Ga_close_9 : decode c_Ga_close 9 = .ok (.if_icmp .ge 23, 3) := by decide +kernel
theorem d_Ga_close_12 : decode c_Ga_close 12 = .ok (.aload_n 0, 1) := by decide +kernel
theorem d_Ga_close_13 : decode c_Ga_close 13 = .ok (.getfield 9, 3) := by decide +kernel
theorem d_Ga_close_16 : decode c_Ga_close 16 = .ok (.iload_n 2, 1) := by decide +kernel
theorem d_Ga_close_17 : decode c_Ga_close 17 = .ok (.aload_n 0, 1) := by decide +kernel
theorem d_Ga_close_18 : decode c_Ga_close 18 = .ok (.getfield 9, 3) := by decide +kernel
theorem d_Ga_close_21 : decode c_Ga_close 21 = .ok (.iload_n 2, 1) := by decide +kernel
theorem d_Ga_close_22 : decode c_Ga_close 22 = .ok (.iconst 1, 1) := by decide +kernel
theorem d_Ga_close_23 : decode c_Ga_close 23 = .ok (.iadd, 1) := by decide +kernel
theorem d_Ga_close_24 : decode c_Ga_close 24 = .ok (.iaload, 1) := by decide +kernel
theorem d_Ga_close_25 : decode c_Ga_close 25 = .ok (.iastore, 1) := by decide +kernel
theorem d_Ga_close_26 : decode c_Ga_close 26 = .ok (.iinc 2 1, 3) := by decide +kernel
theorem d_Ga_close_29 : decode c_Ga_close 29 = .ok (.goto (-27), 3) := by decide +kernel
theorem d_Ga_close_32 : decode c_Ga_close 32 = .ok (.aload_n 0, 1) := by decide +kernel
theorem d_Ga_close_33 : decode c_Ga_close 33 = .ok (.dup, 1) := by decide +kernel
theorem d_Ga_close_34 : decode c_Ga_close 34 = .ok (.getfield 15, 3) := by decide +kernel
theorem d_Ga_close_37 : decode c_Ga_close 37 = .ok (.iconst 1, 1) := by decide +kernel
theorem d_Ga_close_38 : decode c_Ga_close 38 = .ok (.isub, 1) := by decide +kernel
theorem d_Ga_close_39 : decode c_Ga_close 39 = .ok (.putfield 15, 3) := by decide +kernel
theorem d_Ga_close_42 : decode c_Ga_close 42 = .ok (.return_, 1) := by decide +kernel
theorem d_Ga_open_0 : decode c_Ga_open 0 = .ok (.aload_n 0, 1) := by decide +kernel
theorem d_Ga_open_1 : decode c_Ga_open 1 = .ok (.getfield 15, 3) := by decide +kernel
theorem d_Ga_open_4 : decode c_Ga_open 4 = .ok (.iconst 4, 1) := by decide +kernel
theorem d_Ga_open_5 : decode c_Ga_open 5 = .ok (.if_icmp .lt 8, 3) := by decide +kernel
theorem d_Ga_open_8 : decode c_Ga_open 8 = .ok (.aload_n 0, 1) := by decide +kernel
theorem d_Ga_open_9 : decode c_Ga_open 9 = .ok (.iconst 0, 1) := by decide +kernel
theorem d_Ga_open_10 : decode c_Ga_open 10 = .ok (.invokevirtual 27, 3) := by decide +kernel
theorem d_Ga_open_13 : decode c_Ga_open 13 = .ok (.aload_n 0, 1) := by decide +kernel
theorem d_Ga_open_14 : decode c_Ga_open 14 = .ok (.getfield 9, 3) := by decide +kernel
theorem d_Ga_open_17 : decode c_Ga_open 17 = .ok (.aload_n 0, 1) := by decide +kernel
theorem d_Ga_open_18 : decode c_Ga_open 18 = .ok (.getfield 15, 3) := by decide +kernel
theorem d_Ga_open_21 : decode c_Ga_open 21 = .ok (.iload_n 1, 1) := by decide +kernel
theorem d_Ga_open_22 : decode c_Ga_open 22 = .ok (.iastore, 1) := by decide +kernel
theorem d_Ga_open_23 : decode c_Ga_open 23 = .ok (.aload_n 0, 1) := by decide +kernel
theorem d_Ga_open_24 : decode c_Ga_open 24 = .ok (.dup, 1) := by decide +kernel
theorem d_Ga_open_25 : decode c_Ga_open 25 = .ok (.getfield 15, 3) := by decide +kernel
theorem d_Ga_open_28 : decode c_Ga_open 28 = .ok (.iconst 1, 1) := by decide +kernel
theorem d_Ga_open_29 : decode c_Ga_open 29 = .ok (.iadd, 1) := by decide +kernel
theorem d_Ga_open_30 : decode c_Ga_open 30 = .ok (.putfield 15, 3) := by decide +kernel
theorem d_Ga_open_33 : decode c_Ga_open 33 = .ok (.return_, 1) := by decide +kernel
theorem d_Ga_has_0 : decode c_Ga_has 0 = .ok (.iload_n 1, 1) := by decide +kernel
theorem d_Ga_has_1 : decode c_Ga_has 1 = .ok (.ifCond .lt 15, 3) := by decide +kernel
theorem d_Ga_has_4 : decode c_Ga_has 4 = .ok (.iload_n 1, 1) := by decide +kernel
theorem d_Ga_has_5 : decode c_Ga_has 5 = .ok (.aload_n 0, 1) := by decide +kernel
theorem d_Ga_has_6 : decode c_Ga_has 6 = .ok (.getfield 15, 3) := by decide +kernel
theorem d_Ga_has_9 : decode c_Ga_has 9 = .ok (.if_icmp .ge 7, 3) := by decide +kernel
theorem d_Ga_has_12 : decode c_Ga_has 12 = .ok (.iconst 1, 1) := by decide +kernel
theorem d_Ga_has_13 : decode c_Ga_has 13 = .ok (.goto 4, 3) := by decide +kernel
theorem d_Ga_has_16 : decode c_Ga_has 16 = .ok (.iconst 0, 1) := by decide +kernel
theorem d_Ga_has_17 : decode c_Ga_has 17 = .ok (.ireturn, 1) := by decide +kernel
theorem d_Ga_at_0 : decode c_Ga_at 0 = .ok (.aload_n 0, 1) := by decide +kernel
theorem d_Ga_at_1 : decode c_Ga_at 1 = .ok (.getfield 9, 3) := by decide +kernel
theorem d_Ga_at_4 : decode c_Ga_at 4 = .ok (.iload_n 1, 1) := by decide +kernel
theorem d_Ga_at_5 : decode c_Ga_at 5 = .ok (.iaload, 1) := by decide +kernel
theorem d_Ga_at_6 : decode c_Ga_at 6 = .ok (.ireturn, 1) := by decide +kernel
