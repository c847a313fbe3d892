theorem d_RD_init_0 : decode c_RD_init 0 = .ok (.aload_n 0, 1) := by decide +kernel
theorem d_RD_init_1 : decode c_RD_init 1 = .ok (.invokespecial 3, 3) := by decide +kernel
theorem d_RD_init_4 : decode c_RD_init 4 = .ok (.aload_n 0, 1) := by decide +kernel
theorem d_RD_init_5 : decode c_RD_init 5 = .ok (.new 9, 3) := by decide +kernel
theorem d_RD_init_8 : decode c_RD_init 8 = .ok (.dup, 1) := by decide +kernel
theorem d_RD_init_9 : decode c_RD_init 9 = .ok (.invokespecial 11, 3) := by decide +kernel
theorem d_RD_init_12 : decode c_RD_init 12 = .ok (.putfield 12, 3) := by decide +kernel
theorem d_RD_init_15 : decode c_RD_init 15 = .ok (.aload_n 0, 1) := by decide +kernel
theorem d_RD_init_16 : decode c_RD_init 16 = .ok (.new 16, 3) := by decide +kernel
theorem d_RD_init_19 : decode c_RD_init 19 = .ok (.dup, 1) := by decide +kernel
theorem d_RD_init_20 : decode c_RD_init 20 = .ok (.aload_n 0, 1) := by decide +kernel
theorem d_RD_init_21 : decode c_RD_init 21 = .ok (.getfield 12, 3) := by decide +kernel
theorem d_RD_init_24 : decode c_RD_init 24 = .ok (.invokespecial 18, 3) := by decide +kernel
theorem d_RD_init_27 : decode c_RD_init 27 = .ok (.putfield 21, 3) := by decide +kernel
theorem d_RD_init_30 : decode c_RD_init 30 = .ok (.aload_n 0, 1) := by decide +kernel
theorem d_RD_init_31 : decode c_RD_init 31 = .ok (.iconst 2, 1) := by decide +kernel
theorem d_RD_init_32 : decode c_RD_init 32 = .ok (.anewarray 25, 3) := by decide +kernel
theorem d_RD_init_35 : decode c_RD_init 35 = .ok (.putfield 27, 3) := by decide +kernel
theorem d_RD_init_38 : decode c_RD_init 38 = .ok (.aload_n 0, 1) := by decide +kernel
theorem d_RD_init_39 : decode c_RD_init 39 = .ok (.iconst 2, 1) := by decide +kernel
theorem d_RD_init_40 : decode c_RD_init 40 = .ok (.anewarray 31, 3) := by decide +kernel
theorem d_RD_init_43 : decode c_RD_init 43 = .ok (.putfield 33, 3) := by decide +kernel
theorem d_RD_init_46 : decode c_RD_init 46 = .ok (.iconst 0, 1) := by decide +kernel
theorem d_RD_init_47 : decode c_RD_init 47 = .ok (.istore_n 1, 1) := by decide +kernel
theorem d_RD_init_48 : decode c_RD_init 48 = .ok (.iload_n 1, 1) := by decide +kernel
theorem d_RD_init_49 : decode c_RD_init 49 = .ok (.iconst 2, 1) := by decide +kernel
theorem d_RD_init_50 : decode c_RD_init 50 = .ok (.if_icmp .ge 41, 3) := by decide +kernel
theorem d_RD_init_53 : decode c_RD_init 53 = .ok (.aload_n 0, 1) := by decide +kernel
theorem d_RD_init_54 : decode c_RD_init 54 = .ok (.getfield 27, 3) := by decide +kernel
theorem d_RD_init_57 : decode c_RD_init 57 = .ok (.iload_n 1, 1) := by decide +kernel
theorem d_RD_init_58 : decode c_RD_init 58 = .ok (.new 25, 3) := by decide +kernel
theorem d_RD_init_61 : decode c_RD_init 61 = .ok (.dup, 1) := by decide +kernel
theorem d_RD_init_62 : decode c_RD_init 62 = .ok (.invokespecial 37, 3) := by decide +kernel
theorem d_RD_init_65 : decode c_RD_init 65 = .ok (.aastore, 1) := by decide +kernel
theorem d_RD_init_66 : decode c_RD_init 66 = .ok (.aload_n 0, 1) := by decide +kernel
theorem d_RD_init_67 : decode c_RD_init 67 = .ok (.getfield 33, 3) := by decide +kernel
theorem d_RD_init_70 : decode c_RD_init 70 = .ok (.iload_n 1, 1) := by decide +kernel
theorem d_RD_init_71 : decode c_RD_init 71 = .ok (.new 31, 3) := by decide +kernel
theorem d_RD_init_74 : decode c_RD_init 74 = .ok (.dup, 1) := by decide +kernel
theorem d_RD_init_75 : decode c_RD_init 75 = .ok (.aload_n 0, 1) := by decide +kernel
theorem d_RD_init_76 : decode c_RD_init 76 = .ok (.getfield 27, 3) := by decide +kernel
theorem d_RD_init_79 : decode c_RD_init 79 = .ok (.iload_n 1, 1) := by decide +kernel
theorem d_RD_init_80 : decode c_RD_init 80 = .ok (.aaload, 1) := by decide +kernel
theorem d_RD_init_81 : decode c_RD_init 81 = .ok (.invokespecial 38, 3) := by decide +kernel
theorem d_RD_init_84 : decode c_RD_init 84 = .ok (.aastore, 1) := by decide +kernel
theorem d_RD_init_85 : decode c_RD_init 85 = .ok (.iinc 1 1, 3) := by decide +kernel
theorem d_RD_init_88 : decode c_RD_init 88 = .ok (.goto (-40), 3) := by decide +kernel
theorem d_RD_init_91 : decode c_RD_init 91 = .ok (.aload_n 0, 1) := by decide +kernel
theorem d_RD_init_92 : decode c_RD_init 92 = .ok (.new 41, 3) := by decide +kernel
theorem d_RD_init_95 : decode c_RD_init 95 = .ok (.dup, 1) := by decide +kernel
theorem d_RD_init_96 : decode c_RD_init 96 = .ok (.aload_n 0, 1) := by decide +kernel
theorem d_RD_init_97 : decode c_RD_init 97 = .ok (.getfield 27, 3) := by decide +kernel
theorem d_RD_init_100 : decode c_RD_init 100 = .ok (.iconst 0, 1) := by decide +kernel
theorem d_RD_init_101 : decode c_RD_init 101 = .ok (.aaload, 1) := by decide +kernel
theorem d_RD_init_102 : decode c_RD_init 102 = .ok (.aload_n 0, 1) := by decide +kernel
theorem d_RD_init_103 : decode c_RD_init 103 = .ok (.getfield 27, 3) := by decide +kernel
theorem d_RD_init_106 : decode c_RD_init 106 = .ok (.iconst 1, 1) := by decide +kernel
theorem d_RD_init_107 : decode c_RD_init 107 = .ok (.aaload, 1) := by decide +kernel
theorem d_RD_init_108 : decode c_RD_init 108 = .ok (.invokespecial 43, 3) := by decide +kernel
theorem d_RD_init_111 : decode c_RD_init 111 = .ok (.putfield 46, 3) := by decide +kernel
theorem d_RD_init_114 : decode c_RD_init 114 = .ok (.aload_n 0, 1) := by decide +kernel
theorem d_RD_init_115 : decode c_RD_init 115 = .ok (.new 50, 3) := by decide +kernel
theorem d_RD_init_118 : decode c_RD_init 118 = .ok (.dup, 1) := by decide +kernel
theorem d_RD_init_119 : decode c_RD_init 119 = .ok (.invokespecial 52, 3) := by decide +kernel
theorem d_RD_init_122 : decode c_RD_init 122 = .ok (.putfield 53, 3) := by decide +kernel
theorem d_RD_init_125 : decode c_RD_init 125 = .ok (.return_, 1) := by decide +kernel
theorem d_Tx_init_0 : decode c_Tx_init 0 = .ok (.aload_n 0, 1) := by decide +kernel
theorem d_Tx_init_1 : decode c_Tx_init 1 = .ok (.invokespecial 3, 3) := by decide +kernel
theorem d_Tx_init_4 : decode c_Tx_init 4 = .ok (.aload_n 0, 1) := by decide +kernel
theorem d_Tx_init_5 : decode c_Tx_init 5 = .ok (.sipush 240, 3) := by decide +kernel
theorem d_Tx_init_8 : decode c_Tx_init 8 = .ok (.newarray .char, 2) := by decide +kernel
theorem d_Tx_init_10 : decode c_Tx_init 10 = .ok (.putfield 9, 3) := by decide +kernel
theorem d_Tx_init_13 : decode c_Tx_init 13 = .ok (.aload_n 0, 1) := by decide +kernel
theorem d_Tx_init_14 : decode c_Tx_init 14 = .ok (.iconst 0, 1) := by decide +kernel
theorem d_Tx_init_15 : decode c_Tx_init 15 = .ok (.putfield 15, 3) := by decide +kernel
theorem d_Tx_init_18 : decode c_Tx_init 18 = .ok (.return_, 1) := by decide +kernel
theorem d_RR_init_0 : decode c_RR_init 0 = .ok (.aload_n 0, 1) := by decide +kernel
theorem d_RR_init_1 : decode c_RR_init 1 = .ok (.invokespecial 3, 3) := by decide +kernel
theorem d_RR_init_4 : decode c_RR_init 4 = .ok (.aload_n 0, 1) := by decide +kernel
theorem d_RR_init_5 : decode c_RR_init 5 = .ok (.new 9, 3) := by decide +kernel
theorem d_RR_init_8 : decode c_RR_init 8 = .ok (.dup, 1) := by decide +kernel
theorem d_RR_init_9 : decode c_RR_init 9 = .ok (.aload_n 1, 1) := by decide +kernel
theorem d_RR_init_10 : decode c_RR_init 10 = .ok (.invokespecial 11, 3) := by decide +kernel
theorem d_RR_init_13 : decode c_RR_init 13 = .ok (.putfield 14, 3) := by decide +kernel
theorem d_RR_init_16 : decode c_RR_init 16 = .ok (.aload_n 0, 1) := by decide +kernel
theorem d_RR_init_17 : decode c_RR_init 17 = .ok (.bipush 8, 2) := by decide +kernel
theorem d_RR_init_19 : decode c_RR_init 19 = .ok (.anewarray 20, 3) := by decide +kernel
theorem d_RR_init_22 : decode c_RR_init 22 = .ok (.putfield 22, 3) := by decide +kernel
theorem d_RR_init_25 : decode c_RR_init 25 = .ok (.iconst 0, 1) := by decide +kernel
theorem d_RR_init_26 : decode c_RR_init 26 = .ok (.istore_n 2, 1) := by decide +kernel
theorem d_RR_init_27 : decode c_RR_init 27 = .ok (.iload_n 2, 1) := by decide +kernel
theorem d_RR_init_28 : decode c_RR_init 28 = .ok (.bipush 8, 2) := by decide +kernel
theorem d_RR_init_30 : decode c_RR_init 30 = .ok (.if_icmp .ge 22, 3) := by decide +kernel
theorem d_RR_init_33 : decode c_RR_init 33 = .ok (.aload_n 0, 1) := by decide +kernel
theorem d_RR_init_34 : decode c_RR_init 34 = .ok (.getfield 22, 3) := by decide +kernel
theorem d_RR_init_37 : decode c_RR_init 37 = .ok (.iload_n 2, 1) := by decide +kernel
theorem d_RR_init_38 : decode c_RR_init 38 = .ok (.new 20, 3) := by decide +kernel
theorem d_RR_init_41 : decode c_RR_init 41 = .ok (.dup, 1) := by decide +kernel
theorem d_RR_init_42 : decode c_RR_init 42 = .ok (.invokespecial 26, 3) := by decide +kernel
theorem d_RR_init_45 : decode c_RR_init 45 = .ok (.aastore, 1) := by decide +kernel
theorem d_RR_init_46 : decode c_RR_init 46 = .ok (.iinc 2 1, 3) := by decide +kernel
theorem d_RR_init_49 : decode c_RR_init 49 = .ok (.goto (-22), 3) := by decide +kernel
theorem d_RR_init_52 : decode c_RR_init 52 = .ok (.return_, 1) := by decide +kernel
theorem d_Pi_init_0 : decode c_Pi_init 0 = .ok (.aload_n 0, 1) := by decide +kernel
theorem d_Pi_init_1 : decode c_Pi_init 1 = .ok (.invokespecial 3, 3) := by decide +kernel
theorem d_Pi_init_4 : decode c_Pi_init 4 = .ok (.aload_n 0, 1) := by decide +kernel
theorem d_Pi_init_5 : decode c_Pi_init 5 = .ok (.aload_n 1, 1) := by decide +kernel
theorem d_Pi_init_6 : decode c_Pi_init 6 = .ok (.putfield 9, 3) := by decide +kernel
theorem d_Pi_init_9 : decode c_Pi_init 9 = .ok (.return_, 1) := by decide +kernel
theorem d_Ru_init_0 : decode c_Ru_init 0 = .ok (.aload_n 0, 1) := by decide +kernel
theorem d_Ru_init_1 : decode c_Ru_init 1 = .ok (.invokespecial 3, 3) := by decide +kernel
theorem d_Ru_init_4 : decode c_Ru_init 4 = .ok (.aload_n 0, 1) := by decide +kernel
theorem d_Ru_init_5 : decode c_Ru_init 5 = .ok (.iconst 4, 1) := by decide +kernel
theorem d_Ru_init_6 : decode c_Ru_init 6 = .ok (.newarray .int, 2) := by decide +kernel
theorem d_Ru_init_8 : decode c_Ru_init 8 = .ok (.putfield 9, 3) := by decide +kernel
theorem d_Ru_init_11 : decode c_Ru_init 11 = .ok (.aload_n 0, 1) := by decide +kernel
theorem d_Ru_init_12 : decode c_Ru_init 12 = .ok (.iconst 4, 1) := by decide +kernel
theorem d_Ru_init_13 : decode c_Ru_init 13 = .ok (.newarray .int, 2) := by decide +kernel
theorem d_Ru_init_15 : decode c_Ru_init 15 = .ok (.putfield 15, 3) := by decide +kernel
theorem d_Ru_init_18 : decode c_Ru_init 18 = .ok (.aload_n 0, 1) := by decide +kernel
theorem d_Ru_init_19 : decode c_Ru_init 19 = .ok (.iconst 0, 1) := by decide +kernel
theorem d_Ru_init_20 : decode c_Ru_init 20 = .ok (.putfield 18, 3) := by decide +kernel
theorem d_Ru_init_23 : decode c_Ru_init 23 = .ok (.return_, 1) := by decide +kernel
theorem d_RD_differing_0 : decode c_RD_differing 0 = .ok (.aload_n 0, 1) := by decide +kernel
theorem d_RD_differing_1 : decode c_RD_differing 1 = .ok (.getfield 46, 3) := by decide +kernel
theorem d_RD_differing_4 : decode c_RD_differing 4 = .ok (.invokevirtual 157, 3) := by decide +kernel
theorem d_RD_differing_7 : decode c_RD_differing 7 = .ok (.aload_n 0, 1) := by decide +kernel
theorem d_RD_differing_8 : decode c_RD_differing 8 = .ok (.getfield 46, 3) := by decide +kernel
theorem d_RD_differing_11 : decode c_RD_differing 11 = .ok (.invokevirtual 158, 3) := by decide +kernel
theorem d_RD_differing_14 : decode c_RD_differing 14 = .ok (.ireturn, 1) := by decide +kernel
theorem d_Ru_leastOf_0 : decode c_Ru_leastOf 0 = .ok (.aload_n 0, 1) := by decide +kernel
theorem d_Ru_leastOf_1 : decode c_Ru_leastOf 1 = .ok (.getfield 9, 3) := by decide +kernel
theorem d_Ru_leastOf_4 : decode c_Ru_leastOf 4 = .ok (.iload_n 1, 1) := by decide +kernel
theorem d_Ru_leastOf_5 : decode c_Ru_leastOf 5 = .ok (.iaload, 1) := by decide +kernel
theorem d_Ru_leastOf_6 : decode c_Ru_leastOf 6 = .ok (.ireturn, 1) := by decide +kernel
theorem d_RD_greatestOf_0 : decode c_RD_greatestOf 0 = .ok (.iconst 1, 1) := by decide +kernel
theorem d_RD_greatestOf_1 : decode c_RD_greatestOf 1 = .ok (.getstatic 210, 3) := by decide +kernel
theorem d_RD_greatestOf_4 : decode c_RD_greatestOf 4 = .ok (.iload_n 0, 1) := by decide +kernel
theorem d_RD_greatestOf_5 : decode c_RD_greatestOf 5 = .ok (.iaload, 1) := by decide +kernel
theorem d_RD_greatestOf_6 : decode c_RD_greatestOf 6 = .ok (.ishl, 1) := by decide +kernel
theorem d_RD_greatestOf_7 : decode c_RD_greatestOf 7 = .ok (.iconst 1, 1) := by decide +kernel
theorem d_RD_greatestOf_8 : decode c_RD_greatestOf 8 = .ok (.isub, 1) := by decide +kernel
theorem d_RD_greatestOf_9 : decode c_RD_greatestOf 9 = .ok (.ireturn, 1) := by decide +kernel
theorem d_Ru_behindGreatestOf_0 : decode c_Ru_behindGreatestOf 0 = .ok (.aload_n 0, 1) := by decide +kernel
theorem d_Ru_behindGreatestOf_1 : decode c_Ru_behindGreatestOf 1 = .ok (.getfield 15, 3) := by decide +kernel
theorem d_Ru_behindGreatestOf_4 : decode c_Ru_behindGreatestOf 4 = .ok (.iload_n 1, 1) := by decide +kernel
theorem d_Ru_behindGreatestOf_5 : decode c_Ru_behindGreatestOf 5 = .ok (.iaload, 1) := by decide +kernel
theorem d_Ru_behindGreatestOf_6 : decode c_Ru_behindGreatestOf 6 = .ok (.iconst 1, 1) := by decide +kernel
theorem d_Ru_behindGreatestOf_7 : decode c_Ru_behindGreatestOf 7 = .ok (.iadd, 1) := by decide +kernel
theorem d_Ru_behindGreatestOf_8 : decode c_Ru_behindGreatestOf 8 = .ok (.ireturn, 1) := by decide +kernel
theorem d_Ru_matchesValue_0 : decode c_Ru_matchesValue 0 = .ok (.iload_n 2, 1) := by decide +kernel
theorem d_Ru_matchesValue_1 : decode c_Ru_matchesValue 1 = .ok (.aload_n 0, 1) := by decide +kernel
theorem d_Ru_matchesValue_2 : decode c_Ru_matchesValue 2 = .ok (.getfield 9, 3) := by decide +kernel
theorem d_Ru_matchesValue_5 : decode c_Ru_matchesValue 5 = .ok (.iload_n 1, 1) := by decide +kernel
theorem d_Ru_matchesValue_6 : decode c_Ru_matchesValue 6 = .ok (.iaload, 1) := by decide +kernel
theorem d_Ru_matchesValue_7 : decode c_Ru_matchesValue 7 = .ok (.if_icmp .lt 17, 3) := by decide +kernel
theorem d_Ru_matchesValue_10 : decode c_Ru_matchesValue 10 = .ok (.iload_n 2, 1) := by decide +kernel
theorem d_Ru_matchesValue_11 : decode c_Ru_matchesValue 11 = .ok (.aload_n 0, 1) := by decide +kernel
theorem d_Ru_matchesValue_12 : decode c_Ru_matchesValue 12 = .ok (.getfield 15, 3) := by decide +kernel
theorem d_Ru_matchesValue_15 : decode c_Ru_matchesValue 15 = .ok (.iload_n 1, 1) := by decide +kernel
theorem d_Ru_matchesValue_16 : decode c_Ru_matchesValue 16 = .ok (.iaload, 1) := by decide +kernel
theorem d_Ru_matchesValue_17 : decode c_Ru_matchesValue 17 = .ok (.if_icmp .gt 7, 3) := by decide +kernel
theorem d_Ru_matchesValue_20 : decode c_Ru_matchesValue 20 = .ok (.iconst 1, 1) := by decide +kernel
theorem d_Ru_matchesValue_21 : decode c_Ru_matchesValue 21 = .ok (.goto 4, 3) := by decide +kernel
theorem d_Ru_matchesValue_24 : decode c_Ru_matchesValue 24 = .ok (.iconst 0, 1) := by decide +kernel
theorem d_Ru_matchesValue_25 : decode c_Ru_matchesValue 25 = .ok (.ireturn, 1) := by decide +kernel
theorem d_RD_leastIn_0 : decode c_RD_leastIn 0 = .ok (.iload_n 0, 1) := by decide +kernel
theorem d_RD_leastIn_1 : decode c_RD_leastIn 1 = .ok (.iload_n 0, 1) := by decide +kernel
theorem d_RD_leastIn_2 : decode c_RD_leastIn 2 = .ok (.ineg, 1) := by decide +kernel
theorem d_RD_leastIn_3 : decode c_RD_leastIn 3 = .ok (.iand, 1) := by decide +kernel
theorem d_RD_leastIn_4 : decode c_RD_leastIn 4 = .ok (.iconst 1, 1) := by decide +kernel
theorem d_RD_leastIn_5 : decode c_RD_leastIn 5 = .ok (.isub, 1) := by decide +kernel
theorem d_RD_leastIn_6 : decode c_RD_leastIn 6 = .ok (.invokestatic 213, 3) := by decide +kernel
theorem d_RD_leastIn_9 : decode c_RD_leastIn 9 = .ok (.ireturn, 1) := by decide +kernel
theorem d_Ru_judgement_0 : decode c_Ru_judgement 0 = .ok (.aload_n 0, 1) := by decide +kernel
theorem d_Ru_judgement_1 : decode c_Ru_judgement 1 = .ok (.getfield 18, 3) := by decide +kernel
theorem d_Ru_judgement_4 : decode c_Ru_judgement 4 = .ok (.ireturn, 1) := by decide +kernel
theorem d_RD_put_0 : decode c_RD_put 0 = .ok (.iload_n 1, 1) := by decide +kernel
theorem d_RD_put_1 : decode c_RD_put 1 = .ok (.invokestatic 57, 3) := by decide +kernel
theorem d_RD_put_4 : decode c_RD_put 4 = .ok (.ifCond .ne 13, 3) := by decide +kernel
theorem d_RD_put_7 : decode c_RD_put 7 = .ok (.new 61, 3) := by decide +kernel
theorem d_RD_put_10 : decode c_RD_put 10 = .ok (.dup, 1) := by decide +kernel
theorem d_RD_put_11 : decode c_RD_put 11 = .ok (.ldc 63, 2) := by decide +kernel
theorem d_RD_put_13 : decode c_RD_put 13 = .ok (.invokespecial 65, 3) := by decide +kernel
theorem d_RD_put_16 : decode c_RD_put 16 = .ok (.athrow, 1) := by decide +kernel
theorem d_RD_put_17 : decode c_RD_put 17 = .ok (.aload_n 0, 1) := by decide +kernel
theorem d_RD_put_18 : decode c_RD_put 18 = .ok (.getfield 12, 3) := by decide +kernel
theorem d_RD_put_21 : decode c_RD_put 21 = .ok (.iload_n 1, 1) := by decide +kernel
theorem d_RD_put_22 : decode c_RD_put 22 = .ok (.invokevirtual 68, 3) := by decide +kernel
theorem d_RD_put_25 : decode c_RD_put 25 = .ok (.ifCond .ne 13, 3) := by decide +kernel
theorem d_RD_put_28 : decode c_RD_put 28 = .ok (.new 71, 3) := by decide +kernel
theorem d_RD_put_31 : decode c_RD_put 31 = .ok (.dup, 1) := by decide +kernel
theorem d_RD_put_32 : decode c_RD_put 32 = .ok (.ldc 73, 2) := by decide +kernel
theorem d_RD_put_34 : decode c_RD_put 34 = .ok (.invokespecial 75, 3) := by decide +kernel
theorem d_RD_put_37 : decode c_RD_put 37 = .ok (.athrow, 1) := by decide +kernel
theorem d_RD_put_38 : decode c_RD_put 38 = .ok (.aload_n 0, 1) := by decide +kernel
theorem d_RD_put_39 : decode c_RD_put 39 = .ok (.getfield 12, 3) := by decide +kernel
theorem d_RD_put_42 : decode c_RD_put 42 = .ok (.iload_n 1, 1) := by decide +kernel
theorem d_RD_put_43 : decode c_RD_put 43 = .ok (.invokevirtual 76, 3) := by decide +kernel
theorem d_RD_put_46 : decode c_RD_put 46 = .ok (.aload_n 0, 1) := by decide +kernel
theorem d_RD_put_47 : decode c_RD_put 47 = .ok (.getfield 12, 3) := by decide +kernel
theorem d_RD_put_50 : decode c_RD_put 50 = .ok (.invokevirtual 80, 3) := by decide +kernel
theorem d_RD_put_53 : decode c_RD_put 53 = .ok (.ireturn, 1) := by decide +kernel
theorem d_Tx_areSigns_0 : decode c_Tx_areSigns 0 = .ok (.iload_n 0, 1) := by decide +kernel
theorem d_Tx_areSigns_1 : decode c_Tx_areSigns 1 = .ok (.ldc 19, 2) := by decide +kernel
theorem d_Tx_areSigns_3 : decode c_Tx_areSigns 3 = .ok (.iand, 1) := by decide +kernel
theorem d_Tx_areSigns_4 : decode c_Tx_areSigns 4 = .ok (.ifCond .ne 7, 3) := by decide +kernel
theorem d_Tx_areSigns_7 : decode c_Tx_areSigns 7 = .ok (.iconst 1, 1) := by decide +kernel
theorem d_Tx_areSigns_8 : decode c_Tx_areSigns 8 = .ok (.goto 4, 3) := by decide +kernel
theorem d_Tx_areSigns_11 : decode c_Tx_areSigns 11 = .ok (.iconst 0, 1) := by decide +kernel
theorem d_Tx_areSigns_12 : decode c_Tx_areSigns 12 = .ok (.ireturn, 1) := by decide +kernel
theorem d_Tx_hasRoomFor_0 : decode c_Tx_hasRoomFor 0 = .ok (.iconst 0, 1) := by decide +kernel
theorem d_Tx_hasRoomFor_1 : decode c_Tx_hasRoomFor 1 = .ok (.istore_n 2, 1) := by decide +kernel
theorem d_Tx_hasRoomFor_2 : decode c_Tx_hasRoomFor 2 = .ok (.iconst 0, 1) := by decide +kernel
theorem d_Tx_hasRoomFor_3 : decode c_Tx_hasRoomFor 3 = .ok (.istore_n 3, 1) := by decide +kernel
theorem d_Tx_hasRoomFor_4 : decode c_Tx_hasRoomFor 4 = .ok (.iload_n 3, 1) := by decide +kernel
theorem d_Tx_hasRoomFor_5 : decode c_Tx_hasRoomFor 5 = .ok (.iconst 4, 1) := by decide +kernel
theorem d_Tx_hasRoomFor_6 : decode c_Tx_hasRoomFor 6 = .ok (.if_icmp .ge 20, 3) := by decide +kernel
theorem d_Tx_hasRoomFor_9 : decode c_Tx_hasRoomFor 9 = .ok (.iload_n 1, 1) := by decide +kernel
theorem d_Tx_hasRoomFor_10 : decode c_Tx_hasRoomFor 10 = .ok (.iload_n 3, 1) := by decide +kernel
theorem d_Tx_hasRoomFor_11 : decode c_Tx_hasRoomFor 11 = .ok (.invokestatic 20, 3) := by decide +kernel
theorem d_Tx_hasRoomFor_14 : decode c_Tx_hasRoomFor 14 = .ok (.ifCond .eq 6, 3) := by decide +kernel
theorem d_Tx_hasRoomFor_17 : decode c_Tx_hasRoomFor 17 = .ok (.iinc 2 1, 3) := by decide +kernel
theorem d_Tx_hasRoomFor_20 : decode c_Tx_hasRoomFor 20 = .ok (.iinc 3 1, 3) := by decide +kernel
theorem d_Tx_hasRoomFor_23 : decode c_Tx_hasRoomFor 23 = .ok (.goto (-19), 3) := by decide +kernel
theorem d_Tx_hasRoomFor_26 : decode c_Tx_hasRoomFor 26 = .ok (.aload_n 0, 1) := by decide +kernel
theorem d_Tx_hasRoomFor_27 : decode c_Tx_hasRoomFor 27 = .ok (.getfield 15, 3) := by decide +kernel
theorem d_Tx_hasRoomFor_30 : decode c_Tx_hasRoomFor 30 = .ok (.iload_n 2, 1) := by decide +kernel
theorem d_Tx_hasRoomFor_31 : decode c_Tx_hasRoomFor 31 = .ok (.iadd, 1) := by decide +kernel
theorem d_Tx_hasRoomFor_32 : decode c_Tx_hasRoomFor 32 = .ok (.sipush 240, 3) := by decide +kernel
theorem d_Tx_hasRoomFor_35 : decode c_Tx_hasRoomFor 35 = .ok (.if_icmp .gt 7, 3) := by decide +kernel
theorem d_Tx_hasRoomFor_38 : decode c_Tx_hasRoomFor 38 = .ok (.iconst 1, 1) := by decide +kernel
theorem d_Tx_hasRoomFor_39 : decode c_Tx_hasRoomFor 39 = .ok (.goto 4, 3) := by decide +kernel
theorem d_Tx_hasRoomFor_42 : decode c_Tx_hasRoomFor 42 = .ok (.iconst 0, 1) := by decide +kernel
theorem d_Tx_hasRoomFor_43 : decode c_Tx_hasRoomFor 43 = .ok (.ireturn, 1) := by decide +kernel
theorem d_Tx_signOf_0 : decode c_Tx_signOf 0 = .ok (.iload_n 0, 1) := by decide +kernel
theorem d_Tx_signOf_1 : decode c_Tx_signOf 1 = .ok (.bipush 8, 2) := by decide +kernel
theorem d_Tx_signOf_3 : decode c_Tx_signOf 3 = .ok (.iload_n 1, 1) := by decide +kernel
theorem d_Tx_signOf_4 : decode c_Tx_signOf 4 = .ok (.imul, 1) := by decide +kernel
theorem d_Tx_signOf_5 : decode c_Tx_signOf 5 = .ok (.iushr, 1) := by decide +kernel
theorem d_Tx_signOf_6 : decode c_Tx_signOf 6 = .ok (.sipush 255, 3) := by decide +kernel
theorem d_Tx_signOf_9 : decode c_Tx_signOf 9 = .ok (.iand, 1) := by decide +kernel
theorem d_Tx_signOf_10 : decode c_Tx_signOf 10 = .ok (.ireturn, 1) := by decide +kernel
theorem d_Tx_append_0 : decode c_Tx_append 0 = .ok (.iconst 0, 1) := by decide +kernel
theorem d_Tx_append_1 : decode c_Tx_append 1 = .ok (.istore_n 2, 1) := by decide +kernel
theorem d_Tx_append_2 : decode c_Tx_append 2 = .ok (.iload_n 2, 1) := by decide +kernel
theorem d_Tx_append_3 : decode c_Tx_append 3 = .ok (.iconst 4, 1) := by decide +kernel
theorem d_Tx_append_4 : decode c_Tx_append 4 = .ok (.if_icmp .ge 50, 3) := by decide +kernel
theorem d_Tx_append_7 : decode c_Tx_append 7 = .ok (.iload_n 1, 1) := by decide +kernel
theorem d_Tx_append_8 : decode c_Tx_append 8 = .ok (.iload_n 2, 1) := by decide +kernel
theorem d_Tx_append_9 : decode c_Tx_append 9 = .ok (.invokestatic 20, 3) := by decide +kernel
theorem d_Tx_append_12 : decode c_Tx_append 12 = .ok (.istore_n 3, 1) := by decide +kernel
theorem d_Tx_append_13 : decode c_Tx_append 13 = .ok (.iload_n 3, 1) := by decide +kernel
theorem d_Tx_append_14 : decode c_Tx_append 14 = .ok (.ifCond .eq 34, 3) := by decide +kernel
theorem d_Tx_append_17 : decode c_Tx_append 17 = .ok (.aload_n 0, 1) := by decide +kernel
theorem d_Tx_append_18 : decode c_Tx_append 18 = .ok (.getfield 15, 3) := by decide +kernel
theorem d_Tx_append_21 : decode c_Tx_append 21 = .ok (.sipush 240, 3) := by decide +kernel
theorem d_Tx_append_24 : decode c_Tx_append 24 = .ok (.if_icmp .ge 24, 3) := by decide +kernel
theorem d_Tx_append_27 : decode c_Tx_append 27 = .ok (.aload_n 0, 1) := by decide +kernel
theorem d_Tx_append_28 : decode c_Tx_append 28 = .ok (.getfield 9, 3) := by decide +kernel
theorem d_Tx_append_31 : decode c_Tx_append 31 = .ok (.aload_n 0, 1) := by decide +kernel
theorem d_Tx_append_32 : decode c_Tx_append 32 = .ok (.getfield 15, 3) := by decide +kernel
theorem d_Tx_append_35 : decode c_Tx_append 35 = .ok (.iload_n 3, 1) := by decide +kernel
theorem d_Tx_append_36 : decode c_Tx_append 36 = .ok (.i2c, 1) := by decide +kernel
theorem d_Tx_append_37 : decode c_Tx_append 37 = .ok (.castore, 1) := by decide +kernel
theorem d_Tx_append_38 : decode c_Tx_append 38 = .ok (.aload_n 0, 1) := by decide +kernel
theorem d_Tx_append_39 : decode c_Tx_append 39 = .ok (.dup, 1) := by decide +kernel
theorem d_Tx_append_40 : decode c_Tx_append 40 = .ok (.getfield 15, 3) := by decide +kernel
theorem d_Tx_append_43 : decode c_Tx_append 43 = .ok (.iconst 1, 1) := by decide +kernel
theorem d_Tx_append_44 : decode c_Tx_append 44 = .ok (.iadd, 1) := by decide +kernel
theorem d_Tx_append_45 : decode c_Tx_append 45 = .ok (.putfield 15, 3) := by decide +kernel
theorem d_Tx_append_48 : decode c_Tx_append 48 = .ok (.iinc 2 1, 3) := by decide +kernel
theorem d_Tx_append_51 : decode c_Tx_append 51 = .ok (.goto (-49), 3) := by decide +kernel
theorem d_Tx_append_54 : decode c_Tx_append 54 = .ok (.return_, 1) := by decide +kernel
theorem d_Tx_length_0 : decode c_Tx_length 0 = .ok (.aload_n 0, 1) := by decide +kernel
theorem d_Tx_length_1 : decode c_Tx_length 1 = .ok (.getfield 15, 3) := by decide +kernel
theorem d_Tx_length_4 : decode c_Tx_length 4 = .ok (.ireturn, 1) := by decide +kernel
theorem d_RD_read_0 : decode c_RD_read 0 = .ok (.aload_n 0, 1) := by decide +kernel
theorem d_RD_read_1 : decode c_RD_read 1 = .ok (.iload_n 1, 1) := by decide +kernel
theorem d_RD_read_2 : decode c_RD_read 2 = .ok (.invokevirtual 84, 3) := by decide +kernel
theorem d_RD_read_5 : decode c_RD_read 5 = .ok (.aload_n 0, 1) := by decide +kernel
theorem d_RD_read_6 : decode c_RD_read 6 = .ok (.getfield 21, 3) := by decide +kernel
theorem d_RD_read_9 : decode c_RD_read 9 = .ok (.invokevirtual 87, 3) := by decide +kernel
theorem d_RD_read_12 : decode c_RD_read 12 = .ok (.istore_n 2, 1) := by decide +kernel
theorem d_RD_read_13 : decode c_RD_read 13 = .ok (.aload_n 0, 1) := by decide +kernel
theorem d_RD_read_14 : decode c_RD_read 14 = .ok (.getfield 12, 3) := by decide +kernel
theorem d_RD_read_17 : decode c_RD_read 17 = .ok (.invokevirtual 90, 3) := by decide +kernel
theorem d_RD_read_20 : decode c_RD_read 20 = .ok (.iload_n 2, 1) := by decide +kernel
theorem d_RD_read_21 : decode c_RD_read 21 = .ok (.ifCond .ge 5, 3) := by decide +kernel
theorem d_RD_read_24 : decode c_RD_read 24 = .ok (.iload_n 2, 1) := by decide +kernel
theorem d_RD_read_25 : decode c_RD_read 25 = .ok (.ireturn, 1) := by decide +kernel
theorem d_RD_read_26 : decode c_RD_read 26 = .ok (.iload_n 2, 1) := by decide +kernel
theorem d_RD_read_27 : decode c_RD_read 27 = .ok (.aload_n 0, 1) := by decide +kernel
theorem d_RD_read_28 : decode c_RD_read 28 = .ok (.getfield 27, 3) := by decide +kernel
theorem d_RD_read_31 : decode c_RD_read 31 = .ok (.iload_n 1, 1) := by decide +kernel
theorem d_RD_read_32 : decode c_RD_read 32 = .ok (.aaload, 1) := by decide +kernel
theorem d_RD_read_33 : decode c_RD_read 33 = .ok (.invokevirtual 93, 3) := by decide +kernel
theorem d_RD_read_36 : decode c_RD_read 36 = .ok (.if_icmp .le 7, 3) := by decide +kernel
theorem d_RD_read_39 : decode c_RD_read 39 = .ok (.sipush (-1000), 3) := by decide +kernel
theorem d_RD_read_42 : decode c_RD_read 42 = .ok (.ireturn, 1) := by decide +kernel
theorem d_RD_read_43 : decode c_RD_read 43 = .ok (.iconst 0, 1) := by decide +kernel
theorem d_RD_read_44 : decode c_RD_read 44 = .ok (.istore_n 3, 1) := by decide +kernel
theorem d_RD_read_45 : decode c_RD_read 45 = .ok (.iload_n 3, 1) := by decide +kernel
theorem d_RD_read_46 : decode c_RD_read 46 = .ok (.iload_n 2, 1) := by decide +kernel
theorem d_RD_read_47 : decode c_RD_read 47 = .ok (.if_icmp .ge 26, 3) := by decide +kernel
theorem d_RD_read_50 : decode c_RD_read 50 = .ok (.aload_n 0, 1) := by decide +kernel
theorem d_RD_read_51 : decode c_RD_read 51 = .ok (.getfield 27, 3) := by decide +kernel
theorem d_RD_read_54 : decode c_RD_read 54 = .ok (.iload_n 1, 1) := by decide +kernel
theorem d_RD_read_55 : decode c_RD_read 55 = .ok (.aaload, 1) := by decide +kernel
theorem d_RD_read_56 : decode c_RD_read 56 = .ok (.aload_n 0, 1) := by decide +kernel
theorem d_RD_read_57 : decode c_RD_read 57 = .ok (.getfield 21, 3) := by decide +kernel
theorem d_RD_read_60 : decode c_RD_read 60 = .ok (.iload_n 3, 1) := by decide +kernel
theorem d_RD_read_61 : decode c_RD_read 61 = .ok (.invokevirtual 96, 3) := by decide +kernel
theorem d_RD_read_64 : decode c_RD_read 64 = .ok (.invokevirtual 100, 3) := by decide +kernel
theorem d_RD_read_67 : decode c_RD_read 67 = .ok (.iinc 3 1, 3) := by decide +kernel
theorem d_RD_read_70 : decode c_RD_read 70 = .ok (.goto (-25), 3) := by decide +kernel
theorem d_RD_read_73 : decode c_RD_read 73 = .ok (.iload_n 2, 1) := by decide +kernel
theorem d_RD_read_74 : decode c_RD_read 74 = .ok (.ireturn, 1) := by decide +kernel
theorem d_RD_requireList_0 : decode c_RD_requireList 0 = .ok (.iload_n 1, 1) := by decide +kernel
theorem d_RD_requireList_1 : decode c_RD_requireList 1 = .ok (.ifCond .lt 8, 3) := by decide +kernel
theorem d_RD_requireList_4 : decode c_RD_requireList 4 = .ok (.iload_n 1, 1) := by decide +kernel
theorem d_RD_requireList_5 : decode c_RD_requireList 5 = .ok (.iconst 2, 1) := by decide +kernel
theorem d_RD_requireList_6 : decode c_RD_requireList 6 = .ok (.if_icmp .lt 13, 3) := by decide +kernel
theorem d_RD_requireList_9 : decode c_RD_requireList 9 = .ok (.new 185, 3) := by decide +kernel
theorem d_RD_requireList_12 : decode c_RD_requireList 12 = .ok (.dup, 1) := by decide +kernel
theorem d_RD_requireList_13 : decode c_RD_requireList 13 = .ok (.ldc 187, 2) := by decide +kernel
theorem d_RD_requireList_15 : decode c_RD_requireList 15 = .ok (.invokespecial 189, 3) := by decide +kernel
theorem d_RD_requireList_18 : decode c_RD_requireList 18 = .ok (.athrow, 1) := by decide +kernel
theorem d_RD_requireList_19 : decode c_RD_requireList 19 = .ok (.return_, 1) := by decide +kernel
theorem d_RR_readText_0 : decode c_RR_readText 0 = .ok (.aload_n 0, 1) := by decide +kernel
theorem d_RR_readText_1 : decode c_RR_readText 1 = .ok (.getfield 14, 3) := by decide +kernel
theorem d_RR_readText_4 : decode c_RR_readText 4 = .ok (.invokevirtual 27, 3) := by decide +kernel
theorem d_RR_readText_7 : decode c_RR_readText 7 = .ok (.iconst 0, 1) := by decide +kernel
theorem d_RR_readText_8 : decode c_RR_readText 8 = .ok (.istore_n 1, 1) := by decide +kernel
theorem d_RR_readText_9 : decode c_RR_readText 9 = .ok (.iload_n 1, 1) := by decide +kernel
theorem d_RR_readText_10 : decode c_RR_readText 10 = .ok (.sipush 240, 3) := by decide +kernel
theorem d_RR_readText_13 : decode c_RR_readText 13 = .ok (.if_icmp .ge 47, 3) := by decide +kernel
theorem d_RR_readText_16 : decode c_RR_readText 16 = .ok (.aload_n 0, 1) := by decide +kernel
theorem d_RR_readText_17 : decode c_RR_readText 17 = .ok (.getfield 14, 3) := by decide +kernel
theorem d_RR_readText_20 : decode c_RR_readText 20 = .ok (.invokevirtual 30, 3) := by decide +kernel
theorem d_RR_readText_23 : decode c_RR_readText 23 = .ok (.ifCond .ne 37, 3) := by decide +kernel
theorem d_RR_readText_26 : decode c_RR_readText 26 = .ok (.aload_n 0, 1) := by decide +kernel
theorem d_RR_readText_27 : decode c_RR_readText 27 = .ok (.aload_n 0, 1) := by decide +kernel
theorem d_RR_readText_28 : decode c_RR_readText 28 = .ok (.getfield 22, 3) := by decide +kernel
theorem d_RR_readText_31 : decode c_RR_readText 31 = .ok (.iload_n 1, 1) := by decide +kernel
theorem d_RR_readText_32 : decode c_RR_readText 32 = .ok (.bipush 7, 2) := by decide +kernel
theorem d_RR_readText_34 : decode c_RR_readText 34 = .ok (.invokestatic 34, 3) := by decide +kernel
theorem d_RR_readText_37 : decode c_RR_readText 37 = .ok (.aaload, 1) := by decide +kernel
theorem d_RR_readText_38 : decode c_RR_readText 38 = .ok (.invokevirtual 40, 3) := by decide +kernel
theorem d_RR_readText_41 : decode c_RR_readText 41 = .ok (.ifCond .ne 13, 3) := by decide +kernel
theorem d_RR_readText_44 : decode c_RR_readText 44 = .ok (.iconst (-1), 1) := by decide +kernel
theorem d_RR_readText_45 : decode c_RR_readText 45 = .ok (.aload_n 0, 1) := by decide +kernel
theorem d_RR_readText_46 : decode c_RR_readText 46 = .ok (.getfield 14, 3) := by decide +kernel
theorem d_RR_readText_49 : decode c_RR_readText 49 = .ok (.invokevirtual 44, 3) := by decide +kernel
theorem d_RR_readText_52 : decode c_RR_readText 52 = .ok (.isub, 1) := by decide +kernel
theorem d_RR_readText_53 : decode c_RR_readText 53 = .ok (.ireturn, 1) := by decide +kernel
theorem d_RR_readText_54 : decode c_RR_readText 54 = .ok (.iinc 1 1, 3) := by decide +kernel
theorem d_RR_readText_57 : decode c_RR_readText 57 = .ok (.goto (-48), 3) := by decide +kernel
theorem d_RR_readText_60 : decode c_RR_readText 60 = .ok (.iload_n 1, 1) := by decide +kernel
theorem d_RR_readText_61 : decode c_RR_readText 61 = .ok (.ireturn, 1) := by decide +kernel
theorem d_Pi_restart_0 : decode c_Pi_restart 0 = .ok (.aload_n 0, 1) := by decide +kernel
theorem d_Pi_restart_1 : decode c_Pi_restart 1 = .ok (.iconst 0, 1) := by decide +kernel
theorem d_Pi_restart_2 : decode c_Pi_restart 2 = .ok (.putfield 15, 3) := by decide +kernel
theorem d_Pi_restart_5 : decode c_Pi_restart 5 = .ok (.aload_n 0, 1) := by decide +kernel
theorem d_Pi_restart_6 : decode c_Pi_restart 6 = .ok (.invokevirtual 19, 3) := by decide +kernel
theorem d_Pi_restart_9 : decode c_Pi_restart 9 = .ok (.return_, 1) := by decide +kernel
theorem d_Pi_step_0 : decode c_Pi_step 0 = .ok (.aload_n 0, 1) := by decide +kernel
theorem d_Pi_step_1 : decode c_Pi_step 1 = .ok (.aload_n 0, 1) := by decide +kernel
theorem d_Pi_step_2 : decode c_Pi_step 2 = .ok (.getfield 9, 3) := by decide +kernel
theorem d_Pi_step_5 : decode c_Pi_step 5 = .ok (.aload_n 0, 1) := by decide +kernel
theorem d_Pi_step_6 : decode c_Pi_step 6 = .ok (.getfield 15, 3) := by decide +kernel
theorem d_Pi_step_9 : decode c_Pi_step 9 = .ok (.iconst 1, 1) := by decide +kernel
theorem d_Pi_step_10 : decode c_Pi_step 10 = .ok (.invokevirtual 24, 3) := by decide +kernel
theorem d_Pi_step_13 : decode c_Pi_step 13 = .ok (.putfield 28, 3) := by decide +kernel
theorem d_Pi_step_16 : decode c_Pi_step 16 = .ok (.aload_n 0, 1) := by decide +kernel
theorem d_Pi_step_17 : decode c_Pi_step 17 = .ok (.aload_n 0, 1) := by decide +kernel
theorem d_Pi_step_18 : decode c_Pi_step 18 = .ok (.getfield 9, 3) := by decide +kernel
theorem d_Pi_step_21 : decode c_Pi_step 21 = .ok (.aload_n 0, 1) := by decide +kernel
theorem d_Pi_step_22 : decode c_Pi_step 22 = .ok (.getfield 28, 3) := by decide +kernel
theorem d_Pi_step_25 : decode c_Pi_step 25 = .ok (.invokevirtual 31, 3) := by decide +kernel
theorem d_Pi_step_28 : decode c_Pi_step 28 = .ok (.putfield 35, 3) := by decide +kernel
theorem d_Pi_step_31 : decode c_Pi_step 31 = .ok (.aload_n 0, 1) := by decide +kernel
theorem d_Pi_step_32 : decode c_Pi_step 32 = .ok (.getfield 35, 3) := by decide +kernel
theorem d_Pi_step_35 : decode c_Pi_step 35 = .ok (.iconst 2, 1) := by decide +kernel
theorem d_Pi_step_36 : decode c_Pi_step 36 = .ok (.if_icmp .eq 11, 3) := by decide +kernel
theorem d_Pi_step_39 : decode c_Pi_step 39 = .ok (.aload_n 0, 1) := by decide +kernel
theorem d_Pi_step_40 : decode c_Pi_step 40 = .ok (.getfield 35, 3) := by decide +kernel
theorem d_Pi_step_43 : decode c_Pi_step 43 = .ok (.iconst 3, 1) := by decide +kernel
theorem d_Pi_step_44 : decode c_Pi_step 44 = .ok (.if_icmp .ne 25, 3) := by decide +kernel
theorem d_Pi_step_47 : decode c_Pi_step 47 = .ok (.aload_n 0, 1) := by decide +kernel
theorem d_Pi_step_48 : decode c_Pi_step 48 = .ok (.aload_n 0, 1) := by decide +kernel
theorem d_Pi_step_49 : decode c_Pi_step 49 = .ok (.getfield 9, 3) := by decide +kernel
theorem d_Pi_step_52 : decode c_Pi_step 52 = .ok (.aload_n 0, 1) := by decide +kernel
theorem d_Pi_step_53 : decode c_Pi_step 53 = .ok (.getfield 28, 3) := by decide +kernel
theorem d_Pi_step_56 : decode c_Pi_step 56 = .ok (.aload_n 0, 1) := by decide +kernel
theorem d_Pi_step_57 : decode c_Pi_step 57 = .ok (.getfield 35, 3) := by decide +kernel
theorem d_Pi_step_60 : decode c_Pi_step 60 = .ok (.invokevirtual 24, 3) := by decide +kernel
theorem d_Pi_step_63 : decode c_Pi_step 63 = .ok (.putfield 15, 3) := by decide +kernel
theorem d_Pi_step_66 : decode c_Pi_step 66 = .ok (.goto 27, 3) := by decide +kernel
theorem d_Pi_step_69 : decode c_Pi_step 69 = .ok (.aload_n 0, 1) := by decide +kernel
theorem d_Pi_step_70 : decode c_Pi_step 70 = .ok (.aload_n 0, 1) := by decide +kernel
theorem d_Pi_step_71 : decode c_Pi_step 71 = .ok (.getfield 35, 3) := by decide +kernel
theorem d_Pi_step_74 : decode c_Pi_step 74 = .ok (.ifCond .ne 10, 3) := by decide +kernel
theorem d_Pi_step_77 : decode c_Pi_step 77 = .ok (.aload_n 0, 1) := by decide +kernel
theorem d_Pi_step_78 : decode c_Pi_step 78 = .ok (.getfield 28, 3) := by decide +kernel
theorem d_Pi_step_81 : decode c_Pi_step 81 = .ok (.goto 9, 3) := by decide +kernel
theorem d_Pi_step_84 : decode c_Pi_step 84 = .ok (.aload_n 0, 1) := by decide +kernel
theorem d_Pi_step_85 : decode c_Pi_step 85 = .ok (.getfield 28, 3) := by decide +kernel
theorem d_Pi_step_88 : decode c_Pi_step 88 = .ok (.iconst 1, 1) := by decide +kernel
theorem d_Pi_step_89 : decode c_Pi_step 89 = .ok (.iadd, 1) := by decide +kernel
theorem d_Pi_step_90 : decode c_Pi_step 90 = .ok (.putfield 15, 3) := by decide +kernel
theorem d_Pi_step_93 : decode c_Pi_step 93 = .ok (.return_, 1) := by decide +kernel
theorem d_Tx_behind_0 : decode c_Tx_behind 0 = .ok (.iload_n 1, 1) := by decide +kernel
theorem d_Tx_behind_1 : decode c_Tx_behind 1 = .ok (.istore_n 3, 1) := by decide +kernel
theorem d_Tx_behind_2 : decode c_Tx_behind 2 = .ok (.iload_n 3, 1) := by decide +kernel
theorem d_Tx_behind_3 : decode c_Tx_behind 3 = .ok (.aload_n 0, 1) := by decide +kernel
theorem d_Tx_behind_4 : decode c_Tx_behind 4 = .ok (.getfield 15, 3) := by decide +kernel
theorem d_Tx_behind_7 : decode c_Tx_behind 7 = .ok (.if_icmp .ge 20, 3) := by decide +kernel
theorem d_Tx_behind_10 : decode c_Tx_behind 10 = .ok (.aload_n 0, 1) := by decide +kernel
theorem d_Tx_behind_11 : decode c_Tx_behind 11 = .ok (.iload_n 3, 1) := by decide +kernel
theorem d_Tx_behind_12 : decode c_Tx_behind 12 = .ok (.invokevirtual 24, 3) := by decide +kernel
theorem d_Tx_behind_15 : decode c_Tx_behind 15 = .ok (.iload_n 2, 1) := by decide +kernel
theorem d_Tx_behind_16 : decode c_Tx_behind 16 = .ok (.if_icmp .eq 5, 3) := by decide +kernel
theorem d_Tx_behind_19 : decode c_Tx_behind 19 = .ok (.iload_n 3, 1) := by decide +kernel
theorem d_Tx_behind_20 : decode c_Tx_behind 20 = .ok (.ireturn, 1) := by decide +kernel
theorem d_Tx_behind_21 : decode c_Tx_behind 21 = .ok (.iinc 3 1, 3) := by decide +kernel
theorem d_Tx_behind_24 : decode c_Tx_behind 24 = .ok (.goto (-22), 3) := by decide +kernel
theorem d_Tx_behind_27 : decode c_Tx_behind 27 = .ok (.aload_n 0, 1) := by decide +kernel
theorem d_Tx_behind_28 : decode c_Tx_behind 28 = .ok (.getfield 15, 3) := by decide +kernel
theorem d_Tx_behind_31 : decode c_Tx_behind 31 = .ok (.ireturn, 1) := by decide +kernel
theorem d_Tx_kindAt_0 : decode c_Tx_kindAt 0 = .ok (.iload_n 1, 1) := by decide +kernel
theorem d_Tx_kindAt_1 : decode c_Tx_kindAt 1 = .ok (.aload_n 0, 1) := by decide +kernel
theorem d_Tx_kindAt_2 : decode c_Tx_kindAt 2 = .ok (.getfield 15, 3) := by decide +kernel
theorem d_Tx_kindAt_5 : decode c_Tx_kindAt 5 = .ok (.if_icmp .lt 5, 3) := by decide +kernel
theorem d_Tx_kindAt_8 : decode c_Tx_kindAt 8 = .ok (.iconst 0, 1) := by decide +kernel
theorem d_Tx_kindAt_9 : decode c_Tx_kindAt 9 = .ok (.ireturn, 1) := by decide +kernel
theorem d_Tx_kindAt_10 : decode c_Tx_kindAt 10 = .ok (.aload_n 0, 1) := by decide +kernel
theorem d_Tx_kindAt_11 : decode c_Tx_kindAt 11 = .ok (.getfield 9, 3) := by decide +kernel
theorem d_Tx_kindAt_14 : decode c_Tx_kindAt 14 = .ok (.iload_n 1, 1) := by decide +kernel
theorem d_Tx_kindAt_15 : decode c_Tx_kindAt 15 = .ok (.caload, 1) := by decide +kernel
theorem d_Tx_kindAt_16 : decode c_Tx_kindAt 16 = .ok (.istore_n 2, 1) := by decide +kernel
theorem d_Tx_kindAt_17 : decode c_Tx_kindAt 17 = .ok (.iload_n 2, 1) := by decide +kernel
theorem d_Tx_kindAt_18 : decode c_Tx_kindAt 18 = .ok (.bipush 32, 2) := by decide +kernel
theorem d_Tx_kindAt_20 : decode c_Tx_kindAt 20 = .ok (.if_icmp .eq 9, 3) := by decide +kernel
theorem d_Tx_kindAt_23 : decode c_Tx_kindAt 23 = .ok (.iload_n 2, 1) := by decide +kernel
theorem d_Tx_kindAt_24 : decode c_Tx_kindAt 24 = .ok (.bipush 10, 2) := by decide +kernel
theorem d_Tx_kindAt_26 : decode c_Tx_kindAt 26 = .ok (.if_icmp .ne 5, 3) := by decide +kernel
theorem d_Tx_kindAt_29 : decode c_Tx_kindAt 29 = .ok (.iconst 1, 1) := by decide +kernel
theorem d_Tx_kindAt_30 : decode c_Tx_kindAt 30 = .ok (.ireturn, 1) := by decide +kernel
theorem d_Tx_kindAt_31 : decode c_Tx_kindAt 31 = .ok (.iload_n 2, 1) := by decide +kernel
theorem d_Tx_kindAt_32 : decode c_Tx_kindAt 32 = .ok (.bipush 97, 2) := by decide +kernel
theorem d_Tx_kindAt_34 : decode c_Tx_kindAt 34 = .ok (.if_icmp .lt 11, 3) := by decide +kernel
theorem d_Tx_kindAt_37 : decode c_Tx_kindAt 37 = .ok (.iload_n 2, 1) := by decide +kernel
theorem d_Tx_kindAt_38 : decode c_Tx_kindAt 38 = .ok (.bipush 122, 2) := by decide +kernel
theorem d_Tx_kindAt_40 : decode c_Tx_kindAt 40 = .ok (.if_icmp .gt 5, 3) := by decide +kernel
theorem d_Tx_kindAt_43 : decode c_Tx_kindAt 43 = .ok (.iconst 2, 1) := by decide +kernel
theorem d_Tx_kindAt_44 : decode c_Tx_kindAt 44 = .ok (.ireturn, 1) := by decide +kernel
theorem d_Tx_kindAt_45 : decode c_Tx_kindAt 45 = .ok (.iload_n 2, 1) := by decide +kernel
theorem d_Tx_kindAt_46 : decode c_Tx_kindAt 46 = .ok (.bipush 48, 2) := by decide +kernel
theorem d_Tx_kindAt_48 : decode c_Tx_kindAt 48 = .ok (.if_icmp .lt 13, 3) := by decide +kernel
theorem d_Tx_kindAt_51 : decode c_Tx_kindAt 51 = .ok (.iload_n 2, 1) := by decide +kernel
theorem d_Tx_kindAt_52 : decode c_Tx_kindAt 52 = .ok (.bipush 57, 2) := by decide +kernel
theorem d_Tx_kindAt_54 : decode c_Tx_kindAt 54 = .ok (.if_icmp .gt 7, 3) := by decide +kernel
theorem d_Tx_kindAt_57 : decode c_Tx_kindAt 57 = .ok (.iconst 3, 1) := by decide +kernel
theorem d_Tx_kindAt_58 : decode c_Tx_kindAt 58 = .ok (.goto 4, 3) := by decide +kernel
theorem d_Tx_kindAt_61 : decode c_Tx_kindAt 61 = .ok (.iconst 4, 1) := by decide +kernel
theorem d_Tx_kindAt_62 : decode c_Tx_kindAt 62 = .ok (.ireturn, 1) := by decide +kernel
theorem d_Pi_isEnd_0 : decode c_Pi_isEnd 0 = .ok (.aload_n 0, 1) := by decide +kernel
theorem d_Pi_isEnd_1 : decode c_Pi_isEnd 1 = .ok (.getfield 35, 3) := by decide +kernel
theorem d_Pi_isEnd_4 : decode c_Pi_isEnd 4 = .ok (.ifCond .ne 7, 3) := by decide +kernel
theorem d_Pi_isEnd_7 : decode c_Pi_isEnd 7 = .ok (.iconst 1, 1) := by decide +kernel
theorem d_Pi_isEnd_8 : decode c_Pi_isEnd 8 = .ok (.goto 4, 3) := by decide +kernel
theorem d_Pi_isEnd_11 : decode c_Pi_isEnd 11 = .ok (.iconst 0, 1) := by decide +kernel
theorem d_Pi_isEnd_12 : decode c_Pi_isEnd 12 = .ok (.ireturn, 1) := by decide +kernel
theorem d_RR_readRule_0 : decode c_RR_readRule 0 = .ok (.aload_n 0, 1) := by decide +kernel
theorem d_RR_readRule_1 : decode c_RR_readRule 1 = .ok (.invokevirtual 48, 3) := by decide +kernel
theorem d_RR_readRule_4 : decode c_RR_readRule 4 = .ok (.istore_n 2, 1) := by decide +kernel
theorem d_RR_readRule_5 : decode c_RR_readRule 5 = .ok (.iload_n 2, 1) := by decide +kernel
theorem d_RR_readRule_6 : decode c_RR_readRule 6 = .ok (.iconst (-1), 1) := by decide +kernel
theorem d_RR_readRule_7 : decode c_RR_readRule 7 = .ok (.if_icmp .ne 5, 3) := by decide +kernel
theorem d_RR_readRule_10 : decode c_RR_readRule 10 = .ok (.iconst 0, 1) := by decide +kernel
theorem d_RR_readRule_11 : decode c_RR_readRule 11 = .ok (.ireturn, 1) := by decide +kernel
theorem d_RR_readRule_12 : decode c_RR_readRule 12 = .ok (.aload_n 0, 1) := by decide +kernel
theorem d_RR_readRule_13 : decode c_RR_readRule 13 = .ok (.getfield 14, 3) := by decide +kernel
theorem d_RR_readRule_16 : decode c_RR_readRule 16 = .ok (.invokevirtual 51, 3) := by decide +kernel
theorem d_RR_readRule_19 : decode c_RR_readRule 19 = .ok (.aload_n 1, 1) := by decide +kernel
theorem d_RR_readRule_20 : decode c_RR_readRule 20 = .ok (.iload_n 2, 1) := by decide +kernel
theorem d_RR_readRule_21 : decode c_RR_readRule 21 = .ok (.invokevirtual 54, 3) := by decide +kernel
theorem d_RR_readRule_24 : decode c_RR_readRule 24 = .ok (.aload_n 0, 1) := by decide +kernel
theorem d_RR_readRule_25 : decode c_RR_readRule 25 = .ok (.iconst 0, 1) := by decide +kernel
theorem d_RR_readRule_26 : decode c_RR_readRule 26 = .ok (.putfield 58, 3) := by decide +kernel
theorem d_RR_readRule_29 : decode c_RR_readRule 29 = .ok (.iconst 0, 1) := by decide +kernel
theorem d_RR_readRule_30 : decode c_RR_readRule 30 = .ok (.istore_n 3, 1) := by decide +kernel
theorem d_RR_readRule_31 : decode c_RR_readRule 31 = .ok (.iload_n 3, 1) := by decide +kernel
theorem d_RR_readRule_32 : decode c_RR_readRule 32 = .ok (.iconst 4, 1) := by decide +kernel
theorem d_RR_readRule_33 : decode c_RR_readRule 33 = .ok (.if_icmp .ge 45, 3) := by decide +kernel
theorem d_RR_readRule_36 : decode c_RR_readRule 36 = .ok (.aload_n 0, 1) := by decide +kernel
theorem d_RR_readRule_37 : decode c_RR_readRule 37 = .ok (.getfield 14, 3) := by decide +kernel
theorem d_RR_readRule_40 : decode c_RR_readRule 40 = .ok (.bipush 59, 2) := by decide +kernel
theorem d_RR_readRule_42 : decode c_RR_readRule 42 = .ok (.invokevirtual 62, 3) := by decide +kernel
theorem d_RR_readRule_45 : decode c_RR_readRule 45 = .ok (.ifCond .ne 33, 3) := by decide +kernel
theorem d_RR_readRule_48 : decode c_RR_readRule 48 = .ok (.aload_n 0, 1) := by decide +kernel
theorem d_RR_readRule_49 : decode c_RR_readRule 49 = .ok (.invokevirtual 66, 3) := by decide +kernel
theorem d_RR_readRule_52 : decode c_RR_readRule 52 = .ok (.istore 4, 2) := by decide +kernel
theorem d_RR_readRule_54 : decode c_RR_readRule 54 = .ok (.iload 4, 2) := by decide +kernel
theorem d_RR_readRule_56 : decode c_RR_readRule 56 = .ok (.iconst (-1), 1) := by decide +kernel
theorem d_RR_readRule_57 : decode c_RR_readRule 57 = .ok (.if_icmp .eq 13, 3) := by decide +kernel
theorem d_RR_readRule_60 : decode c_RR_readRule 60 = .ok (.aload_n 0, 1) := by decide +kernel
theorem d_RR_readRule_61 : decode c_RR_readRule 61 = .ok (.aload_n 1, 1) := by decide +kernel
theorem d_RR_readRule_62 : decode c_RR_readRule 62 = .ok (.iload 4, 2) := by decide +kernel
theorem d_RR_readRule_64 : decode c_RR_readRule 64 = .ok (.invokevirtual 69, 3) := by decide +kernel
theorem d_RR_readRule_67 : decode c_RR_readRule 67 = .ok (.ifCond .ne 5, 3) := by decide +kernel
theorem d_RR_readRule_70 : decode c_RR_readRule 70 = .ok (.iconst 0, 1) := by decide +kernel
theorem d_RR_readRule_71 : decode c_RR_readRule 71 = .ok (.ireturn, 1) := by decide +kernel
theorem d_RR_readRule_72 : decode c_RR_readRule 72 = .ok (.iinc 3 1, 3) := by decide +kernel
theorem d_RR_readRule_75 : decode c_RR_readRule 75 = .ok (.goto (-44), 3) := by decide +kernel
theorem d_RR_readRule_78 : decode c_RR_readRule 78 = .ok (.aload_n 0, 1) := by decide +kernel
theorem d_RR_readRule_79 : decode c_RR_readRule 79 = .ok (.bipush 59, 2) := by decide +kernel
theorem d_RR_readRule_81 : decode c_RR_readRule 81 = .ok (.invokevirtual 73, 3) := by decide +kernel
theorem d_RR_readRule_84 : decode c_RR_readRule 84 = .ok (.ireturn, 1) := by decide +kernel
theorem d_RR_verdictHere_0 : decode c_RR_verdictHere 0 = .ok (.iconst 0, 1) := by decide +kernel
theorem d_RR_verdictHere_1 : decode c_RR_verdictHere 1 = .ok (.istore_n 1, 1) := by decide +kernel
theorem d_RR_verdictHere_2 : decode c_RR_verdictHere 2 = .ok (.iload_n 1, 1) := by decide +kernel
theorem d_RR_verdictHere_3 : decode c_RR_verdictHere 3 = .ok (.iconst 3, 1) := by decide +kernel
theorem d_RR_verdictHere_4 : decode c_RR_verdictHere 4 = .ok (.if_icmp .ge 25, 3) := by decide +kernel
theorem d_RR_verdictHere_7 : decode c_RR_verdictHere 7 = .ok (.aload_n 0, 1) := by decide +kernel
theorem d_RR_verdictHere_8 : decode c_RR_verdictHere 8 = .ok (.getfield 14, 3) := by decide +kernel
theorem d_RR_verdictHere_11 : decode c_RR_verdictHere 11 = .ok (.iload_n 1, 1) := by decide +kernel
theorem d_RR_verdictHere_12 : decode c_RR_verdictHere 12 = .ok (.invokestatic 111, 3) := by decide +kernel
theorem d_RR_verdictHere_15 : decode c_RR_verdictHere 15 = .ok (.invokevirtual 81, 3) := by decide +kernel
theorem d_RR_verdictHere_18 : decode c_RR_verdictHere 18 = .ok (.ifCond .eq 5, 3) := by decide +kernel
theorem d_RR_verdictHere_21 : decode c_RR_verdictHere 21 = .ok (.iload_n 1, 1) := by decide +kernel
theorem d_RR_verdictHere_22 : decode c_RR_verdictHere 22 = .ok (.ireturn, 1) := by decide +kernel
theorem d_RR_verdictHere_23 : decode c_RR_verdictHere 23 = .ok (.iinc 1 1, 3) := by decide +kernel
theorem d_RR_verdictHere_26 : decode c_RR_verdictHere 26 = .ok (.goto (-24), 3) := by decide +kernel
theorem d_RR_verdictHere_29 : decode c_RR_verdictHere 29 = .ok (.iconst (-1), 1) := by decide +kernel
theorem d_RR_verdictHere_30 : decode c_RR_verdictHere 30 = .ok (.ireturn, 1) := by decide +kernel
theorem d_RR_verdictName_0 : decode c_RR_verdictName 0 = .ok (.iload_n 0, 1) := by decide +kernel
theorem d_RR_verdictName_1 : decode c_RR_verdictName 1 = .ok (.lookupswitch 33 #[(0, 27), (1, 30)], 27) := by decide +kernel
theorem d_RR_verdictName_28 : decode c_RR_verdictName 28 = .ok (.ldc 118, 2) := by decide +kernel
theorem d_RR_verdictName_30 : decode c_RR_verdictName 30 = .ok (.areturn, 1) := by decide +kernel
theorem d_RR_verdictName_31 : decode c_RR_verdictName 31 = .ok (.ldc 120, 2) := by decide +kernel
theorem d_RR_verdictName_33 : decode c_RR_verdictName 33 = .ok (.areturn, 1) := by decide +kernel
theorem d_RR_verdictName_34 : decode c_RR_verdictName 34 = .ok (.ldc 122, 2) := by decide +kernel
theorem d_RR_verdictName_36 : decode c_RR_verdictName 36 = .ok (.areturn, 1) := by decide +kernel
theorem d_Pi_isWord_0 : decode c_Pi_isWord 0 = .ok (.aload_n 0, 1) := by decide +kernel
theorem d_Pi_isWord_1 : decode c_Pi_isWord 1 = .ok (.getfield 35, 3) := by decide +kernel
theorem d_Pi_isWord_4 : decode c_Pi_isWord 4 = .ok (.iconst 2, 1) := by decide +kernel
theorem d_Pi_isWord_5 : decode c_Pi_isWord 5 = .ok (.if_icmp .ne 19, 3) := by decide +kernel
theorem d_Pi_isWord_8 : decode c_Pi_isWord 8 = .ok (.aload_n 0, 1) := by decide +kernel
theorem d_Pi_isWord_9 : decode c_Pi_isWord 9 = .ok (.getfield 15, 3) := by decide +kernel
theorem d_Pi_isWord_12 : decode c_Pi_isWord 12 = .ok (.aload_n 0, 1) := by decide +kernel
theorem d_Pi_isWord_13 : decode c_Pi_isWord 13 = .ok (.getfield 28, 3) := by decide +kernel
theorem d_Pi_isWord_16 : decode c_Pi_isWord 16 = .ok (.isub, 1) := by decide +kernel
theorem d_Pi_isWord_17 : decode c_Pi_isWord 17 = .ok (.aload_n 1, 1) := by decide +kernel
theorem d_Pi_isWord_18 : decode c_Pi_isWord 18 = .ok (.invokevirtual 42, 3) := by decide +kernel
theorem d_Pi_isWord_21 : decode c_Pi_isWord 21 = .ok (.if_icmp .eq 5, 3) := by decide +kernel
theorem d_Pi_isWord_24 : decode c_Pi_isWord 24 = .ok (.iconst 0, 1) := by decide +kernel
theorem d_Pi_isWord_25 : decode c_Pi_isWord 25 = .ok (.ireturn, 1) := by decide +kernel
theorem d_Pi_isWord_26 : decode c_Pi_isWord 26 = .ok (.iconst 0, 1) := by decide +kernel
theorem d_Pi_isWord_27 : decode c_Pi_isWord 27 = .ok (.istore_n 2, 1) := by decide +kernel
theorem d_Pi_isWord_28 : decode c_Pi_isWord 28 = .ok (.iload_n 2, 1) := by decide +kernel
theorem d_Pi_isWord_29 : decode c_Pi_isWord 29 = .ok (.aload_n 1, 1) := by decide +kernel
theorem d_Pi_isWord_30 : decode c_Pi_isWord 30 = .ok (.invokevirtual 42, 3) := by decide +kernel
theorem d_Pi_isWord_33 : decode c_Pi_isWord 33 = .ok (.if_icmp .ge 32, 3) := by decide +kernel
theorem d_Pi_isWord_36 : decode c_Pi_isWord 36 = .ok (.aload_n 0, 1) := by decide +kernel
theorem d_Pi_isWord_37 : decode c_Pi_isWord 37 = .ok (.getfield 9, 3) := by decide +kernel
theorem d_Pi_isWord_40 : decode c_Pi_isWord 40 = .ok (.aload_n 0, 1) := by decide +kernel
theorem d_Pi_isWord_41 : decode c_Pi_isWord 41 = .ok (.getfield 28, 3) := by decide +kernel
theorem d_Pi_isWord_44 : decode c_Pi_isWord 44 = .ok (.iload_n 2, 1) := by decide +kernel
theorem d_Pi_isWord_45 : decode c_Pi_isWord 45 = .ok (.iadd, 1) := by decide +kernel
theorem d_Pi_isWord_46 : decode c_Pi_isWord 46 = .ok (.invokevirtual 38, 3) := by decide +kernel
theorem d_Pi_isWord_49 : decode c_Pi_isWord 49 = .ok (.aload_n 1, 1) := by decide +kernel
theorem d_Pi_isWord_50 : decode c_Pi_isWord 50 = .ok (.iload_n 2, 1) := by decide +kernel
theorem d_Pi_isWord_51 : decode c_Pi_isWord 51 = .ok (.invokevirtual 48, 3) := by decide +kernel
theorem d_Pi_isWord_54 : decode c_Pi_isWord 54 = .ok (.if_icmp .eq 5, 3) := by decide +kernel
theorem d_Pi_isWord_57 : decode c_Pi_isWord 57 = .ok (.iconst 0, 1) := by decide +kernel
theorem d_Pi_isWord_58 : decode c_Pi_isWord 58 = .ok (.ireturn, 1) := by decide +kernel
theorem d_Pi_isWord_59 : decode c_Pi_isWord 59 = .ok (.iinc 2 1, 3) := by decide +kernel
theorem d_Pi_isWord_62 : decode c_Pi_isWord 62 = .ok (.goto (-34), 3) := by decide +kernel
theorem d_Pi_isWord_65 : decode c_Pi_isWord 65 = .ok (.iconst 1, 1) := by decide +kernel
theorem d_Pi_isWord_66 : decode c_Pi_isWord 66 = .ok (.ireturn, 1) := by decide +kernel
theorem d_Tx_at_0 : decode c_Tx_at 0 = .ok (.aload_n 0, 1) := by decide +kernel
theorem d_Tx_at_1 : decode c_Tx_at 1 = .ok (.getfield 9, 3) := by decide +kernel
theorem d_Tx_at_4 : decode c_Tx_at 4 = .ok (.iload_n 1, 1) := by decide +kernel
theorem d_Tx_at_5 : decode c_Tx_at 5 = .ok (.caload, 1) := by decide +kernel
theorem d_Tx_at_6 : decode c_Tx_at 6 = .ok (.ireturn, 1) := by decide +kernel
theorem d_Ru_start_0 : decode c_Ru_start 0 = .ok (.aload_n 0, 1) := by decide +kernel
theorem d_Ru_start_1 : decode c_Ru_start 1 = .ok (.iload_n 1, 1) := by decide +kernel
theorem d_Ru_start_2 : decode c_Ru_start 2 = .ok (.putfield 18, 3) := by decide +kernel
theorem d_Ru_start_5 : decode c_Ru_start 5 = .ok (.iconst 0, 1) := by decide +kernel
theorem d_Ru_start_6 : decode c_Ru_start 6 = .ok (.istore_n 2, 1) := by decide +kernel
theorem d_Ru_start_7 : decode c_Ru_start 7 = .ok (.iload_n 2, 1) := by decide +kernel
theorem d_Ru_start_8 : decode c_Ru_start 8 = .ok (.iconst 4, 1) := by decide +kernel
theorem d_Ru_start_9 : decode c_Ru_start 9 = .ok (.if_icmp .ge 19, 3) := by decide +kernel
theorem d_Ru_start_12 : decode c_Ru_start 12 = .ok (.aload_n 0, 1) := by decide +kernel
theorem d_Ru_start_13 : decode c_Ru_start 13 = .ok (.iload_n 2, 1) := by decide +kernel
theorem d_Ru_start_14 : decode c_Ru_start 14 = .ok (.iconst 0, 1) := by decide +kernel
theorem d_Ru_start_15 : decode c_Ru_start 15 = .ok (.iload_n 2, 1) := by decide +kernel
theorem d_Ru_start_16 : decode c_Ru_start 16 = .ok (.invokestatic 22, 3) := by decide +kernel
theorem d_Ru_start_19 : decode c_Ru_start 19 = .ok (.invokevirtual 26, 3) := by decide +kernel
theorem d_Ru_start_22 : decode c_Ru_start 22 = .ok (.iinc 2 1, 3) := by decide +kernel
theorem d_Ru_start_25 : decode c_Ru_start 25 = .ok (.goto (-18), 3) := by decide +kernel
theorem d_Ru_start_28 : decode c_Ru_start 28 = .ok (.return_, 1) := by decide +kernel
theorem d_Ru_narrow_0 : decode c_Ru_narrow 0 = .ok (.aload_n 0, 1) := by decide +kernel
theorem d_Ru_narrow_1 : decode c_Ru_narrow 1 = .ok (.getfield 9, 3) := by decide +kernel
theorem d_Ru_narrow_4 : decode c_Ru_narrow 4 = .ok (.iload_n 1, 1) := by decide +kernel
theorem d_Ru_narrow_5 : decode c_Ru_narrow 5 = .ok (.iload_n 2, 1) := by decide +kernel
theorem d_Ru_narrow_6 : decode c_Ru_narrow 6 = .ok (.iastore, 1) := by decide +kernel
theorem d_Ru_narrow_7 : decode c_Ru_narrow 7 = .ok (.aload_n 0, 1) := by decide +kernel
theorem d_Ru_narrow_8 : decode c_Ru_narrow 8 = .ok (.getfield 15, 3) := by decide +kernel
theorem d_Ru_narrow_11 : decode c_Ru_narrow 11 = .ok (.iload_n 1, 1) := by decide +kernel
theorem d_Ru_narrow_12 : decode c_Ru_narrow 12 = .ok (.iload_n 3, 1) := by decide +kernel
theorem d_Ru_narrow_13 : decode c_Ru_narrow 13 = .ok (.iastore, 1) := by decide +kernel
theorem d_Ru_narrow_14 : decode c_Ru_narrow 14 = .ok (.return_, 1) := by decide +kernel
theorem d_Pi_isSign_0 : decode c_Pi_isSign 0 = .ok (.aload_n 0, 1) := by decide +kernel
theorem d_Pi_isSign_1 : decode c_Pi_isSign 1 = .ok (.getfield 35, 3) := by decide +kernel
theorem d_Pi_isSign_4 : decode c_Pi_isSign 4 = .ok (.iconst 4, 1) := by decide +kernel
theorem d_Pi_isSign_5 : decode c_Pi_isSign 5 = .ok (.if_icmp .ne 22, 3) := by decide +kernel
theorem d_Pi_isSign_8 : decode c_Pi_isSign 8 = .ok (.aload_n 0, 1) := by decide +kernel
theorem d_Pi_isSign_9 : decode c_Pi_isSign 9 = .ok (.getfield 9, 3) := by decide +kernel
theorem d_Pi_isSign_12 : decode c_Pi_isSign 12 = .ok (.aload_n 0, 1) := by decide +kernel
theorem d_Pi_isSign_13 : decode c_Pi_isSign 13 = .ok (.getfield 28, 3) := by decide +kernel
theorem d_Pi_isSign_16 : decode c_Pi_isSign 16 = .ok (.invokevirtual 38, 3) := by decide +kernel
theorem d_Pi_isSign_19 : decode c_Pi_isSign 19 = .ok (.iload_n 1, 1) := by decide +kernel
theorem d_Pi_isSign_20 : decode c_Pi_isSign 20 = .ok (.if_icmp .ne 7, 3) := by decide +kernel
theorem d_Pi_isSign_23 : decode c_Pi_isSign 23 = .ok (.iconst 1, 1) := by decide +kernel
theorem d_Pi_isSign_24 : decode c_Pi_isSign 24 = .ok (.goto 4, 3) := by decide +kernel
theorem d_Pi_isSign_27 : decode c_Pi_isSign 27 = .ok (.iconst 0, 1) := by decide +kernel
theorem d_Pi_isSign_28 : decode c_Pi_isSign 28 = .ok (.ireturn, 1) := by decide +kernel
theorem d_RR_readName_0 : decode c_RR_readName 0 = .ok (.aload_n 0, 1) := by decide +kernel
theorem d_RR_readName_1 : decode c_RR_readName 1 = .ok (.invokevirtual 76, 3) := by decide +kernel
theorem d_RR_readName_4 : decode c_RR_readName 4 = .ok (.istore_n 1, 1) := by decide +kernel
theorem d_RR_readName_5 : decode c_RR_readName 5 = .ok (.iload_n 1, 1) := by decide +kernel
theorem d_RR_readName_6 : decode c_RR_readName 6 = .ok (.iconst (-1), 1) := by decide +kernel
theorem d_RR_readName_7 : decode c_RR_readName 7 = .ok (.if_icmp .eq 15, 3) := by decide +kernel
theorem d_RR_readName_10 : decode c_RR_readName 10 = .ok (.aload_n 0, 1) := by decide +kernel
theorem d_RR_readName_11 : decode c_RR_readName 11 = .ok (.getfield 58, 3) := by decide +kernel
theorem d_RR_readName_14 : decode c_RR_readName 14 = .ok (.iload_n 1, 1) := by decide +kernel
theorem d_RR_readName_15 : decode c_RR_readName 15 = .ok (.ishr, 1) := by decide +kernel
theorem d_RR_readName_16 : decode c_RR_readName 16 = .ok (.iconst 1, 1) := by decide +kernel
theorem d_RR_readName_17 : decode c_RR_readName 17 = .ok (.iand, 1) := by decide +kernel
theorem d_RR_readName_18 : decode c_RR_readName 18 = .ok (.iconst 1, 1) := by decide +kernel
theorem d_RR_readName_19 : decode c_RR_readName 19 = .ok (.if_icmp .ne 5, 3) := by decide +kernel
theorem d_RR_readName_22 : decode c_RR_readName 22 = .ok (.iconst (-1), 1) := by decide +kernel
theorem d_RR_readName_23 : decode c_RR_readName 23 = .ok (.ireturn, 1) := by decide +kernel
theorem d_RR_readName_24 : decode c_RR_readName 24 = .ok (.aload_n 0, 1) := by decide +kernel
theorem d_RR_readName_25 : decode c_RR_readName 25 = .ok (.dup, 1) := by decide +kernel
theorem d_RR_readName_26 : decode c_RR_readName 26 = .ok (.getfield 58, 3) := by decide +kernel
theorem d_RR_readName_29 : decode c_RR_readName 29 = .ok (.iconst 1, 1) := by decide +kernel
theorem d_RR_readName_30 : decode c_RR_readName 30 = .ok (.iload_n 1, 1) := by decide +kernel
theorem d_RR_readName_31 : decode c_RR_readName 31 = .ok (.ishl, 1) := by decide +kernel
theorem d_RR_readName_32 : decode c_RR_readName 32 = .ok (.ior, 1) := by decide +kernel
theorem d_RR_readName_33 : decode c_RR_readName 33 = .ok (.putfield 58, 3) := by decide +kernel
theorem d_RR_readName_36 : decode c_RR_readName 36 = .ok (.aload_n 0, 1) := by decide +kernel
theorem d_RR_readName_37 : decode c_RR_readName 37 = .ok (.getfield 14, 3) := by decide +kernel
theorem d_RR_readName_40 : decode c_RR_readName 40 = .ok (.invokevirtual 51, 3) := by decide +kernel
theorem d_RR_readName_43 : decode c_RR_readName 43 = .ok (.iload_n 1, 1) := by decide +kernel
theorem d_RR_readName_44 : decode c_RR_readName 44 = .ok (.ireturn, 1) := by decide +kernel
theorem d_RR_fieldHere_0 : decode c_RR_fieldHere 0 = .ok (.iconst 0, 1) := by decide +kernel
theorem d_RR_fieldHere_1 : decode c_RR_fieldHere 1 = .ok (.istore_n 1, 1) := by decide +kernel
theorem d_RR_fieldHere_2 : decode c_RR_fieldHere 2 = .ok (.iload_n 1, 1) := by decide +kernel
theorem d_RR_fieldHere_3 : decode c_RR_fieldHere 3 = .ok (.iconst 4, 1) := by decide +kernel
theorem d_RR_fieldHere_4 : decode c_RR_fieldHere 4 = .ok (.if_icmp .ge 25, 3) := by decide +kernel
theorem d_RR_fieldHere_7 : decode c_RR_fieldHere 7 = .ok (.aload_n 0, 1) := by decide +kernel
theorem d_RR_fieldHere_8 : decode c_RR_fieldHere 8 = .ok (.getfield 14, 3) := by decide +kernel
theorem d_RR_fieldHere_11 : decode c_RR_fieldHere 11 = .ok (.iload_n 1, 1) := by decide +kernel
theorem d_RR_fieldHere_12 : decode c_RR_fieldHere 12 = .ok (.invokestatic 115, 3) := by decide +kernel
theorem d_RR_fieldHere_15 : decode c_RR_fieldHere 15 = .ok (.invokevirtual 81, 3) := by decide +kernel
theorem d_RR_fieldHere_18 : decode c_RR_fieldHere 18 = .ok (.ifCond .eq 5, 3) := by decide +kernel
theorem d_RR_fieldHere_21 : decode c_RR_fieldHere 21 = .ok (.iload_n 1, 1) := by decide +kernel
theorem d_RR_fieldHere_22 : decode c_RR_fieldHere 22 = .ok (.ireturn, 1) := by decide +kernel
theorem d_RR_fieldHere_23 : decode c_RR_fieldHere 23 = .ok (.iinc 1 1, 3) := by decide +kernel
theorem d_RR_fieldHere_26 : decode c_RR_fieldHere 26 = .ok (.goto (-24), 3) := by decide +kernel
theorem d_RR_fieldHere_29 : decode c_RR_fieldHere 29 = .ok (.iconst (-1), 1) := by decide +kernel
theorem d_RR_fieldHere_30 : decode c_RR_fieldHere 30 = .ok (.ireturn, 1) := by decide +kernel
theorem d_RR_fieldName_0 : decode c_RR_fieldName 0 = .ok (.iload_n 0, 1) := by decide +kernel
theorem d_RR_fieldName_1 : decode c_RR_fieldName 1 = .ok (.tableswitch 36 0 2 #[27, 30, 33], 27) := by decide +kernel
theorem d_RR_fieldName_28 : decode c_RR_fieldName 28 = .ok (.ldc 124, 2) := by decide +kernel
theorem d_RR_fieldName_30 : decode c_RR_fieldName 30 = .ok (.areturn, 1) := by decide +kernel
theorem d_RR_fieldName_31 : decode c_RR_fieldName 31 = .ok (.ldc 126, 2) := by decide +kernel
theorem d_RR_fieldName_33 : decode c_RR_fieldName 33 = .ok (.areturn, 1) := by decide +kernel
theorem d_RR_fieldName_34 : decode c_RR_fieldName 34 = .ok (.ldc 128, 2) := by decide +kernel
theorem d_RR_fieldName_36 : decode c_RR_fieldName 36 = .ok (.areturn, 1) := by decide +kernel
theorem d_RR_fieldName_37 : decode c_RR_fieldName 37 = .ok (.ldc 130, 2) := by decide +kernel
theorem d_RR_fieldName_39 : decode c_RR_fieldName 39 = .ok (.areturn, 1) := by decide +kernel
theorem d_RR_readRange_0 : decode c_RR_readRange 0 = .ok (.aload_n 0, 1) := by decide +kernel
theorem d_RR_readRange_1 : decode c_RR_readRange 1 = .ok (.getfield 14, 3) := by decide +kernel
theorem d_RR_readRange_4 : decode c_RR_readRange 4 = .ok (.ldc 79, 2) := by decide +kernel
theorem d_RR_readRange_6 : decode c_RR_readRange 6 = .ok (.invokevirtual 81, 3) := by decide +kernel
theorem d_RR_readRange_9 : decode c_RR_readRange 9 = .ok (.ifCond .eq 12, 3) := by decide +kernel
theorem d_RR_readRange_12 : decode c_RR_readRange 12 = .ok (.aload_n 0, 1) := by decide +kernel
theorem d_RR_readRange_13 : decode c_RR_readRange 13 = .ok (.getfield 14, 3) := by decide +kernel
theorem d_RR_readRange_16 : decode c_RR_readRange 16 = .ok (.invokevirtual 51, 3) := by decide +kernel
theorem d_RR_readRange_19 : decode c_RR_readRange 19 = .ok (.iconst 1, 1) := by decide +kernel
theorem d_RR_readRange_20 : decode c_RR_readRange 20 = .ok (.ireturn, 1) := by decide +kernel
theorem d_RR_readRange_21 : decode c_RR_readRange 21 = .ok (.aload_n 0, 1) := by decide +kernel
theorem d_RR_readRange_22 : decode c_RR_readRange 22 = .ok (.getfield 14, 3) := by decide +kernel
theorem d_RR_readRange_25 : decode c_RR_readRange 25 = .ok (.iconst 0, 1) := by decide +kernel
theorem d_RR_readRange_26 : decode c_RR_readRange 26 = .ok (.iload_n 2, 1) := by decide +kernel
theorem d_RR_readRange_27 : decode c_RR_readRange 27 = .ok (.invokestatic 85, 3) := by decide +kernel
theorem d_RR_readRange_30 : decode c_RR_readRange 30 = .ok (.invokevirtual 89, 3) := by decide +kernel
theorem d_RR_readRange_33 : decode c_RR_readRange 33 = .ok (.ifCond .ne 5, 3) := by decide +kernel
theorem d_RR_readRange_36 : decode c_RR_readRange 36 = .ok (.iconst 0, 1) := by decide +kernel
theorem d_RR_readRange_37 : decode c_RR_readRange 37 = .ok (.ireturn, 1) := by decide +kernel
theorem d_RR_readRange_38 : decode c_RR_readRange 38 = .ok (.aload_n 0, 1) := by decide +kernel
theorem d_RR_readRange_39 : decode c_RR_readRange 39 = .ok (.getfield 14, 3) := by decide +kernel
theorem d_RR_readRange_42 : decode c_RR_readRange 42 = .ok (.invokevirtual 93, 3) := by decide +kernel
theorem d_RR_readRange_45 : decode c_RR_readRange 45 = .ok (.istore_n 3, 1) := by decide +kernel
theorem d_RR_readRange_46 : decode c_RR_readRange 46 = .ok (.aload_n 0, 1) := by decide +kernel
theorem d_RR_readRange_47 : decode c_RR_readRange 47 = .ok (.getfield 14, 3) := by decide +kernel
theorem d_RR_readRange_50 : decode c_RR_readRange 50 = .ok (.invokevirtual 51, 3) := by decide +kernel
theorem d_RR_readRange_53 : decode c_RR_readRange 53 = .ok (.aload_n 0, 1) := by decide +kernel
theorem d_RR_readRange_54 : decode c_RR_readRange 54 = .ok (.bipush 45, 2) := by decide +kernel
theorem d_RR_readRange_56 : decode c_RR_readRange 56 = .ok (.invokevirtual 73, 3) := by decide +kernel
theorem d_RR_readRange_59 : decode c_RR_readRange 59 = .ok (.ifCond .eq 11, 3) := by decide +kernel
theorem d_RR_readRange_62 : decode c_RR_readRange 62 = .ok (.aload_n 0, 1) := by decide +kernel
theorem d_RR_readRange_63 : decode c_RR_readRange 63 = .ok (.aload_n 1, 1) := by decide +kernel
theorem d_RR_readRange_64 : decode c_RR_readRange 64 = .ok (.iload_n 2, 1) := by decide +kernel
theorem d_RR_readRange_65 : decode c_RR_readRange 65 = .ok (.iload_n 3, 1) := by decide +kernel
theorem d_RR_readRange_66 : decode c_RR_readRange 66 = .ok (.invokevirtual 96, 3) := by decide +kernel
theorem d_RR_readRange_69 : decode c_RR_readRange 69 = .ok (.ireturn, 1) := by decide +kernel
theorem d_RR_readRange_70 : decode c_RR_readRange 70 = .ok (.aload_n 0, 1) := by decide +kernel
theorem d_RR_readRange_71 : decode c_RR_readRange 71 = .ok (.bipush 47, 2) := by decide +kernel
theorem d_RR_readRange_73 : decode c_RR_readRange 73 = .ok (.invokevirtual 73, 3) := by decide +kernel
theorem d_RR_readRange_76 : decode c_RR_readRange 76 = .ok (.ifCond .eq 11, 3) := by decide +kernel
theorem d_RR_readRange_79 : decode c_RR_readRange 79 = .ok (.aload_n 0, 1) := by decide +kernel
theorem d_RR_readRange_80 : decode c_RR_readRange 80 = .ok (.aload_n 1, 1) := by decide +kernel
theorem d_RR_readRange_81 : decode c_RR_readRange 81 = .ok (.iload_n 2, 1) := by decide +kernel
theorem d_RR_readRange_82 : decode c_RR_readRange 82 = .ok (.iload_n 3, 1) := by decide +kernel
theorem d_RR_readRange_83 : decode c_RR_readRange 83 = .ok (.invokevirtual 100, 3) := by decide +kernel
theorem d_RR_readRange_86 : decode c_RR_readRange 86 = .ok (.ireturn, 1) := by decide +kernel
theorem d_RR_readRange_87 : decode c_RR_readRange 87 = .ok (.aload_n 1, 1) := by decide +kernel
theorem d_RR_readRange_88 : decode c_RR_readRange 88 = .ok (.iload_n 2, 1) := by decide +kernel
theorem d_RR_readRange_89 : decode c_RR_readRange 89 = .ok (.iload_n 3, 1) := by decide +kernel
theorem d_RR_readRange_90 : decode c_RR_readRange 90 = .ok (.iload_n 3, 1) := by decide +kernel
theorem d_RR_readRange_91 : decode c_RR_readRange 91 = .ok (.invokevirtual 103, 3) := by decide +kernel
theorem d_RR_readRange_94 : decode c_RR_readRange 94 = .ok (.iconst 1, 1) := by decide +kernel
theorem d_RR_readRange_95 : decode c_RR_readRange 95 = .ok (.ireturn, 1) := by decide +kernel
theorem d_Pi_isNumber_0 : decode c_Pi_isNumber 0 = .ok (.aload_n 0, 1) := by decide +kernel
theorem d_Pi_isNumber_1 : decode c_Pi_isNumber 1 = .ok (.getfield 35, 3) := by decide +kernel
theorem d_Pi_isNumber_4 : decode c_Pi_isNumber 4 = .ok (.iconst 3, 1) := by decide +kernel
theorem d_Pi_isNumber_5 : decode c_Pi_isNumber 5 = .ok (.if_icmp .ne 16, 3) := by decide +kernel
theorem d_Pi_isNumber_8 : decode c_Pi_isNumber 8 = .ok (.aload_n 0, 1) := by decide +kernel
theorem d_Pi_isNumber_9 : decode c_Pi_isNumber 9 = .ok (.getfield 15, 3) := by decide +kernel
theorem d_Pi_isNumber_12 : decode c_Pi_isNumber 12 = .ok (.aload_n 0, 1) := by decide +kernel
theorem d_Pi_isNumber_13 : decode c_Pi_isNumber 13 = .ok (.getfield 28, 3) := by decide +kernel
theorem d_Pi_isNumber_16 : decode c_Pi_isNumber 16 = .ok (.isub, 1) := by decide +kernel
theorem d_Pi_isNumber_17 : decode c_Pi_isNumber 17 = .ok (.iconst 4, 1) := by decide +kernel
theorem d_Pi_isNumber_18 : decode c_Pi_isNumber 18 = .ok (.if_icmp .le 5, 3) := by decide +kernel
theorem d_Pi_isNumber_21 : decode c_Pi_isNumber 21 = .ok (.iconst 0, 1) := by decide +kernel
theorem d_Pi_isNumber_22 : decode c_Pi_isNumber 22 = .ok (.ireturn, 1) := by decide +kernel
theorem d_Pi_isNumber_23 : decode c_Pi_isNumber 23 = .ok (.aload_n 0, 1) := by decide +kernel
theorem d_Pi_isNumber_24 : decode c_Pi_isNumber 24 = .ok (.invokevirtual 51, 3) := by decide +kernel
theorem d_Pi_isNumber_27 : decode c_Pi_isNumber 27 = .ok (.istore_n 3, 1) := by decide +kernel
theorem d_Pi_isNumber_28 : decode c_Pi_isNumber 28 = .ok (.iload_n 3, 1) := by decide +kernel
theorem d_Pi_isNumber_29 : decode c_Pi_isNumber 29 = .ok (.iload_n 1, 1) := by decide +kernel
theorem d_Pi_isNumber_30 : decode c_Pi_isNumber 30 = .ok (.if_icmp .lt 12, 3) := by decide +kernel
theorem d_Pi_isNumber_33 : decode c_Pi_isNumber 33 = .ok (.iload_n 3, 1) := by decide +kernel
theorem d_Pi_isNumber_34 : decode c_Pi_isNumber 34 = .ok (.iload_n 2, 1) := by decide +kernel
theorem d_Pi_isNumber_35 : decode c_Pi_isNumber 35 = .ok (.if_icmp .gt 7, 3) := by decide +kernel
theorem d_Pi_isNumber_38 : decode c_Pi_isNumber 38 = .ok (.iconst 1, 1) := by decide +kernel
theorem d_Pi_isNumber_39 : decode c_Pi_isNumber 39 = .ok (.goto 4, 3) := by decide +kernel
theorem d_Pi_isNumber_42 : decode c_Pi_isNumber 42 = .ok (.iconst 0, 1) := by decide +kernel
theorem d_Pi_isNumber_43 : decode c_Pi_isNumber 43 = .ok (.ireturn, 1) := by decide +kernel
theorem d_Pi_number_0 : decode c_Pi_number 0 = .ok (.iconst 0, 1) := by decide +kernel
theorem d_Pi_number_1 : decode c_Pi_number 1 = .ok (.istore_n 1, 1) := by decide +kernel
theorem d_Pi_number_2 : decode c_Pi_number 2 = .ok (.aload_n 0, 1) := by decide +kernel
theorem d_Pi_number_3 : decode c_Pi_number 3 = .ok (.getfield 28, 3) := by decide +kernel
theorem d_Pi_number_6 : decode c_Pi_number 6 = .ok (.istore_n 2, 1) := by decide +kernel
theorem d_Pi_number_7 : decode c_Pi_number 7 = .ok (.iload_n 2, 1) := by decide +kernel
theorem d_Pi_number_8 : decode c_Pi_number 8 = .ok (.aload_n 0, 1) := by decide +kernel
theorem d_Pi_number_9 : decode c_Pi_number 9 = .ok (.getfield 15, 3) := by decide +kernel
theorem d_Pi_number_12 : decode c_Pi_number 12 = .ok (.if_icmp .ge 26, 3) := by decide +kernel
theorem d_Pi_number_15 : decode c_Pi_number 15 = .ok (.bipush 10, 2) := by decide +kernel
theorem d_Pi_number_17 : decode c_Pi_number 17 = .ok (.iload_n 1, 1) := by decide +kernel
theorem d_Pi_number_18 : decode c_Pi_number 18 = .ok (.imul, 1) := by decide +kernel
theorem d_Pi_number_19 : decode c_Pi_number 19 = .ok (.aload_n 0, 1) := by decide +kernel
theorem d_Pi_number_20 : decode c_Pi_number 20 = .ok (.getfield 9, 3) := by decide +kernel
theorem d_Pi_number_23 : decode c_Pi_number 23 = .ok (.iload_n 2, 1) := by decide +kernel
theorem d_Pi_number_24 : decode c_Pi_number 24 = .ok (.invokevirtual 38, 3) := by decide +kernel
theorem d_Pi_number_27 : decode c_Pi_number 27 = .ok (.bipush 48, 2) := by decide +kernel
theorem d_Pi_number_29 : decode c_Pi_number 29 = .ok (.isub, 1) := by decide +kernel
theorem d_Pi_number_30 : decode c_Pi_number 30 = .ok (.iadd, 1) := by decide +kernel
theorem d_Pi_number_31 : decode c_Pi_number 31 = .ok (.istore_n 1, 1) := by decide +kernel
theorem d_Pi_number_32 : decode c_Pi_number 32 = .ok (.iinc 2 1, 3) := by decide +kernel
theorem d_Pi_number_35 : decode c_Pi_number 35 = .ok (.goto (-28), 3) := by decide +kernel
theorem d_Pi_number_38 : decode c_Pi_number 38 = .ok (.iload_n 1, 1) := by decide +kernel
theorem d_Pi_number_39 : decode c_Pi_number 39 = .ok (.ireturn, 1) := by decide +kernel
theorem d_RR_skipSign_0 : decode c_RR_skipSign 0 = .ok (.aload_n 0, 1) := by decide +kernel
theorem d_RR_skipSign_1 : decode c_RR_skipSign 1 = .ok (.getfield 14, 3) := by decide +kernel
theorem d_RR_skipSign_4 : decode c_RR_skipSign 4 = .ok (.iload_n 1, 1) := by decide +kernel
theorem d_RR_skipSign_5 : decode c_RR_skipSign 5 = .ok (.invokevirtual 62, 3) := by decide +kernel
theorem d_RR_skipSign_8 : decode c_RR_skipSign 8 = .ok (.ifCond .ne 5, 3) := by decide +kernel
theorem d_RR_skipSign_11 : decode c_RR_skipSign 11 = .ok (.iconst 0, 1) := by decide +kernel
theorem d_RR_skipSign_12 : decode c_RR_skipSign 12 = .ok (.ireturn, 1) := by decide +kernel
theorem d_RR_skipSign_13 : decode c_RR_skipSign 13 = .ok (.aload_n 0, 1) := by decide +kernel
theorem d_RR_skipSign_14 : decode c_RR_skipSign 14 = .ok (.getfield 14, 3) := by decide +kernel
theorem d_RR_skipSign_17 : decode c_RR_skipSign 17 = .ok (.invokevirtual 51, 3) := by decide +kernel
theorem d_RR_skipSign_20 : decode c_RR_skipSign 20 = .ok (.iconst 1, 1) := by decide +kernel
theorem d_RR_skipSign_21 : decode c_RR_skipSign 21 = .ok (.ireturn, 1) := by decide +kernel
theorem d_RR_readGreatest_0 : decode c_RR_readGreatest 0 = .ok (.aload_n 0, 1) := by decide +kernel
theorem d_RR_readGreatest_1 : decode c_RR_readGreatest 1 = .ok (.getfield 14, 3) := by decide +kernel
theorem d_RR_readGreatest_4 : decode c_RR_readGreatest 4 = .ok (.iload_n 3, 1) := by decide +kernel
theorem d_RR_readGreatest_5 : decode c_RR_readGreatest 5 = .ok (.iload_n 2, 1) := by decide +kernel
theorem d_RR_readGreatest_6 : decode c_RR_readGreatest 6 = .ok (.invokestatic 85, 3) := by decide +kernel
theorem d_RR_readGreatest_9 : decode c_RR_readGreatest 9 = .ok (.invokevirtual 89, 3) := by decide +kernel
theorem d_RR_readGreatest_12 : decode c_RR_readGreatest 12 = .ok (.ifCond .ne 5, 3) := by decide +kernel
theorem d_RR_readGreatest_15 : decode c_RR_readGreatest 15 = .ok (.iconst 0, 1) := by decide +kernel
theorem d_RR_readGreatest_16 : decode c_RR_readGreatest 16 = .ok (.ireturn, 1) := by decide +kernel
theorem d_RR_readGreatest_17 : decode c_RR_readGreatest 17 = .ok (.aload_n 1, 1) := by decide +kernel
theorem d_RR_readGreatest_18 : decode c_RR_readGreatest 18 = .ok (.iload_n 2, 1) := by decide +kernel
theorem d_RR_readGreatest_19 : decode c_RR_readGreatest 19 = .ok (.iload_n 3, 1) := by decide +kernel
theorem d_RR_readGreatest_20 : decode c_RR_readGreatest 20 = .ok (.aload_n 0, 1) := by decide +kernel
theorem d_RR_readGreatest_21 : decode c_RR_readGreatest 21 = .ok (.getfield 14, 3) := by decide +kernel
theorem d_RR_readGreatest_24 : decode c_RR_readGreatest 24 = .ok (.invokevirtual 93, 3) := by decide +kernel
theorem d_RR_readGreatest_27 : decode c_RR_readGreatest 27 = .ok (.invokevirtual 103, 3) := by decide +kernel
theorem d_RR_readGreatest_30 : decode c_RR_readGreatest 30 = .ok (.aload_n 0, 1) := by decide +kernel
theorem d_RR_readGreatest_31 : decode c_RR_readGreatest 31 = .ok (.getfield 14, 3) := by decide +kernel
theorem d_RR_readGreatest_34 : decode c_RR_readGreatest 34 = .ok (.invokevirtual 51, 3) := by decide +kernel
theorem d_RR_readGreatest_37 : decode c_RR_readGreatest 37 = .ok (.iconst 1, 1) := by decide +kernel
theorem d_RR_readGreatest_38 : decode c_RR_readGreatest 38 = .ok (.ireturn, 1) := by decide +kernel
theorem d_RR_readHighBits_0 : decode c_RR_readHighBits 0 = .ok (.aload_n 0, 1) := by decide +kernel
theorem d_RR_readHighBits_1 : decode c_RR_readHighBits 1 = .ok (.getfield 14, 3) := by decide +kernel
theorem d_RR_readHighBits_4 : decode c_RR_readHighBits 4 = .ok (.iconst 0, 1) := by decide +kernel
theorem d_RR_readHighBits_5 : decode c_RR_readHighBits 5 = .ok (.getstatic 107, 3) := by decide +kernel
theorem d_RR_readHighBits_8 : decode c_RR_readHighBits 8 = .ok (.iload_n 2, 1) := by decide +kernel
theorem d_RR_readHighBits_9 : decode c_RR_readHighBits 9 = .ok (.iaload, 1) := by decide +kernel
theorem d_RR_readHighBits_10 : decode c_RR_readHighBits 10 = .ok (.invokevirtual 89, 3) := by decide +kernel
theorem d_RR_readHighBits_13 : decode c_RR_readHighBits 13 = .ok (.ifCond .ne 5, 3) := by decide +kernel
theorem d_RR_readHighBits_16 : decode c_RR_readHighBits 16 = .ok (.iconst 0, 1) := by decide +kernel
theorem d_RR_readHighBits_17 : decode c_RR_readHighBits 17 = .ok (.ireturn, 1) := by decide +kernel
theorem d_RR_readHighBits_18 : decode c_RR_readHighBits 18 = .ok (.getstatic 107, 3) := by decide +kernel
theorem d_RR_readHighBits_21 : decode c_RR_readHighBits 21 = .ok (.iload_n 2, 1) := by decide +kernel
theorem d_RR_readHighBits_22 : decode c_RR_readHighBits 22 = .ok (.iaload, 1) := by decide +kernel
theorem d_RR_readHighBits_23 : decode c_RR_readHighBits 23 = .ok (.aload_n 0, 1) := by decide +kernel
theorem d_RR_readHighBits_24 : decode c_RR_readHighBits 24 = .ok (.getfield 14, 3) := by decide +kernel
theorem d_RR_readHighBits_27 : decode c_RR_readHighBits 27 = .ok (.invokevirtual 93, 3) := by decide +kernel
theorem d_RR_readHighBits_30 : decode c_RR_readHighBits 30 = .ok (.isub, 1) := by decide +kernel
theorem d_RR_readHighBits_31 : decode c_RR_readHighBits 31 = .ok (.istore 4, 2) := by decide +kernel
theorem d_RR_readHighBits_33 : decode c_RR_readHighBits 33 = .ok (.iload_n 3, 1) := by decide +kernel
theorem d_RR_readHighBits_34 : decode c_RR_readHighBits 34 = .ok (.iload 4, 2) := by decide +kernel
theorem d_RR_readHighBits_36 : decode c_RR_readHighBits 36 = .ok (.ishr, 1) := by decide +kernel
theorem d_RR_readHighBits_37 : decode c_RR_readHighBits 37 = .ok (.iload 4, 2) := by decide +kernel
theorem d_RR_readHighBits_39 : decode c_RR_readHighBits 39 = .ok (.ishl, 1) := by decide +kernel
theorem d_RR_readHighBits_40 : decode c_RR_readHighBits 40 = .ok (.istore 5, 2) := by decide +kernel
theorem d_RR_readHighBits_42 : decode c_RR_readHighBits 42 = .ok (.aload_n 1, 1) := by decide +kernel
theorem d_RR_readHighBits_43 : decode c_RR_readHighBits 43 = .ok (.iload_n 2, 1) := by decide +kernel
theorem d_RR_readHighBits_44 : decode c_RR_readHighBits 44 = .ok (.iload 5, 2) := by decide +kernel
theorem d_RR_readHighBits_46 : decode c_RR_readHighBits 46 = .ok (.iload 5, 2) := by decide +kernel
theorem d_RR_readHighBits_48 : decode c_RR_readHighBits 48 = .ok (.iconst 1, 1) := by decide +kernel
theorem d_RR_readHighBits_49 : decode c_RR_readHighBits 49 = .ok (.iload 4, 2) := by decide +kernel
theorem d_RR_readHighBits_51 : decode c_RR_readHighBits 51 = .ok (.ishl, 1) := by decide +kernel
theorem d_RR_readHighBits_52 : decode c_RR_readHighBits 52 = .ok (.iadd, 1) := by decide +kernel
theorem d_RR_readHighBits_53 : decode c_RR_readHighBits 53 = .ok (.iconst 1, 1) := by decide +kernel
theorem d_RR_readHighBits_54 : decode c_RR_readHighBits 54 = .ok (.isub, 1) := by decide +kernel
theorem d_RR_readHighBits_55 : decode c_RR_readHighBits 55 = .ok (.invokevirtual 103, 3) := by decide +kernel
theorem d_RR_readHighBits_58 : decode c_RR_readHighBits 58 = .ok (.aload_n 0, 1) := by decide +kernel
theorem d_RR_readHighBits_59 : decode c_RR_readHighBits 59 = .ok (.getfield 14, 3) := by decide +kernel
theorem d_RR_readHighBits_62 : decode c_RR_readHighBits 62 = .ok (.invokevirtual 51, 3) := by decide +kernel
theorem d_RR_readHighBits_65 : decode c_RR_readHighBits 65 = .ok (.iconst 1, 1) := by decide +kernel
theorem d_RR_readHighBits_66 : decode c_RR_readHighBits 66 = .ok (.ireturn, 1) := by decide +kernel
theorem d_Pi_place_0 : decode c_Pi_place 0 = .ok (.aload_n 0, 1) := by decide +kernel
theorem d_Pi_place_1 : decode c_Pi_place 1 = .ok (.getfield 28, 3) := by decide +kernel
theorem d_Pi_place_4 : decode c_Pi_place 4 = .ok (.ireturn, 1) := by decide +kernel
theorem d_Tx_clear_0 : decode c_Tx_clear 0 = .ok (.aload_n 0, 1) := by decide +kernel
theorem d_Tx_clear_1 : decode c_Tx_clear 1 = .ok (.iconst 0, 1) := by decide +kernel
theorem d_Tx_clear_2 : decode c_Tx_clear 2 = .ok (.putfield 15, 3) := by decide +kernel
theorem d_Tx_clear_5 : decode c_Tx_clear 5 = .ok (.return_, 1) := by decide +kernel
theorem d_RR_found_0 : decode c_RR_found 0 = .ok (.aload_n 0, 1) := by decide +kernel
theorem d_RR_found_1 : decode c_RR_found 1 = .ok (.getfield 22, 3) := by decide +kernel
theorem d_RR_found_4 : decode c_RR_found 4 = .ok (.iload_n 1, 1) := by decide +kernel
theorem d_RR_found_5 : decode c_RR_found 5 = .ok (.aaload, 1) := by decide +kernel
theorem d_RR_found_6 : decode c_RR_found 6 = .ok (.areturn, 1) := by decide +kernel
theorem d_Ru_copyFrom_0 : decode c_Ru_copyFrom 0 = .ok (.aload_n 0, 1) := by decide +kernel
theorem d_Ru_copyFrom_1 : decode c_Ru_copyFrom 1 = .ok (.aload_n 1, 1) := by decide +kernel
theorem d_Ru_copyFrom_2 : decode c_Ru_copyFrom 2 = .ok (.getfield 18, 3) := by decide +kernel
theorem d_Ru_copyFrom_5 : decode c_Ru_copyFrom 5 = .ok (.putfield 18, 3) := by decide +kernel
theorem d_Ru_copyFrom_8 : decode c_Ru_copyFrom 8 = .ok (.iconst 0, 1) := by decide +kernel
theorem d_Ru_copyFrom_9 : decode c_Ru_copyFrom 9 = .ok (.istore_n 2, 1) := by decide +kernel
theorem d_Ru_copyFrom_10 : decode c_Ru_copyFrom 10 = .ok (.iload_n 2, 1) := by decide +kernel
theorem d_Ru_copyFrom_11 : decode c_Ru_copyFrom 11 = .ok (.iconst 4, 1) := by decide +kernel
theorem d_Ru_copyFrom_12 : decode c_Ru_copyFrom 12 = .ok (.if_icmp .ge 26, 3) := by decide +kernel
theorem d_Ru_copyFrom_15 : decode c_Ru_copyFrom 15 = .ok (.aload_n 0, 1) := by decide +kernel
theorem d_Ru_copyFrom_16 : decode c_Ru_copyFrom 16 = .ok (.iload_n 2, 1) := by decide +kernel
theorem d_Ru_copyFrom_17 : decode c_Ru_copyFrom 17 = .ok (.aload_n 1, 1) := by decide +kernel
theorem d_Ru_copyFrom_18 : decode c_Ru_copyFrom 18 = .ok (.getfield 9, 3) := by decide +kernel
theorem d_Ru_copyFrom_21 : decode c_Ru_copyFrom 21 = .ok (.iload_n 2, 1) := by decide +kernel
theorem d_Ru_copyFrom_22 : decode c_Ru_copyFrom 22 = .ok (.iaload, 1) := by decide +kernel
theorem d_Ru_copyFrom_23 : decode c_Ru_copyFrom 23 = .ok (.aload_n 1, 1) := by decide +kernel
theorem d_Ru_copyFrom_24 : decode c_Ru_copyFrom 24 = .ok (.getfield 15, 3) := by decide +kernel
theorem d_Ru_copyFrom_27 : decode c_Ru_copyFrom 27 = .ok (.iload_n 2, 1) := by decide +kernel
theorem d_Ru_copyFrom_28 : decode c_Ru_copyFrom 28 = .ok (.iaload, 1) := by decide +kernel
theorem d_Ru_copyFrom_29 : decode c_Ru_copyFrom 29 = .ok (.invokevirtual 26, 3) := by decide +kernel
theorem d_Ru_copyFrom_32 : decode c_Ru_copyFrom 32 = .ok (.iinc 2 1, 3) := by decide +kernel
theorem d_Ru_copyFrom_35 : decode c_Ru_copyFrom 35 = .ok (.goto (-25), 3) := by decide +kernel
theorem d_Ru_copyFrom_38 : decode c_Ru_copyFrom 38 = .ok (.return_, 1) := by decide +kernel
theorem d_RD_remove_0 : decode c_RD_remove 0 = .ok (.aload_n 0, 1) := by decide +kernel
theorem d_RD_remove_1 : decode c_RD_remove 1 = .ok (.iload_n 1, 1) := by decide +kernel
theorem d_RD_remove_2 : decode c_RD_remove 2 = .ok (.iload_n 2, 1) := by decide +kernel
theorem d_RD_remove_3 : decode c_RD_remove 3 = .ok (.invokevirtual 103, 3) := by decide +kernel
theorem d_RD_remove_6 : decode c_RD_remove 6 = .ok (.aload_n 0, 1) := by decide +kernel
theorem d_RD_remove_7 : decode c_RD_remove 7 = .ok (.getfield 27, 3) := by decide +kernel
theorem d_RD_remove_10 : decode c_RD_remove 10 = .ok (.iload_n 1, 1) := by decide +kernel
theorem d_RD_remove_11 : decode c_RD_remove 11 = .ok (.aaload, 1) := by decide +kernel
theorem d_RD_remove_12 : decode c_RD_remove 12 = .ok (.iload_n 2, 1) := by decide +kernel
theorem d_RD_remove_13 : decode c_RD_remove 13 = .ok (.invokevirtual 107, 3) := by decide +kernel
theorem d_RD_remove_16 : decode c_RD_remove 16 = .ok (.return_, 1) := by decide +kernel
theorem d_RD_requireRule_0 : decode c_RD_requireRule 0 = .ok (.aload_n 0, 1) := by decide +kernel
theorem d_RD_requireRule_1 : decode c_RD_requireRule 1 = .ok (.iload_n 1, 1) := by decide +kernel
theorem d_RD_requireRule_2 : decode c_RD_requireRule 2 = .ok (.invokevirtual 84, 3) := by decide +kernel
theorem d_RD_requireRule_5 : decode c_RD_requireRule 5 = .ok (.aload_n 0, 1) := by decide +kernel
theorem d_RD_requireRule_6 : decode c_RD_requireRule 6 = .ok (.getfield 27, 3) := by decide +kernel
theorem d_RD_requireRule_9 : decode c_RD_requireRule 9 = .ok (.iload_n 1, 1) := by decide +kernel
theorem d_RD_requireRule_10 : decode c_RD_requireRule 10 = .ok (.aaload, 1) := by decide +kernel
theorem d_RD_requireRule_11 : decode c_RD_requireRule 11 = .ok (.iload_n 2, 1) := by decide +kernel
theorem d_RD_requireRule_12 : decode c_RD_requireRule 12 = .ok (.invokevirtual 190, 3) := by decide +kernel
theorem d_RD_requireRule_15 : decode c_RD_requireRule 15 = .ok (.ifCond .ne 13, 3) := by decide +kernel
theorem d_RD_requireRule_18 : decode c_RD_requireRule 18 = .ok (.new 61, 3) := by decide +kernel
theorem d_RD_requireRule_21 : decode c_RD_requireRule 21 = .ok (.dup, 1) := by decide +kernel
theorem d_RD_requireRule_22 : decode c_RD_requireRule 22 = .ok (.ldc 191, 2) := by decide +kernel
theorem d_RD_requireRule_24 : decode c_RD_requireRule 24 = .ok (.invokespecial 65, 3) := by decide +kernel
theorem d_RD_requireRule_27 : decode c_RD_requireRule 27 = .ok (.athrow, 1) := by decide +kernel
theorem d_RD_requireRule_28 : decode c_RD_requireRule 28 = .ok (.return_, 1) := by decide +kernel
theorem d_RD_swap_0 : decode c_RD_swap 0 = .ok (.aload_n 0, 1) := by decide +kernel
theorem d_RD_swap_1 : decode c_RD_swap 1 = .ok (.iload_n 1, 1) := by decide +kernel
theorem d_RD_swap_2 : decode c_RD_swap 2 = .ok (.iload_n 2, 1) := by decide +kernel
theorem d_RD_swap_3 : decode c_RD_swap 3 = .ok (.invokevirtual 103, 3) := by decide +kernel
theorem d_RD_swap_6 : decode c_RD_swap 6 = .ok (.aload_n 0, 1) := by decide +kernel
theorem d_RD_swap_7 : decode c_RD_swap 7 = .ok (.iload_n 1, 1) := by decide +kernel
theorem d_RD_swap_8 : decode c_RD_swap 8 = .ok (.iload_n 2, 1) := by decide +kernel
theorem d_RD_swap_9 : decode c_RD_swap 9 = .ok (.iconst 1, 1) := by decide +kernel
theorem d_RD_swap_10 : decode c_RD_swap 10 = .ok (.iadd, 1) := by decide +kernel
theorem d_RD_swap_11 : decode c_RD_swap 11 = .ok (.invokevirtual 103, 3) := by decide +kernel
theorem d_RD_swap_14 : decode c_RD_swap 14 = .ok (.aload_n 0, 1) := by decide +kernel
theorem d_RD_swap_15 : decode c_RD_swap 15 = .ok (.getfield 27, 3) := by decide +kernel
theorem d_RD_swap_18 : decode c_RD_swap 18 = .ok (.iload_n 1, 1) := by decide +kernel
theorem d_RD_swap_19 : decode c_RD_swap 19 = .ok (.aaload, 1) := by decide +kernel
theorem d_RD_swap_20 : decode c_RD_swap 20 = .ok (.iload_n 2, 1) := by decide +kernel
theorem d_RD_swap_21 : decode c_RD_swap 21 = .ok (.invokevirtual 110, 3) := by decide +kernel
theorem d_RD_swap_24 : decode c_RD_swap 24 = .ok (.return_, 1) := by decide +kernel
theorem d_RD_rules_0 : decode c_RD_rules 0 = .ok (.aload_n 0, 1) := by decide +kernel
theorem d_RD_rules_1 : decode c_RD_rules 1 = .ok (.iload_n 1, 1) := by decide +kernel
theorem d_RD_rules_2 : decode c_RD_rules 2 = .ok (.invokevirtual 84, 3) := by decide +kernel
theorem d_RD_rules_5 : decode c_RD_rules 5 = .ok (.aload_n 0, 1) := by decide +kernel
theorem d_RD_rules_6 : decode c_RD_rules 6 = .ok (.getfield 27, 3) := by decide +kernel
theorem d_RD_rules_9 : decode c_RD_rules 9 = .ok (.iload_n 1, 1) := by decide +kernel
theorem d_RD_rules_10 : decode c_RD_rules 10 = .ok (.aaload, 1) := by decide +kernel
theorem d_RD_rules_11 : decode c_RD_rules 11 = .ok (.invokevirtual 113, 3) := by decide +kernel
theorem d_RD_rules_14 : decode c_RD_rules 14 = .ok (.ireturn, 1) := by decide +kernel
theorem d_RD_rule_0 : decode c_RD_rule 0 = .ok (.aload_n 0, 1) := by decide +kernel
theorem d_RD_rule_1 : decode c_RD_rule 1 = .ok (.iload_n 1, 1) := by decide +kernel
theorem d_RD_rule_2 : decode c_RD_rule 2 = .ok (.iload_n 2, 1) := by decide +kernel
theorem d_RD_rule_3 : decode c_RD_rule 3 = .ok (.invokevirtual 103, 3) := by decide +kernel
theorem d_RD_rule_6 : decode c_RD_rule 6 = .ok (.iload_n 3, 1) := by decide +kernel
theorem d_RD_rule_7 : decode c_RD_rule 7 = .ok (.ifCond .lt 9, 3) := by decide +kernel
theorem d_RD_rule_10 : decode c_RD_rule 10 = .ok (.iload_n 3, 1) := by decide +kernel
theorem d_RD_rule_11 : decode c_RD_rule 11 = .ok (.bipush 9, 2) := by decide +kernel
theorem d_RD_rule_13 : decode c_RD_rule 13 = .ok (.if_icmp .lt 13, 3) := by decide +kernel
theorem d_RD_rule_16 : decode c_RD_rule 16 = .ok (.new 61, 3) := by decide +kernel
theorem d_RD_rule_19 : decode c_RD_rule 19 = .ok (.dup, 1) := by decide +kernel
theorem d_RD_rule_20 : decode c_RD_rule 20 = .ok (.ldc 116, 2) := by decide +kernel
theorem d_RD_rule_22 : decode c_RD_rule 22 = .ok (.invokespecial 65, 3) := by decide +kernel
theorem d_RD_rule_25 : decode c_RD_rule 25 = .ok (.athrow, 1) := by decide +kernel
theorem d_RD_rule_26 : decode c_RD_rule 26 = .ok (.aload_n 0, 1) := by decide +kernel
theorem d_RD_rule_27 : decode c_RD_rule 27 = .ok (.getfield 27, 3) := by decide +kernel
theorem d_RD_rule_30 : decode c_RD_rule 30 = .ok (.iload_n 1, 1) := by decide +kernel
theorem d_RD_rule_31 : decode c_RD_rule 31 = .ok (.aaload, 1) := by decide +kernel
theorem d_RD_rule_32 : decode c_RD_rule 32 = .ok (.iload_n 2, 1) := by decide +kernel
theorem d_RD_rule_33 : decode c_RD_rule 33 = .ok (.invokevirtual 118, 3) := by decide +kernel
theorem d_RD_rule_36 : decode c_RD_rule 36 = .ok (.iload_n 3, 1) := by decide +kernel
theorem d_RD_rule_37 : decode c_RD_rule 37 = .ok (.invokevirtual 121, 3) := by decide +kernel
theorem d_RD_rule_40 : decode c_RD_rule 40 = .ok (.ireturn, 1) := by decide +kernel
theorem d_Ru_number_0 : decode c_Ru_number 0 = .ok (.iload_n 1, 1) := by decide +kernel
theorem d_Ru_number_1 : decode c_Ru_number 1 = .ok (.ifCond .ne 8, 3) := by decide +kernel
theorem d_Ru_number_4 : decode c_Ru_number 4 = .ok (.aload_n 0, 1) := by decide +kernel
theorem d_Ru_number_5 : decode c_Ru_number 5 = .ok (.getfield 18, 3) := by decide +kernel
theorem d_Ru_number_8 : decode c_Ru_number 8 = .ok (.ireturn, 1) := by decide +kernel
theorem d_Ru_number_9 : decode c_Ru_number 9 = .ok (.iload_n 1, 1) := by decide +kernel
theorem d_Ru_number_10 : decode c_Ru_number 10 = .ok (.iconst 1, 1) := by decide +kernel
theorem d_Ru_number_11 : decode c_Ru_number 11 = .ok (.isub, 1) := by decide +kernel
theorem d_Ru_number_12 : decode c_Ru_number 12 = .ok (.iconst 2, 1) := by decide +kernel
theorem d_Ru_number_13 : decode c_Ru_number 13 = .ok (.idiv, 1) := by decide +kernel
theorem d_Ru_number_14 : decode c_Ru_number 14 = .ok (.istore_n 2, 1) := by decide +kernel
theorem d_Ru_number_15 : decode c_Ru_number 15 = .ok (.iload_n 1, 1) := by decide +kernel
theorem d_Ru_number_16 : decode c_Ru_number 16 = .ok (.iconst 2, 1) := by decide +kernel
theorem d_Ru_number_17 : decode c_Ru_number 17 = .ok (.irem, 1) := by decide +kernel
theorem d_Ru_number_18 : decode c_Ru_number 18 = .ok (.iconst 1, 1) := by decide +kernel
theorem d_Ru_number_19 : decode c_Ru_number 19 = .ok (.if_icmp .ne 12, 3) := by decide +kernel
theorem d_Ru_number_22 : decode c_Ru_number 22 = .ok (.aload_n 0, 1) := by decide +kernel
theorem d_Ru_number_23 : decode c_Ru_number 23 = .ok (.getfield 9, 3) := by decide +kernel
theorem d_Ru_number_26 : decode c_Ru_number 26 = .ok (.iload_n 2, 1) := by decide +kernel
theorem d_Ru_number_27 : decode c_Ru_number 27 = .ok (.iaload, 1) := by decide +kernel
theorem d_Ru_number_28 : decode c_Ru_number 28 = .ok (.goto 9, 3) := by decide +kernel
theorem d_Ru_number_31 : decode c_Ru_number 31 = .ok (.aload_n 0, 1) := by decide +kernel
theorem d_Ru_number_32 : decode c_Ru_number 32 = .ok (.getfield 15, 3) := by decide +kernel
theorem d_Ru_number_35 : decode c_Ru_number 35 = .ok (.iload_n 2, 1) := by decide +kernel
theorem d_Ru_number_36 : decode c_Ru_number 36 = .ok (.iaload, 1) := by decide +kernel
theorem d_Ru_number_37 : decode c_Ru_number 37 = .ok (.ireturn, 1) := by decide +kernel
theorem d_RD_verdict_0 : decode c_RD_verdict 0 = .ok (.aload_n 0, 1) := by decide +kernel
theorem d_RD_verdict_1 : decode c_RD_verdict 1 = .ok (.iload_n 1, 1) := by decide +kernel
theorem d_RD_verdict_2 : decode c_RD_verdict 2 = .ok (.invokevirtual 84, 3) := by decide +kernel
theorem d_RD_verdict_5 : decode c_RD_verdict 5 = .ok (.aload_n 0, 1) := by decide +kernel
theorem d_RD_verdict_6 : decode c_RD_verdict 6 = .ok (.getfield 27, 3) := by decide +kernel
theorem d_RD_verdict_9 : decode c_RD_verdict 9 = .ok (.iload_n 1, 1) := by decide +kernel
theorem d_RD_verdict_10 : decode c_RD_verdict 10 = .ok (.aaload, 1) := by decide +kernel
theorem d_RD_verdict_11 : decode c_RD_verdict 11 = .ok (.iload_n 2, 1) := by decide +kernel
theorem d_RD_verdict_12 : decode c_RD_verdict 12 = .ok (.iload_n 3, 1) := by decide +kernel
theorem d_RD_verdict_13 : decode c_RD_verdict 13 = .ok (.iload 4, 2) := by decide +kernel
theorem d_RD_verdict_15 : decode c_RD_verdict 15 = .ok (.iload 5, 2) := by decide +kernel
theorem d_RD_verdict_17 : decode c_RD_verdict 17 = .ok (.invokestatic 127, 3) := by decide +kernel
theorem d_RD_verdict_20 : decode c_RD_verdict 20 = .ok (.invokevirtual 131, 3) := by decide +kernel
theorem d_RD_verdict_23 : decode c_RD_verdict 23 = .ok (.ireturn, 1) := by decide +kernel
theorem d_RD_packetOf_0 : decode c_RD_packetOf 0 = .ok (.iconst 0, 1) := by decide +kernel
theorem d_RD_packetOf_1 : decode c_RD_packetOf 1 = .ok (.iload_n 0, 1) := by decide +kernel
theorem d_RD_packetOf_2 : decode c_RD_packetOf 2 = .ok (.invokestatic 200, 3) := by decide +kernel
theorem d_RD_packetOf_5 : decode c_RD_packetOf 5 = .ok (.iconst 1, 1) := by decide +kernel
theorem d_RD_packetOf_6 : decode c_RD_packetOf 6 = .ok (.iload_n 1, 1) := by decide +kernel
theorem d_RD_packetOf_7 : decode c_RD_packetOf 7 = .ok (.invokestatic 200, 3) := by decide +kernel
theorem d_RD_packetOf_10 : decode c_RD_packetOf 10 = .ok (.iconst 2, 1) := by decide +kernel
theorem d_RD_packetOf_11 : decode c_RD_packetOf 11 = .ok (.iload_n 2, 1) := by decide +kernel
theorem d_RD_packetOf_12 : decode c_RD_packetOf 12 = .ok (.invokestatic 200, 3) := by decide +kernel
theorem d_RD_packetOf_15 : decode c_RD_packetOf 15 = .ok (.iconst 3, 1) := by decide +kernel
theorem d_RD_packetOf_16 : decode c_RD_packetOf 16 = .ok (.iload_n 3, 1) := by decide +kernel
theorem d_RD_packetOf_17 : decode c_RD_packetOf 17 = .ok (.invokestatic 200, 3) := by decide +kernel
theorem d_RD_packetOf_20 : decode c_RD_packetOf 20 = .ok (.iload_n 0, 1) := by decide +kernel
theorem d_RD_packetOf_21 : decode c_RD_packetOf 21 = .ok (.iload_n 1, 1) := by decide +kernel
theorem d_RD_packetOf_22 : decode c_RD_packetOf 22 = .ok (.iload_n 2, 1) := by decide +kernel
theorem d_RD_packetOf_23 : decode c_RD_packetOf 23 = .ok (.iload_n 3, 1) := by decide +kernel
theorem d_RD_packetOf_24 : decode c_RD_packetOf 24 = .ok (.invokestatic 203, 3) := by decide +kernel
theorem d_RD_packetOf_27 : decode c_RD_packetOf 27 = .ok (.ireturn, 1) := by decide +kernel
theorem d_RD_requireValue_0 : decode c_RD_requireValue 0 = .ok (.iload_n 1, 1) := by decide +kernel
theorem d_RD_requireValue_1 : decode c_RD_requireValue 1 = .ok (.ifCond .lt 11, 3) := by decide +kernel
theorem d_RD_requireValue_4 : decode c_RD_requireValue 4 = .ok (.iload_n 1, 1) := by decide +kernel
theorem d_RD_requireValue_5 : decode c_RD_requireValue 5 = .ok (.iload_n 0, 1) := by decide +kernel
theorem d_RD_requireValue_6 : decode c_RD_requireValue 6 = .ok (.invokestatic 195, 3) := by decide +kernel
theorem d_RD_requireValue_9 : decode c_RD_requireValue 9 = .ok (.if_icmp .le 13, 3) := by decide +kernel
theorem d_RD_requireValue_12 : decode c_RD_requireValue 12 = .ok (.new 61, 3) := by decide +kernel
theorem d_RD_requireValue_15 : decode c_RD_requireValue 15 = .ok (.dup, 1) := by decide +kernel
theorem d_RD_requireValue_16 : decode c_RD_requireValue 16 = .ok (.ldc 198, 2) := by decide +kernel
theorem d_RD_requireValue_18 : decode c_RD_requireValue 18 = .ok (.invokespecial 65, 3) := by decide +kernel
theorem d_RD_requireValue_21 : decode c_RD_requireValue 21 = .ok (.athrow, 1) := by decide +kernel
theorem d_RD_requireValue_22 : decode c_RD_requireValue 22 = .ok (.return_, 1) := by decide +kernel
theorem d_RD_joined_0 : decode c_RD_joined 0 = .ok (.iload_n 0, 1) := by decide +kernel
theorem d_RD_joined_1 : decode c_RD_joined 1 = .ok (.getstatic 206, 3) := by decide +kernel
theorem d_RD_joined_4 : decode c_RD_joined 4 = .ok (.iconst 0, 1) := by decide +kernel
theorem d_RD_joined_5 : decode c_RD_joined 5 = .ok (.iaload, 1) := by decide +kernel
theorem d_RD_joined_6 : decode c_RD_joined 6 = .ok (.ishl, 1) := by decide +kernel
theorem d_RD_joined_7 : decode c_RD_joined 7 = .ok (.iload_n 1, 1) := by decide +kernel
theorem d_RD_joined_8 : decode c_RD_joined 8 = .ok (.getstatic 206, 3) := by decide +kernel
theorem d_RD_joined_11 : decode c_RD_joined 11 = .ok (.iconst 1, 1) := by decide +kernel
theorem d_RD_joined_12 : decode c_RD_joined 12 = .ok (.iaload, 1) := by decide +kernel
theorem d_RD_joined_13 : decode c_RD_joined 13 = .ok (.ishl, 1) := by decide +kernel
theorem d_RD_joined_14 : decode c_RD_joined 14 = .ok (.ior, 1) := by decide +kernel
theorem d_RD_joined_15 : decode c_RD_joined 15 = .ok (.iload_n 2, 1) := by decide +kernel
theorem d_RD_joined_16 : decode c_RD_joined 16 = .ok (.getstatic 206, 3) := by decide +kernel
theorem d_RD_joined_19 : decode c_RD_joined 19 = .ok (.iconst 2, 1) := by decide +kernel
theorem d_RD_joined_20 : decode c_RD_joined 20 = .ok (.iaload, 1) := by decide +kernel
theorem d_RD_joined_21 : decode c_RD_joined 21 = .ok (.ishl, 1) := by decide +kernel
theorem d_RD_joined_22 : decode c_RD_joined 22 = .ok (.ior, 1) := by decide +kernel
theorem d_RD_joined_23 : decode c_RD_joined 23 = .ok (.iload_n 3, 1) := by decide +kernel
theorem d_RD_joined_24 : decode c_RD_joined 24 = .ok (.getstatic 206, 3) := by decide +kernel
theorem d_RD_joined_27 : decode c_RD_joined 27 = .ok (.iconst 3, 1) := by decide +kernel
theorem d_RD_joined_28 : decode c_RD_joined 28 = .ok (.iaload, 1) := by decide +kernel
theorem d_RD_joined_29 : decode c_RD_joined 29 = .ok (.ishl, 1) := by decide +kernel
theorem d_RD_joined_30 : decode c_RD_joined 30 = .ok (.ior, 1) := by decide +kernel
theorem d_RD_joined_31 : decode c_RD_joined 31 = .ok (.ireturn, 1) := by decide +kernel
theorem d_Ru_matches_0 : decode c_Ru_matches 0 = .ok (.iconst 0, 1) := by decide +kernel
theorem d_Ru_matches_1 : decode c_Ru_matches 1 = .ok (.istore_n 2, 1) := by decide +kernel
theorem d_Ru_matches_2 : decode c_Ru_matches 2 = .ok (.iload_n 2, 1) := by decide +kernel
theorem d_Ru_matches_3 : decode c_Ru_matches 3 = .ok (.iconst 4, 1) := by decide +kernel
theorem d_Ru_matches_4 : decode c_Ru_matches 4 = .ok (.if_icmp .ge 24, 3) := by decide +kernel
theorem d_Ru_matches_7 : decode c_Ru_matches 7 = .ok (.aload_n 0, 1) := by decide +kernel
theorem d_Ru_matches_8 : decode c_Ru_matches 8 = .ok (.iload_n 2, 1) := by decide +kernel
theorem d_Ru_matches_9 : decode c_Ru_matches 9 = .ok (.iload_n 1, 1) := by decide +kernel
theorem d_Ru_matches_10 : decode c_Ru_matches 10 = .ok (.iload_n 2, 1) := by decide +kernel
theorem d_Ru_matches_11 : decode c_Ru_matches 11 = .ok (.invokestatic 30, 3) := by decide +kernel
theorem d_Ru_matches_14 : decode c_Ru_matches 14 = .ok (.invokevirtual 34, 3) := by decide +kernel
theorem d_Ru_matches_17 : decode c_Ru_matches 17 = .ok (.ifCond .ne 5, 3) := by decide +kernel
theorem d_Ru_matches_20 : decode c_Ru_matches 20 = .ok (.iconst 0, 1) := by decide +kernel
theorem d_Ru_matches_21 : decode c_Ru_matches 21 = .ok (.ireturn, 1) := by decide +kernel
theorem d_Ru_matches_22 : decode c_Ru_matches 22 = .ok (.iinc 2 1, 3) := by decide +kernel
theorem d_Ru_matches_25 : decode c_Ru_matches 25 = .ok (.goto (-23), 3) := by decide +kernel
theorem d_Ru_matches_28 : decode c_Ru_matches 28 = .ok (.iconst 1, 1) := by decide +kernel
theorem d_Ru_matches_29 : decode c_Ru_matches 29 = .ok (.ireturn, 1) := by decide +kernel
theorem d_RD_valueOf_0 : decode c_RD_valueOf 0 = .ok (.iload_n 0, 1) := by decide +kernel
theorem d_RD_valueOf_1 : decode c_RD_valueOf 1 = .ok (.getstatic 206, 3) := by decide +kernel
theorem d_RD_valueOf_4 : decode c_RD_valueOf 4 = .ok (.iload_n 1, 1) := by decide +kernel
theorem d_RD_valueOf_5 : decode c_RD_valueOf 5 = .ok (.iaload, 1) := by decide +kernel
theorem d_RD_valueOf_6 : decode c_RD_valueOf 6 = .ok (.iushr, 1) := by decide +kernel
theorem d_RD_valueOf_7 : decode c_RD_valueOf 7 = .ok (.iload_n 1, 1) := by decide +kernel
theorem d_RD_valueOf_8 : decode c_RD_valueOf 8 = .ok (.invokestatic 195, 3) := by decide +kernel
theorem d_RD_valueOf_11 : decode c_RD_valueOf 11 = .ok (.iand, 1) := by decide +kernel
theorem d_RD_valueOf_12 : decode c_RD_valueOf 12 = .ok (.ireturn, 1) := by decide +kernel
theorem d_RD_first_0 : decode c_RD_first 0 = .ok (.aload_n 0, 1) := by decide +kernel
theorem d_RD_first_1 : decode c_RD_first 1 = .ok (.iload_n 1, 1) := by decide +kernel
theorem d_RD_first_2 : decode c_RD_first 2 = .ok (.invokevirtual 84, 3) := by decide +kernel
theorem d_RD_first_5 : decode c_RD_first 5 = .ok (.aload_n 0, 1) := by decide +kernel
theorem d_RD_first_6 : decode c_RD_first 6 = .ok (.getfield 27, 3) := by decide +kernel
theorem d_RD_first_9 : decode c_RD_first 9 = .ok (.iload_n 1, 1) := by decide +kernel
theorem d_RD_first_10 : decode c_RD_first 10 = .ok (.aaload, 1) := by decide +kernel
theorem d_RD_first_11 : decode c_RD_first 11 = .ok (.iload_n 2, 1) := by decide +kernel
theorem d_RD_first_12 : decode c_RD_first 12 = .ok (.iload_n 3, 1) := by decide +kernel
theorem d_RD_first_13 : decode c_RD_first 13 = .ok (.iload 4, 2) := by decide +kernel
theorem d_RD_first_15 : decode c_RD_first 15 = .ok (.iload 5, 2) := by decide +kernel
theorem d_RD_first_17 : decode c_RD_first 17 = .ok (.invokestatic 127, 3) := by decide +kernel
theorem d_RD_first_20 : decode c_RD_first 20 = .ok (.invokevirtual 134, 3) := by decide +kernel
theorem d_RD_first_23 : decode c_RD_first 23 = .ok (.ireturn, 1) := by decide +kernel
theorem d_RD_count_0 : decode c_RD_count 0 = .ok (.aload_n 0, 1) := by decide +kernel
theorem d_RD_count_1 : decode c_RD_count 1 = .ok (.iload_n 1, 1) := by decide +kernel
theorem d_RD_count_2 : decode c_RD_count 2 = .ok (.invokevirtual 84, 3) := by decide +kernel
theorem d_RD_count_5 : decode c_RD_count 5 = .ok (.iload_n 2, 1) := by decide +kernel
theorem d_RD_count_6 : decode c_RD_count 6 = .ok (.ifCond .lt 8, 3) := by decide +kernel
theorem d_RD_count_9 : decode c_RD_count 9 = .ok (.iload_n 2, 1) := by decide +kernel
theorem d_RD_count_10 : decode c_RD_count 10 = .ok (.iconst 3, 1) := by decide +kernel
theorem d_RD_count_11 : decode c_RD_count 11 = .ok (.if_icmp .lt 13, 3) := by decide +kernel
theorem d_RD_count_14 : decode c_RD_count 14 = .ok (.new 61, 3) := by decide +kernel
theorem d_RD_count_17 : decode c_RD_count 17 = .ok (.dup, 1) := by decide +kernel
theorem d_RD_count_18 : decode c_RD_count 18 = .ok (.ldc 137, 2) := by decide +kernel
theorem d_RD_count_20 : decode c_RD_count 20 = .ok (.invokespecial 65, 3) := by decide +kernel
theorem d_RD_count_23 : decode c_RD_count 23 = .ok (.athrow, 1) := by decide +kernel
theorem d_RD_count_24 : decode c_RD_count 24 = .ok (.aload_n 0, 1) := by decide +kernel
theorem d_RD_count_25 : decode c_RD_count 25 = .ok (.getfield 33, 3) := by decide +kernel
theorem d_RD_count_28 : decode c_RD_count 28 = .ok (.iload_n 1, 1) := by decide +kernel
theorem d_RD_count_29 : decode c_RD_count 29 = .ok (.aaload, 1) := by decide +kernel
theorem d_RD_count_30 : decode c_RD_count 30 = .ok (.invokevirtual 139, 3) := by decide +kernel
theorem d_RD_count_33 : decode c_RD_count 33 = .ok (.aload_n 0, 1) := by decide +kernel
theorem d_RD_count_34 : decode c_RD_count 34 = .ok (.getfield 33, 3) := by decide +kernel
theorem d_RD_count_37 : decode c_RD_count 37 = .ok (.iload_n 1, 1) := by decide +kernel
theorem d_RD_count_38 : decode c_RD_count 38 = .ok (.aaload, 1) := by decide +kernel
theorem d_RD_count_39 : decode c_RD_count 39 = .ok (.iload_n 2, 1) := by decide +kernel
theorem d_RD_count_40 : decode c_RD_count 40 = .ok (.invokevirtual 142, 3) := by decide +kernel
theorem d_RD_count_43 : decode c_RD_count 43 = .ok (.ireturn, 1) := by decide +kernel
theorem d_RD_nodes_0 : decode c_RD_nodes 0 = .ok (.aload_n 0, 1) := by decide +kernel
theorem d_RD_nodes_1 : decode c_RD_nodes 1 = .ok (.iload_n 1, 1) := by decide +kernel
theorem d_RD_nodes_2 : decode c_RD_nodes 2 = .ok (.invokevirtual 84, 3) := by decide +kernel
theorem d_RD_nodes_5 : decode c_RD_nodes 5 = .ok (.iload_n 2, 1) := by decide +kernel
theorem d_RD_nodes_6 : decode c_RD_nodes 6 = .ok (.invokestatic 145, 3) := by decide +kernel
theorem d_RD_nodes_9 : decode c_RD_nodes 9 = .ok (.aload_n 0, 1) := by decide +kernel
theorem d_RD_nodes_10 : decode c_RD_nodes 10 = .ok (.getfield 33, 3) := by decide +kernel
theorem d_RD_nodes_13 : decode c_RD_nodes 13 = .ok (.iload_n 1, 1) := by decide +kernel
theorem d_RD_nodes_14 : decode c_RD_nodes 14 = .ok (.aaload, 1) := by decide +kernel
theorem d_RD_nodes_15 : decode c_RD_nodes 15 = .ok (.invokevirtual 139, 3) := by decide +kernel
theorem d_RD_nodes_18 : decode c_RD_nodes 18 = .ok (.aload_n 0, 1) := by decide +kernel
theorem d_RD_nodes_19 : decode c_RD_nodes 19 = .ok (.getfield 33, 3) := by decide +kernel
theorem d_RD_nodes_22 : decode c_RD_nodes 22 = .ok (.iload_n 1, 1) := by decide +kernel
theorem d_RD_nodes_23 : decode c_RD_nodes 23 = .ok (.aaload, 1) := by decide +kernel
theorem d_RD_nodes_24 : decode c_RD_nodes 24 = .ok (.invokevirtual 148, 3) := by decide +kernel
theorem d_RD_nodes_27 : decode c_RD_nodes 27 = .ok (.aload_n 0, 1) := by decide +kernel
theorem d_RD_nodes_28 : decode c_RD_nodes 28 = .ok (.getfield 33, 3) := by decide +kernel
theorem d_RD_nodes_31 : decode c_RD_nodes 31 = .ok (.iload_n 1, 1) := by decide +kernel
theorem d_RD_nodes_32 : decode c_RD_nodes 32 = .ok (.aaload, 1) := by decide +kernel
theorem d_RD_nodes_33 : decode c_RD_nodes 33 = .ok (.iload_n 2, 1) := by decide +kernel
theorem d_RD_nodes_34 : decode c_RD_nodes 34 = .ok (.invokevirtual 151, 3) := by decide +kernel
theorem d_RD_nodes_37 : decode c_RD_nodes 37 = .ok (.ireturn, 1) := by decide +kernel
theorem d_RD_requireField_0 : decode c_RD_requireField 0 = .ok (.iload_n 0, 1) := by decide +kernel
theorem d_RD_requireField_1 : decode c_RD_requireField 1 = .ok (.ifCond .lt 8, 3) := by decide +kernel
theorem d_RD_requireField_4 : decode c_RD_requireField 4 = .ok (.iload_n 0, 1) := by decide +kernel
theorem d_RD_requireField_5 : decode c_RD_requireField 5 = .ok (.iconst 4, 1) := by decide +kernel
theorem d_RD_requireField_6 : decode c_RD_requireField 6 = .ok (.if_icmp .lt 13, 3) := by decide +kernel
theorem d_RD_requireField_9 : decode c_RD_requireField 9 = .ok (.new 61, 3) := by decide +kernel
theorem d_RD_requireField_12 : decode c_RD_requireField 12 = .ok (.dup, 1) := by decide +kernel
theorem d_RD_requireField_13 : decode c_RD_requireField 13 = .ok (.ldc 193, 2) := by decide +kernel
theorem d_RD_requireField_15 : decode c_RD_requireField 15 = .ok (.invokespecial 65, 3) := by decide +kernel
theorem d_RD_requireField_18 : decode c_RD_requireField 18 = .ok (.athrow, 1) := by decide +kernel
theorem d_RD_requireField_19 : decode c_RD_requireField 19 = .ok (.return_, 1) := by decide +kernel
theorem d_RD_edges_0 : decode c_RD_edges 0 = .ok (.aload_n 0, 1) := by decide +kernel
theorem d_RD_edges_1 : decode c_RD_edges 1 = .ok (.iload_n 1, 1) := by decide +kernel
theorem d_RD_edges_2 : decode c_RD_edges 2 = .ok (.invokevirtual 84, 3) := by decide +kernel
theorem d_RD_edges_5 : decode c_RD_edges 5 = .ok (.aload_n 0, 1) := by decide +kernel
theorem d_RD_edges_6 : decode c_RD_edges 6 = .ok (.getfield 33, 3) := by decide +kernel
theorem d_RD_edges_9 : decode c_RD_edges 9 = .ok (.iload_n 1, 1) := by decide +kernel
theorem d_RD_edges_10 : decode c_RD_edges 10 = .ok (.aaload, 1) := by decide +kernel
theorem d_RD_edges_11 : decode c_RD_edges 11 = .ok (.invokevirtual 139, 3) := by decide +kernel
theorem d_RD_edges_14 : decode c_RD_edges 14 = .ok (.aload_n 0, 1) := by decide +kernel
theorem d_RD_edges_15 : decode c_RD_edges 15 = .ok (.getfield 33, 3) := by decide +kernel
theorem d_RD_edges_18 : decode c_RD_edges 18 = .ok (.iload_n 1, 1) := by decide +kernel
theorem d_RD_edges_19 : decode c_RD_edges 19 = .ok (.aaload, 1) := by decide +kernel
theorem d_RD_edges_20 : decode c_RD_edges 20 = .ok (.invokevirtual 148, 3) := by decide +kernel
theorem d_RD_edges_23 : decode c_RD_edges 23 = .ok (.iconst 0, 1) := by decide +kernel
theorem d_RD_edges_24 : decode c_RD_edges 24 = .ok (.istore_n 2, 1) := by decide +kernel
theorem d_RD_edges_25 : decode c_RD_edges 25 = .ok (.iconst 0, 1) := by decide +kernel
theorem d_RD_edges_26 : decode c_RD_edges 26 = .ok (.istore_n 3, 1) := by decide +kernel
theorem d_RD_edges_27 : decode c_RD_edges 27 = .ok (.iload_n 3, 1) := by decide +kernel
theorem d_RD_edges_28 : decode c_RD_edges 28 = .ok (.iconst 4, 1) := by decide +kernel
theorem d_RD_edges_29 : decode c_RD_edges 29 = .ok (.if_icmp .ge 22, 3) := by decide +kernel
theorem d_RD_edges_32 : decode c_RD_edges 32 = .ok (.iload_n 2, 1) := by decide +kernel
theorem d_RD_edges_33 : decode c_RD_edges 33 = .ok (.aload_n 0, 1) := by decide +kernel
theorem d_RD_edges_34 : decode c_RD_edges 34 = .ok (.getfield 33, 3) := by decide +kernel
theorem d_RD_edges_37 : decode c_RD_edges 37 = .ok (.iload_n 1, 1) := by decide +kernel
theorem d_RD_edges_38 : decode c_RD_edges 38 = .ok (.aaload, 1) := by decide +kernel
theorem d_RD_edges_39 : decode c_RD_edges 39 = .ok (.iload_n 3, 1) := by decide +kernel
theorem d_RD_edges_40 : decode c_RD_edges 40 = .ok (.invokevirtual 154, 3) := by decide +kernel
theorem d_RD_edges_43 : decode c_RD_edges 43 = .ok (.iadd, 1) := by decide +kernel
theorem d_RD_edges_44 : decode c_RD_edges 44 = .ok (.istore_n 2, 1) := by decide +kernel
theorem d_RD_edges_45 : decode c_RD_edges 45 = .ok (.iinc 3 1, 3) := by decide +kernel
theorem d_RD_edges_48 : decode c_RD_edges 48 = .ok (.goto (-21), 3) := by decide +kernel
theorem d_RD_edges_51 : decode c_RD_edges 51 = .ok (.iload_n 2, 1) := by decide +kernel
theorem d_RD_edges_52 : decode c_RD_edges 52 = .ok (.ireturn, 1) := by decide +kernel
theorem d_RD_witness_0 : decode c_RD_witness 0 = .ok (.iload_n 1, 1) := by decide +kernel
theorem d_RD_witness_1 : decode c_RD_witness 1 = .ok (.invokestatic 145, 3) := by decide +kernel
theorem d_RD_witness_4 : decode c_RD_witness 4 = .ok (.aload_n 0, 1) := by decide +kernel
theorem d_RD_witness_5 : decode c_RD_witness 5 = .ok (.getfield 46, 3) := by decide +kernel
theorem d_RD_witness_8 : decode c_RD_witness 8 = .ok (.invokevirtual 157, 3) := by decide +kernel
theorem d_RD_witness_11 : decode c_RD_witness 11 = .ok (.aload_n 0, 1) := by decide +kernel
theorem d_RD_witness_12 : decode c_RD_witness 12 = .ok (.getfield 46, 3) := by decide +kernel
theorem d_RD_witness_15 : decode c_RD_witness 15 = .ok (.invokevirtual 161, 3) := by decide +kernel
theorem d_RD_witness_18 : decode c_RD_witness 18 = .ok (.istore_n 2, 1) := by decide +kernel
theorem d_RD_witness_19 : decode c_RD_witness 19 = .ok (.iload_n 2, 1) := by decide +kernel
theorem d_RD_witness_20 : decode c_RD_witness 20 = .ok (.iconst (-1), 1) := by decide +kernel
theorem d_RD_witness_21 : decode c_RD_witness 21 = .ok (.if_icmp .ne 7, 3) := by decide +kernel
theorem d_RD_witness_24 : decode c_RD_witness 24 = .ok (.iconst (-1), 1) := by decide +kernel
theorem d_RD_witness_25 : decode c_RD_witness 25 = .ok (.goto 8, 3) := by decide +kernel
theorem d_RD_witness_28 : decode c_RD_witness 28 = .ok (.iload_n 2, 1) := by decide +kernel
theorem d_RD_witness_29 : decode c_RD_witness 29 = .ok (.iload_n 1, 1) := by decide +kernel
theorem d_RD_witness_30 : decode c_RD_witness 30 = .ok (.invokestatic 164, 3) := by decide +kernel
theorem d_RD_witness_33 : decode c_RD_witness 33 = .ok (.ireturn, 1) := by decide +kernel
theorem d_RD_used_0 : decode c_RD_used 0 = .ok (.aload_n 0, 1) := by decide +kernel
theorem d_RD_used_1 : decode c_RD_used 1 = .ok (.iload_n 1, 1) := by decide +kernel
theorem d_RD_used_2 : decode c_RD_used 2 = .ok (.iload_n 2, 1) := by decide +kernel
theorem d_RD_used_3 : decode c_RD_used 3 = .ok (.invokevirtual 103, 3) := by decide +kernel
theorem d_RD_used_6 : decode c_RD_used 6 = .ok (.aload_n 0, 1) := by decide +kernel
theorem d_RD_used_7 : decode c_RD_used 7 = .ok (.getfield 33, 3) := by decide +kernel
theorem d_RD_used_10 : decode c_RD_used 10 = .ok (.iload_n 1, 1) := by decide +kernel
theorem d_RD_used_11 : decode c_RD_used 11 = .ok (.aaload, 1) := by decide +kernel
theorem d_RD_used_12 : decode c_RD_used 12 = .ok (.invokevirtual 139, 3) := by decide +kernel
theorem d_RD_used_15 : decode c_RD_used 15 = .ok (.aload_n 0, 1) := by decide +kernel
theorem d_RD_used_16 : decode c_RD_used 16 = .ok (.getfield 33, 3) := by decide +kernel
theorem d_RD_used_19 : decode c_RD_used 19 = .ok (.iload_n 1, 1) := by decide +kernel
theorem d_RD_used_20 : decode c_RD_used 20 = .ok (.aaload, 1) := by decide +kernel
theorem d_RD_used_21 : decode c_RD_used 21 = .ok (.iload_n 2, 1) := by decide +kernel
theorem d_RD_used_22 : decode c_RD_used 22 = .ok (.invokevirtual 168, 3) := by decide +kernel
theorem d_RD_used_25 : decode c_RD_used 25 = .ok (.ireturn, 1) := by decide +kernel
theorem d_RD_prune_0 : decode c_RD_prune 0 = .ok (.aload_n 0, 1) := by decide +kernel
theorem d_RD_prune_1 : decode c_RD_prune 1 = .ok (.iload_n 1, 1) := by decide +kernel
theorem d_RD_prune_2 : decode c_RD_prune 2 = .ok (.invokevirtual 84, 3) := by decide +kernel
theorem d_RD_prune_5 : decode c_RD_prune 5 = .ok (.aload_n 0, 1) := by decide +kernel
theorem d_RD_prune_6 : decode c_RD_prune 6 = .ok (.getfield 33, 3) := by decide +kernel
theorem d_RD_prune_9 : decode c_RD_prune 9 = .ok (.iload_n 1, 1) := by decide +kernel
theorem d_RD_prune_10 : decode c_RD_prune 10 = .ok (.aaload, 1) := by decide +kernel
theorem d_RD_prune_11 : decode c_RD_prune 11 = .ok (.invokevirtual 139, 3) := by decide +kernel
theorem d_RD_prune_14 : decode c_RD_prune 14 = .ok (.iconst 0, 1) := by decide +kernel
theorem d_RD_prune_15 : decode c_RD_prune 15 = .ok (.istore_n 2, 1) := by decide +kernel
theorem d_RD_prune_16 : decode c_RD_prune 16 = .ok (.aload_n 0, 1) := by decide +kernel
theorem d_RD_prune_17 : decode c_RD_prune 17 = .ok (.getfield 27, 3) := by decide +kernel
theorem d_RD_prune_20 : decode c_RD_prune 20 = .ok (.iload_n 1, 1) := by decide +kernel
theorem d_RD_prune_21 : decode c_RD_prune 21 = .ok (.aaload, 1) := by decide +kernel
theorem d_RD_prune_22 : decode c_RD_prune 22 = .ok (.invokevirtual 113, 3) := by decide +kernel
theorem d_RD_prune_25 : decode c_RD_prune 25 = .ok (.iconst 1, 1) := by decide +kernel
theorem d_RD_prune_26 : decode c_RD_prune 26 = .ok (.isub, 1) := by decide +kernel
theorem d_RD_prune_27 : decode c_RD_prune 27 = .ok (.istore_n 3, 1) := by decide +kernel
theorem d_RD_prune_28 : decode c_RD_prune 28 = .ok (.iload_n 3, 1) := by decide +kernel
theorem d_RD_prune_29 : decode c_RD_prune 29 = .ok (.ifCond .lt 35, 3) := by decide +kernel
theorem d_RD_prune_32 : decode c_RD_prune 32 = .ok (.aload_n 0, 1) := by decide +kernel
theorem d_RD_prune_33 : decode c_RD_prune 33 = .ok (.getfield 33, 3) := by decide +kernel
theorem d_RD_prune_36 : decode c_RD_prune 36 = .ok (.iload_n 1, 1) := by decide +kernel
theorem d_RD_prune_37 : decode c_RD_prune 37 = .ok (.aaload, 1) := by decide +kernel
theorem d_RD_prune_38 : decode c_RD_prune 38 = .ok (.iload_n 3, 1) := by decide +kernel
theorem d_RD_prune_39 : decode c_RD_prune 39 = .ok (.invokevirtual 168, 3) := by decide +kernel
theorem d_RD_prune_42 : decode c_RD_prune 42 = .ok (.ifCond .ne 16, 3) := by decide +kernel
theorem d_RD_prune_45 : decode c_RD_prune 45 = .ok (.aload_n 0, 1) := by decide +kernel
theorem d_RD_prune_46 : decode c_RD_prune 46 = .ok (.getfield 27, 3) := by decide +kernel
theorem d_RD_prune_49 : decode c_RD_prune 49 = .ok (.iload_n 1, 1) := by decide +kernel
theorem d_RD_prune_50 : decode c_RD_prune 50 = .ok (.aaload, 1) := by decide +kernel
theorem d_RD_prune_51 : decode c_RD_prune 51 = .ok (.iload_n 3, 1) := by decide +kernel
theorem d_RD_prune_52 : decode c_RD_prune 52 = .ok (.invokevirtual 107, 3) := by decide +kernel
theorem d_RD_prune_55 : decode c_RD_prune 55 = .ok (.iinc 2 1, 3) := by decide +kernel
theorem d_RD_prune_58 : decode c_RD_prune 58 = .ok (.iinc 3 (-1), 3) := by decide +kernel
theorem d_RD_prune_61 : decode c_RD_prune 61 = .ok (.goto (-33), 3) := by decide +kernel
theorem d_RD_prune_64 : decode c_RD_prune 64 = .ok (.iload_n 2, 1) := by decide +kernel
theorem d_RD_prune_65 : decode c_RD_prune 65 = .ok (.ireturn, 1) := by decide +kernel
theorem d_RD_pass_0 : decode c_RD_pass 0 = .ok (.aload_n 0, 1) := by decide +kernel
theorem d_RD_pass_1 : decode c_RD_pass 1 = .ok (.iload_n 1, 1) := by decide +kernel
theorem d_RD_pass_2 : decode c_RD_pass 2 = .ok (.invokevirtual 84, 3) := by decide +kernel
theorem d_RD_pass_5 : decode c_RD_pass 5 = .ok (.iload_n 2, 1) := by decide +kernel
theorem d_RD_pass_6 : decode c_RD_pass 6 = .ok (.iload_n 3, 1) := by decide +kernel
theorem d_RD_pass_7 : decode c_RD_pass 7 = .ok (.iload 4, 2) := by decide +kernel
theorem d_RD_pass_9 : decode c_RD_pass 9 = .ok (.iload 5, 2) := by decide +kernel
theorem d_RD_pass_11 : decode c_RD_pass 11 = .ok (.invokestatic 127, 3) := by decide +kernel
theorem d_RD_pass_14 : decode c_RD_pass 14 = .ok (.istore 6, 2) := by decide +kernel
theorem d_RD_pass_16 : decode c_RD_pass 16 = .ok (.aload_n 0, 1) := by decide +kernel
theorem d_RD_pass_17 : decode c_RD_pass 17 = .ok (.getfield 53, 3) := by decide +kernel
theorem d_RD_pass_20 : decode c_RD_pass 20 = .ok (.iload 6, 2) := by decide +kernel
theorem d_RD_pass_22 : decode c_RD_pass 22 = .ok (.invokevirtual 171, 3) := by decide +kernel
theorem d_RD_pass_25 : decode c_RD_pass 25 = .ok (.istore 7, 2) := by decide +kernel
theorem d_RD_pass_27 : decode c_RD_pass 27 = .ok (.iload 7, 2) := by decide +kernel
theorem d_RD_pass_29 : decode c_RD_pass 29 = .ok (.iconst (-1), 1) := by decide +kernel
theorem d_RD_pass_30 : decode c_RD_pass 30 = .ok (.if_icmp .eq 14, 3) := by decide +kernel
theorem d_RD_pass_33 : decode c_RD_pass 33 = .ok (.aload_n 0, 1) := by decide +kernel
theorem d_RD_pass_34 : decode c_RD_pass 34 = .ok (.getfield 53, 3) := by decide +kernel
theorem d_RD_pass_37 : decode c_RD_pass 37 = .ok (.iload 7, 2) := by decide +kernel
theorem d_RD_pass_39 : decode c_RD_pass 39 = .ok (.invokevirtual 174, 3) := by decide +kernel
theorem d_RD_pass_42 : decode c_RD_pass 42 = .ok (.iconst 3, 1) := by decide +kernel
theorem d_RD_pass_43 : decode c_RD_pass 43 = .ok (.ireturn, 1) := by decide +kernel
theorem d_RD_pass_44 : decode c_RD_pass 44 = .ok (.aload_n 0, 1) := by decide +kernel
theorem d_RD_pass_45 : decode c_RD_pass 45 = .ok (.getfield 27, 3) := by decide +kernel
theorem d_RD_pass_48 : decode c_RD_pass 48 = .ok (.iload_n 1, 1) := by decide +kernel
theorem d_RD_pass_49 : decode c_RD_pass 49 = .ok (.aaload, 1) := by decide +kernel
theorem d_RD_pass_50 : decode c_RD_pass 50 = .ok (.iload 6, 2) := by decide +kernel
theorem d_RD_pass_52 : decode c_RD_pass 52 = .ok (.invokevirtual 131, 3) := by decide +kernel
theorem d_RD_pass_55 : decode c_RD_pass 55 = .ok (.istore 8, 2) := by decide +kernel
theorem d_RD_pass_57 : decode c_RD_pass 57 = .ok (.iload 8, 2) := by decide +kernel
theorem d_RD_pass_59 : decode c_RD_pass 59 = .ok (.ifCond .eq 12, 3) := by decide +kernel
theorem d_RD_pass_62 : decode c_RD_pass 62 = .ok (.aload_n 0, 1) := by decide +kernel
theorem d_RD_pass_63 : decode c_RD_pass 63 = .ok (.getfield 53, 3) := by decide +kernel
theorem d_RD_pass_66 : decode c_RD_pass 66 = .ok (.iload 6, 2) := by decide +kernel
theorem d_RD_pass_68 : decode c_RD_pass 68 = .ok (.invokevirtual 177, 3) := by decide +kernel
theorem d_RD_pass_71 : decode c_RD_pass 71 = .ok (.iload 8, 2) := by decide +kernel
theorem d_RD_pass_73 : decode c_RD_pass 73 = .ok (.ireturn, 1) := by decide +kernel
theorem d_RD_connection_0 : decode c_RD_connection 0 = .ok (.iload_n 2, 1) := by decide +kernel
theorem d_RD_connection_1 : decode c_RD_connection 1 = .ok (.invokestatic 145, 3) := by decide +kernel
theorem d_RD_connection_4 : decode c_RD_connection 4 = .ok (.aload_n 0, 1) := by decide +kernel
theorem d_RD_connection_5 : decode c_RD_connection 5 = .ok (.getfield 53, 3) := by decide +kernel
theorem d_RD_connection_8 : decode c_RD_connection 8 = .ok (.iload_n 1, 1) := by decide +kernel
theorem d_RD_connection_9 : decode c_RD_connection 9 = .ok (.invokevirtual 180, 3) := by decide +kernel
theorem d_RD_connection_12 : decode c_RD_connection 12 = .ok (.ifCond .eq 18, 3) := by decide +kernel
theorem d_RD_connection_15 : decode c_RD_connection 15 = .ok (.aload_n 0, 1) := by decide +kernel
theorem d_RD_connection_16 : decode c_RD_connection 16 = .ok (.getfield 53, 3) := by decide +kernel
theorem d_RD_connection_19 : decode c_RD_connection 19 = .ok (.iload_n 1, 1) := by decide +kernel
theorem d_RD_connection_20 : decode c_RD_connection 20 = .ok (.invokevirtual 183, 3) := by decide +kernel
theorem d_RD_connection_23 : decode c_RD_connection 23 = .ok (.iload_n 2, 1) := by decide +kernel
theorem d_RD_connection_24 : decode c_RD_connection 24 = .ok (.invokestatic 164, 3) := by decide +kernel
theorem d_RD_connection_27 : decode c_RD_connection 27 = .ok (.goto 4, 3) := by decide +kernel
theorem d_RD_connection_30 : decode c_RD_connection 30 = .ok (.iconst (-1), 1) := by decide +kernel
theorem d_RD_connection_31 : decode c_RD_connection 31 = .ok (.ireturn, 1) := by decide +kernel
