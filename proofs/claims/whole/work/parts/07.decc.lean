theorem d_Mo_init_0 : decode c_Mo_init 0 = .ok (.aload_n 0, 1) := by decide +kernel
theorem d_Mo_init_1 : decode c_Mo_init 1 = .ok (.invokespecial 1, 3) := by decide +kernel
theorem d_Mo_init_4 : decode c_Mo_init 4 = .ok (.aload_n 0, 1) := by decide +kernel
theorem d_Mo_init_5 : decode c_Mo_init 5 = .ok (.sipush 240, 3) := by decide +kernel
theorem d_Mo_init_8 : decode c_Mo_init 8 = .ok (.newarray .int, 2) := by decide +kernel
theorem d_Mo_init_10 : decode c_Mo_init 10 = .ok (.putfield 7, 3) := by decide +kernel
theorem d_Mo_init_13 : decode c_Mo_init 13 = .ok (.aload_n 0, 1) := by decide +kernel
theorem d_Mo_init_14 : decode c_Mo_init 14 = .ok (.bipush 16, 2) := by decide +kernel
theorem d_Mo_init_16 : decode c_Mo_init 16 = .ok (.newarray .int, 2) := by decide +kernel
theorem d_Mo_init_18 : decode c_Mo_init 18 = .ok (.putfield 13, 3) := by decide +kernel
theorem d_Mo_init_21 : decode c_Mo_init 21 = .ok (.aload_n 0, 1) := by decide +kernel
theorem d_Mo_init_22 : decode c_Mo_init 22 = .ok (.bipush 64, 2) := by decide +kernel
theorem d_Mo_init_24 : decode c_Mo_init 24 = .ok (.newarray .int, 2) := by decide +kernel
theorem d_Mo_init_26 : decode c_Mo_init 26 = .ok (.putfield 16, 3) := by decide +kernel
theorem d_Mo_init_29 : decode c_Mo_init 29 = .ok (.aload_n 0, 1) := by decide +kernel
theorem d_Mo_init_30 : decode c_Mo_init 30 = .ok (.bipush 64, 2) := by decide +kernel
theorem d_Mo_init_32 : decode c_Mo_init 32 = .ok (.newarray .int, 2) := by decide +kernel
theorem d_Mo_init_34 : decode c_Mo_init 34 = .ok (.putfield 19, 3) := by decide +kernel
theorem d_Mo_init_37 : decode c_Mo_init 37 = .ok (.aload_n 0, 1) := by decide +kernel
theorem d_Mo_init_38 : decode c_Mo_init 38 = .ok (.iconst 2, 1) := by decide +kernel
theorem d_Mo_init_39 : decode c_Mo_init 39 = .ok (.newarray .int, 2) := by decide +kernel
theorem d_Mo_init_41 : decode c_Mo_init 41 = .ok (.putfield 22, 3) := by decide +kernel
theorem d_Mo_init_44 : decode c_Mo_init 44 = .ok (.aload_n 0, 1) := by decide +kernel
theorem d_Mo_init_45 : decode c_Mo_init 45 = .ok (.bipush 16, 2) := by decide +kernel
theorem d_Mo_init_47 : decode c_Mo_init 47 = .ok (.newarray .int, 2) := by decide +kernel
theorem d_Mo_init_49 : decode c_Mo_init 49 = .ok (.putfield 25, 3) := by decide +kernel
theorem d_Mo_init_52 : decode c_Mo_init 52 = .ok (.aload_n 0, 1) := by decide +kernel
theorem d_Mo_init_53 : decode c_Mo_init 53 = .ok (.sipush 160, 3) := by decide +kernel
theorem d_Mo_init_56 : decode c_Mo_init 56 = .ok (.newarray .int, 2) := by decide +kernel
theorem d_Mo_init_58 : decode c_Mo_init 58 = .ok (.putfield 28, 3) := by decide +kernel
theorem d_Mo_init_61 : decode c_Mo_init 61 = .ok (.aload_n 0, 1) := by decide +kernel
theorem d_Mo_init_62 : decode c_Mo_init 62 = .ok (.iconst 4, 1) := by decide +kernel
theorem d_Mo_init_63 : decode c_Mo_init 63 = .ok (.newarray .int, 2) := by decide +kernel
theorem d_Mo_init_65 : decode c_Mo_init 65 = .ok (.putfield 31, 3) := by decide +kernel
theorem d_Mo_init_68 : decode c_Mo_init 68 = .ok (.aload_n 0, 1) := by decide +kernel
theorem d_Mo_init_69 : decode c_Mo_init 69 = .ok (.sipush 19652, 3) := by decide +kernel
theorem d_Mo_init_72 : decode c_Mo_init 72 = .ok (.newarray .int, 2) := by decide +kernel
theorem d_Mo_init_74 : decode c_Mo_init 74 = .ok (.putfield 34, 3) := by decide +kernel
theorem d_Mo_init_77 : decode c_Mo_init 77 = .ok (.aload_n 0, 1) := by decide +kernel
theorem d_Mo_init_78 : decode c_Mo_init 78 = .ok (.bipush 8, 2) := by decide +kernel
theorem d_Mo_init_80 : decode c_Mo_init 80 = .ok (.newarray .int, 2) := by decide +kernel
theorem d_Mo_init_82 : decode c_Mo_init 82 = .ok (.putfield 37, 3) := by decide +kernel
theorem d_Mo_init_85 : decode c_Mo_init 85 = .ok (.aload_n 0, 1) := by decide +kernel
theorem d_Mo_init_86 : decode c_Mo_init 86 = .ok (.bipush 32, 2) := by decide +kernel
theorem d_Mo_init_88 : decode c_Mo_init 88 = .ok (.newarray .int, 2) := by decide +kernel
theorem d_Mo_init_90 : decode c_Mo_init 90 = .ok (.putfield 40, 3) := by decide +kernel
theorem d_Mo_init_93 : decode c_Mo_init 93 = .ok (.aload_n 0, 1) := by decide +kernel
theorem d_Mo_init_94 : decode c_Mo_init 94 = .ok (.bipush 32, 2) := by decide +kernel
theorem d_Mo_init_96 : decode c_Mo_init 96 = .ok (.newarray .int, 2) := by decide +kernel
theorem d_Mo_init_98 : decode c_Mo_init 98 = .ok (.putfield 43, 3) := by decide +kernel
theorem d_Mo_init_101 : decode c_Mo_init 101 = .ok (.return_, 1) := by decide +kernel
theorem d_Mo_thrown_0 : decode c_Mo_thrown 0 = .ok (.aload_n 0, 1) := by decide +kernel
theorem d_Mo_thrown_1 : decode c_Mo_thrown 1 = .ok (.getfield 46, 3) := by decide +kernel
theorem d_Mo_thrown_4 : decode c_Mo_thrown 4 = .ok (.ireturn, 1) := by decide +kernel
theorem d_Mo_put_0 : decode c_Mo_put 0 = .ok (.iconst 0, 1) := by decide +kernel
theorem d_Mo_put_1 : decode c_Mo_put 1 = .ok (.istore_n 2, 1) := by decide +kernel
theorem d_Mo_put_2 : decode c_Mo_put 2 = .ok (.iconst 0, 1) := by decide +kernel
theorem d_Mo_put_3 : decode c_Mo_put 3 = .ok (.istore_n 3, 1) := by decide +kernel
theorem d_Mo_put_4 : decode c_Mo_put 4 = .ok (.iconst 0, 1) := by decide +kernel
theorem d_Mo_put_5 : decode c_Mo_put 5 = .ok (.istore 4, 2) := by decide +kernel
theorem d_Mo_put_7 : decode c_Mo_put 7 = .ok (.iload 4, 2) := by decide +kernel
theorem d_Mo_put_9 : decode c_Mo_put 9 = .ok (.bipush 32, 2) := by decide +kernel
theorem d_Mo_put_11 : decode c_Mo_put 11 = .ok (.if_icmp .ge 49, 3) := by decide +kernel
theorem d_Mo_put_14 : decode c_Mo_put 14 = .ok (.iload_n 1, 1) := by decide +kernel
theorem d_Mo_put_15 : decode c_Mo_put 15 = .ok (.iload 4, 2) := by decide +kernel
theorem d_Mo_put_17 : decode c_Mo_put 17 = .ok (.ishr, 1) := by decide +kernel
theorem d_Mo_put_18 : decode c_Mo_put 18 = .ok (.sipush 255, 3) := by decide +kernel
theorem d_Mo_put_21 : decode c_Mo_put 21 = .ok (.iand, 1) := by decide +kernel
theorem d_Mo_put_22 : decode c_Mo_put 22 = .ok (.istore 5, 2) := by decide +kernel
theorem d_Mo_put_24 : decode c_Mo_put 24 = .ok (.iload_n 3, 1) := by decide +kernel
theorem d_Mo_put_25 : decode c_Mo_put 25 = .ok (.ifCond .ne 10, 3) := by decide +kernel
theorem d_Mo_put_28 : decode c_Mo_put 28 = .ok (.iload 5, 2) := by decide +kernel
theorem d_Mo_put_30 : decode c_Mo_put 30 = .ok (.bipush 127, 2) := by decide +kernel
theorem d_Mo_put_32 : decode c_Mo_put 32 = .ok (.if_icmp .le 7, 3) := by decide +kernel
theorem d_Mo_put_35 : decode c_Mo_put 35 = .ok (.iconst 1, 1) := by decide +kernel
theorem d_Mo_put_36 : decode c_Mo_put 36 = .ok (.goto 4, 3) := by decide +kernel
theorem d_Mo_put_39 : decode c_Mo_put 39 = .ok (.iconst 0, 1) := by decide +kernel
theorem d_Mo_put_40 : decode c_Mo_put 40 = .ok (.istore_n 3, 1) := by decide +kernel
theorem d_Mo_put_41 : decode c_Mo_put 41 = .ok (.iload_n 2, 1) := by decide +kernel
theorem d_Mo_put_42 : decode c_Mo_put 42 = .ok (.iload 5, 2) := by decide +kernel
theorem d_Mo_put_44 : decode c_Mo_put 44 = .ok (.ifCond .le 7, 3) := by decide +kernel
theorem d_Mo_put_47 : decode c_Mo_put 47 = .ok (.iconst 1, 1) := by decide +kernel
theorem d_Mo_put_48 : decode c_Mo_put 48 = .ok (.goto 4, 3) := by decide +kernel
theorem d_Mo_put_51 : decode c_Mo_put 51 = .ok (.iconst 0, 1) := by decide +kernel
theorem d_Mo_put_52 : decode c_Mo_put 52 = .ok (.iadd, 1) := by decide +kernel
theorem d_Mo_put_53 : decode c_Mo_put 53 = .ok (.istore_n 2, 1) := by decide +kernel
theorem d_Mo_put_54 : decode c_Mo_put 54 = .ok (.iinc 4 8, 3) := by decide +kernel
theorem d_Mo_put_57 : decode c_Mo_put 57 = .ok (.goto (-50), 3) := by decide +kernel
theorem d_Mo_put_60 : decode c_Mo_put 60 = .ok (.aload_n 0, 1) := by decide +kernel
theorem d_Mo_put_61 : decode c_Mo_put 61 = .ok (.iload_n 3, 1) := by decide +kernel
theorem d_Mo_put_62 : decode c_Mo_put 62 = .ok (.aload_n 0, 1) := by decide +kernel
theorem d_Mo_put_63 : decode c_Mo_put 63 = .ok (.getfield 54, 3) := by decide +kernel
theorem d_Mo_put_66 : decode c_Mo_put 66 = .ok (.iload_n 2, 1) := by decide +kernel
theorem d_Mo_put_67 : decode c_Mo_put 67 = .ok (.iadd, 1) := by decide +kernel
theorem d_Mo_put_68 : decode c_Mo_put 68 = .ok (.sipush 240, 3) := by decide +kernel
theorem d_Mo_put_71 : decode c_Mo_put 71 = .ok (.if_icmp .le 7, 3) := by decide +kernel
theorem d_Mo_put_74 : decode c_Mo_put 74 = .ok (.iconst 1, 1) := by decide +kernel
theorem d_Mo_put_75 : decode c_Mo_put 75 = .ok (.goto 4, 3) := by decide +kernel
theorem d_Mo_put_78 : decode c_Mo_put 78 = .ok (.iconst 0, 1) := by decide +kernel
theorem d_Mo_put_79 : decode c_Mo_put 79 = .ok (.invokevirtual 57, 3) := by decide +kernel
theorem d_Mo_put_82 : decode c_Mo_put 82 = .ok (.ifCond .eq 5, 3) := by decide +kernel
theorem d_Mo_put_85 : decode c_Mo_put 85 = .ok (.iconst 0, 1) := by decide +kernel
theorem d_Mo_put_86 : decode c_Mo_put 86 = .ok (.ireturn, 1) := by decide +kernel
theorem d_Mo_put_87 : decode c_Mo_put 87 = .ok (.iconst 0, 1) := by decide +kernel
theorem d_Mo_put_88 : decode c_Mo_put 88 = .ok (.istore 4, 2) := by decide +kernel
theorem d_Mo_put_90 : decode c_Mo_put 90 = .ok (.iload 4, 2) := by decide +kernel
theorem d_Mo_put_92 : decode c_Mo_put 92 = .ok (.bipush 32, 2) := by decide +kernel
theorem d_Mo_put_94 : decode c_Mo_put 94 = .ok (.if_icmp .ge 45, 3) := by decide +kernel
theorem d_Mo_put_97 : decode c_Mo_put 97 = .ok (.iload_n 1, 1) := by decide +kernel
theorem d_Mo_put_98 : decode c_Mo_put 98 = .ok (.iload 4, 2) := by decide +kernel
theorem d_Mo_put_100 : decode c_Mo_put 100 = .ok (.ishr, 1) := by decide +kernel
theorem d_Mo_put_101 : decode c_Mo_put 101 = .ok (.sipush 255, 3) := by decide +kernel
theorem d_Mo_put_104 : decode c_Mo_put 104 = .ok (.iand, 1) := by decide +kernel
theorem d_Mo_put_105 : decode c_Mo_put 105 = .ok (.istore 5, 2) := by decide +kernel
theorem d_Mo_put_107 : decode c_Mo_put 107 = .ok (.iload 5, 2) := by decide +kernel
theorem d_Mo_put_109 : decode c_Mo_put 109 = .ok (.ifCond .le 24, 3) := by decide +kernel
theorem d_Mo_put_112 : decode c_Mo_put 112 = .ok (.aload_n 0, 1) := by decide +kernel
theorem d_Mo_put_113 : decode c_Mo_put 113 = .ok (.getfield 7, 3) := by decide +kernel
theorem d_Mo_put_116 : decode c_Mo_put 116 = .ok (.aload_n 0, 1) := by decide +kernel
theorem d_Mo_put_117 : decode c_Mo_put 117 = .ok (.getfield 54, 3) := by decide +kernel
theorem d_Mo_put_120 : decode c_Mo_put 120 = .ok (.iload 5, 2) := by decide +kernel
theorem d_Mo_put_122 : decode c_Mo_put 122 = .ok (.iastore, 1) := by decide +kernel
theorem d_Mo_put_123 : decode c_Mo_put 123 = .ok (.aload_n 0, 1) := by decide +kernel
theorem d_Mo_put_124 : decode c_Mo_put 124 = .ok (.dup, 1) := by decide +kernel
theorem d_Mo_put_125 : decode c_Mo_put 125 = .ok (.getfield 54, 3) := by decide +kernel
theorem d_Mo_put_128 : decode c_Mo_put 128 = .ok (.iconst 1, 1) := by decide +kernel
theorem d_Mo_put_129 : decode c_Mo_put 129 = .ok (.iadd, 1) := by decide +kernel
theorem d_Mo_put_130 : decode c_Mo_put 130 = .ok (.putfield 54, 3) := by decide +kernel
theorem d_Mo_put_133 : decode c_Mo_put 133 = .ok (.iinc 4 8, 3) := by decide +kernel
theorem d_Mo_put_136 : decode c_Mo_put 136 = .ok (.goto (-46), 3) := by decide +kernel
theorem d_Mo_put_139 : decode c_Mo_put 139 = .ok (.aload_n 0, 1) := by decide +kernel
theorem d_Mo_put_140 : decode c_Mo_put 140 = .ok (.getfield 54, 3) := by decide +kernel
theorem d_Mo_put_143 : decode c_Mo_put 143 = .ok (.ireturn, 1) := by decide +kernel
theorem d_Mo_refuse_0 : decode c_Mo_refuse 0 = .ok (.aload_n 0, 1) := by decide +kernel
theorem d_Mo_refuse_1 : decode c_Mo_refuse 1 = .ok (.iload_n 1, 1) := by decide +kernel
theorem d_Mo_refuse_2 : decode c_Mo_refuse 2 = .ok (.ifCond .eq 7, 3) := by decide +kernel
theorem d_Mo_refuse_5 : decode c_Mo_refuse 5 = .ok (.iconst 1, 1) := by decide +kernel
theorem d_Mo_refuse_6 : decode c_Mo_refuse 6 = .ok (.goto 12, 3) := by decide +kernel
theorem d_Mo_refuse_9 : decode c_Mo_refuse 9 = .ok (.iload_n 2, 1) := by decide +kernel
theorem d_Mo_refuse_10 : decode c_Mo_refuse 10 = .ok (.ifCond .eq 7, 3) := by decide +kernel
theorem d_Mo_refuse_13 : decode c_Mo_refuse 13 = .ok (.iconst 2, 1) := by decide +kernel
theorem d_Mo_refuse_14 : decode c_Mo_refuse 14 = .ok (.goto 4, 3) := by decide +kernel
theorem d_Mo_refuse_17 : decode c_Mo_refuse 17 = .ok (.iconst 0, 1) := by decide +kernel
theorem d_Mo_refuse_18 : decode c_Mo_refuse 18 = .ok (.putfield 46, 3) := by decide +kernel
theorem d_Mo_refuse_21 : decode c_Mo_refuse 21 = .ok (.aload_n 0, 1) := by decide +kernel
theorem d_Mo_refuse_22 : decode c_Mo_refuse 22 = .ok (.getfield 46, 3) := by decide +kernel
theorem d_Mo_refuse_25 : decode c_Mo_refuse 25 = .ok (.ifCond .le 7, 3) := by decide +kernel
theorem d_Mo_refuse_28 : decode c_Mo_refuse 28 = .ok (.iconst 1, 1) := by decide +kernel
theorem d_Mo_refuse_29 : decode c_Mo_refuse 29 = .ok (.goto 4, 3) := by decide +kernel
theorem d_Mo_refuse_32 : decode c_Mo_refuse 32 = .ok (.iconst 0, 1) := by decide +kernel
theorem d_Mo_refuse_33 : decode c_Mo_refuse 33 = .ok (.ireturn, 1) := by decide +kernel
theorem d_Mo_read_0 : decode c_Mo_read 0 = .ok (.aload_n 0, 1) := by decide +kernel
theorem d_Mo_read_1 : decode c_Mo_read 1 = .ok (.iload_n 1, 1) := by decide +kernel
theorem d_Mo_read_2 : decode c_Mo_read 2 = .ok (.iconst 0, 1) := by decide +kernel
theorem d_Mo_read_3 : decode c_Mo_read 3 = .ok (.iconst 1, 1) := by decide +kernel
theorem d_Mo_read_4 : decode c_Mo_read 4 = .ok (.invokestatic 112, 3) := by decide +kernel
theorem d_Mo_read_7 : decode c_Mo_read 7 = .ok (.ifCond .ne 7, 3) := by decide +kernel
theorem d_Mo_read_10 : decode c_Mo_read 10 = .ok (.iconst 1, 1) := by decide +kernel
theorem d_Mo_read_11 : decode c_Mo_read 11 = .ok (.goto 4, 3) := by decide +kernel
theorem d_Mo_read_14 : decode c_Mo_read 14 = .ok (.iconst 0, 1) := by decide +kernel
theorem d_Mo_read_15 : decode c_Mo_read 15 = .ok (.iconst 0, 1) := by decide +kernel
theorem d_Mo_read_16 : decode c_Mo_read 16 = .ok (.invokevirtual 57, 3) := by decide +kernel
theorem d_Mo_read_19 : decode c_Mo_read 19 = .ok (.ifCond .eq 5, 3) := by decide +kernel
theorem d_Mo_read_22 : decode c_Mo_read 22 = .ok (.iconst 0, 1) := by decide +kernel
theorem d_Mo_read_23 : decode c_Mo_read 23 = .ok (.ireturn, 1) := by decide +kernel
theorem d_Mo_read_24 : decode c_Mo_read 24 = .ok (.aload_n 0, 1) := by decide +kernel
theorem d_Mo_read_25 : decode c_Mo_read 25 = .ok (.iconst 0, 1) := by decide +kernel
theorem d_Mo_read_26 : decode c_Mo_read 26 = .ok (.putfield 61, 3) := by decide +kernel
theorem d_Mo_read_29 : decode c_Mo_read 29 = .ok (.aload_n 0, 1) := by decide +kernel
theorem d_Mo_read_30 : decode c_Mo_read 30 = .ok (.iconst (-1), 1) := by decide +kernel
theorem d_Mo_read_31 : decode c_Mo_read 31 = .ok (.putfield 67, 3) := by decide +kernel
theorem d_Mo_read_34 : decode c_Mo_read 34 = .ok (.aload_n 0, 1) := by decide +kernel
theorem d_Mo_read_35 : decode c_Mo_read 35 = .ok (.iconst 0, 1) := by decide +kernel
theorem d_Mo_read_36 : decode c_Mo_read 36 = .ok (.putfield 102, 3) := by decide +kernel
theorem d_Mo_read_39 : decode c_Mo_read 39 = .ok (.aload_n 0, 1) := by decide +kernel
theorem d_Mo_read_40 : decode c_Mo_read 40 = .ok (.invokevirtual 78, 3) := by decide +kernel
theorem d_Mo_read_43 : decode c_Mo_read 43 = .ok (.aload_n 0, 1) := by decide +kernel
theorem d_Mo_read_44 : decode c_Mo_read 44 = .ok (.getfield 61, 3) := by decide +kernel
theorem d_Mo_read_47 : decode c_Mo_read 47 = .ok (.aload_n 0, 1) := by decide +kernel
theorem d_Mo_read_48 : decode c_Mo_read 48 = .ok (.getfield 54, 3) := by decide +kernel
theorem d_Mo_read_51 : decode c_Mo_read 51 = .ok (.if_icmp .ge 21, 3) := by decide +kernel
theorem d_Mo_read_54 : decode c_Mo_read 54 = .ok (.aload_n 0, 1) := by decide +kernel
theorem d_Mo_read_55 : decode c_Mo_read 55 = .ok (.getfield 67, 3) := by decide +kernel
theorem d_Mo_read_58 : decode c_Mo_read 58 = .ok (.ifCond .ge 14, 3) := by decide +kernel
theorem d_Mo_read_61 : decode c_Mo_read 61 = .ok (.aload_n 0, 1) := by decide +kernel
theorem d_Mo_read_62 : decode c_Mo_read 62 = .ok (.invokevirtual 116, 3) := by decide +kernel
theorem d_Mo_read_65 : decode c_Mo_read 65 = .ok (.aload_n 0, 1) := by decide +kernel
theorem d_Mo_read_66 : decode c_Mo_read 66 = .ok (.invokevirtual 78, 3) := by decide +kernel
theorem d_Mo_read_69 : decode c_Mo_read 69 = .ok (.goto (-26), 3) := by decide +kernel
theorem d_Mo_read_72 : decode c_Mo_read 72 = .ok (.aload_n 0, 1) := by decide +kernel
theorem d_Mo_read_73 : decode c_Mo_read 73 = .ok (.iconst 0, 1) := by decide +kernel
theorem d_Mo_read_74 : decode c_Mo_read 74 = .ok (.putfield 54, 3) := by decide +kernel
theorem d_Mo_read_77 : decode c_Mo_read 77 = .ok (.aload_n 0, 1) := by decide +kernel
theorem d_Mo_read_78 : decode c_Mo_read 78 = .ok (.getfield 67, 3) := by decide +kernel
theorem d_Mo_read_81 : decode c_Mo_read 81 = .ok (.ifCond .lt 10, 3) := by decide +kernel
theorem d_Mo_read_84 : decode c_Mo_read 84 = .ok (.iconst (-1), 1) := by decide +kernel
theorem d_Mo_read_85 : decode c_Mo_read 85 = .ok (.aload_n 0, 1) := by decide +kernel
theorem d_Mo_read_86 : decode c_Mo_read 86 = .ok (.getfield 67, 3) := by decide +kernel
theorem d_Mo_read_89 : decode c_Mo_read 89 = .ok (.isub, 1) := by decide +kernel
theorem d_Mo_read_90 : decode c_Mo_read 90 = .ok (.ireturn, 1) := by decide +kernel
theorem d_Mo_read_91 : decode c_Mo_read 91 = .ok (.aload_n 0, 1) := by decide +kernel
theorem d_Mo_read_92 : decode c_Mo_read 92 = .ok (.getfield 22, 3) := by decide +kernel
theorem d_Mo_read_95 : decode c_Mo_read 95 = .ok (.iload_n 1, 1) := by decide +kernel
theorem d_Mo_read_96 : decode c_Mo_read 96 = .ok (.iaload, 1) := by decide +kernel
theorem d_Mo_read_97 : decode c_Mo_read 97 = .ok (.aload_n 0, 1) := by decide +kernel
theorem d_Mo_read_98 : decode c_Mo_read 98 = .ok (.getfield 102, 3) := by decide +kernel
theorem d_Mo_read_101 : decode c_Mo_read 101 = .ok (.iadd, 1) := by decide +kernel
theorem d_Mo_read_102 : decode c_Mo_read 102 = .ok (.bipush 8, 2) := by decide +kernel
theorem d_Mo_read_104 : decode c_Mo_read 104 = .ok (.if_icmp .le 7, 3) := by decide +kernel
theorem d_Mo_read_107 : decode c_Mo_read 107 = .ok (.sipush (-1000), 3) := by decide +kernel
theorem d_Mo_read_110 : decode c_Mo_read 110 = .ok (.ireturn, 1) := by decide +kernel
theorem d_Mo_read_111 : decode c_Mo_read 111 = .ok (.iconst 0, 1) := by decide +kernel
theorem d_Mo_read_112 : decode c_Mo_read 112 = .ok (.istore_n 2, 1) := by decide +kernel
theorem d_Mo_read_113 : decode c_Mo_read 113 = .ok (.iload_n 2, 1) := by decide +kernel
theorem d_Mo_read_114 : decode c_Mo_read 114 = .ok (.aload_n 0, 1) := by decide +kernel
theorem d_Mo_read_115 : decode c_Mo_read 115 = .ok (.getfield 102, 3) := by decide +kernel
theorem d_Mo_read_118 : decode c_Mo_read 118 = .ok (.if_icmp .ge 94, 3) := by decide +kernel
theorem d_Mo_read_121 : decode c_Mo_read 121 = .ok (.bipush 8, 2) := by decide +kernel
theorem d_Mo_read_123 : decode c_Mo_read 123 = .ok (.iload_n 1, 1) := by decide +kernel
theorem d_Mo_read_124 : decode c_Mo_read 124 = .ok (.imul, 1) := by decide +kernel
theorem d_Mo_read_125 : decode c_Mo_read 125 = .ok (.aload_n 0, 1) := by decide +kernel
theorem d_Mo_read_126 : decode c_Mo_read 126 = .ok (.getfield 22, 3) := by decide +kernel
theorem d_Mo_read_129 : decode c_Mo_read 129 = .ok (.iload_n 1, 1) := by decide +kernel
theorem d_Mo_read_130 : decode c_Mo_read 130 = .ok (.iaload, 1) := by decide +kernel
theorem d_Mo_read_131 : decode c_Mo_read 131 = .ok (.iadd, 1) := by decide +kernel
theorem d_Mo_read_132 : decode c_Mo_read 132 = .ok (.iload_n 2, 1) := by decide +kernel
theorem d_Mo_read_133 : decode c_Mo_read 133 = .ok (.iadd, 1) := by decide +kernel
theorem d_Mo_read_134 : decode c_Mo_read 134 = .ok (.istore_n 3, 1) := by decide +kernel
theorem d_Mo_read_135 : decode c_Mo_read 135 = .ok (.aload_n 0, 1) := by decide +kernel
theorem d_Mo_read_136 : decode c_Mo_read 136 = .ok (.getfield 13, 3) := by decide +kernel
theorem d_Mo_read_139 : decode c_Mo_read 139 = .ok (.iload_n 3, 1) := by decide +kernel
theorem d_Mo_read_140 : decode c_Mo_read 140 = .ok (.aload_n 0, 1) := by decide +kernel
theorem d_Mo_read_141 : decode c_Mo_read 141 = .ok (.getfield 37, 3) := by decide +kernel
theorem d_Mo_read_144 : decode c_Mo_read 144 = .ok (.iload_n 2, 1) := by decide +kernel
theorem d_Mo_read_145 : decode c_Mo_read 145 = .ok (.iaload, 1) := by decide +kernel
theorem d_Mo_read_146 : decode c_Mo_read 146 = .ok (.iastore, 1) := by decide +kernel
theorem d_Mo_read_147 : decode c_Mo_read 147 = .ok (.iconst 0, 1) := by decide +kernel
theorem d_Mo_read_148 : decode c_Mo_read 148 = .ok (.istore 4, 2) := by decide +kernel
theorem d_Mo_read_150 : decode c_Mo_read 150 = .ok (.iload 4, 2) := by decide +kernel
theorem d_Mo_read_152 : decode c_Mo_read 152 = .ok (.iconst 4, 1) := by decide +kernel
theorem d_Mo_read_153 : decode c_Mo_read 153 = .ok (.if_icmp .ge 53, 3) := by decide +kernel
theorem d_Mo_read_156 : decode c_Mo_read 156 = .ok (.aload_n 0, 1) := by decide +kernel
theorem d_Mo_read_157 : decode c_Mo_read 157 = .ok (.getfield 16, 3) := by decide +kernel
theorem d_Mo_read_160 : decode c_Mo_read 160 = .ok (.iconst 4, 1) := by decide +kernel
theorem d_Mo_read_161 : decode c_Mo_read 161 = .ok (.iload_n 3, 1) := by decide +kernel
theorem d_Mo_read_162 : decode c_Mo_read 162 = .ok (.imul, 1) := by decide +kernel
theorem d_Mo_read_163 : decode c_Mo_read 163 = .ok (.iload 4, 2) := by decide +kernel
theorem d_Mo_read_165 : decode c_Mo_read 165 = .ok (.iadd, 1) := by decide +kernel
theorem d_Mo_read_166 : decode c_Mo_read 166 = .ok (.aload_n 0, 1) := by decide +kernel
theorem d_Mo_read_167 : decode c_Mo_read 167 = .ok (.getfield 40, 3) := by decide +kernel
theorem d_Mo_read_170 : decode c_Mo_read 170 = .ok (.iconst 4, 1) := by decide +kernel
theorem d_Mo_read_171 : decode c_Mo_read 171 = .ok (.iload_n 2, 1) := by decide +kernel
theorem d_Mo_read_172 : decode c_Mo_read 172 = .ok (.imul, 1) := by decide +kernel
theorem d_Mo_read_173 : decode c_Mo_read 173 = .ok (.iload 4, 2) := by decide +kernel
theorem d_Mo_read_175 : decode c_Mo_read 175 = .ok (.iadd, 1) := by decide +kernel
theorem d_Mo_read_176 : decode c_Mo_read 176 = .ok (.iaload, 1) := by decide +kernel
theorem d_Mo_read_177 : decode c_Mo_read 177 = .ok (.iastore, 1) := by decide +kernel
theorem d_Mo_read_178 : decode c_Mo_read 178 = .ok (.aload_n 0, 1) := by decide +kernel
theorem d_Mo_read_179 : decode c_Mo_read 179 = .ok (.getfield 19, 3) := by decide +kernel
theorem d_Mo_read_182 : decode c_Mo_read 182 = .ok (.iconst 4, 1) := by decide +kernel
theorem d_Mo_read_183 : decode c_Mo_read 183 = .ok (.iload_n 3, 1) := by decide +kernel
theorem d_Mo_read_184 : decode c_Mo_read 184 = .ok (.imul, 1) := by decide +kernel
theorem d_Mo_read_185 : decode c_Mo_read 185 = .ok (.iload 4, 2) := by decide +kernel
theorem d_Mo_read_187 : decode c_Mo_read 187 = .ok (.iadd, 1) := by decide +kernel
theorem d_Mo_read_188 : decode c_Mo_read 188 = .ok (.aload_n 0, 1) := by decide +kernel
theorem d_Mo_read_189 : decode c_Mo_read 189 = .ok (.getfield 43, 3) := by decide +kernel
theorem d_Mo_read_192 : decode c_Mo_read 192 = .ok (.iconst 4, 1) := by decide +kernel
theorem d_Mo_read_193 : decode c_Mo_read 193 = .ok (.iload_n 2, 1) := by decide +kernel
theorem d_Mo_read_194 : decode c_Mo_read 194 = .ok (.imul, 1) := by decide +kernel
theorem d_Mo_read_195 : decode c_Mo_read 195 = .ok (.iload 4, 2) := by decide +kernel
theorem d_Mo_read_197 : decode c_Mo_read 197 = .ok (.iadd, 1) := by decide +kernel
theorem d_Mo_read_198 : decode c_Mo_read 198 = .ok (.iaload, 1) := by decide +kernel
theorem d_Mo_read_199 : decode c_Mo_read 199 = .ok (.iastore, 1) := by decide +kernel
theorem d_Mo_read_200 : decode c_Mo_read 200 = .ok (.iinc 4 1, 3) := by decide +kernel
theorem d_Mo_read_203 : decode c_Mo_read 203 = .ok (.goto (-53), 3) := by decide +kernel
theorem d_Mo_read_206 : decode c_Mo_read 206 = .ok (.iinc 2 1, 3) := by decide +kernel
theorem d_Mo_read_209 : decode c_Mo_read 209 = .ok (.goto (-96), 3) := by decide +kernel
theorem d_Mo_read_212 : decode c_Mo_read 212 = .ok (.aload_n 0, 1) := by decide +kernel
theorem d_Mo_read_213 : decode c_Mo_read 213 = .ok (.getfield 22, 3) := by decide +kernel
theorem d_Mo_read_216 : decode c_Mo_read 216 = .ok (.iload_n 1, 1) := by decide +kernel
theorem d_Mo_read_217 : decode c_Mo_read 217 = .ok (.dup2, 1) := by decide +kernel
theorem d_Mo_read_218 : decode c_Mo_read 218 = .ok (.iaload, 1) := by decide +kernel
theorem d_Mo_read_219 : decode c_Mo_read 219 = .ok (.aload_n 0, 1) := by decide +kernel
theorem d_Mo_read_220 : decode c_Mo_read 220 = .ok (.getfield 102, 3) := by decide +kernel
theorem d_Mo_read_223 : decode c_Mo_read 223 = .ok (.iadd, 1) := by decide +kernel
theorem d_Mo_read_224 : decode c_Mo_read 224 = .ok (.iastore, 1) := by decide +kernel
theorem d_Mo_read_225 : decode c_Mo_read 225 = .ok (.aload_n 0, 1) := by decide +kernel
theorem d_Mo_read_226 : decode c_Mo_read 226 = .ok (.getfield 102, 3) := by decide +kernel
theorem d_Mo_read_229 : decode c_Mo_read 229 = .ok (.ireturn, 1) := by decide +kernel
theorem d_Mo_in_0 : decode c_Mo_in 0 = .ok (.iload_n 0, 1) := by decide +kernel
theorem d_Mo_in_1 : decode c_Mo_in 1 = .ok (.iload_n 1, 1) := by decide +kernel
theorem d_Mo_in_2 : decode c_Mo_in 2 = .ok (.if_icmp .lt 12, 3) := by decide +kernel
theorem d_Mo_in_5 : decode c_Mo_in 5 = .ok (.iload_n 0, 1) := by decide +kernel
theorem d_Mo_in_6 : decode c_Mo_in 6 = .ok (.iload_n 2, 1) := by decide +kernel
theorem d_Mo_in_7 : decode c_Mo_in 7 = .ok (.if_icmp .gt 7, 3) := by decide +kernel
theorem d_Mo_in_10 : decode c_Mo_in 10 = .ok (.iconst 1, 1) := by decide +kernel
theorem d_Mo_in_11 : decode c_Mo_in 11 = .ok (.goto 4, 3) := by decide +kernel
theorem d_Mo_in_14 : decode c_Mo_in 14 = .ok (.iconst 0, 1) := by decide +kernel
theorem d_Mo_in_15 : decode c_Mo_in 15 = .ok (.ireturn, 1) := by decide +kernel
theorem d_Mo_blanks_0 : decode c_Mo_blanks 0 = .ok (.aload_n 0, 1) := by decide +kernel
theorem d_Mo_blanks_1 : decode c_Mo_blanks 1 = .ok (.aload_n 0, 1) := by decide +kernel
theorem d_Mo_blanks_2 : decode c_Mo_blanks 2 = .ok (.getfield 61, 3) := by decide +kernel
theorem d_Mo_blanks_5 : decode c_Mo_blanks 5 = .ok (.invokevirtual 64, 3) := by decide +kernel
theorem d_Mo_blanks_8 : decode c_Mo_blanks 8 = .ok (.bipush 32, 2) := by decide +kernel
theorem d_Mo_blanks_10 : decode c_Mo_blanks 10 = .ok (.if_icmp .eq 16, 3) := by decide +kernel
theorem d_Mo_blanks_13 : decode c_Mo_blanks 13 = .ok (.aload_n 0, 1) := by decide +kernel
theorem d_Mo_blanks_14 : decode c_Mo_blanks 14 = .ok (.aload_n 0, 1) := by decide +kernel
theorem d_Mo_blanks_15 : decode c_Mo_blanks 15 = .ok (.getfield 61, 3) := by decide +kernel
theorem d_Mo_blanks_18 : decode c_Mo_blanks 18 = .ok (.invokevirtual 64, 3) := by decide +kernel
theorem d_Mo_blanks_21 : decode c_Mo_blanks 21 = .ok (.bipush 10, 2) := by decide +kernel
theorem d_Mo_blanks_23 : decode c_Mo_blanks 23 = .ok (.if_icmp .ne 16, 3) := by decide +kernel
theorem d_Mo_blanks_26 : decode c_Mo_blanks 26 = .ok (.aload_n 0, 1) := by decide +kernel
theorem d_Mo_blanks_27 : decode c_Mo_blanks 27 = .ok (.dup, 1) := by decide +kernel
theorem d_Mo_blanks_28 : decode c_Mo_blanks 28 = .ok (.getfield 61, 3) := by decide +kernel
theorem d_Mo_blanks_31 : decode c_Mo_blanks 31 = .ok (.iconst 1, 1) := by decide +kernel
theorem d_Mo_blanks_32 : decode c_Mo_blanks 32 = .ok (.iadd, 1) := by decide +kernel
theorem d_Mo_blanks_33 : decode c_Mo_blanks 33 = .ok (.putfield 61, 3) := by decide +kernel
theorem d_Mo_blanks_36 : decode c_Mo_blanks 36 = .ok (.goto (-36), 3) := by decide +kernel
theorem d_Mo_blanks_39 : decode c_Mo_blanks 39 = .ok (.return_, 1) := by decide +kernel
theorem d_Mo_sign_0 : decode c_Mo_sign 0 = .ok (.iload_n 1, 1) := by decide +kernel
theorem d_Mo_sign_1 : decode c_Mo_sign 1 = .ok (.aload_n 0, 1) := by decide +kernel
theorem d_Mo_sign_2 : decode c_Mo_sign 2 = .ok (.getfield 54, 3) := by decide +kernel
theorem d_Mo_sign_5 : decode c_Mo_sign 5 = .ok (.if_icmp .ge 12, 3) := by decide +kernel
theorem d_Mo_sign_8 : decode c_Mo_sign 8 = .ok (.aload_n 0, 1) := by decide +kernel
theorem d_Mo_sign_9 : decode c_Mo_sign 9 = .ok (.getfield 7, 3) := by decide +kernel
theorem d_Mo_sign_12 : decode c_Mo_sign 12 = .ok (.iload_n 1, 1) := by decide +kernel
theorem d_Mo_sign_13 : decode c_Mo_sign 13 = .ok (.iaload, 1) := by decide +kernel
theorem d_Mo_sign_14 : decode c_Mo_sign 14 = .ok (.goto 4, 3) := by decide +kernel
theorem d_Mo_sign_17 : decode c_Mo_sign 17 = .ok (.iconst 0, 1) := by decide +kernel
theorem d_Mo_sign_18 : decode c_Mo_sign 18 = .ok (.ireturn, 1) := by decide +kernel
theorem d_Mo_readRule_0 : decode c_Mo_readRule 0 = .ok (.aload_n 0, 1) := by decide +kernel
theorem d_Mo_readRule_1 : decode c_Mo_readRule 1 = .ok (.getfield 61, 3) := by decide +kernel
theorem d_Mo_readRule_4 : decode c_Mo_readRule 4 = .ok (.istore_n 1, 1) := by decide +kernel
theorem d_Mo_readRule_5 : decode c_Mo_readRule 5 = .ok (.aload_n 0, 1) := by decide +kernel
theorem d_Mo_readRule_6 : decode c_Mo_readRule 6 = .ok (.invokevirtual 88, 3) := by decide +kernel
theorem d_Mo_readRule_9 : decode c_Mo_readRule 9 = .ok (.invokestatic 99, 3) := by decide +kernel
theorem d_Mo_readRule_12 : decode c_Mo_readRule 12 = .ok (.istore_n 2, 1) := by decide +kernel
theorem d_Mo_readRule_13 : decode c_Mo_readRule 13 = .ok (.iload_n 2, 1) := by decide +kernel
theorem d_Mo_readRule_14 : decode c_Mo_readRule 14 = .ok (.ifCond .ge 9, 3) := by decide +kernel
theorem d_Mo_readRule_17 : decode c_Mo_readRule 17 = .ok (.aload_n 0, 1) := by decide +kernel
theorem d_Mo_readRule_18 : decode c_Mo_readRule 18 = .ok (.iload_n 1, 1) := by decide +kernel
theorem d_Mo_readRule_19 : decode c_Mo_readRule 19 = .ok (.invokevirtual 84, 3) := by decide +kernel
theorem d_Mo_readRule_22 : decode c_Mo_readRule 22 = .ok (.return_, 1) := by decide +kernel
theorem d_Mo_readRule_23 : decode c_Mo_readRule 23 = .ok (.aload_n 0, 1) := by decide +kernel
theorem d_Mo_readRule_24 : decode c_Mo_readRule 24 = .ok (.getfield 102, 3) := by decide +kernel
theorem d_Mo_readRule_27 : decode c_Mo_readRule 27 = .ok (.bipush 8, 2) := by decide +kernel
theorem d_Mo_readRule_29 : decode c_Mo_readRule 29 = .ok (.if_icmp .ge 10, 3) := by decide +kernel
theorem d_Mo_readRule_32 : decode c_Mo_readRule 32 = .ok (.aload_n 0, 1) := by decide +kernel
theorem d_Mo_readRule_33 : decode c_Mo_readRule 33 = .ok (.getfield 102, 3) := by decide +kernel
theorem d_Mo_readRule_36 : decode c_Mo_readRule 36 = .ok (.goto 5, 3) := by decide +kernel
theorem d_Mo_readRule_39 : decode c_Mo_readRule 39 = .ok (.bipush 7, 2) := by decide +kernel
theorem d_Mo_readRule_41 : decode c_Mo_readRule 41 = .ok (.istore_n 3, 1) := by decide +kernel
theorem d_Mo_readRule_42 : decode c_Mo_readRule 42 = .ok (.aload_n 0, 1) := by decide +kernel
theorem d_Mo_readRule_43 : decode c_Mo_readRule 43 = .ok (.getfield 37, 3) := by decide +kernel
theorem d_Mo_readRule_46 : decode c_Mo_readRule 46 = .ok (.iload_n 3, 1) := by decide +kernel
theorem d_Mo_readRule_47 : decode c_Mo_readRule 47 = .ok (.iload_n 2, 1) := by decide +kernel
theorem d_Mo_readRule_48 : decode c_Mo_readRule 48 = .ok (.iastore, 1) := by decide +kernel
theorem d_Mo_readRule_49 : decode c_Mo_readRule 49 = .ok (.aload_n 0, 1) := by decide +kernel
theorem d_Mo_readRule_50 : decode c_Mo_readRule 50 = .ok (.dup, 1) := by decide +kernel
theorem d_Mo_readRule_51 : decode c_Mo_readRule 51 = .ok (.getfield 102, 3) := by decide +kernel
theorem d_Mo_readRule_54 : decode c_Mo_readRule 54 = .ok (.iconst 1, 1) := by decide +kernel
theorem d_Mo_readRule_55 : decode c_Mo_readRule 55 = .ok (.iadd, 1) := by decide +kernel
theorem d_Mo_readRule_56 : decode c_Mo_readRule 56 = .ok (.putfield 102, 3) := by decide +kernel
theorem d_Mo_readRule_59 : decode c_Mo_readRule 59 = .ok (.iconst 0, 1) := by decide +kernel
theorem d_Mo_readRule_60 : decode c_Mo_readRule 60 = .ok (.istore 4, 2) := by decide +kernel
theorem d_Mo_readRule_62 : decode c_Mo_readRule 62 = .ok (.iconst 0, 1) := by decide +kernel
theorem d_Mo_readRule_63 : decode c_Mo_readRule 63 = .ok (.istore 5, 2) := by decide +kernel
theorem d_Mo_readRule_65 : decode c_Mo_readRule 65 = .ok (.iload 5, 2) := by decide +kernel
theorem d_Mo_readRule_67 : decode c_Mo_readRule 67 = .ok (.iconst 4, 1) := by decide +kernel
theorem d_Mo_readRule_68 : decode c_Mo_readRule 68 = .ok (.if_icmp .ge 37, 3) := by decide +kernel
theorem d_Mo_readRule_71 : decode c_Mo_readRule 71 = .ok (.aload_n 0, 1) := by decide +kernel
theorem d_Mo_readRule_72 : decode c_Mo_readRule 72 = .ok (.getfield 40, 3) := by decide +kernel
theorem d_Mo_readRule_75 : decode c_Mo_readRule 75 = .ok (.iconst 4, 1) := by decide +kernel
theorem d_Mo_readRule_76 : decode c_Mo_readRule 76 = .ok (.iload_n 3, 1) := by decide +kernel
theorem d_Mo_readRule_77 : decode c_Mo_readRule 77 = .ok (.imul, 1) := by decide +kernel
theorem d_Mo_readRule_78 : decode c_Mo_readRule 78 = .ok (.iload 5, 2) := by decide +kernel
theorem d_Mo_readRule_80 : decode c_Mo_readRule 80 = .ok (.iadd, 1) := by decide +kernel
theorem d_Mo_readRule_81 : decode c_Mo_readRule 81 = .ok (.iconst 0, 1) := by decide +kernel
theorem d_Mo_readRule_82 : decode c_Mo_readRule 82 = .ok (.iastore, 1) := by decide +kernel
theorem d_Mo_readRule_83 : decode c_Mo_readRule 83 = .ok (.aload_n 0, 1) := by decide +kernel
theorem d_Mo_readRule_84 : decode c_Mo_readRule 84 = .ok (.getfield 43, 3) := by decide +kernel
theorem d_Mo_readRule_87 : decode c_Mo_readRule 87 = .ok (.iconst 4, 1) := by decide +kernel
theorem d_Mo_readRule_88 : decode c_Mo_readRule 88 = .ok (.iload_n 3, 1) := by decide +kernel
theorem d_Mo_readRule_89 : decode c_Mo_readRule 89 = .ok (.imul, 1) := by decide +kernel
theorem d_Mo_readRule_90 : decode c_Mo_readRule 90 = .ok (.iload 5, 2) := by decide +kernel
theorem d_Mo_readRule_92 : decode c_Mo_readRule 92 = .ok (.iadd, 1) := by decide +kernel
theorem d_Mo_readRule_93 : decode c_Mo_readRule 93 = .ok (.iload 5, 2) := by decide +kernel
theorem d_Mo_readRule_95 : decode c_Mo_readRule 95 = .ok (.invokestatic 92, 3) := by decide +kernel
theorem d_Mo_readRule_98 : decode c_Mo_readRule 98 = .ok (.iastore, 1) := by decide +kernel
theorem d_Mo_readRule_99 : decode c_Mo_readRule 99 = .ok (.iinc 5 1, 3) := by decide +kernel
theorem d_Mo_readRule_102 : decode c_Mo_readRule 102 = .ok (.goto (-37), 3) := by decide +kernel
theorem d_Mo_readRule_105 : decode c_Mo_readRule 105 = .ok (.aload_n 0, 1) := by decide +kernel
theorem d_Mo_readRule_106 : decode c_Mo_readRule 106 = .ok (.invokevirtual 78, 3) := by decide +kernel
theorem d_Mo_readRule_109 : decode c_Mo_readRule 109 = .ok (.aload_n 0, 1) := by decide +kernel
theorem d_Mo_readRule_110 : decode c_Mo_readRule 110 = .ok (.getfield 67, 3) := by decide +kernel
theorem d_Mo_readRule_113 : decode c_Mo_readRule 113 = .ok (.ifCond .ge 79, 3) := by decide +kernel
theorem d_Mo_readRule_116 : decode c_Mo_readRule 116 = .ok (.aload_n 0, 1) := by decide +kernel
theorem d_Mo_readRule_117 : decode c_Mo_readRule 117 = .ok (.aload_n 0, 1) := by decide +kernel
theorem d_Mo_readRule_118 : decode c_Mo_readRule 118 = .ok (.getfield 61, 3) := by decide +kernel
theorem d_Mo_readRule_121 : decode c_Mo_readRule 121 = .ok (.invokevirtual 64, 3) := by decide +kernel
theorem d_Mo_readRule_124 : decode c_Mo_readRule 124 = .ok (.bipush 59, 2) := by decide +kernel
theorem d_Mo_readRule_126 : decode c_Mo_readRule 126 = .ok (.if_icmp .eq 66, 3) := by decide +kernel
theorem d_Mo_readRule_129 : decode c_Mo_readRule 129 = .ok (.aload_n 0, 1) := by decide +kernel
theorem d_Mo_readRule_130 : decode c_Mo_readRule 130 = .ok (.getfield 61, 3) := by decide +kernel
theorem d_Mo_readRule_133 : decode c_Mo_readRule 133 = .ok (.istore 5, 2) := by decide +kernel
theorem d_Mo_readRule_135 : decode c_Mo_readRule 135 = .ok (.aload_n 0, 1) := by decide +kernel
theorem d_Mo_readRule_136 : decode c_Mo_readRule 136 = .ok (.invokevirtual 88, 3) := by decide +kernel
theorem d_Mo_readRule_139 : decode c_Mo_readRule 139 = .ok (.invokestatic 105, 3) := by decide +kernel
theorem d_Mo_readRule_142 : decode c_Mo_readRule 142 = .ok (.istore 6, 2) := by decide +kernel
theorem d_Mo_readRule_144 : decode c_Mo_readRule 144 = .ok (.iload 6, 2) := by decide +kernel
theorem d_Mo_readRule_146 : decode c_Mo_readRule 146 = .ok (.ifCond .lt 14, 3) := by decide +kernel
theorem d_Mo_readRule_149 : decode c_Mo_readRule 149 = .ok (.iload 4, 2) := by decide +kernel
theorem d_Mo_readRule_151 : decode c_Mo_readRule 151 = .ok (.iload 6, 2) := by decide +kernel
theorem d_Mo_readRule_153 : decode c_Mo_readRule 153 = .ok (.ishr, 1) := by decide +kernel
theorem d_Mo_readRule_154 : decode c_Mo_readRule 154 = .ok (.iconst 1, 1) := by decide +kernel
theorem d_Mo_readRule_155 : decode c_Mo_readRule 155 = .ok (.iand, 1) := by decide +kernel
theorem d_Mo_readRule_156 : decode c_Mo_readRule 156 = .ok (.iconst 1, 1) := by decide +kernel
theorem d_Mo_readRule_157 : decode c_Mo_readRule 157 = .ok (.if_icmp .ne 12, 3) := by decide +kernel
theorem d_Mo_readRule_160 : decode c_Mo_readRule 160 = .ok (.aload_n 0, 1) := by decide +kernel
theorem d_Mo_readRule_161 : decode c_Mo_readRule 161 = .ok (.iload 5, 2) := by decide +kernel
theorem d_Mo_readRule_163 : decode c_Mo_readRule 163 = .ok (.invokevirtual 84, 3) := by decide +kernel
theorem d_Mo_readRule_166 : decode c_Mo_readRule 166 = .ok (.goto 23, 3) := by decide +kernel
theorem d_Mo_readRule_169 : decode c_Mo_readRule 169 = .ok (.iload 4, 2) := by decide +kernel
theorem d_Mo_readRule_171 : decode c_Mo_readRule 171 = .ok (.iconst 1, 1) := by decide +kernel
theorem d_Mo_readRule_172 : decode c_Mo_readRule 172 = .ok (.iload 6, 2) := by decide +kernel
theorem d_Mo_readRule_174 : decode c_Mo_readRule 174 = .ok (.ishl, 1) := by decide +kernel
theorem d_Mo_readRule_175 : decode c_Mo_readRule 175 = .ok (.ior, 1) := by decide +kernel
theorem d_Mo_readRule_176 : decode c_Mo_readRule 176 = .ok (.istore 4, 2) := by decide +kernel
theorem d_Mo_readRule_178 : decode c_Mo_readRule 178 = .ok (.aload_n 0, 1) := by decide +kernel
theorem d_Mo_readRule_179 : decode c_Mo_readRule 179 = .ok (.iload_n 3, 1) := by decide +kernel
theorem d_Mo_readRule_180 : decode c_Mo_readRule 180 = .ok (.iload 6, 2) := by decide +kernel
theorem d_Mo_readRule_182 : decode c_Mo_readRule 182 = .ok (.invokevirtual 108, 3) := by decide +kernel
theorem d_Mo_readRule_185 : decode c_Mo_readRule 185 = .ok (.aload_n 0, 1) := by decide +kernel
theorem d_Mo_readRule_186 : decode c_Mo_readRule 186 = .ok (.invokevirtual 78, 3) := by decide +kernel
theorem d_Mo_readRule_189 : decode c_Mo_readRule 189 = .ok (.goto (-80), 3) := by decide +kernel
theorem d_Mo_readRule_192 : decode c_Mo_readRule 192 = .ok (.aload_n 0, 1) := by decide +kernel
theorem d_Mo_readRule_193 : decode c_Mo_readRule 193 = .ok (.dup, 1) := by decide +kernel
theorem d_Mo_readRule_194 : decode c_Mo_readRule 194 = .ok (.getfield 61, 3) := by decide +kernel
theorem d_Mo_readRule_197 : decode c_Mo_readRule 197 = .ok (.iconst 1, 1) := by decide +kernel
theorem d_Mo_readRule_198 : decode c_Mo_readRule 198 = .ok (.iadd, 1) := by decide +kernel
theorem d_Mo_readRule_199 : decode c_Mo_readRule 199 = .ok (.putfield 61, 3) := by decide +kernel
theorem d_Mo_readRule_202 : decode c_Mo_readRule 202 = .ok (.return_, 1) := by decide +kernel
theorem d_Mo_word_0 : decode c_Mo_word 0 = .ok (.iconst 0, 1) := by decide +kernel
theorem d_Mo_word_1 : decode c_Mo_word 1 = .ok (.istore_n 1, 1) := by decide +kernel
theorem d_Mo_word_2 : decode c_Mo_word 2 = .ok (.iconst 0, 1) := by decide +kernel
theorem d_Mo_word_3 : decode c_Mo_word 3 = .ok (.istore_n 2, 1) := by decide +kernel
theorem d_Mo_word_4 : decode c_Mo_word 4 = .ok (.aload_n 0, 1) := by decide +kernel
theorem d_Mo_word_5 : decode c_Mo_word 5 = .ok (.aload_n 0, 1) := by decide +kernel
theorem d_Mo_word_6 : decode c_Mo_word 6 = .ok (.getfield 61, 3) := by decide +kernel
theorem d_Mo_word_9 : decode c_Mo_word 9 = .ok (.invokevirtual 64, 3) := by decide +kernel
theorem d_Mo_word_12 : decode c_Mo_word 12 = .ok (.invokestatic 70, 3) := by decide +kernel
theorem d_Mo_word_15 : decode c_Mo_word 15 = .ok (.ifCond .eq 45, 3) := by decide +kernel
theorem d_Mo_word_18 : decode c_Mo_word 18 = .ok (.iinc 2 1, 3) := by decide +kernel
theorem d_Mo_word_21 : decode c_Mo_word 21 = .ok (.iload_n 2, 1) := by decide +kernel
theorem d_Mo_word_22 : decode c_Mo_word 22 = .ok (.iconst 5, 1) := by decide +kernel
theorem d_Mo_word_23 : decode c_Mo_word 23 = .ok (.if_icmp .le 7, 3) := by decide +kernel
theorem d_Mo_word_26 : decode c_Mo_word 26 = .ok (.iconst 0, 1) := by decide +kernel
theorem d_Mo_word_27 : decode c_Mo_word 27 = .ok (.goto 19, 3) := by decide +kernel
theorem d_Mo_word_30 : decode c_Mo_word 30 = .ok (.iload_n 1, 1) := by decide +kernel
theorem d_Mo_word_31 : decode c_Mo_word 31 = .ok (.bipush 32, 2) := by decide +kernel
theorem d_Mo_word_33 : decode c_Mo_word 33 = .ok (.imul, 1) := by decide +kernel
theorem d_Mo_word_34 : decode c_Mo_word 34 = .ok (.aload_n 0, 1) := by decide +kernel
theorem d_Mo_word_35 : decode c_Mo_word 35 = .ok (.aload_n 0, 1) := by decide +kernel
theorem d_Mo_word_36 : decode c_Mo_word 36 = .ok (.getfield 61, 3) := by decide +kernel
theorem d_Mo_word_39 : decode c_Mo_word 39 = .ok (.invokevirtual 64, 3) := by decide +kernel
theorem d_Mo_word_42 : decode c_Mo_word 42 = .ok (.iadd, 1) := by decide +kernel
theorem d_Mo_word_43 : decode c_Mo_word 43 = .ok (.bipush 96, 2) := by decide +kernel
theorem d_Mo_word_45 : decode c_Mo_word 45 = .ok (.isub, 1) := by decide +kernel
theorem d_Mo_word_46 : decode c_Mo_word 46 = .ok (.istore_n 1, 1) := by decide +kernel
theorem d_Mo_word_47 : decode c_Mo_word 47 = .ok (.aload_n 0, 1) := by decide +kernel
theorem d_Mo_word_48 : decode c_Mo_word 48 = .ok (.dup, 1) := by decide +kernel
theorem d_Mo_word_49 : decode c_Mo_word 49 = .ok (.getfield 61, 3) := by decide +kernel
theorem d_Mo_word_52 : decode c_Mo_word 52 = .ok (.iconst 1, 1) := by decide +kernel
theorem d_Mo_word_53 : decode c_Mo_word 53 = .ok (.iadd, 1) := by decide +kernel
theorem d_Mo_word_54 : decode c_Mo_word 54 = .ok (.putfield 61, 3) := by decide +kernel
theorem d_Mo_word_57 : decode c_Mo_word 57 = .ok (.goto (-53), 3) := by decide +kernel
theorem d_Mo_word_60 : decode c_Mo_word 60 = .ok (.iload_n 2, 1) := by decide +kernel
theorem d_Mo_word_61 : decode c_Mo_word 61 = .ok (.iconst 5, 1) := by decide +kernel
theorem d_Mo_word_62 : decode c_Mo_word 62 = .ok (.if_icmp .le 7, 3) := by decide +kernel
theorem d_Mo_word_65 : decode c_Mo_word 65 = .ok (.iconst 0, 1) := by decide +kernel
theorem d_Mo_word_66 : decode c_Mo_word 66 = .ok (.goto 4, 3) := by decide +kernel
theorem d_Mo_word_69 : decode c_Mo_word 69 = .ok (.iload_n 1, 1) := by decide +kernel
theorem d_Mo_word_70 : decode c_Mo_word 70 = .ok (.ireturn, 1) := by decide +kernel
theorem d_Mo_isLetter_0 : decode c_Mo_isLetter 0 = .ok (.iload_n 0, 1) := by decide +kernel
theorem d_Mo_isLetter_1 : decode c_Mo_isLetter 1 = .ok (.bipush 97, 2) := by decide +kernel
theorem d_Mo_isLetter_3 : decode c_Mo_isLetter 3 = .ok (.if_icmp .lt 13, 3) := by decide +kernel
theorem d_Mo_isLetter_6 : decode c_Mo_isLetter 6 = .ok (.iload_n 0, 1) := by decide +kernel
theorem d_Mo_isLetter_7 : decode c_Mo_isLetter 7 = .ok (.bipush 122, 2) := by decide +kernel
theorem d_Mo_isLetter_9 : decode c_Mo_isLetter 9 = .ok (.if_icmp .gt 7, 3) := by decide +kernel
theorem d_Mo_isLetter_12 : decode c_Mo_isLetter 12 = .ok (.iconst 1, 1) := by decide +kernel
theorem d_Mo_isLetter_13 : decode c_Mo_isLetter 13 = .ok (.goto 4, 3) := by decide +kernel
theorem d_Mo_isLetter_16 : decode c_Mo_isLetter 16 = .ok (.iconst 0, 1) := by decide +kernel
theorem d_Mo_isLetter_17 : decode c_Mo_isLetter 17 = .ok (.ireturn, 1) := by decide +kernel
theorem d_Mo_verdictOf_0 : decode c_Mo_verdictOf 0 = .ok (.iload_n 0, 1) := by decide +kernel
theorem d_Mo_verdictOf_1 : decode c_Mo_verdictOf 1 = .ok (.bipush 100, 2) := by decide +kernel
theorem d_Mo_verdictOf_3 : decode c_Mo_verdictOf 3 = .ok (.bipush 101, 2) := by decide +kernel
theorem d_Mo_verdictOf_5 : decode c_Mo_verdictOf 5 = .ok (.bipush 110, 2) := by decide +kernel
theorem d_Mo_verdictOf_7 : decode c_Mo_verdictOf 7 = .ok (.bipush 121, 2) := by decide +kernel
theorem d_Mo_verdictOf_9 : decode c_Mo_verdictOf 9 = .ok (.iconst 0, 1) := by decide +kernel
theorem d_Mo_verdictOf_10 : decode c_Mo_verdictOf 10 = .ok (.invokestatic 74, 3) := by decide +kernel
theorem d_Mo_verdictOf_13 : decode c_Mo_verdictOf 13 = .ok (.if_icmp .ne 7, 3) := by decide +kernel
theorem d_Mo_verdictOf_16 : decode c_Mo_verdictOf 16 = .ok (.iconst 0, 1) := by decide +kernel
theorem d_Mo_verdictOf_17 : decode c_Mo_verdictOf 17 = .ok (.goto 44, 3) := by decide +kernel
theorem d_Mo_verdictOf_20 : decode c_Mo_verdictOf 20 = .ok (.iload_n 0, 1) := by decide +kernel
theorem d_Mo_verdictOf_21 : decode c_Mo_verdictOf 21 = .ok (.bipush 97, 2) := by decide +kernel
theorem d_Mo_verdictOf_23 : decode c_Mo_verdictOf 23 = .ok (.bipush 108, 2) := by decide +kernel
theorem d_Mo_verdictOf_25 : decode c_Mo_verdictOf 25 = .ok (.bipush 108, 2) := by decide +kernel
theorem d_Mo_verdictOf_27 : decode c_Mo_verdictOf 27 = .ok (.bipush 111, 2) := by decide +kernel
theorem d_Mo_verdictOf_29 : decode c_Mo_verdictOf 29 = .ok (.bipush 119, 2) := by decide +kernel
theorem d_Mo_verdictOf_31 : decode c_Mo_verdictOf 31 = .ok (.invokestatic 74, 3) := by decide +kernel
theorem d_Mo_verdictOf_34 : decode c_Mo_verdictOf 34 = .ok (.if_icmp .ne 7, 3) := by decide +kernel
theorem d_Mo_verdictOf_37 : decode c_Mo_verdictOf 37 = .ok (.iconst 1, 1) := by decide +kernel
theorem d_Mo_verdictOf_38 : decode c_Mo_verdictOf 38 = .ok (.goto 23, 3) := by decide +kernel
theorem d_Mo_verdictOf_41 : decode c_Mo_verdictOf 41 = .ok (.iload_n 0, 1) := by decide +kernel
theorem d_Mo_verdictOf_42 : decode c_Mo_verdictOf 42 = .ok (.bipush 108, 2) := by decide +kernel
theorem d_Mo_verdictOf_44 : decode c_Mo_verdictOf 44 = .ok (.bipush 111, 2) := by decide +kernel
theorem d_Mo_verdictOf_46 : decode c_Mo_verdictOf 46 = .ok (.bipush 103, 2) := by decide +kernel
theorem d_Mo_verdictOf_48 : decode c_Mo_verdictOf 48 = .ok (.iconst 0, 1) := by decide +kernel
theorem d_Mo_verdictOf_49 : decode c_Mo_verdictOf 49 = .ok (.iconst 0, 1) := by decide +kernel
theorem d_Mo_verdictOf_50 : decode c_Mo_verdictOf 50 = .ok (.invokestatic 74, 3) := by decide +kernel
theorem d_Mo_verdictOf_53 : decode c_Mo_verdictOf 53 = .ok (.if_icmp .ne 7, 3) := by decide +kernel
theorem d_Mo_verdictOf_56 : decode c_Mo_verdictOf 56 = .ok (.iconst 2, 1) := by decide +kernel
theorem d_Mo_verdictOf_57 : decode c_Mo_verdictOf 57 = .ok (.goto 4, 3) := by decide +kernel
theorem d_Mo_verdictOf_60 : decode c_Mo_verdictOf 60 = .ok (.iconst (-1), 1) := by decide +kernel
theorem d_Mo_verdictOf_61 : decode c_Mo_verdictOf 61 = .ok (.ireturn, 1) := by decide +kernel
theorem d_Mo_spell_0 : decode c_Mo_spell 0 = .ok (.iconst 0, 1) := by decide +kernel
theorem d_Mo_spell_1 : decode c_Mo_spell 1 = .ok (.istore 5, 2) := by decide +kernel
theorem d_Mo_spell_3 : decode c_Mo_spell 3 = .ok (.iload_n 0, 1) := by decide +kernel
theorem d_Mo_spell_4 : decode c_Mo_spell 4 = .ok (.ifCond .le 16, 3) := by decide +kernel
theorem d_Mo_spell_7 : decode c_Mo_spell 7 = .ok (.iload 5, 2) := by decide +kernel
theorem d_Mo_spell_9 : decode c_Mo_spell 9 = .ok (.bipush 32, 2) := by decide +kernel
theorem d_Mo_spell_11 : decode c_Mo_spell 11 = .ok (.imul, 1) := by decide +kernel
theorem d_Mo_spell_12 : decode c_Mo_spell 12 = .ok (.iload_n 0, 1) := by decide +kernel
theorem d_Mo_spell_13 : decode c_Mo_spell 13 = .ok (.iadd, 1) := by decide +kernel
theorem d_Mo_spell_14 : decode c_Mo_spell 14 = .ok (.bipush 96, 2) := by decide +kernel
theorem d_Mo_spell_16 : decode c_Mo_spell 16 = .ok (.isub, 1) := by decide +kernel
theorem d_Mo_spell_17 : decode c_Mo_spell 17 = .ok (.goto 5, 3) := by decide +kernel
theorem d_Mo_spell_20 : decode c_Mo_spell 20 = .ok (.iload 5, 2) := by decide +kernel
theorem d_Mo_spell_22 : decode c_Mo_spell 22 = .ok (.istore 5, 2) := by decide +kernel
theorem d_Mo_spell_24 : decode c_Mo_spell 24 = .ok (.iload_n 1, 1) := by decide +kernel
theorem d_Mo_spell_25 : decode c_Mo_spell 25 = .ok (.ifCond .le 16, 3) := by decide +kernel
theorem d_Mo_spell_28 : decode c_Mo_spell 28 = .ok (.iload 5, 2) := by decide +kernel
theorem d_Mo_spell_30 : decode c_Mo_spell 30 = .ok (.bipush 32, 2) := by decide +kernel
theorem d_Mo_spell_32 : decode c_Mo_spell 32 = .ok (.imul, 1) := by decide +kernel
theorem d_Mo_spell_33 : decode c_Mo_spell 33 = .ok (.iload_n 1, 1) := by decide +kernel
theorem d_Mo_spell_34 : decode c_Mo_spell 34 = .ok (.iadd, 1) := by decide +kernel
theorem d_Mo_spell_35 : decode c_Mo_spell 35 = .ok (.bipush 96, 2) := by decide +kernel
theorem d_Mo_spell_37 : decode c_Mo_spell 37 = .ok (.isub, 1) := by decide +kernel
theorem d_Mo_spell_38 : decode c_Mo_spell 38 = .ok (.goto 5, 3) := by decide +kernel
theorem d_Mo_spell_41 : decode c_Mo_spell 41 = .ok (.iload 5, 2) := by decide +kernel
theorem d_Mo_spell_43 : decode c_Mo_spell 43 = .ok (.istore 5, 2) := by decide +kernel
theorem d_Mo_spell_45 : decode c_Mo_spell 45 = .ok (.iload_n 2, 1) := by decide +kernel
theorem d_Mo_spell_46 : decode c_Mo_spell 46 = .ok (.ifCond .le 16, 3) := by decide +kernel
theorem d_Mo_spell_49 : decode c_Mo_spell 49 = .ok (.iload 5, 2) := by decide +kernel
theorem d_Mo_spell_51 : decode c_Mo_spell 51 = .ok (.bipush 32, 2) := by decide +kernel
theorem d_Mo_spell_53 : decode c_Mo_spell 53 = .ok (.imul, 1) := by decide +kernel
theorem d_Mo_spell_54 : decode c_Mo_spell 54 = .ok (.iload_n 2, 1) := by decide +kernel
theorem d_Mo_spell_55 : decode c_Mo_spell 55 = .ok (.iadd, 1) := by decide +kernel
theorem d_Mo_spell_56 : decode c_Mo_spell 56 = .ok (.bipush 96, 2) := by decide +kernel
theorem d_Mo_spell_58 : decode c_Mo_spell 58 = .ok (.isub, 1) := by decide +kernel
theorem d_Mo_spell_59 : decode c_Mo_spell 59 = .ok (.goto 5, 3) := by decide +kernel
theorem d_Mo_spell_62 : decode c_Mo_spell 62 = .ok (.iload 5, 2) := by decide +kernel
theorem d_Mo_spell_64 : decode c_Mo_spell 64 = .ok (.istore 5, 2) := by decide +kernel
theorem d_Mo_spell_66 : decode c_Mo_spell 66 = .ok (.iload_n 3, 1) := by decide +kernel
theorem d_Mo_spell_67 : decode c_Mo_spell 67 = .ok (.ifCond .le 16, 3) := by decide +kernel
theorem d_Mo_spell_70 : decode c_Mo_spell 70 = .ok (.iload 5, 2) := by decide +kernel
theorem d_Mo_spell_72 : decode c_Mo_spell 72 = .ok (.bipush 32, 2) := by decide +kernel
theorem d_Mo_spell_74 : decode c_Mo_spell 74 = .ok (.imul, 1) := by decide +kernel
theorem d_Mo_spell_75 : decode c_Mo_spell 75 = .ok (.iload_n 3, 1) := by decide +kernel
theorem d_Mo_spell_76 : decode c_Mo_spell 76 = .ok (.iadd, 1) := by decide +kernel
theorem d_Mo_spell_77 : decode c_Mo_spell 77 = .ok (.bipush 96, 2) := by decide +kernel
theorem d_Mo_spell_79 : decode c_Mo_spell 79 = .ok (.isub, 1) := by decide +kernel
theorem d_Mo_spell_80 : decode c_Mo_spell 80 = .ok (.goto 5, 3) := by decide +kernel
theorem d_Mo_spell_83 : decode c_Mo_spell 83 = .ok (.iload 5, 2) := by decide +kernel
theorem d_Mo_spell_85 : decode c_Mo_spell 85 = .ok (.istore 5, 2) := by decide +kernel
theorem d_Mo_spell_87 : decode c_Mo_spell 87 = .ok (.iload 4, 2) := by decide +kernel
theorem d_Mo_spell_89 : decode c_Mo_spell 89 = .ok (.ifCond .le 17, 3) := by decide +kernel
theorem d_Mo_spell_92 : decode c_Mo_spell 92 = .ok (.iload 5, 2) := by decide +kernel
theorem d_Mo_spell_94 : decode c_Mo_spell 94 = .ok (.bipush 32, 2) := by decide +kernel
theorem d_Mo_spell_96 : decode c_Mo_spell 96 = .ok (.imul, 1) := by decide +kernel
theorem d_Mo_spell_97 : decode c_Mo_spell 97 = .ok (.iload 4, 2) := by decide +kernel
theorem d_Mo_spell_99 : decode c_Mo_spell 99 = .ok (.iadd, 1) := by decide +kernel
theorem d_Mo_spell_100 : decode c_Mo_spell 100 = .ok (.bipush 96, 2) := by decide +kernel
theorem d_Mo_spell_102 : decode c_Mo_spell 102 = .ok (.isub, 1) := by decide +kernel
theorem d_Mo_spell_103 : decode c_Mo_spell 103 = .ok (.goto 5, 3) := by decide +kernel
theorem d_Mo_spell_106 : decode c_Mo_spell 106 = .ok (.iload 5, 2) := by decide +kernel
theorem d_Mo_spell_108 : decode c_Mo_spell 108 = .ok (.ireturn, 1) := by decide +kernel
theorem d_Mo_bad_0 : decode c_Mo_bad 0 = .ok (.aload_n 0, 1) := by decide +kernel
theorem d_Mo_bad_1 : decode c_Mo_bad 1 = .ok (.aload_n 0, 1) := by decide +kernel
theorem d_Mo_bad_2 : decode c_Mo_bad 2 = .ok (.getfield 67, 3) := by decide +kernel
theorem d_Mo_bad_5 : decode c_Mo_bad 5 = .ok (.ifCond .ge 7, 3) := by decide +kernel
theorem d_Mo_bad_8 : decode c_Mo_bad 8 = .ok (.iload_n 1, 1) := by decide +kernel
theorem d_Mo_bad_9 : decode c_Mo_bad 9 = .ok (.goto 7, 3) := by decide +kernel
theorem d_Mo_bad_12 : decode c_Mo_bad 12 = .ok (.aload_n 0, 1) := by decide +kernel
theorem d_Mo_bad_13 : decode c_Mo_bad 13 = .ok (.getfield 67, 3) := by decide +kernel
theorem d_Mo_bad_16 : decode c_Mo_bad 16 = .ok (.putfield 67, 3) := by decide +kernel
theorem d_Mo_bad_19 : decode c_Mo_bad 19 = .ok (.return_, 1) := by decide +kernel
theorem d_Mo_most_0 : decode c_Mo_most 0 = .ok (.iconst 1, 1) := by decide +kernel
theorem d_Mo_most_1 : decode c_Mo_most 1 = .ok (.iload_n 0, 1) := by decide +kernel
theorem d_Mo_most_2 : decode c_Mo_most 2 = .ok (.invokestatic 50, 3) := by decide +kernel
theorem d_Mo_most_5 : decode c_Mo_most 5 = .ok (.ishl, 1) := by decide +kernel
theorem d_Mo_most_6 : decode c_Mo_most 6 = .ok (.iconst 1, 1) := by decide +kernel
theorem d_Mo_most_7 : decode c_Mo_most 7 = .ok (.isub, 1) := by decide +kernel
theorem d_Mo_most_8 : decode c_Mo_most 8 = .ok (.ireturn, 1) := by decide +kernel
theorem d_Mo_bits_0 : decode c_Mo_bits 0 = .ok (.iload_n 0, 1) := by decide +kernel
theorem d_Mo_bits_1 : decode c_Mo_bits 1 = .ok (.iconst 2, 1) := by decide +kernel
theorem d_Mo_bits_2 : decode c_Mo_bits 2 = .ok (.if_icmp .ge 8, 3) := by decide +kernel
theorem d_Mo_bits_5 : decode c_Mo_bits 5 = .ok (.bipush 8, 2) := by decide +kernel
theorem d_Mo_bits_7 : decode c_Mo_bits 7 = .ok (.goto 14, 3) := by decide +kernel
theorem d_Mo_bits_10 : decode c_Mo_bits 10 = .ok (.iload_n 0, 1) := by decide +kernel
theorem d_Mo_bits_11 : decode c_Mo_bits 11 = .ok (.iconst 2, 1) := by decide +kernel
theorem d_Mo_bits_12 : decode c_Mo_bits 12 = .ok (.if_icmp .ne 8, 3) := by decide +kernel
theorem d_Mo_bits_15 : decode c_Mo_bits 15 = .ok (.bipush 10, 2) := by decide +kernel
theorem d_Mo_bits_17 : decode c_Mo_bits 17 = .ok (.goto 4, 3) := by decide +kernel
theorem d_Mo_bits_20 : decode c_Mo_bits 20 = .ok (.iconst 2, 1) := by decide +kernel
theorem d_Mo_bits_21 : decode c_Mo_bits 21 = .ok (.ireturn, 1) := by decide +kernel
theorem d_Mo_fieldOf_0 : decode c_Mo_fieldOf 0 = .ok (.iload_n 0, 1) := by decide +kernel
theorem d_Mo_fieldOf_1 : decode c_Mo_fieldOf 1 = .ok (.bipush 115, 2) := by decide +kernel
theorem d_Mo_fieldOf_3 : decode c_Mo_fieldOf 3 = .ok (.bipush 114, 2) := by decide +kernel
theorem d_Mo_fieldOf_5 : decode c_Mo_fieldOf 5 = .ok (.bipush 99, 2) := by decide +kernel
theorem d_Mo_fieldOf_7 : decode c_Mo_fieldOf 7 = .ok (.iconst 0, 1) := by decide +kernel
theorem d_Mo_fieldOf_8 : decode c_Mo_fieldOf 8 = .ok (.iconst 0, 1) := by decide +kernel
theorem d_Mo_fieldOf_9 : decode c_Mo_fieldOf 9 = .ok (.invokestatic 74, 3) := by decide +kernel
theorem d_Mo_fieldOf_12 : decode c_Mo_fieldOf 12 = .ok (.if_icmp .ne 5, 3) := by decide +kernel
theorem d_Mo_fieldOf_15 : decode c_Mo_fieldOf 15 = .ok (.iconst 0, 1) := by decide +kernel
theorem d_Mo_fieldOf_16 : decode c_Mo_fieldOf 16 = .ok (.ireturn, 1) := by decide +kernel
theorem d_Mo_fieldOf_17 : decode c_Mo_fieldOf 17 = .ok (.iload_n 0, 1) := by decide +kernel
theorem d_Mo_fieldOf_18 : decode c_Mo_fieldOf 18 = .ok (.bipush 100, 2) := by decide +kernel
theorem d_Mo_fieldOf_20 : decode c_Mo_fieldOf 20 = .ok (.bipush 115, 2) := by decide +kernel
theorem d_Mo_fieldOf_22 : decode c_Mo_fieldOf 22 = .ok (.bipush 116, 2) := by decide +kernel
theorem d_Mo_fieldOf_24 : decode c_Mo_fieldOf 24 = .ok (.iconst 0, 1) := by decide +kernel
theorem d_Mo_fieldOf_25 : decode c_Mo_fieldOf 25 = .ok (.iconst 0, 1) := by decide +kernel
theorem d_Mo_fieldOf_26 : decode c_Mo_fieldOf 26 = .ok (.invokestatic 74, 3) := by decide +kernel
theorem d_Mo_fieldOf_29 : decode c_Mo_fieldOf 29 = .ok (.if_icmp .ne 7, 3) := by decide +kernel
theorem d_Mo_fieldOf_32 : decode c_Mo_fieldOf 32 = .ok (.iconst 1, 1) := by decide +kernel
theorem d_Mo_fieldOf_33 : decode c_Mo_fieldOf 33 = .ok (.goto 45, 3) := by decide +kernel
theorem d_Mo_fieldOf_36 : decode c_Mo_fieldOf 36 = .ok (.iload_n 0, 1) := by decide +kernel
theorem d_Mo_fieldOf_37 : decode c_Mo_fieldOf 37 = .ok (.bipush 112, 2) := by decide +kernel
theorem d_Mo_fieldOf_39 : decode c_Mo_fieldOf 39 = .ok (.bipush 111, 2) := by decide +kernel
theorem d_Mo_fieldOf_41 : decode c_Mo_fieldOf 41 = .ok (.bipush 114, 2) := by decide +kernel
theorem d_Mo_fieldOf_43 : decode c_Mo_fieldOf 43 = .ok (.bipush 116, 2) := by decide +kernel
theorem d_Mo_fieldOf_45 : decode c_Mo_fieldOf 45 = .ok (.iconst 0, 1) := by decide +kernel
theorem d_Mo_fieldOf_46 : decode c_Mo_fieldOf 46 = .ok (.invokestatic 74, 3) := by decide +kernel
theorem d_Mo_fieldOf_49 : decode c_Mo_fieldOf 49 = .ok (.if_icmp .ne 7, 3) := by decide +kernel
theorem d_Mo_fieldOf_52 : decode c_Mo_fieldOf 52 = .ok (.iconst 2, 1) := by decide +kernel
theorem d_Mo_fieldOf_53 : decode c_Mo_fieldOf 53 = .ok (.goto 25, 3) := by decide +kernel
theorem d_Mo_fieldOf_56 : decode c_Mo_fieldOf 56 = .ok (.iload_n 0, 1) := by decide +kernel
theorem d_Mo_fieldOf_57 : decode c_Mo_fieldOf 57 = .ok (.bipush 112, 2) := by decide +kernel
theorem d_Mo_fieldOf_59 : decode c_Mo_fieldOf 59 = .ok (.bipush 114, 2) := by decide +kernel
theorem d_Mo_fieldOf_61 : decode c_Mo_fieldOf 61 = .ok (.bipush 111, 2) := by decide +kernel
theorem d_Mo_fieldOf_63 : decode c_Mo_fieldOf 63 = .ok (.bipush 116, 2) := by decide +kernel
theorem d_Mo_fieldOf_65 : decode c_Mo_fieldOf 65 = .ok (.bipush 111, 2) := by decide +kernel
theorem d_Mo_fieldOf_67 : decode c_Mo_fieldOf 67 = .ok (.invokestatic 74, 3) := by decide +kernel
theorem d_Mo_fieldOf_70 : decode c_Mo_fieldOf 70 = .ok (.if_icmp .ne 7, 3) := by decide +kernel
theorem d_Mo_fieldOf_73 : decode c_Mo_fieldOf 73 = .ok (.iconst 3, 1) := by decide +kernel
theorem d_Mo_fieldOf_74 : decode c_Mo_fieldOf 74 = .ok (.goto 4, 3) := by decide +kernel
theorem d_Mo_fieldOf_77 : decode c_Mo_fieldOf 77 = .ok (.iconst (-1), 1) := by decide +kernel
theorem d_Mo_fieldOf_78 : decode c_Mo_fieldOf 78 = .ok (.ireturn, 1) := by decide +kernel
theorem d_Mo_values_0 : decode c_Mo_values 0 = .ok (.aload_n 0, 1) := by decide +kernel
theorem d_Mo_values_1 : decode c_Mo_values 1 = .ok (.invokevirtual 78, 3) := by decide +kernel
theorem d_Mo_values_4 : decode c_Mo_values 4 = .ok (.iconst 4, 1) := by decide +kernel
theorem d_Mo_values_5 : decode c_Mo_values 5 = .ok (.iload_n 1, 1) := by decide +kernel
theorem d_Mo_values_6 : decode c_Mo_values 6 = .ok (.imul, 1) := by decide +kernel
theorem d_Mo_values_7 : decode c_Mo_values 7 = .ok (.iload_n 2, 1) := by decide +kernel
theorem d_Mo_values_8 : decode c_Mo_values 8 = .ok (.iadd, 1) := by decide +kernel
theorem d_Mo_values_9 : decode c_Mo_values 9 = .ok (.istore_n 3, 1) := by decide +kernel
theorem d_Mo_values_10 : decode c_Mo_values 10 = .ok (.aload_n 0, 1) := by decide +kernel
theorem d_Mo_values_11 : decode c_Mo_values 11 = .ok (.getfield 61, 3) := by decide +kernel
theorem d_Mo_values_14 : decode c_Mo_values 14 = .ok (.istore 4, 2) := by decide +kernel
theorem d_Mo_values_16 : decode c_Mo_values 16 = .ok (.aload_n 0, 1) := by decide +kernel
theorem d_Mo_values_17 : decode c_Mo_values 17 = .ok (.aload_n 0, 1) := by decide +kernel
theorem d_Mo_values_18 : decode c_Mo_values 18 = .ok (.getfield 61, 3) := by decide +kernel
theorem d_Mo_values_21 : decode c_Mo_values 21 = .ok (.invokevirtual 64, 3) := by decide +kernel
theorem d_Mo_values_24 : decode c_Mo_values 24 = .ok (.invokestatic 70, 3) := by decide +kernel
theorem d_Mo_values_27 : decode c_Mo_values 27 = .ok (.ifCond .eq 28, 3) := by decide +kernel
theorem d_Mo_values_30 : decode c_Mo_values 30 = .ok (.aload_n 0, 1) := by decide +kernel
theorem d_Mo_values_31 : decode c_Mo_values 31 = .ok (.invokevirtual 88, 3) := by decide +kernel
theorem d_Mo_values_34 : decode c_Mo_values 34 = .ok (.bipush 97, 2) := by decide +kernel
theorem d_Mo_values_36 : decode c_Mo_values 36 = .ok (.bipush 110, 2) := by decide +kernel
theorem d_Mo_values_38 : decode c_Mo_values 38 = .ok (.bipush 121, 2) := by decide +kernel
theorem d_Mo_values_40 : decode c_Mo_values 40 = .ok (.iconst 0, 1) := by decide +kernel
theorem d_Mo_values_41 : decode c_Mo_values 41 = .ok (.iconst 0, 1) := by decide +kernel
theorem d_Mo_values_42 : decode c_Mo_values 42 = .ok (.invokestatic 74, 3) := by decide +kernel
theorem d_Mo_values_45 : decode c_Mo_values 45 = .ok (.if_icmp .eq 9, 3) := by decide +kernel
theorem d_Mo_values_48 : decode c_Mo_values 48 = .ok (.aload_n 0, 1) := by decide +kernel
theorem d_Mo_values_49 : decode c_Mo_values 49 = .ok (.iload 4, 2) := by decide +kernel
theorem d_Mo_values_51 : decode c_Mo_values 51 = .ok (.invokevirtual 84, 3) := by decide +kernel
theorem d_Mo_values_54 : decode c_Mo_values 54 = .ok (.return_, 1) := by decide +kernel
theorem d_Mo_values_55 : decode c_Mo_values 55 = .ok (.aload_n 0, 1) := by decide +kernel
theorem d_Mo_values_56 : decode c_Mo_values 56 = .ok (.iconst 0, 1) := by decide +kernel
theorem d_Mo_values_57 : decode c_Mo_values 57 = .ok (.iload_n 2, 1) := by decide +kernel
theorem d_Mo_values_58 : decode c_Mo_values 58 = .ok (.invokestatic 92, 3) := by decide +kernel
theorem d_Mo_values_61 : decode c_Mo_values 61 = .ok (.invokevirtual 95, 3) := by decide +kernel
theorem d_Mo_values_64 : decode c_Mo_values 64 = .ok (.istore 5, 2) := by decide +kernel
theorem d_Mo_values_66 : decode c_Mo_values 66 = .ok (.aload_n 0, 1) := by decide +kernel
theorem d_Mo_values_67 : decode c_Mo_values 67 = .ok (.getfield 40, 3) := by decide +kernel
theorem d_Mo_values_70 : decode c_Mo_values 70 = .ok (.iload_n 3, 1) := by decide +kernel
theorem d_Mo_values_71 : decode c_Mo_values 71 = .ok (.iload 5, 2) := by decide +kernel
theorem d_Mo_values_73 : decode c_Mo_values 73 = .ok (.iastore, 1) := by decide +kernel
theorem d_Mo_values_74 : decode c_Mo_values 74 = .ok (.aload_n 0, 1) := by decide +kernel
theorem d_Mo_values_75 : decode c_Mo_values 75 = .ok (.getfield 43, 3) := by decide +kernel
theorem d_Mo_values_78 : decode c_Mo_values 78 = .ok (.iload_n 3, 1) := by decide +kernel
theorem d_Mo_values_79 : decode c_Mo_values 79 = .ok (.iload 5, 2) := by decide +kernel
theorem d_Mo_values_81 : decode c_Mo_values 81 = .ok (.iastore, 1) := by decide +kernel
theorem d_Mo_values_82 : decode c_Mo_values 82 = .ok (.aload_n 0, 1) := by decide +kernel
theorem d_Mo_values_83 : decode c_Mo_values 83 = .ok (.invokevirtual 78, 3) := by decide +kernel
theorem d_Mo_values_86 : decode c_Mo_values 86 = .ok (.aload_n 0, 1) := by decide +kernel
theorem d_Mo_values_87 : decode c_Mo_values 87 = .ok (.aload_n 0, 1) := by decide +kernel
theorem d_Mo_values_88 : decode c_Mo_values 88 = .ok (.getfield 61, 3) := by decide +kernel
theorem d_Mo_values_91 : decode c_Mo_values 91 = .ok (.invokevirtual 64, 3) := by decide +kernel
theorem d_Mo_values_94 : decode c_Mo_values 94 = .ok (.bipush 45, 2) := by decide +kernel
theorem d_Mo_values_96 : decode c_Mo_values 96 = .ok (.if_icmp .ne 39, 3) := by decide +kernel
theorem d_Mo_values_99 : decode c_Mo_values 99 = .ok (.aload_n 0, 1) := by decide +kernel
theorem d_Mo_values_100 : decode c_Mo_values 100 = .ok (.getfield 67, 3) := by decide +kernel
theorem d_Mo_values_103 : decode c_Mo_values 103 = .ok (.ifCond .ge 32, 3) := by decide +kernel
theorem d_Mo_values_106 : decode c_Mo_values 106 = .ok (.aload_n 0, 1) := by decide +kernel
theorem d_Mo_values_107 : decode c_Mo_values 107 = .ok (.dup, 1) := by decide +kernel
theorem d_Mo_values_108 : decode c_Mo_values 108 = .ok (.getfield 61, 3) := by decide +kernel
theorem d_Mo_values_111 : decode c_Mo_values 111 = .ok (.iconst 1, 1) := by decide +kernel
theorem d_Mo_values_112 : decode c_Mo_values 112 = .ok (.iadd, 1) := by decide +kernel
theorem d_Mo_values_113 : decode c_Mo_values 113 = .ok (.putfield 61, 3) := by decide +kernel
theorem d_Mo_values_116 : decode c_Mo_values 116 = .ok (.aload_n 0, 1) := by decide +kernel
theorem d_Mo_values_117 : decode c_Mo_values 117 = .ok (.getfield 43, 3) := by decide +kernel
theorem d_Mo_values_120 : decode c_Mo_values 120 = .ok (.iload_n 3, 1) := by decide +kernel
theorem d_Mo_values_121 : decode c_Mo_values 121 = .ok (.aload_n 0, 1) := by decide +kernel
theorem d_Mo_values_122 : decode c_Mo_values 122 = .ok (.iload 5, 2) := by decide +kernel
theorem d_Mo_values_124 : decode c_Mo_values 124 = .ok (.iload_n 2, 1) := by decide +kernel
theorem d_Mo_values_125 : decode c_Mo_values 125 = .ok (.invokestatic 92, 3) := by decide +kernel
theorem d_Mo_values_128 : decode c_Mo_values 128 = .ok (.invokevirtual 95, 3) := by decide +kernel
theorem d_Mo_values_131 : decode c_Mo_values 131 = .ok (.iastore, 1) := by decide +kernel
theorem d_Mo_values_132 : decode c_Mo_values 132 = .ok (.goto 97, 3) := by decide +kernel
theorem d_Mo_values_135 : decode c_Mo_values 135 = .ok (.aload_n 0, 1) := by decide +kernel
theorem d_Mo_values_136 : decode c_Mo_values 136 = .ok (.aload_n 0, 1) := by decide +kernel
theorem d_Mo_values_137 : decode c_Mo_values 137 = .ok (.getfield 61, 3) := by decide +kernel
theorem d_Mo_values_140 : decode c_Mo_values 140 = .ok (.invokevirtual 64, 3) := by decide +kernel
theorem d_Mo_values_143 : decode c_Mo_values 143 = .ok (.bipush 47, 2) := by decide +kernel
theorem d_Mo_values_145 : decode c_Mo_values 145 = .ok (.if_icmp .ne 84, 3) := by decide +kernel
theorem d_Mo_values_148 : decode c_Mo_values 148 = .ok (.aload_n 0, 1) := by decide +kernel
theorem d_Mo_values_149 : decode c_Mo_values 149 = .ok (.getfield 67, 3) := by decide +kernel
theorem d_Mo_values_152 : decode c_Mo_values 152 = .ok (.ifCond .ge 77, 3) := by decide +kernel
theorem d_Mo_values_155 : decode c_Mo_values 155 = .ok (.aload_n 0, 1) := by decide +kernel
theorem d_Mo_values_156 : decode c_Mo_values 156 = .ok (.dup, 1) := by decide +kernel
theorem d_Mo_values_157 : decode c_Mo_values 157 = .ok (.getfield 61, 3) := by decide +kernel
theorem d_Mo_values_160 : decode c_Mo_values 160 = .ok (.iconst 1, 1) := by decide +kernel
theorem d_Mo_values_161 : decode c_Mo_values 161 = .ok (.iadd, 1) := by decide +kernel
theorem d_Mo_values_162 : decode c_Mo_values 162 = .ok (.putfield 61, 3) := by decide +kernel
theorem d_Mo_values_165 : decode c_Mo_values 165 = .ok (.aload_n 0, 1) := by decide +kernel
theorem d_Mo_values_166 : decode c_Mo_values 166 = .ok (.iconst 0, 1) := by decide +kernel
theorem d_Mo_values_167 : decode c_Mo_values 167 = .ok (.iload_n 2, 1) := by decide +kernel
theorem d_Mo_values_168 : decode c_Mo_values 168 = .ok (.invokestatic 50, 3) := by decide +kernel
theorem d_Mo_values_171 : decode c_Mo_values 171 = .ok (.invokevirtual 95, 3) := by decide +kernel
theorem d_Mo_values_174 : decode c_Mo_values 174 = .ok (.istore 6, 2) := by decide +kernel
theorem d_Mo_values_176 : decode c_Mo_values 176 = .ok (.iload_n 2, 1) := by decide +kernel
theorem d_Mo_values_177 : decode c_Mo_values 177 = .ok (.invokestatic 50, 3) := by decide +kernel
theorem d_Mo_values_180 : decode c_Mo_values 180 = .ok (.aload_n 0, 1) := by decide +kernel
theorem d_Mo_values_181 : decode c_Mo_values 181 = .ok (.getfield 67, 3) := by decide +kernel
theorem d_Mo_values_184 : decode c_Mo_values 184 = .ok (.ifCond .ge 8, 3) := by decide +kernel
theorem d_Mo_values_187 : decode c_Mo_values 187 = .ok (.iload 6, 2) := by decide +kernel
theorem d_Mo_values_189 : decode c_Mo_values 189 = .ok (.goto 4, 3) := by decide +kernel
theorem d_Mo_values_192 : decode c_Mo_values 192 = .ok (.iconst 0, 1) := by decide +kernel
theorem d_Mo_values_193 : decode c_Mo_values 193 = .ok (.isub, 1) := by decide +kernel
theorem d_Mo_values_194 : decode c_Mo_values 194 = .ok (.istore 7, 2) := by decide +kernel
theorem d_Mo_values_196 : decode c_Mo_values 196 = .ok (.aload_n 0, 1) := by decide +kernel
theorem d_Mo_values_197 : decode c_Mo_values 197 = .ok (.getfield 40, 3) := by decide +kernel
theorem d_Mo_values_200 : decode c_Mo_values 200 = .ok (.iload_n 3, 1) := by decide +kernel
theorem d_Mo_values_201 : decode c_Mo_values 201 = .ok (.iload 5, 2) := by decide +kernel
theorem d_Mo_values_203 : decode c_Mo_values 203 = .ok (.iload 7, 2) := by decide +kernel
theorem d_Mo_values_205 : decode c_Mo_values 205 = .ok (.ishr, 1) := by decide +kernel
theorem d_Mo_values_206 : decode c_Mo_values 206 = .ok (.iload 7, 2) := by decide +kernel
theorem d_Mo_values_208 : decode c_Mo_values 208 = .ok (.ishl, 1) := by decide +kernel
theorem d_Mo_values_209 : decode c_Mo_values 209 = .ok (.iastore, 1) := by decide +kernel
theorem d_Mo_values_210 : decode c_Mo_values 210 = .ok (.aload_n 0, 1) := by decide +kernel
theorem d_Mo_values_211 : decode c_Mo_values 211 = .ok (.getfield 43, 3) := by decide +kernel
theorem d_Mo_values_214 : decode c_Mo_values 214 = .ok (.iload_n 3, 1) := by decide +kernel
theorem d_Mo_values_215 : decode c_Mo_values 215 = .ok (.aload_n 0, 1) := by decide +kernel
theorem d_Mo_values_216 : decode c_Mo_values 216 = .ok (.getfield 40, 3) := by decide +kernel
theorem d_Mo_values_219 : decode c_Mo_values 219 = .ok (.iload_n 3, 1) := by decide +kernel
theorem d_Mo_values_220 : decode c_Mo_values 220 = .ok (.iaload, 1) := by decide +kernel
theorem d_Mo_values_221 : decode c_Mo_values 221 = .ok (.iconst 1, 1) := by decide +kernel
theorem d_Mo_values_222 : decode c_Mo_values 222 = .ok (.iload 7, 2) := by decide +kernel
theorem d_Mo_values_224 : decode c_Mo_values 224 = .ok (.ishl, 1) := by decide +kernel
theorem d_Mo_values_225 : decode c_Mo_values 225 = .ok (.iadd, 1) := by decide +kernel
theorem d_Mo_values_226 : decode c_Mo_values 226 = .ok (.iconst 1, 1) := by decide +kernel
theorem d_Mo_values_227 : decode c_Mo_values 227 = .ok (.isub, 1) := by decide +kernel
theorem d_Mo_values_228 : decode c_Mo_values 228 = .ok (.iastore, 1) := by decide +kernel
theorem d_Mo_values_229 : decode c_Mo_values 229 = .ok (.return_, 1) := by decide +kernel
theorem d_Mo_number_0 : decode c_Mo_number 0 = .ok (.aload_n 0, 1) := by decide +kernel
theorem d_Mo_number_1 : decode c_Mo_number 1 = .ok (.invokevirtual 78, 3) := by decide +kernel
theorem d_Mo_number_4 : decode c_Mo_number 4 = .ok (.aload_n 0, 1) := by decide +kernel
theorem d_Mo_number_5 : decode c_Mo_number 5 = .ok (.getfield 61, 3) := by decide +kernel
theorem d_Mo_number_8 : decode c_Mo_number 8 = .ok (.istore_n 3, 1) := by decide +kernel
theorem d_Mo_number_9 : decode c_Mo_number 9 = .ok (.iconst 0, 1) := by decide +kernel
theorem d_Mo_number_10 : decode c_Mo_number 10 = .ok (.istore 4, 2) := by decide +kernel
theorem d_Mo_number_12 : decode c_Mo_number 12 = .ok (.aload_n 0, 1) := by decide +kernel
theorem d_Mo_number_13 : decode c_Mo_number 13 = .ok (.aload_n 0, 1) := by decide +kernel
theorem d_Mo_number_14 : decode c_Mo_number 14 = .ok (.getfield 61, 3) := by decide +kernel
theorem d_Mo_number_17 : decode c_Mo_number 17 = .ok (.invokevirtual 64, 3) := by decide +kernel
theorem d_Mo_number_20 : decode c_Mo_number 20 = .ok (.invokestatic 81, 3) := by decide +kernel
theorem d_Mo_number_23 : decode c_Mo_number 23 = .ok (.ifCond .eq 51, 3) := by decide +kernel
theorem d_Mo_number_26 : decode c_Mo_number 26 = .ok (.aload_n 0, 1) := by decide +kernel
theorem d_Mo_number_27 : decode c_Mo_number 27 = .ok (.getfield 61, 3) := by decide +kernel
theorem d_Mo_number_30 : decode c_Mo_number 30 = .ok (.iload_n 3, 1) := by decide +kernel
theorem d_Mo_number_31 : decode c_Mo_number 31 = .ok (.iconst 4, 1) := by decide +kernel
theorem d_Mo_number_32 : decode c_Mo_number 32 = .ok (.iadd, 1) := by decide +kernel
theorem d_Mo_number_33 : decode c_Mo_number 33 = .ok (.if_icmp .ge 23, 3) := by decide +kernel
theorem d_Mo_number_36 : decode c_Mo_number 36 = .ok (.bipush 10, 2) := by decide +kernel
theorem d_Mo_number_38 : decode c_Mo_number 38 = .ok (.iload 4, 2) := by decide +kernel
theorem d_Mo_number_40 : decode c_Mo_number 40 = .ok (.imul, 1) := by decide +kernel
theorem d_Mo_number_41 : decode c_Mo_number 41 = .ok (.aload_n 0, 1) := by decide +kernel
theorem d_Mo_number_42 : decode c_Mo_number 42 = .ok (.aload_n 0, 1) := by decide +kernel
theorem d_Mo_number_43 : decode c_Mo_number 43 = .ok (.getfield 61, 3) := by decide +kernel
theorem d_Mo_number_46 : decode c_Mo_number 46 = .ok (.invokevirtual 64, 3) := by decide +kernel
theorem d_Mo_number_49 : decode c_Mo_number 49 = .ok (.iadd, 1) := by decide +kernel
theorem d_Mo_number_50 : decode c_Mo_number 50 = .ok (.bipush 48, 2) := by decide +kernel
theorem d_Mo_number_52 : decode c_Mo_number 52 = .ok (.isub, 1) := by decide +kernel
theorem d_Mo_number_53 : decode c_Mo_number 53 = .ok (.goto 6, 3) := by decide +kernel
theorem d_Mo_number_56 : decode c_Mo_number 56 = .ok (.sipush 9999, 3) := by decide +kernel
theorem d_Mo_number_59 : decode c_Mo_number 59 = .ok (.istore 4, 2) := by decide +kernel
theorem d_Mo_number_61 : decode c_Mo_number 61 = .ok (.aload_n 0, 1) := by decide +kernel
theorem d_Mo_number_62 : decode c_Mo_number 62 = .ok (.dup, 1) := by decide +kernel
theorem d_Mo_number_63 : decode c_Mo_number 63 = .ok (.getfield 61, 3) := by decide +kernel
theorem d_Mo_number_66 : decode c_Mo_number 66 = .ok (.iconst 1, 1) := by decide +kernel
theorem d_Mo_number_67 : decode c_Mo_number 67 = .ok (.iadd, 1) := by decide +kernel
theorem d_Mo_number_68 : decode c_Mo_number 68 = .ok (.putfield 61, 3) := by decide +kernel
theorem d_Mo_number_71 : decode c_Mo_number 71 = .ok (.goto (-59), 3) := by decide +kernel
theorem d_Mo_number_74 : decode c_Mo_number 74 = .ok (.aload_n 0, 1) := by decide +kernel
theorem d_Mo_number_75 : decode c_Mo_number 75 = .ok (.getfield 61, 3) := by decide +kernel
theorem d_Mo_number_78 : decode c_Mo_number 78 = .ok (.iload_n 3, 1) := by decide +kernel
theorem d_Mo_number_79 : decode c_Mo_number 79 = .ok (.if_icmp .eq 25, 3) := by decide +kernel
theorem d_Mo_number_82 : decode c_Mo_number 82 = .ok (.aload_n 0, 1) := by decide +kernel
theorem d_Mo_number_83 : decode c_Mo_number 83 = .ok (.getfield 61, 3) := by decide +kernel
theorem d_Mo_number_86 : decode c_Mo_number 86 = .ok (.iload_n 3, 1) := by decide +kernel
theorem d_Mo_number_87 : decode c_Mo_number 87 = .ok (.iconst 4, 1) := by decide +kernel
theorem d_Mo_number_88 : decode c_Mo_number 88 = .ok (.iadd, 1) := by decide +kernel
theorem d_Mo_number_89 : decode c_Mo_number 89 = .ok (.if_icmp .gt 15, 3) := by decide +kernel
theorem d_Mo_number_92 : decode c_Mo_number 92 = .ok (.iload 4, 2) := by decide +kernel
theorem d_Mo_number_94 : decode c_Mo_number 94 = .ok (.iload_n 1, 1) := by decide +kernel
theorem d_Mo_number_95 : decode c_Mo_number 95 = .ok (.if_icmp .lt 9, 3) := by decide +kernel
theorem d_Mo_number_98 : decode c_Mo_number 98 = .ok (.iload 4, 2) := by decide +kernel
theorem d_Mo_number_100 : decode c_Mo_number 100 = .ok (.iload_n 2, 1) := by decide +kernel
theorem d_Mo_number_101 : decode c_Mo_number 101 = .ok (.if_icmp .le 8, 3) := by decide +kernel
theorem d_Mo_number_104 : decode c_Mo_number 104 = .ok (.aload_n 0, 1) := by decide +kernel
theorem d_Mo_number_105 : decode c_Mo_number 105 = .ok (.iload_n 3, 1) := by decide +kernel
theorem d_Mo_number_106 : decode c_Mo_number 106 = .ok (.invokevirtual 84, 3) := by decide +kernel
theorem d_Mo_number_109 : decode c_Mo_number 109 = .ok (.iload 4, 2) := by decide +kernel
theorem d_Mo_number_111 : decode c_Mo_number 111 = .ok (.ireturn, 1) := by decide +kernel
theorem d_Mo_isDigit_0 : decode c_Mo_isDigit 0 = .ok (.iload_n 0, 1) := by decide +kernel
theorem d_Mo_isDigit_1 : decode c_Mo_isDigit 1 = .ok (.bipush 48, 2) := by decide +kernel
theorem d_Mo_isDigit_3 : decode c_Mo_isDigit 3 = .ok (.if_icmp .lt 13, 3) := by decide +kernel
theorem d_Mo_isDigit_6 : decode c_Mo_isDigit 6 = .ok (.iload_n 0, 1) := by decide +kernel
theorem d_Mo_isDigit_7 : decode c_Mo_isDigit 7 = .ok (.bipush 57, 2) := by decide +kernel
theorem d_Mo_isDigit_9 : decode c_Mo_isDigit 9 = .ok (.if_icmp .gt 7, 3) := by decide +kernel
theorem d_Mo_isDigit_12 : decode c_Mo_isDigit 12 = .ok (.iconst 1, 1) := by decide +kernel
theorem d_Mo_isDigit_13 : decode c_Mo_isDigit 13 = .ok (.goto 4, 3) := by decide +kernel
theorem d_Mo_isDigit_16 : decode c_Mo_isDigit 16 = .ok (.iconst 0, 1) := by decide +kernel
theorem d_Mo_isDigit_17 : decode c_Mo_isDigit 17 = .ok (.ireturn, 1) := by decide +kernel
theorem d_Mo_remove_0 : decode c_Mo_remove 0 = .ok (.aload_n 0, 1) := by decide +kernel
theorem d_Mo_remove_1 : decode c_Mo_remove 1 = .ok (.iload_n 1, 1) := by decide +kernel
theorem d_Mo_remove_2 : decode c_Mo_remove 2 = .ok (.iconst 0, 1) := by decide +kernel
theorem d_Mo_remove_3 : decode c_Mo_remove 3 = .ok (.iconst 1, 1) := by decide +kernel
theorem d_Mo_remove_4 : decode c_Mo_remove 4 = .ok (.invokestatic 112, 3) := by decide +kernel
theorem d_Mo_remove_7 : decode c_Mo_remove 7 = .ok (.ifCond .ne 7, 3) := by decide +kernel
theorem d_Mo_remove_10 : decode c_Mo_remove 10 = .ok (.iconst 1, 1) := by decide +kernel
theorem d_Mo_remove_11 : decode c_Mo_remove 11 = .ok (.goto 4, 3) := by decide +kernel
theorem d_Mo_remove_14 : decode c_Mo_remove 14 = .ok (.iconst 0, 1) := by decide +kernel
theorem d_Mo_remove_15 : decode c_Mo_remove 15 = .ok (.aload_n 0, 1) := by decide +kernel
theorem d_Mo_remove_16 : decode c_Mo_remove 16 = .ok (.iload_n 1, 1) := by decide +kernel
theorem d_Mo_remove_17 : decode c_Mo_remove 17 = .ok (.iload_n 2, 1) := by decide +kernel
theorem d_Mo_remove_18 : decode c_Mo_remove 18 = .ok (.invokevirtual 123, 3) := by decide +kernel
theorem d_Mo_remove_21 : decode c_Mo_remove 21 = .ok (.invokevirtual 57, 3) := by decide +kernel
theorem d_Mo_remove_24 : decode c_Mo_remove 24 = .ok (.ifCond .ne 9, 3) := by decide +kernel
theorem d_Mo_remove_27 : decode c_Mo_remove 27 = .ok (.aload_n 0, 1) := by decide +kernel
theorem d_Mo_remove_28 : decode c_Mo_remove 28 = .ok (.iload_n 1, 1) := by decide +kernel
theorem d_Mo_remove_29 : decode c_Mo_remove 29 = .ok (.iload_n 2, 1) := by decide +kernel
theorem d_Mo_remove_30 : decode c_Mo_remove 30 = .ok (.invokevirtual 127, 3) := by decide +kernel
theorem d_Mo_remove_33 : decode c_Mo_remove 33 = .ok (.return_, 1) := by decide +kernel
theorem d_Mo_noRule_0 : decode c_Mo_noRule 0 = .ok (.iload_n 1, 1) := by decide +kernel
theorem d_Mo_noRule_1 : decode c_Mo_noRule 1 = .ok (.iconst 0, 1) := by decide +kernel
theorem d_Mo_noRule_2 : decode c_Mo_noRule 2 = .ok (.iconst 1, 1) := by decide +kernel
theorem d_Mo_noRule_3 : decode c_Mo_noRule 3 = .ok (.invokestatic 112, 3) := by decide +kernel
theorem d_Mo_noRule_6 : decode c_Mo_noRule 6 = .ok (.ifCond .eq 23, 3) := by decide +kernel
theorem d_Mo_noRule_9 : decode c_Mo_noRule 9 = .ok (.iload_n 2, 1) := by decide +kernel
theorem d_Mo_noRule_10 : decode c_Mo_noRule 10 = .ok (.iconst 0, 1) := by decide +kernel
theorem d_Mo_noRule_11 : decode c_Mo_noRule 11 = .ok (.aload_n 0, 1) := by decide +kernel
theorem d_Mo_noRule_12 : decode c_Mo_noRule 12 = .ok (.getfield 22, 3) := by decide +kernel
theorem d_Mo_noRule_15 : decode c_Mo_noRule 15 = .ok (.iload_n 1, 1) := by decide +kernel
theorem d_Mo_noRule_16 : decode c_Mo_noRule 16 = .ok (.iaload, 1) := by decide +kernel
theorem d_Mo_noRule_17 : decode c_Mo_noRule 17 = .ok (.iconst 1, 1) := by decide +kernel
theorem d_Mo_noRule_18 : decode c_Mo_noRule 18 = .ok (.isub, 1) := by decide +kernel
theorem d_Mo_noRule_19 : decode c_Mo_noRule 19 = .ok (.invokestatic 112, 3) := by decide +kernel
theorem d_Mo_noRule_22 : decode c_Mo_noRule 22 = .ok (.ifCond .ne 7, 3) := by decide +kernel
theorem d_Mo_noRule_25 : decode c_Mo_noRule 25 = .ok (.iconst 1, 1) := by decide +kernel
theorem d_Mo_noRule_26 : decode c_Mo_noRule 26 = .ok (.goto 4, 3) := by decide +kernel
theorem d_Mo_noRule_29 : decode c_Mo_noRule 29 = .ok (.iconst 0, 1) := by decide +kernel
theorem d_Mo_noRule_30 : decode c_Mo_noRule 30 = .ok (.ireturn, 1) := by decide +kernel
theorem d_Mo_drop_0 : decode c_Mo_drop 0 = .ok (.aload_n 0, 1) := by decide +kernel
theorem d_Mo_drop_1 : decode c_Mo_drop 1 = .ok (.getfield 22, 3) := by decide +kernel
theorem d_Mo_drop_4 : decode c_Mo_drop 4 = .ok (.iload_n 1, 1) := by decide +kernel
theorem d_Mo_drop_5 : decode c_Mo_drop 5 = .ok (.dup2, 1) := by decide +kernel
theorem d_Mo_drop_6 : decode c_Mo_drop 6 = .ok (.iaload, 1) := by decide +kernel
theorem d_Mo_drop_7 : decode c_Mo_drop 7 = .ok (.iconst 1, 1) := by decide +kernel
theorem d_Mo_drop_8 : decode c_Mo_drop 8 = .ok (.isub, 1) := by decide +kernel
theorem d_Mo_drop_9 : decode c_Mo_drop 9 = .ok (.iastore, 1) := by decide +kernel
theorem d_Mo_drop_10 : decode c_Mo_drop 10 = .ok (.iload_n 2, 1) := by decide +kernel
theorem d_Mo_drop_11 : decode c_Mo_drop 11 = .ok (.istore_n 3, 1) := by decide +kernel
theorem d_Mo_drop_12 : decode c_Mo_drop 12 = .ok (.iload_n 3, 1) := by decide +kernel
theorem d_Mo_drop_13 : decode c_Mo_drop 13 = .ok (.aload_n 0, 1) := by decide +kernel
theorem d_Mo_drop_14 : decode c_Mo_drop 14 = .ok (.getfield 22, 3) := by decide +kernel
theorem d_Mo_drop_17 : decode c_Mo_drop 17 = .ok (.iload_n 1, 1) := by decide +kernel
theorem d_Mo_drop_18 : decode c_Mo_drop 18 = .ok (.iaload, 1) := by decide +kernel
theorem d_Mo_drop_19 : decode c_Mo_drop 19 = .ok (.if_icmp .ge 18, 3) := by decide +kernel
theorem d_Mo_drop_22 : decode c_Mo_drop 22 = .ok (.aload_n 0, 1) := by decide +kernel
theorem d_Mo_drop_23 : decode c_Mo_drop 23 = .ok (.iload_n 1, 1) := by decide +kernel
theorem d_Mo_drop_24 : decode c_Mo_drop 24 = .ok (.iload_n 3, 1) := by decide +kernel
theorem d_Mo_drop_25 : decode c_Mo_drop 25 = .ok (.iconst 1, 1) := by decide +kernel
theorem d_Mo_drop_26 : decode c_Mo_drop 26 = .ok (.iadd, 1) := by decide +kernel
theorem d_Mo_drop_27 : decode c_Mo_drop 27 = .ok (.iload_n 3, 1) := by decide +kernel
theorem d_Mo_drop_28 : decode c_Mo_drop 28 = .ok (.invokevirtual 119, 3) := by decide +kernel
theorem d_Mo_drop_31 : decode c_Mo_drop 31 = .ok (.iinc 3 1, 3) := by decide +kernel
theorem d_Mo_drop_34 : decode c_Mo_drop 34 = .ok (.goto (-22), 3) := by decide +kernel
theorem d_Mo_drop_37 : decode c_Mo_drop 37 = .ok (.return_, 1) := by decide +kernel
theorem d_Mo_move_0 : decode c_Mo_move 0 = .ok (.bipush 8, 2) := by decide +kernel
theorem d_Mo_move_2 : decode c_Mo_move 2 = .ok (.iload_n 1, 1) := by decide +kernel
theorem d_Mo_move_3 : decode c_Mo_move 3 = .ok (.imul, 1) := by decide +kernel
theorem d_Mo_move_4 : decode c_Mo_move 4 = .ok (.iload_n 2, 1) := by decide +kernel
theorem d_Mo_move_5 : decode c_Mo_move 5 = .ok (.iadd, 1) := by decide +kernel
theorem d_Mo_move_6 : decode c_Mo_move 6 = .ok (.istore 4, 2) := by decide +kernel
theorem d_Mo_move_8 : decode c_Mo_move 8 = .ok (.bipush 8, 2) := by decide +kernel
theorem d_Mo_move_10 : decode c_Mo_move 10 = .ok (.iload_n 1, 1) := by decide +kernel
theorem d_Mo_move_11 : decode c_Mo_move 11 = .ok (.imul, 1) := by decide +kernel
theorem d_Mo_move_12 : decode c_Mo_move 12 = .ok (.iload_n 3, 1) := by decide +kernel
theorem d_Mo_move_13 : decode c_Mo_move 13 = .ok (.iadd, 1) := by decide +kernel
theorem d_Mo_move_14 : decode c_Mo_move 14 = .ok (.istore 5, 2) := by decide +kernel
theorem d_Mo_move_16 : decode c_Mo_move 16 = .ok (.aload_n 0, 1) := by decide +kernel
theorem d_Mo_move_17 : decode c_Mo_move 17 = .ok (.getfield 13, 3) := by decide +kernel
theorem d_Mo_move_20 : decode c_Mo_move 20 = .ok (.iload 5, 2) := by decide +kernel
theorem d_Mo_move_22 : decode c_Mo_move 22 = .ok (.aload_n 0, 1) := by decide +kernel
theorem d_Mo_move_23 : decode c_Mo_move 23 = .ok (.getfield 13, 3) := by decide +kernel
theorem d_Mo_move_26 : decode c_Mo_move 26 = .ok (.iload 4, 2) := by decide +kernel
theorem d_Mo_move_28 : decode c_Mo_move 28 = .ok (.iaload, 1) := by decide +kernel
theorem d_Mo_move_29 : decode c_Mo_move 29 = .ok (.iastore, 1) := by decide +kernel
theorem d_Mo_move_30 : decode c_Mo_move 30 = .ok (.iconst 0, 1) := by decide +kernel
theorem d_Mo_move_31 : decode c_Mo_move 31 = .ok (.istore 6, 2) := by decide +kernel
theorem d_Mo_move_33 : decode c_Mo_move 33 = .ok (.iload 6, 2) := by decide +kernel
theorem d_Mo_move_35 : decode c_Mo_move 35 = .ok (.iconst 4, 1) := by decide +kernel
theorem d_Mo_move_36 : decode c_Mo_move 36 = .ok (.if_icmp .ge 57, 3) := by decide +kernel
theorem d_Mo_move_39 : decode c_Mo_move 39 = .ok (.aload_n 0, 1) := by decide +kernel
theorem d_Mo_move_40 : decode c_Mo_move 40 = .ok (.getfield 16, 3) := by decide +kernel
theorem d_Mo_move_43 : decode c_Mo_move 43 = .ok (.iconst 4, 1) := by decide +kernel
theorem d_Mo_move_44 : decode c_Mo_move 44 = .ok (.iload 5, 2) := by decide +kernel
theorem d_Mo_move_46 : decode c_Mo_move 46 = .ok (.imul, 1) := by decide +kernel
theorem d_Mo_move_47 : decode c_Mo_move 47 = .ok (.iload 6, 2) := by decide +kernel
theorem d_Mo_move_49 : decode c_Mo_move 49 = .ok (.iadd, 1) := by decide +kernel
theorem d_Mo_move_50 : decode c_Mo_move 50 = .ok (.aload_n 0, 1) := by decide +kernel
theorem d_Mo_move_51 : decode c_Mo_move 51 = .ok (.getfield 16, 3) := by decide +kernel
theorem d_Mo_move_54 : decode c_Mo_move 54 = .ok (.iconst 4, 1) := by decide +kernel
theorem d_Mo_move_55 : decode c_Mo_move 55 = .ok (.iload 4, 2) := by decide +kernel
theorem d_Mo_move_57 : decode c_Mo_move 57 = .ok (.imul, 1) := by decide +kernel
theorem d_Mo_move_58 : decode c_Mo_move 58 = .ok (.iload 6, 2) := by decide +kernel
theorem d_Mo_move_60 : decode c_Mo_move 60 = .ok (.iadd, 1) := by decide +kernel
theorem d_Mo_move_61 : decode c_Mo_move 61 = .ok (.iaload, 1) := by decide +kernel
theorem d_Mo_move_62 : decode c_Mo_move 62 = .ok (.iastore, 1) := by decide +kernel
theorem d_Mo_move_63 : decode c_Mo_move 63 = .ok (.aload_n 0, 1) := by decide +kernel
theorem d_Mo_move_64 : decode c_Mo_move 64 = .ok (.getfield 19, 3) := by decide +kernel
theorem d_Mo_move_67 : decode c_Mo_move 67 = .ok (.iconst 4, 1) := by decide +kernel
theorem d_Mo_move_68 : decode c_Mo_move 68 = .ok (.iload 5, 2) := by decide +kernel
theorem d_Mo_move_70 : decode c_Mo_move 70 = .ok (.imul, 1) := by decide +kernel
theorem d_Mo_move_71 : decode c_Mo_move 71 = .ok (.iload 6, 2) := by decide +kernel
theorem d_Mo_move_73 : decode c_Mo_move 73 = .ok (.iadd, 1) := by decide +kernel
theorem d_Mo_move_74 : decode c_Mo_move 74 = .ok (.aload_n 0, 1) := by decide +kernel
theorem d_Mo_move_75 : decode c_Mo_move 75 = .ok (.getfield 19, 3) := by decide +kernel
theorem d_Mo_move_78 : decode c_Mo_move 78 = .ok (.iconst 4, 1) := by decide +kernel
theorem d_Mo_move_79 : decode c_Mo_move 79 = .ok (.iload 4, 2) := by decide +kernel
theorem d_Mo_move_81 : decode c_Mo_move 81 = .ok (.imul, 1) := by decide +kernel
theorem d_Mo_move_82 : decode c_Mo_move 82 = .ok (.iload 6, 2) := by decide +kernel
theorem d_Mo_move_84 : decode c_Mo_move 84 = .ok (.iadd, 1) := by decide +kernel
theorem d_Mo_move_85 : decode c_Mo_move 85 = .ok (.iaload, 1) := by decide +kernel
theorem d_Mo_move_86 : decode c_Mo_move 86 = .ok (.iastore, 1) := by decide +kernel
theorem d_Mo_move_87 : decode c_Mo_move 87 = .ok (.iinc 6 1, 3) := by decide +kernel
theorem d_Mo_move_90 : decode c_Mo_move 90 = .ok (.goto (-57), 3) := by decide +kernel
theorem d_Mo_move_93 : decode c_Mo_move 93 = .ok (.return_, 1) := by decide +kernel
theorem d_Mo_swap_0 : decode c_Mo_swap 0 = .ok (.iload_n 1, 1) := by decide +kernel
theorem d_Mo_swap_1 : decode c_Mo_swap 1 = .ok (.iconst 0, 1) := by decide +kernel
theorem d_Mo_swap_2 : decode c_Mo_swap 2 = .ok (.iconst 1, 1) := by decide +kernel
theorem d_Mo_swap_3 : decode c_Mo_swap 3 = .ok (.invokestatic 112, 3) := by decide +kernel
theorem d_Mo_swap_6 : decode c_Mo_swap 6 = .ok (.ifCond .eq 23, 3) := by decide +kernel
theorem d_Mo_swap_9 : decode c_Mo_swap 9 = .ok (.iload_n 2, 1) := by decide +kernel
theorem d_Mo_swap_10 : decode c_Mo_swap 10 = .ok (.iconst 0, 1) := by decide +kernel
theorem d_Mo_swap_11 : decode c_Mo_swap 11 = .ok (.aload_n 0, 1) := by decide +kernel
theorem d_Mo_swap_12 : decode c_Mo_swap 12 = .ok (.getfield 22, 3) := by decide +kernel
theorem d_Mo_swap_15 : decode c_Mo_swap 15 = .ok (.iload_n 1, 1) := by decide +kernel
theorem d_Mo_swap_16 : decode c_Mo_swap 16 = .ok (.iaload, 1) := by decide +kernel
theorem d_Mo_swap_17 : decode c_Mo_swap 17 = .ok (.iconst 2, 1) := by decide +kernel
theorem d_Mo_swap_18 : decode c_Mo_swap 18 = .ok (.isub, 1) := by decide +kernel
theorem d_Mo_swap_19 : decode c_Mo_swap 19 = .ok (.invokestatic 112, 3) := by decide +kernel
theorem d_Mo_swap_22 : decode c_Mo_swap 22 = .ok (.ifCond .ne 7, 3) := by decide +kernel
theorem d_Mo_swap_25 : decode c_Mo_swap 25 = .ok (.iconst 1, 1) := by decide +kernel
theorem d_Mo_swap_26 : decode c_Mo_swap 26 = .ok (.goto 4, 3) := by decide +kernel
theorem d_Mo_swap_29 : decode c_Mo_swap 29 = .ok (.iconst 0, 1) := by decide +kernel
theorem d_Mo_swap_30 : decode c_Mo_swap 30 = .ok (.istore_n 3, 1) := by decide +kernel
theorem d_Mo_swap_31 : decode c_Mo_swap 31 = .ok (.aload_n 0, 1) := by decide +kernel
theorem d_Mo_swap_32 : decode c_Mo_swap 32 = .ok (.iload_n 1, 1) := by decide +kernel
theorem d_Mo_swap_33 : decode c_Mo_swap 33 = .ok (.iconst 0, 1) := by decide +kernel
theorem d_Mo_swap_34 : decode c_Mo_swap 34 = .ok (.iconst 1, 1) := by decide +kernel
theorem d_Mo_swap_35 : decode c_Mo_swap 35 = .ok (.invokestatic 112, 3) := by decide +kernel
theorem d_Mo_swap_38 : decode c_Mo_swap 38 = .ok (.ifCond .ne 7, 3) := by decide +kernel
theorem d_Mo_swap_41 : decode c_Mo_swap 41 = .ok (.iconst 1, 1) := by decide +kernel
theorem d_Mo_swap_42 : decode c_Mo_swap 42 = .ok (.goto 4, 3) := by decide +kernel
theorem d_Mo_swap_45 : decode c_Mo_swap 45 = .ok (.iconst 0, 1) := by decide +kernel
theorem d_Mo_swap_46 : decode c_Mo_swap 46 = .ok (.iload_n 3, 1) := by decide +kernel
theorem d_Mo_swap_47 : decode c_Mo_swap 47 = .ok (.invokevirtual 57, 3) := by decide +kernel
theorem d_Mo_swap_50 : decode c_Mo_swap 50 = .ok (.ifCond .eq 4, 3) := by decide +kernel
theorem d_Mo_swap_53 : decode c_Mo_swap 53 = .ok (.return_, 1) := by decide +kernel
theorem d_Mo_swap_54 : decode c_Mo_swap 54 = .ok (.bipush 8, 2) := by decide +kernel
theorem d_Mo_swap_56 : decode c_Mo_swap 56 = .ok (.iload_n 1, 1) := by decide +kernel
theorem d_Mo_swap_57 : decode c_Mo_swap 57 = .ok (.imul, 1) := by decide +kernel
theorem d_Mo_swap_58 : decode c_Mo_swap 58 = .ok (.iload_n 2, 1) := by decide +kernel
theorem d_Mo_swap_59 : decode c_Mo_swap 59 = .ok (.iadd, 1) := by decide +kernel
theorem d_Mo_swap_60 : decode c_Mo_swap 60 = .ok (.istore 4, 2) := by decide +kernel
theorem d_Mo_swap_62 : decode c_Mo_swap 62 = .ok (.aload_n 0, 1) := by decide +kernel
theorem d_Mo_swap_63 : decode c_Mo_swap 63 = .ok (.getfield 13, 3) := by decide +kernel
theorem d_Mo_swap_66 : decode c_Mo_swap 66 = .ok (.iload 4, 2) := by decide +kernel
theorem d_Mo_swap_68 : decode c_Mo_swap 68 = .ok (.iaload, 1) := by decide +kernel
theorem d_Mo_swap_69 : decode c_Mo_swap 69 = .ok (.istore 5, 2) := by decide +kernel
theorem d_Mo_swap_71 : decode c_Mo_swap 71 = .ok (.aload_n 0, 1) := by decide +kernel
theorem d_Mo_swap_72 : decode c_Mo_swap 72 = .ok (.getfield 13, 3) := by decide +kernel
theorem d_Mo_swap_75 : decode c_Mo_swap 75 = .ok (.iload 4, 2) := by decide +kernel
theorem d_Mo_swap_77 : decode c_Mo_swap 77 = .ok (.aload_n 0, 1) := by decide +kernel
theorem d_Mo_swap_78 : decode c_Mo_swap 78 = .ok (.getfield 13, 3) := by decide +kernel
theorem d_Mo_swap_81 : decode c_Mo_swap 81 = .ok (.iload 4, 2) := by decide +kernel
theorem d_Mo_swap_83 : decode c_Mo_swap 83 = .ok (.iconst 1, 1) := by decide +kernel
theorem d_Mo_swap_84 : decode c_Mo_swap 84 = .ok (.iadd, 1) := by decide +kernel
theorem d_Mo_swap_85 : decode c_Mo_swap 85 = .ok (.iaload, 1) := by decide +kernel
theorem d_Mo_swap_86 : decode c_Mo_swap 86 = .ok (.iastore, 1) := by decide +kernel
theorem d_Mo_swap_87 : decode c_Mo_swap 87 = .ok (.aload_n 0, 1) := by decide +kernel
theorem d_Mo_swap_88 : decode c_Mo_swap 88 = .ok (.getfield 13, 3) := by decide +kernel
theorem d_Mo_swap_91 : decode c_Mo_swap 91 = .ok (.iload 4, 2) := by decide +kernel
theorem d_Mo_swap_93 : decode c_Mo_swap 93 = .ok (.iconst 1, 1) := by decide +kernel
theorem d_Mo_swap_94 : decode c_Mo_swap 94 = .ok (.iadd, 1) := by decide +kernel
theorem d_Mo_swap_95 : decode c_Mo_swap 95 = .ok (.iload 5, 2) := by decide +kernel
theorem d_Mo_swap_97 : decode c_Mo_swap 97 = .ok (.iastore, 1) := by decide +kernel
theorem d_Mo_swap_98 : decode c_Mo_swap 98 = .ok (.iconst 0, 1) := by decide +kernel
theorem d_Mo_swap_99 : decode c_Mo_swap 99 = .ok (.istore 6, 2) := by decide +kernel
theorem d_Mo_swap_101 : decode c_Mo_swap 101 = .ok (.iload 6, 2) := by decide +kernel
theorem d_Mo_swap_103 : decode c_Mo_swap 103 = .ok (.iconst 4, 1) := by decide +kernel
theorem d_Mo_swap_104 : decode c_Mo_swap 104 = .ok (.if_icmp .ge 121, 3) := by decide +kernel
theorem d_Mo_swap_107 : decode c_Mo_swap 107 = .ok (.aload_n 0, 1) := by decide +kernel
theorem d_Mo_swap_108 : decode c_Mo_swap 108 = .ok (.getfield 16, 3) := by decide +kernel
theorem d_Mo_swap_111 : decode c_Mo_swap 111 = .ok (.iconst 4, 1) := by decide +kernel
theorem d_Mo_swap_112 : decode c_Mo_swap 112 = .ok (.iload 4, 2) := by decide +kernel
theorem d_Mo_swap_114 : decode c_Mo_swap 114 = .ok (.imul, 1) := by decide +kernel
theorem d_Mo_swap_115 : decode c_Mo_swap 115 = .ok (.iload 6, 2) := by decide +kernel
theorem d_Mo_swap_117 : decode c_Mo_swap 117 = .ok (.iadd, 1) := by decide +kernel
theorem d_Mo_swap_118 : decode c_Mo_swap 118 = .ok (.iaload, 1) := by decide +kernel
theorem d_Mo_swap_119 : decode c_Mo_swap 119 = .ok (.istore 7, 2) := by decide +kernel
theorem d_Mo_swap_121 : decode c_Mo_swap 121 = .ok (.aload_n 0, 1) := by decide +kernel
theorem d_Mo_swap_122 : decode c_Mo_swap 122 = .ok (.getfield 16, 3) := by decide +kernel
theorem d_Mo_swap_125 : decode c_Mo_swap 125 = .ok (.iconst 4, 1) := by decide +kernel
theorem d_Mo_swap_126 : decode c_Mo_swap 126 = .ok (.iload 4, 2) := by decide +kernel
theorem d_Mo_swap_128 : decode c_Mo_swap 128 = .ok (.imul, 1) := by decide +kernel
theorem d_Mo_swap_129 : decode c_Mo_swap 129 = .ok (.iload 6, 2) := by decide +kernel
theorem d_Mo_swap_131 : decode c_Mo_swap 131 = .ok (.iadd, 1) := by decide +kernel
theorem d_Mo_swap_132 : decode c_Mo_swap 132 = .ok (.aload_n 0, 1) := by decide +kernel
theorem d_Mo_swap_133 : decode c_Mo_swap 133 = .ok (.getfield 16, 3) := by decide +kernel
theorem d_Mo_swap_136 : decode c_Mo_swap 136 = .ok (.iconst 4, 1) := by decide +kernel
theorem d_Mo_swap_137 : decode c_Mo_swap 137 = .ok (.iload 4, 2) := by decide +kernel
theorem d_Mo_swap_139 : decode c_Mo_swap 139 = .ok (.imul, 1) := by decide +kernel
theorem d_Mo_swap_140 : decode c_Mo_swap 140 = .ok (.iconst 4, 1) := by decide +kernel
theorem d_Mo_swap_141 : decode c_Mo_swap 141 = .ok (.iadd, 1) := by decide +kernel
theorem d_Mo_swap_142 : decode c_Mo_swap 142 = .ok (.iload 6, 2) := by decide +kernel
theorem d_Mo_swap_144 : decode c_Mo_swap 144 = .ok (.iadd, 1) := by decide +kernel
theorem d_Mo_swap_145 : decode c_Mo_swap 145 = .ok (.iaload, 1) := by decide +kernel
theorem d_Mo_swap_146 : decode c_Mo_swap 146 = .ok (.iastore, 1) := by decide +kernel
theorem d_Mo_swap_147 : decode c_Mo_swap 147 = .ok (.aload_n 0, 1) := by decide +kernel
theorem d_Mo_swap_148 : decode c_Mo_swap 148 = .ok (.getfield 16, 3) := by decide +kernel
theorem d_Mo_swap_151 : decode c_Mo_swap 151 = .ok (.iconst 4, 1) := by decide +kernel
theorem d_Mo_swap_152 : decode c_Mo_swap 152 = .ok (.iload 4, 2) := by decide +kernel
theorem d_Mo_swap_154 : decode c_Mo_swap 154 = .ok (.imul, 1) := by decide +kernel
theorem d_Mo_swap_155 : decode c_Mo_swap 155 = .ok (.iconst 4, 1) := by decide +kernel
theorem d_Mo_swap_156 : decode c_Mo_swap 156 = .ok (.iadd, 1) := by decide +kernel
theorem d_Mo_swap_157 : decode c_Mo_swap 157 = .ok (.iload 6, 2) := by decide +kernel
theorem d_Mo_swap_159 : decode c_Mo_swap 159 = .ok (.iadd, 1) := by decide +kernel
theorem d_Mo_swap_160 : decode c_Mo_swap 160 = .ok (.iload 7, 2) := by decide +kernel
theorem d_Mo_swap_162 : decode c_Mo_swap 162 = .ok (.iastore, 1) := by decide +kernel
theorem d_Mo_swap_163 : decode c_Mo_swap 163 = .ok (.aload_n 0, 1) := by decide +kernel
theorem d_Mo_swap_164 : decode c_Mo_swap 164 = .ok (.getfield 19, 3) := by decide +kernel
theorem d_Mo_swap_167 : decode c_Mo_swap 167 = .ok (.iconst 4, 1) := by decide +kernel
theorem d_Mo_swap_168 : decode c_Mo_swap 168 = .ok (.iload 4, 2) := by decide +kernel
theorem d_Mo_swap_170 : decode c_Mo_swap 170 = .ok (.imul, 1) := by decide +kernel
theorem d_Mo_swap_171 : decode c_Mo_swap 171 = .ok (.iload 6, 2) := by decide +kernel
theorem d_Mo_swap_173 : decode c_Mo_swap 173 = .ok (.iadd, 1) := by decide +kernel
theorem d_Mo_swap_174 : decode c_Mo_swap 174 = .ok (.iaload, 1) := by decide +kernel
theorem d_Mo_swap_175 : decode c_Mo_swap 175 = .ok (.istore 8, 2) := by decide +kernel
theorem d_Mo_swap_177 : decode c_Mo_swap 177 = .ok (.aload_n 0, 1) := by decide +kernel
theorem d_Mo_swap_178 : decode c_Mo_swap 178 = .ok (.getfield 19, 3) := by decide +kernel
theorem d_Mo_swap_181 : decode c_Mo_swap 181 = .ok (.iconst 4, 1) := by decide +kernel
theorem d_Mo_swap_182 : decode c_Mo_swap 182 = .ok (.iload 4, 2) := by decide +kernel
theorem d_Mo_swap_184 : decode c_Mo_swap 184 = .ok (.imul, 1) := by decide +kernel
theorem d_Mo_swap_185 : decode c_Mo_swap 185 = .ok (.iload 6, 2) := by decide +kernel
theorem d_Mo_swap_187 : decode c_Mo_swap 187 = .ok (.iadd, 1) := by decide +kernel
theorem d_Mo_swap_188 : decode c_Mo_swap 188 = .ok (.aload_n 0, 1) := by decide +kernel
theorem d_Mo_swap_189 : decode c_Mo_swap 189 = .ok (.getfield 19, 3) := by decide +kernel
theorem d_Mo_swap_192 : decode c_Mo_swap 192 = .ok (.iconst 4, 1) := by decide +kernel
theorem d_Mo_swap_193 : decode c_Mo_swap 193 = .ok (.iload 4, 2) := by decide +kernel
theorem d_Mo_swap_195 : decode c_Mo_swap 195 = .ok (.imul, 1) := by decide +kernel
theorem d_Mo_swap_196 : decode c_Mo_swap 196 = .ok (.iconst 4, 1) := by decide +kernel
theorem d_Mo_swap_197 : decode c_Mo_swap 197 = .ok (.iadd, 1) := by decide +kernel
theorem d_Mo_swap_198 : decode c_Mo_swap 198 = .ok (.iload 6, 2) := by decide +kernel
theorem d_Mo_swap_200 : decode c_Mo_swap 200 = .ok (.iadd, 1) := by decide +kernel
theorem d_Mo_swap_201 : decode c_Mo_swap 201 = .ok (.iaload, 1) := by decide +kernel
theorem d_Mo_swap_202 : decode c_Mo_swap 202 = .ok (.iastore, 1) := by decide +kernel
theorem d_Mo_swap_203 : decode c_Mo_swap 203 = .ok (.aload_n 0, 1) := by decide +kernel
theorem d_Mo_swap_204 : decode c_Mo_swap 204 = .ok (.getfield 19, 3) := by decide +kernel
theorem d_Mo_swap_207 : decode c_Mo_swap 207 = .ok (.iconst 4, 1) := by decide +kernel
theorem d_Mo_swap_208 : decode c_Mo_swap 208 = .ok (.iload 4, 2) := by decide +kernel
theorem d_Mo_swap_210 : decode c_Mo_swap 210 = .ok (.imul, 1) := by decide +kernel
theorem d_Mo_swap_211 : decode c_Mo_swap 211 = .ok (.iconst 4, 1) := by decide +kernel
theorem d_Mo_swap_212 : decode c_Mo_swap 212 = .ok (.iadd, 1) := by decide +kernel
theorem d_Mo_swap_213 : decode c_Mo_swap 213 = .ok (.iload 6, 2) := by decide +kernel
theorem d_Mo_swap_215 : decode c_Mo_swap 215 = .ok (.iadd, 1) := by decide +kernel
theorem d_Mo_swap_216 : decode c_Mo_swap 216 = .ok (.iload 8, 2) := by decide +kernel
theorem d_Mo_swap_218 : decode c_Mo_swap 218 = .ok (.iastore, 1) := by decide +kernel
theorem d_Mo_swap_219 : decode c_Mo_swap 219 = .ok (.iinc 6 1, 3) := by decide +kernel
theorem d_Mo_swap_222 : decode c_Mo_swap 222 = .ok (.goto (-121), 3) := by decide +kernel
theorem d_Mo_swap_225 : decode c_Mo_swap 225 = .ok (.return_, 1) := by decide +kernel
theorem d_Mo_rules_0 : decode c_Mo_rules 0 = .ok (.aload_n 0, 1) := by decide +kernel
theorem d_Mo_rules_1 : decode c_Mo_rules 1 = .ok (.iload_n 1, 1) := by decide +kernel
theorem d_Mo_rules_2 : decode c_Mo_rules 2 = .ok (.iconst 0, 1) := by decide +kernel
theorem d_Mo_rules_3 : decode c_Mo_rules 3 = .ok (.iconst 1, 1) := by decide +kernel
theorem d_Mo_rules_4 : decode c_Mo_rules 4 = .ok (.invokestatic 112, 3) := by decide +kernel
theorem d_Mo_rules_7 : decode c_Mo_rules 7 = .ok (.ifCond .ne 7, 3) := by decide +kernel
theorem d_Mo_rules_10 : decode c_Mo_rules 10 = .ok (.iconst 1, 1) := by decide +kernel
theorem d_Mo_rules_11 : decode c_Mo_rules 11 = .ok (.goto 4, 3) := by decide +kernel
theorem d_Mo_rules_14 : decode c_Mo_rules 14 = .ok (.iconst 0, 1) := by decide +kernel
theorem d_Mo_rules_15 : decode c_Mo_rules 15 = .ok (.iconst 0, 1) := by decide +kernel
theorem d_Mo_rules_16 : decode c_Mo_rules 16 = .ok (.invokevirtual 57, 3) := by decide +kernel
theorem d_Mo_rules_19 : decode c_Mo_rules 19 = .ok (.ifCond .eq 5, 3) := by decide +kernel
theorem d_Mo_rules_22 : decode c_Mo_rules 22 = .ok (.iconst 0, 1) := by decide +kernel
theorem d_Mo_rules_23 : decode c_Mo_rules 23 = .ok (.ireturn, 1) := by decide +kernel
theorem d_Mo_rules_24 : decode c_Mo_rules 24 = .ok (.aload_n 0, 1) := by decide +kernel
theorem d_Mo_rules_25 : decode c_Mo_rules 25 = .ok (.getfield 22, 3) := by decide +kernel
theorem d_Mo_rules_28 : decode c_Mo_rules 28 = .ok (.iload_n 1, 1) := by decide +kernel
theorem d_Mo_rules_29 : decode c_Mo_rules 29 = .ok (.iaload, 1) := by decide +kernel
theorem d_Mo_rules_30 : decode c_Mo_rules 30 = .ok (.ireturn, 1) := by decide +kernel
theorem d_Mo_rule_0 : decode c_Mo_rule 0 = .ok (.aload_n 0, 1) := by decide +kernel
theorem d_Mo_rule_1 : decode c_Mo_rule 1 = .ok (.iload_n 1, 1) := by decide +kernel
theorem d_Mo_rule_2 : decode c_Mo_rule 2 = .ok (.iconst 0, 1) := by decide +kernel
theorem d_Mo_rule_3 : decode c_Mo_rule 3 = .ok (.iconst 1, 1) := by decide +kernel
theorem d_Mo_rule_4 : decode c_Mo_rule 4 = .ok (.invokestatic 112, 3) := by decide +kernel
theorem d_Mo_rule_7 : decode c_Mo_rule 7 = .ok (.ifCond .ne 7, 3) := by decide +kernel
theorem d_Mo_rule_10 : decode c_Mo_rule 10 = .ok (.iconst 1, 1) := by decide +kernel
theorem d_Mo_rule_11 : decode c_Mo_rule 11 = .ok (.goto 4, 3) := by decide +kernel
theorem d_Mo_rule_14 : decode c_Mo_rule 14 = .ok (.iconst 0, 1) := by decide +kernel
theorem d_Mo_rule_15 : decode c_Mo_rule 15 = .ok (.aload_n 0, 1) := by decide +kernel
theorem d_Mo_rule_16 : decode c_Mo_rule 16 = .ok (.iload_n 1, 1) := by decide +kernel
theorem d_Mo_rule_17 : decode c_Mo_rule 17 = .ok (.iload_n 2, 1) := by decide +kernel
theorem d_Mo_rule_18 : decode c_Mo_rule 18 = .ok (.invokevirtual 123, 3) := by decide +kernel
theorem d_Mo_rule_21 : decode c_Mo_rule 21 = .ok (.ifCond .ne 13, 3) := by decide +kernel
theorem d_Mo_rule_24 : decode c_Mo_rule 24 = .ok (.iload_n 3, 1) := by decide +kernel
theorem d_Mo_rule_25 : decode c_Mo_rule 25 = .ok (.iconst 0, 1) := by decide +kernel
theorem d_Mo_rule_26 : decode c_Mo_rule 26 = .ok (.bipush 8, 2) := by decide +kernel
theorem d_Mo_rule_28 : decode c_Mo_rule 28 = .ok (.invokestatic 112, 3) := by decide +kernel
theorem d_Mo_rule_31 : decode c_Mo_rule 31 = .ok (.ifCond .ne 7, 3) := by decide +kernel
theorem d_Mo_rule_34 : decode c_Mo_rule 34 = .ok (.iconst 1, 1) := by decide +kernel
theorem d_Mo_rule_35 : decode c_Mo_rule 35 = .ok (.goto 4, 3) := by decide +kernel
theorem d_Mo_rule_38 : decode c_Mo_rule 38 = .ok (.iconst 0, 1) := by decide +kernel
theorem d_Mo_rule_39 : decode c_Mo_rule 39 = .ok (.invokevirtual 57, 3) := by decide +kernel
theorem d_Mo_rule_42 : decode c_Mo_rule 42 = .ok (.ifCond .eq 5, 3) := by decide +kernel
theorem d_Mo_rule_45 : decode c_Mo_rule 45 = .ok (.iconst 0, 1) := by decide +kernel
theorem d_Mo_rule_46 : decode c_Mo_rule 46 = .ok (.ireturn, 1) := by decide +kernel
theorem d_Mo_rule_47 : decode c_Mo_rule 47 = .ok (.bipush 8, 2) := by decide +kernel
theorem d_Mo_rule_49 : decode c_Mo_rule 49 = .ok (.iload_n 1, 1) := by decide +kernel
theorem d_Mo_rule_50 : decode c_Mo_rule 50 = .ok (.imul, 1) := by decide +kernel
theorem d_Mo_rule_51 : decode c_Mo_rule 51 = .ok (.iload_n 2, 1) := by decide +kernel
theorem d_Mo_rule_52 : decode c_Mo_rule 52 = .ok (.iadd, 1) := by decide +kernel
theorem d_Mo_rule_53 : decode c_Mo_rule 53 = .ok (.istore 4, 2) := by decide +kernel
theorem d_Mo_rule_55 : decode c_Mo_rule 55 = .ok (.iload_n 3, 1) := by decide +kernel
theorem d_Mo_rule_56 : decode c_Mo_rule 56 = .ok (.iconst 1, 1) := by decide +kernel
theorem d_Mo_rule_57 : decode c_Mo_rule 57 = .ok (.isub, 1) := by decide +kernel
theorem d_Mo_rule_58 : decode c_Mo_rule 58 = .ok (.iconst 2, 1) := by decide +kernel
theorem d_Mo_rule_59 : decode c_Mo_rule 59 = .ok (.idiv, 1) := by decide +kernel
theorem d_Mo_rule_60 : decode c_Mo_rule 60 = .ok (.istore 5, 2) := by decide +kernel
theorem d_Mo_rule_62 : decode c_Mo_rule 62 = .ok (.iload_n 3, 1) := by decide +kernel
theorem d_Mo_rule_63 : decode c_Mo_rule 63 = .ok (.ifCond .ne 13, 3) := by decide +kernel
theorem d_Mo_rule_66 : decode c_Mo_rule 66 = .ok (.aload_n 0, 1) := by decide +kernel
theorem d_Mo_rule_67 : decode c_Mo_rule 67 = .ok (.getfield 13, 3) := by decide +kernel
theorem d_Mo_rule_70 : decode c_Mo_rule 70 = .ok (.iload 4, 2) := by decide +kernel
theorem d_Mo_rule_72 : decode c_Mo_rule 72 = .ok (.iaload, 1) := by decide +kernel
theorem d_Mo_rule_73 : decode c_Mo_rule 73 = .ok (.goto 37, 3) := by decide +kernel
theorem d_Mo_rule_76 : decode c_Mo_rule 76 = .ok (.iload_n 3, 1) := by decide +kernel
theorem d_Mo_rule_77 : decode c_Mo_rule 77 = .ok (.iconst 2, 1) := by decide +kernel
theorem d_Mo_rule_78 : decode c_Mo_rule 78 = .ok (.irem, 1) := by decide +kernel
theorem d_Mo_rule_79 : decode c_Mo_rule 79 = .ok (.iconst 1, 1) := by decide +kernel
theorem d_Mo_rule_80 : decode c_Mo_rule 80 = .ok (.if_icmp .ne 18, 3) := by decide +kernel
theorem d_Mo_rule_83 : decode c_Mo_rule 83 = .ok (.aload_n 0, 1) := by decide +kernel
theorem d_Mo_rule_84 : decode c_Mo_rule 84 = .ok (.getfield 16, 3) := by decide +kernel
theorem d_Mo_rule_87 : decode c_Mo_rule 87 = .ok (.iconst 4, 1) := by decide +kernel
theorem d_Mo_rule_88 : decode c_Mo_rule 88 = .ok (.iload 4, 2) := by decide +kernel
theorem d_Mo_rule_90 : decode c_Mo_rule 90 = .ok (.imul, 1) := by decide +kernel
theorem d_Mo_rule_91 : decode c_Mo_rule 91 = .ok (.iload 5, 2) := by decide +kernel
theorem d_Mo_rule_93 : decode c_Mo_rule 93 = .ok (.iadd, 1) := by decide +kernel
theorem d_Mo_rule_94 : decode c_Mo_rule 94 = .ok (.iaload, 1) := by decide +kernel
theorem d_Mo_rule_95 : decode c_Mo_rule 95 = .ok (.goto 15, 3) := by decide +kernel
theorem d_Mo_rule_98 : decode c_Mo_rule 98 = .ok (.aload_n 0, 1) := by decide +kernel
theorem d_Mo_rule_99 : decode c_Mo_rule 99 = .ok (.getfield 19, 3) := by decide +kernel
theorem d_Mo_rule_102 : decode c_Mo_rule 102 = .ok (.iconst 4, 1) := by decide +kernel
theorem d_Mo_rule_103 : decode c_Mo_rule 103 = .ok (.iload 4, 2) := by decide +kernel
theorem d_Mo_rule_105 : decode c_Mo_rule 105 = .ok (.imul, 1) := by decide +kernel
theorem d_Mo_rule_106 : decode c_Mo_rule 106 = .ok (.iload 5, 2) := by decide +kernel
theorem d_Mo_rule_108 : decode c_Mo_rule 108 = .ok (.iadd, 1) := by decide +kernel
theorem d_Mo_rule_109 : decode c_Mo_rule 109 = .ok (.iaload, 1) := by decide +kernel
theorem d_Mo_rule_110 : decode c_Mo_rule 110 = .ok (.ireturn, 1) := by decide +kernel
theorem d_Mo_verdict_0 : decode c_Mo_verdict 0 = .ok (.aload_n 0, 1) := by decide +kernel
theorem d_Mo_verdict_1 : decode c_Mo_verdict 1 = .ok (.iload_n 1, 1) := by decide +kernel
theorem d_Mo_verdict_2 : decode c_Mo_verdict 2 = .ok (.iconst 0, 1) := by decide +kernel
theorem d_Mo_verdict_3 : decode c_Mo_verdict 3 = .ok (.iconst 1, 1) := by decide +kernel
theorem d_Mo_verdict_4 : decode c_Mo_verdict 4 = .ok (.invokestatic 112, 3) := by decide +kernel
theorem d_Mo_verdict_7 : decode c_Mo_verdict 7 = .ok (.ifCond .ne 7, 3) := by decide +kernel
theorem d_Mo_verdict_10 : decode c_Mo_verdict 10 = .ok (.iconst 1, 1) := by decide +kernel
theorem d_Mo_verdict_11 : decode c_Mo_verdict 11 = .ok (.goto 4, 3) := by decide +kernel
theorem d_Mo_verdict_14 : decode c_Mo_verdict 14 = .ok (.iconst 0, 1) := by decide +kernel
theorem d_Mo_verdict_15 : decode c_Mo_verdict 15 = .ok (.aload_n 0, 1) := by decide +kernel
theorem d_Mo_verdict_16 : decode c_Mo_verdict 16 = .ok (.iload_n 2, 1) := by decide +kernel
theorem d_Mo_verdict_17 : decode c_Mo_verdict 17 = .ok (.iload_n 3, 1) := by decide +kernel
theorem d_Mo_verdict_18 : decode c_Mo_verdict 18 = .ok (.iload 4, 2) := by decide +kernel
theorem d_Mo_verdict_20 : decode c_Mo_verdict 20 = .ok (.iload 5, 2) := by decide +kernel
theorem d_Mo_verdict_22 : decode c_Mo_verdict 22 = .ok (.invokevirtual 137, 3) := by decide +kernel
theorem d_Mo_verdict_25 : decode c_Mo_verdict 25 = .ok (.invokevirtual 57, 3) := by decide +kernel
theorem d_Mo_verdict_28 : decode c_Mo_verdict 28 = .ok (.ifCond .eq 5, 3) := by decide +kernel
theorem d_Mo_verdict_31 : decode c_Mo_verdict 31 = .ok (.iconst 0, 1) := by decide +kernel
theorem d_Mo_verdict_32 : decode c_Mo_verdict 32 = .ok (.ireturn, 1) := by decide +kernel
theorem d_Mo_verdict_33 : decode c_Mo_verdict 33 = .ok (.aload_n 0, 1) := by decide +kernel
theorem d_Mo_verdict_34 : decode c_Mo_verdict 34 = .ok (.iload_n 1, 1) := by decide +kernel
theorem d_Mo_verdict_35 : decode c_Mo_verdict 35 = .ok (.iload_n 2, 1) := by decide +kernel
theorem d_Mo_verdict_36 : decode c_Mo_verdict 36 = .ok (.iload_n 3, 1) := by decide +kernel
theorem d_Mo_verdict_37 : decode c_Mo_verdict 37 = .ok (.iload 4, 2) := by decide +kernel
theorem d_Mo_verdict_39 : decode c_Mo_verdict 39 = .ok (.iload 5, 2) := by decide +kernel
theorem d_Mo_verdict_41 : decode c_Mo_verdict 41 = .ok (.invokevirtual 141, 3) := by decide +kernel
theorem d_Mo_verdict_44 : decode c_Mo_verdict 44 = .ok (.ireturn, 1) := by decide +kernel
theorem d_Mo_noPacket_0 : decode c_Mo_noPacket 0 = .ok (.iload_n 1, 1) := by decide +kernel
theorem d_Mo_noPacket_1 : decode c_Mo_noPacket 1 = .ok (.iconst 0, 1) := by decide +kernel
theorem d_Mo_noPacket_2 : decode c_Mo_noPacket 2 = .ok (.sipush 255, 3) := by decide +kernel
theorem d_Mo_noPacket_5 : decode c_Mo_noPacket 5 = .ok (.invokestatic 112, 3) := by decide +kernel
theorem d_Mo_noPacket_8 : decode c_Mo_noPacket 8 = .ok (.ifCond .eq 35, 3) := by decide +kernel
theorem d_Mo_noPacket_11 : decode c_Mo_noPacket 11 = .ok (.iload_n 2, 1) := by decide +kernel
theorem d_Mo_noPacket_12 : decode c_Mo_noPacket 12 = .ok (.iconst 0, 1) := by decide +kernel
theorem d_Mo_noPacket_13 : decode c_Mo_noPacket 13 = .ok (.sipush 255, 3) := by decide +kernel
theorem d_Mo_noPacket_16 : decode c_Mo_noPacket 16 = .ok (.invokestatic 112, 3) := by decide +kernel
theorem d_Mo_noPacket_19 : decode c_Mo_noPacket 19 = .ok (.ifCond .eq 24, 3) := by decide +kernel
theorem d_Mo_noPacket_22 : decode c_Mo_noPacket 22 = .ok (.iload_n 3, 1) := by decide +kernel
theorem d_Mo_noPacket_23 : decode c_Mo_noPacket 23 = .ok (.iconst 0, 1) := by decide +kernel
theorem d_Mo_noPacket_24 : decode c_Mo_noPacket 24 = .ok (.sipush 1023, 3) := by decide +kernel
theorem d_Mo_noPacket_27 : decode c_Mo_noPacket 27 = .ok (.invokestatic 112, 3) := by decide +kernel
theorem d_Mo_noPacket_30 : decode c_Mo_noPacket 30 = .ok (.ifCond .eq 13, 3) := by decide +kernel
theorem d_Mo_noPacket_33 : decode c_Mo_noPacket 33 = .ok (.iload 4, 2) := by decide +kernel
theorem d_Mo_noPacket_35 : decode c_Mo_noPacket 35 = .ok (.iconst 0, 1) := by decide +kernel
theorem d_Mo_noPacket_36 : decode c_Mo_noPacket 36 = .ok (.iconst 3, 1) := by decide +kernel
theorem d_Mo_noPacket_37 : decode c_Mo_noPacket 37 = .ok (.invokestatic 112, 3) := by decide +kernel
theorem d_Mo_noPacket_40 : decode c_Mo_noPacket 40 = .ok (.ifCond .ne 7, 3) := by decide +kernel
theorem d_Mo_noPacket_43 : decode c_Mo_noPacket 43 = .ok (.iconst 1, 1) := by decide +kernel
theorem d_Mo_noPacket_44 : decode c_Mo_noPacket 44 = .ok (.goto 4, 3) := by decide +kernel
theorem d_Mo_noPacket_47 : decode c_Mo_noPacket 47 = .ok (.iconst 0, 1) := by decide +kernel
theorem d_Mo_noPacket_48 : decode c_Mo_noPacket 48 = .ok (.ireturn, 1) := by decide +kernel
theorem d_Mo_verdictBy_0 : decode c_Mo_verdictBy 0 = .ok (.aload_n 0, 1) := by decide +kernel
theorem d_Mo_verdictBy_1 : decode c_Mo_verdictBy 1 = .ok (.iload_n 1, 1) := by decide +kernel
theorem d_Mo_verdictBy_2 : decode c_Mo_verdictBy 2 = .ok (.iload_n 2, 1) := by decide +kernel
theorem d_Mo_verdictBy_3 : decode c_Mo_verdictBy 3 = .ok (.iload_n 3, 1) := by decide +kernel
theorem d_Mo_verdictBy_4 : decode c_Mo_verdictBy 4 = .ok (.iload 4, 2) := by decide +kernel
theorem d_Mo_verdictBy_6 : decode c_Mo_verdictBy 6 = .ok (.iload 5, 2) := by decide +kernel
theorem d_Mo_verdictBy_8 : decode c_Mo_verdictBy 8 = .ok (.invokevirtual 134, 3) := by decide +kernel
theorem d_Mo_verdictBy_11 : decode c_Mo_verdictBy 11 = .ok (.istore 6, 2) := by decide +kernel
theorem d_Mo_verdictBy_13 : decode c_Mo_verdictBy 13 = .ok (.iload 6, 2) := by decide +kernel
theorem d_Mo_verdictBy_15 : decode c_Mo_verdictBy 15 = .ok (.ifCond .ge 7, 3) := by decide +kernel
theorem d_Mo_verdictBy_18 : decode c_Mo_verdictBy 18 = .ok (.iconst 0, 1) := by decide +kernel
theorem d_Mo_verdictBy_19 : decode c_Mo_verdictBy 19 = .ok (.goto 15, 3) := by decide +kernel
theorem d_Mo_verdictBy_22 : decode c_Mo_verdictBy 22 = .ok (.aload_n 0, 1) := by decide +kernel
theorem d_Mo_verdictBy_23 : decode c_Mo_verdictBy 23 = .ok (.getfield 13, 3) := by decide +kernel
theorem d_Mo_verdictBy_26 : decode c_Mo_verdictBy 26 = .ok (.bipush 8, 2) := by decide +kernel
theorem d_Mo_verdictBy_28 : decode c_Mo_verdictBy 28 = .ok (.iload_n 1, 1) := by decide +kernel
theorem d_Mo_verdictBy_29 : decode c_Mo_verdictBy 29 = .ok (.imul, 1) := by decide +kernel
theorem d_Mo_verdictBy_30 : decode c_Mo_verdictBy 30 = .ok (.iload 6, 2) := by decide +kernel
theorem d_Mo_verdictBy_32 : decode c_Mo_verdictBy 32 = .ok (.iadd, 1) := by decide +kernel
theorem d_Mo_verdictBy_33 : decode c_Mo_verdictBy 33 = .ok (.iaload, 1) := by decide +kernel
theorem d_Mo_verdictBy_34 : decode c_Mo_verdictBy 34 = .ok (.ireturn, 1) := by decide +kernel
theorem d_Mo_firstOf_0 : decode c_Mo_firstOf 0 = .ok (.iconst 0, 1) := by decide +kernel
theorem d_Mo_firstOf_1 : decode c_Mo_firstOf 1 = .ok (.istore 6, 2) := by decide +kernel
theorem d_Mo_firstOf_3 : decode c_Mo_firstOf 3 = .ok (.iload 6, 2) := by decide +kernel
theorem d_Mo_firstOf_5 : decode c_Mo_firstOf 5 = .ok (.aload_n 0, 1) := by decide +kernel
theorem d_Mo_firstOf_6 : decode c_Mo_firstOf 6 = .ok (.getfield 22, 3) := by decide +kernel
theorem d_Mo_firstOf_9 : decode c_Mo_firstOf 9 = .ok (.iload_n 1, 1) := by decide +kernel
theorem d_Mo_firstOf_10 : decode c_Mo_firstOf 10 = .ok (.iaload, 1) := by decide +kernel
theorem d_Mo_firstOf_11 : decode c_Mo_firstOf 11 = .ok (.if_icmp .ge 32, 3) := by decide +kernel
theorem d_Mo_firstOf_14 : decode c_Mo_firstOf 14 = .ok (.aload_n 0, 1) := by decide +kernel
theorem d_Mo_firstOf_15 : decode c_Mo_firstOf 15 = .ok (.bipush 8, 2) := by decide +kernel
theorem d_Mo_firstOf_17 : decode c_Mo_firstOf 17 = .ok (.iload_n 1, 1) := by decide +kernel
theorem d_Mo_firstOf_18 : decode c_Mo_firstOf 18 = .ok (.imul, 1) := by decide +kernel
theorem d_Mo_firstOf_19 : decode c_Mo_firstOf 19 = .ok (.iload 6, 2) := by decide +kernel
theorem d_Mo_firstOf_21 : decode c_Mo_firstOf 21 = .ok (.iadd, 1) := by decide +kernel
theorem d_Mo_firstOf_22 : decode c_Mo_firstOf 22 = .ok (.iload_n 2, 1) := by decide +kernel
theorem d_Mo_firstOf_23 : decode c_Mo_firstOf 23 = .ok (.iload_n 3, 1) := by decide +kernel
theorem d_Mo_firstOf_24 : decode c_Mo_firstOf 24 = .ok (.iload 4, 2) := by decide +kernel
theorem d_Mo_firstOf_26 : decode c_Mo_firstOf 26 = .ok (.iload 5, 2) := by decide +kernel
theorem d_Mo_firstOf_28 : decode c_Mo_firstOf 28 = .ok (.invokevirtual 130, 3) := by decide +kernel
theorem d_Mo_firstOf_31 : decode c_Mo_firstOf 31 = .ok (.ifCond .eq 6, 3) := by decide +kernel
theorem d_Mo_firstOf_34 : decode c_Mo_firstOf 34 = .ok (.iload 6, 2) := by decide +kernel
theorem d_Mo_firstOf_36 : decode c_Mo_firstOf 36 = .ok (.ireturn, 1) := by decide +kernel
theorem d_Mo_firstOf_37 : decode c_Mo_firstOf 37 = .ok (.iinc 6 1, 3) := by decide +kernel
theorem d_Mo_firstOf_40 : decode c_Mo_firstOf 40 = .ok (.goto (-37), 3) := by decide +kernel
theorem d_Mo_firstOf_43 : decode c_Mo_firstOf 43 = .ok (.iconst (-1), 1) := by decide +kernel
theorem d_Mo_firstOf_44 : decode c_Mo_firstOf 44 = .ok (.ireturn, 1) := by decide +kernel
theorem d_Mo_matches_0 : decode c_Mo_matches 0 = .ok (.iload_n 2, 1) := by decide +kernel
theorem d_Mo_matches_1 : decode c_Mo_matches 1 = .ok (.aload_n 0, 1) := by decide +kernel
theorem d_Mo_matches_2 : decode c_Mo_matches 2 = .ok (.getfield 16, 3) := by decide +kernel
theorem d_Mo_matches_5 : decode c_Mo_matches 5 = .ok (.iconst 4, 1) := by decide +kernel
theorem d_Mo_matches_6 : decode c_Mo_matches 6 = .ok (.iload_n 1, 1) := by decide +kernel
theorem d_Mo_matches_7 : decode c_Mo_matches 7 = .ok (.imul, 1) := by decide +kernel
theorem d_Mo_matches_8 : decode c_Mo_matches 8 = .ok (.iaload, 1) := by decide +kernel
theorem d_Mo_matches_9 : decode c_Mo_matches 9 = .ok (.aload_n 0, 1) := by decide +kernel
theorem d_Mo_matches_10 : decode c_Mo_matches 10 = .ok (.getfield 19, 3) := by decide +kernel
theorem d_Mo_matches_13 : decode c_Mo_matches 13 = .ok (.iconst 4, 1) := by decide +kernel
theorem d_Mo_matches_14 : decode c_Mo_matches 14 = .ok (.iload_n 1, 1) := by decide +kernel
theorem d_Mo_matches_15 : decode c_Mo_matches 15 = .ok (.imul, 1) := by decide +kernel
theorem d_Mo_matches_16 : decode c_Mo_matches 16 = .ok (.iaload, 1) := by decide +kernel
theorem d_Mo_matches_17 : decode c_Mo_matches 17 = .ok (.invokestatic 112, 3) := by decide +kernel
theorem d_Mo_matches_20 : decode c_Mo_matches 20 = .ok (.ifCond .eq 34, 3) := by decide +kernel
theorem d_Mo_matches_23 : decode c_Mo_matches 23 = .ok (.iload_n 3, 1) := by decide +kernel
theorem d_Mo_matches_24 : decode c_Mo_matches 24 = .ok (.aload_n 0, 1) := by decide +kernel
theorem d_Mo_matches_25 : decode c_Mo_matches 25 = .ok (.getfield 16, 3) := by decide +kernel
theorem d_Mo_matches_28 : decode c_Mo_matches 28 = .ok (.iconst 4, 1) := by decide +kernel
theorem d_Mo_matches_29 : decode c_Mo_matches 29 = .ok (.iload_n 1, 1) := by decide +kernel
theorem d_Mo_matches_30 : decode c_Mo_matches 30 = .ok (.imul, 1) := by decide +kernel
theorem d_Mo_matches_31 : decode c_Mo_matches 31 = .ok (.iconst 1, 1) := by decide +kernel
theorem d_Mo_matches_32 : decode c_Mo_matches 32 = .ok (.iadd, 1) := by decide +kernel
theorem d_Mo_matches_33 : decode c_Mo_matches 33 = .ok (.iaload, 1) := by decide +kernel
theorem d_Mo_matches_34 : decode c_Mo_matches 34 = .ok (.aload_n 0, 1) := by decide +kernel
theorem d_Mo_matches_35 : decode c_Mo_matches 35 = .ok (.getfield 19, 3) := by decide +kernel
theorem d_Mo_matches_38 : decode c_Mo_matches 38 = .ok (.iconst 4, 1) := by decide +kernel
theorem d_Mo_matches_39 : decode c_Mo_matches 39 = .ok (.iload_n 1, 1) := by decide +kernel
theorem d_Mo_matches_40 : decode c_Mo_matches 40 = .ok (.imul, 1) := by decide +kernel
theorem d_Mo_matches_41 : decode c_Mo_matches 41 = .ok (.iconst 1, 1) := by decide +kernel
theorem d_Mo_matches_42 : decode c_Mo_matches 42 = .ok (.iadd, 1) := by decide +kernel
theorem d_Mo_matches_43 : decode c_Mo_matches 43 = .ok (.iaload, 1) := by decide +kernel
theorem d_Mo_matches_44 : decode c_Mo_matches 44 = .ok (.invokestatic 112, 3) := by decide +kernel
theorem d_Mo_matches_47 : decode c_Mo_matches 47 = .ok (.ifCond .eq 7, 3) := by decide +kernel
theorem d_Mo_matches_50 : decode c_Mo_matches 50 = .ok (.iconst 1, 1) := by decide +kernel
theorem d_Mo_matches_51 : decode c_Mo_matches 51 = .ok (.goto 4, 3) := by decide +kernel
theorem d_Mo_matches_54 : decode c_Mo_matches 54 = .ok (.iconst 0, 1) := by decide +kernel
theorem d_Mo_matches_55 : decode c_Mo_matches 55 = .ok (.istore 6, 2) := by decide +kernel
theorem d_Mo_matches_57 : decode c_Mo_matches 57 = .ok (.iload 6, 2) := by decide +kernel
theorem d_Mo_matches_59 : decode c_Mo_matches 59 = .ok (.ifCond .eq 63, 3) := by decide +kernel
theorem d_Mo_matches_62 : decode c_Mo_matches 62 = .ok (.iload 4, 2) := by decide +kernel
theorem d_Mo_matches_64 : decode c_Mo_matches 64 = .ok (.aload_n 0, 1) := by decide +kernel
theorem d_Mo_matches_65 : decode c_Mo_matches 65 = .ok (.getfield 16, 3) := by decide +kernel
theorem d_Mo_matches_68 : decode c_Mo_matches 68 = .ok (.iconst 4, 1) := by decide +kernel
theorem d_Mo_matches_69 : decode c_Mo_matches 69 = .ok (.iload_n 1, 1) := by decide +kernel
theorem d_Mo_matches_70 : decode c_Mo_matches 70 = .ok (.imul, 1) := by decide +kernel
theorem d_Mo_matches_71 : decode c_Mo_matches 71 = .ok (.iconst 2, 1) := by decide +kernel
theorem d_Mo_matches_72 : decode c_Mo_matches 72 = .ok (.iadd, 1) := by decide +kernel
theorem d_Mo_matches_73 : decode c_Mo_matches 73 = .ok (.iaload, 1) := by decide +kernel
theorem d_Mo_matches_74 : decode c_Mo_matches 74 = .ok (.aload_n 0, 1) := by decide +kernel
theorem d_Mo_matches_75 : decode c_Mo_matches 75 = .ok (.getfield 19, 3) := by decide +kernel
theorem d_Mo_matches_78 : decode c_Mo_matches 78 = .ok (.iconst 4, 1) := by decide +kernel
theorem d_Mo_matches_79 : decode c_Mo_matches 79 = .ok (.iload_n 1, 1) := by decide +kernel
theorem d_Mo_matches_80 : decode c_Mo_matches 80 = .ok (.imul, 1) := by decide +kernel
theorem d_Mo_matches_81 : decode c_Mo_matches 81 = .ok (.iconst 2, 1) := by decide +kernel
theorem d_Mo_matches_82 : decode c_Mo_matches 82 = .ok (.iadd, 1) := by decide +kernel
theorem d_Mo_matches_83 : decode c_Mo_matches 83 = .ok (.iaload, 1) := by decide +kernel
theorem d_Mo_matches_84 : decode c_Mo_matches 84 = .ok (.invokestatic 112, 3) := by decide +kernel
theorem d_Mo_matches_87 : decode c_Mo_matches 87 = .ok (.ifCond .eq 35, 3) := by decide +kernel
theorem d_Mo_matches_90 : decode c_Mo_matches 90 = .ok (.iload 5, 2) := by decide +kernel
theorem d_Mo_matches_92 : decode c_Mo_matches 92 = .ok (.aload_n 0, 1) := by decide +kernel
theorem d_Mo_matches_93 : decode c_Mo_matches 93 = .ok (.getfield 16, 3) := by decide +kernel
theorem d_Mo_matches_96 : decode c_Mo_matches 96 = .ok (.iconst 4, 1) := by decide +kernel
theorem d_Mo_matches_97 : decode c_Mo_matches 97 = .ok (.iload_n 1, 1) := by decide +kernel
theorem d_Mo_matches_98 : decode c_Mo_matches 98 = .ok (.imul, 1) := by decide +kernel
theorem d_Mo_matches_99 : decode c_Mo_matches 99 = .ok (.iconst 3, 1) := by decide +kernel
theorem d_Mo_matches_100 : decode c_Mo_matches 100 = .ok (.iadd, 1) := by decide +kernel
theorem d_Mo_matches_101 : decode c_Mo_matches 101 = .ok (.iaload, 1) := by decide +kernel
theorem d_Mo_matches_102 : decode c_Mo_matches 102 = .ok (.aload_n 0, 1) := by decide +kernel
theorem d_Mo_matches_103 : decode c_Mo_matches 103 = .ok (.getfield 19, 3) := by decide +kernel
theorem d_Mo_matches_106 : decode c_Mo_matches 106 = .ok (.iconst 4, 1) := by decide +kernel
theorem d_Mo_matches_107 : decode c_Mo_matches 107 = .ok (.iload_n 1, 1) := by decide +kernel
theorem d_Mo_matches_108 : decode c_Mo_matches 108 = .ok (.imul, 1) := by decide +kernel
theorem d_Mo_matches_109 : decode c_Mo_matches 109 = .ok (.iconst 3, 1) := by decide +kernel
theorem d_Mo_matches_110 : decode c_Mo_matches 110 = .ok (.iadd, 1) := by decide +kernel
theorem d_Mo_matches_111 : decode c_Mo_matches 111 = .ok (.iaload, 1) := by decide +kernel
theorem d_Mo_matches_112 : decode c_Mo_matches 112 = .ok (.invokestatic 112, 3) := by decide +kernel
theorem d_Mo_matches_115 : decode c_Mo_matches 115 = .ok (.ifCond .eq 7, 3) := by decide +kernel
theorem d_Mo_matches_118 : decode c_Mo_matches 118 = .ok (.iconst 1, 1) := by decide +kernel
theorem d_Mo_matches_119 : decode c_Mo_matches 119 = .ok (.goto 4, 3) := by decide +kernel
theorem d_Mo_matches_122 : decode c_Mo_matches 122 = .ok (.iconst 0, 1) := by decide +kernel
theorem d_Mo_matches_123 : decode c_Mo_matches 123 = .ok (.ireturn, 1) := by decide +kernel
theorem d_Mo_first_0 : decode c_Mo_first 0 = .ok (.aload_n 0, 1) := by decide +kernel
theorem d_Mo_first_1 : decode c_Mo_first 1 = .ok (.iload_n 1, 1) := by decide +kernel
theorem d_Mo_first_2 : decode c_Mo_first 2 = .ok (.iconst 0, 1) := by decide +kernel
theorem d_Mo_first_3 : decode c_Mo_first 3 = .ok (.iconst 1, 1) := by decide +kernel
theorem d_Mo_first_4 : decode c_Mo_first 4 = .ok (.invokestatic 112, 3) := by decide +kernel
theorem d_Mo_first_7 : decode c_Mo_first 7 = .ok (.ifCond .ne 7, 3) := by decide +kernel
theorem d_Mo_first_10 : decode c_Mo_first 10 = .ok (.iconst 1, 1) := by decide +kernel
theorem d_Mo_first_11 : decode c_Mo_first 11 = .ok (.goto 4, 3) := by decide +kernel
theorem d_Mo_first_14 : decode c_Mo_first 14 = .ok (.iconst 0, 1) := by decide +kernel
theorem d_Mo_first_15 : decode c_Mo_first 15 = .ok (.aload_n 0, 1) := by decide +kernel
theorem d_Mo_first_16 : decode c_Mo_first 16 = .ok (.iload_n 2, 1) := by decide +kernel
theorem d_Mo_first_17 : decode c_Mo_first 17 = .ok (.iload_n 3, 1) := by decide +kernel
theorem d_Mo_first_18 : decode c_Mo_first 18 = .ok (.iload 4, 2) := by decide +kernel
theorem d_Mo_first_20 : decode c_Mo_first 20 = .ok (.iload 5, 2) := by decide +kernel
theorem d_Mo_first_22 : decode c_Mo_first 22 = .ok (.invokevirtual 137, 3) := by decide +kernel
theorem d_Mo_first_25 : decode c_Mo_first 25 = .ok (.invokevirtual 57, 3) := by decide +kernel
theorem d_Mo_first_28 : decode c_Mo_first 28 = .ok (.ifCond .eq 5, 3) := by decide +kernel
theorem d_Mo_first_31 : decode c_Mo_first 31 = .ok (.iconst 0, 1) := by decide +kernel
theorem d_Mo_first_32 : decode c_Mo_first 32 = .ok (.ireturn, 1) := by decide +kernel
theorem d_Mo_first_33 : decode c_Mo_first 33 = .ok (.aload_n 0, 1) := by decide +kernel
theorem d_Mo_first_34 : decode c_Mo_first 34 = .ok (.iload_n 1, 1) := by decide +kernel
theorem d_Mo_first_35 : decode c_Mo_first 35 = .ok (.iload_n 2, 1) := by decide +kernel
theorem d_Mo_first_36 : decode c_Mo_first 36 = .ok (.iload_n 3, 1) := by decide +kernel
theorem d_Mo_first_37 : decode c_Mo_first 37 = .ok (.iload 4, 2) := by decide +kernel
theorem d_Mo_first_39 : decode c_Mo_first 39 = .ok (.iload 5, 2) := by decide +kernel
theorem d_Mo_first_41 : decode c_Mo_first 41 = .ok (.invokevirtual 134, 3) := by decide +kernel
theorem d_Mo_first_44 : decode c_Mo_first 44 = .ok (.ireturn, 1) := by decide +kernel
theorem d_Mo_count_0 : decode c_Mo_count 0 = .ok (.aload_n 0, 1) := by decide +kernel
theorem d_Mo_count_1 : decode c_Mo_count 1 = .ok (.iload_n 1, 1) := by decide +kernel
theorem d_Mo_count_2 : decode c_Mo_count 2 = .ok (.iconst 0, 1) := by decide +kernel
theorem d_Mo_count_3 : decode c_Mo_count 3 = .ok (.iconst 1, 1) := by decide +kernel
theorem d_Mo_count_4 : decode c_Mo_count 4 = .ok (.invokestatic 112, 3) := by decide +kernel
theorem d_Mo_count_7 : decode c_Mo_count 7 = .ok (.ifCond .ne 7, 3) := by decide +kernel
theorem d_Mo_count_10 : decode c_Mo_count 10 = .ok (.iconst 1, 1) := by decide +kernel
theorem d_Mo_count_11 : decode c_Mo_count 11 = .ok (.goto 4, 3) := by decide +kernel
theorem d_Mo_count_14 : decode c_Mo_count 14 = .ok (.iconst 0, 1) := by decide +kernel
theorem d_Mo_count_15 : decode c_Mo_count 15 = .ok (.iload_n 2, 1) := by decide +kernel
theorem d_Mo_count_16 : decode c_Mo_count 16 = .ok (.iconst 0, 1) := by decide +kernel
theorem d_Mo_count_17 : decode c_Mo_count 17 = .ok (.iconst 2, 1) := by decide +kernel
theorem d_Mo_count_18 : decode c_Mo_count 18 = .ok (.invokestatic 112, 3) := by decide +kernel
theorem d_Mo_count_21 : decode c_Mo_count 21 = .ok (.ifCond .ne 7, 3) := by decide +kernel
theorem d_Mo_count_24 : decode c_Mo_count 24 = .ok (.iconst 1, 1) := by decide +kernel
theorem d_Mo_count_25 : decode c_Mo_count 25 = .ok (.goto 4, 3) := by decide +kernel
theorem d_Mo_count_28 : decode c_Mo_count 28 = .ok (.iconst 0, 1) := by decide +kernel
theorem d_Mo_count_29 : decode c_Mo_count 29 = .ok (.invokevirtual 57, 3) := by decide +kernel
theorem d_Mo_count_32 : decode c_Mo_count 32 = .ok (.ifCond .eq 5, 3) := by decide +kernel
theorem d_Mo_count_35 : decode c_Mo_count 35 = .ok (.iconst 0, 1) := by decide +kernel
theorem d_Mo_count_36 : decode c_Mo_count 36 = .ok (.ireturn, 1) := by decide +kernel
theorem d_Mo_count_37 : decode c_Mo_count 37 = .ok (.aload_n 0, 1) := by decide +kernel
theorem d_Mo_count_38 : decode c_Mo_count 38 = .ok (.iload_n 1, 1) := by decide +kernel
theorem d_Mo_count_39 : decode c_Mo_count 39 = .ok (.iconst 0, 1) := by decide +kernel
theorem d_Mo_count_40 : decode c_Mo_count 40 = .ok (.iload_n 2, 1) := by decide +kernel
theorem d_Mo_count_41 : decode c_Mo_count 41 = .ok (.invokevirtual 156, 3) := by decide +kernel
theorem d_Mo_count_44 : decode c_Mo_count 44 = .ok (.ireturn, 1) := by decide +kernel
theorem d_Mo_sum_0 : decode c_Mo_sum 0 = .ok (.aload_n 0, 1) := by decide +kernel
theorem d_Mo_sum_1 : decode c_Mo_sum 1 = .ok (.iload_n 1, 1) := by decide +kernel
theorem d_Mo_sum_2 : decode c_Mo_sum 2 = .ok (.iload_n 1, 1) := by decide +kernel
theorem d_Mo_sum_3 : decode c_Mo_sum 3 = .ok (.invokevirtual 150, 3) := by decide +kernel
theorem d_Mo_sum_6 : decode c_Mo_sum 6 = .ok (.iconst 0, 1) := by decide +kernel
theorem d_Mo_sum_7 : decode c_Mo_sum 7 = .ok (.istore 4, 2) := by decide +kernel
theorem d_Mo_sum_9 : decode c_Mo_sum 9 = .ok (.iconst 0, 1) := by decide +kernel
theorem d_Mo_sum_10 : decode c_Mo_sum 10 = .ok (.istore 5, 2) := by decide +kernel
theorem d_Mo_sum_12 : decode c_Mo_sum 12 = .ok (.iload 5, 2) := by decide +kernel
theorem d_Mo_sum_14 : decode c_Mo_sum 14 = .ok (.aload_n 0, 1) := by decide +kernel
theorem d_Mo_sum_15 : decode c_Mo_sum 15 = .ok (.getfield 31, 3) := by decide +kernel
theorem d_Mo_sum_18 : decode c_Mo_sum 18 = .ok (.iconst 0, 1) := by decide +kernel
theorem d_Mo_sum_19 : decode c_Mo_sum 19 = .ok (.iaload, 1) := by decide +kernel
theorem d_Mo_sum_20 : decode c_Mo_sum 20 = .ok (.if_icmp .ge 167, 3) := by decide +kernel
theorem d_Mo_sum_23 : decode c_Mo_sum 23 = .ok (.iconst 0, 1) := by decide +kernel
theorem d_Mo_sum_24 : decode c_Mo_sum 24 = .ok (.istore 6, 2) := by decide +kernel
theorem d_Mo_sum_26 : decode c_Mo_sum 26 = .ok (.iload 6, 2) := by decide +kernel
theorem d_Mo_sum_28 : decode c_Mo_sum 28 = .ok (.aload_n 0, 1) := by decide +kernel
theorem d_Mo_sum_29 : decode c_Mo_sum 29 = .ok (.getfield 31, 3) := by decide +kernel
theorem d_Mo_sum_32 : decode c_Mo_sum 32 = .ok (.iconst 1, 1) := by decide +kernel
theorem d_Mo_sum_33 : decode c_Mo_sum 33 = .ok (.iaload, 1) := by decide +kernel
theorem d_Mo_sum_34 : decode c_Mo_sum 34 = .ok (.if_icmp .ge 147, 3) := by decide +kernel
theorem d_Mo_sum_37 : decode c_Mo_sum 37 = .ok (.iconst 0, 1) := by decide +kernel
theorem d_Mo_sum_38 : decode c_Mo_sum 38 = .ok (.istore 7, 2) := by decide +kernel
theorem d_Mo_sum_40 : decode c_Mo_sum 40 = .ok (.iload 7, 2) := by decide +kernel
theorem d_Mo_sum_42 : decode c_Mo_sum 42 = .ok (.aload_n 0, 1) := by decide +kernel
theorem d_Mo_sum_43 : decode c_Mo_sum 43 = .ok (.getfield 31, 3) := by decide +kernel
theorem d_Mo_sum_46 : decode c_Mo_sum 46 = .ok (.iconst 2, 1) := by decide +kernel
theorem d_Mo_sum_47 : decode c_Mo_sum 47 = .ok (.iaload, 1) := by decide +kernel
theorem d_Mo_sum_48 : decode c_Mo_sum 48 = .ok (.if_icmp .ge 127, 3) := by decide +kernel
theorem d_Mo_sum_51 : decode c_Mo_sum 51 = .ok (.iconst 0, 1) := by decide +kernel
theorem d_Mo_sum_52 : decode c_Mo_sum 52 = .ok (.istore 8, 2) := by decide +kernel
theorem d_Mo_sum_54 : decode c_Mo_sum 54 = .ok (.iload 8, 2) := by decide +kernel
theorem d_Mo_sum_56 : decode c_Mo_sum 56 = .ok (.iconst 4, 1) := by decide +kernel
theorem d_Mo_sum_57 : decode c_Mo_sum 57 = .ok (.if_icmp .ge 112, 3) := by decide +kernel
theorem d_Mo_sum_60 : decode c_Mo_sum 60 = .ok (.iload_n 2, 1) := by decide +kernel
theorem d_Mo_sum_61 : decode c_Mo_sum 61 = .ok (.ifCond .ne 34, 3) := by decide +kernel
theorem d_Mo_sum_64 : decode c_Mo_sum 64 = .ok (.aload_n 0, 1) := by decide +kernel
theorem d_Mo_sum_65 : decode c_Mo_sum 65 = .ok (.iload_n 1, 1) := by decide +kernel
theorem d_Mo_sum_66 : decode c_Mo_sum 66 = .ok (.aload_n 0, 1) := by decide +kernel
theorem d_Mo_sum_67 : decode c_Mo_sum 67 = .ok (.iconst 0, 1) := by decide +kernel
theorem d_Mo_sum_68 : decode c_Mo_sum 68 = .ok (.iload 5, 2) := by decide +kernel
theorem d_Mo_sum_70 : decode c_Mo_sum 70 = .ok (.invokevirtual 144, 3) := by decide +kernel
theorem d_Mo_sum_73 : decode c_Mo_sum 73 = .ok (.aload_n 0, 1) := by decide +kernel
theorem d_Mo_sum_74 : decode c_Mo_sum 74 = .ok (.iconst 1, 1) := by decide +kernel
theorem d_Mo_sum_75 : decode c_Mo_sum 75 = .ok (.iload 6, 2) := by decide +kernel
theorem d_Mo_sum_77 : decode c_Mo_sum 77 = .ok (.invokevirtual 144, 3) := by decide +kernel
theorem d_Mo_sum_80 : decode c_Mo_sum 80 = .ok (.aload_n 0, 1) := by decide +kernel
theorem d_Mo_sum_81 : decode c_Mo_sum 81 = .ok (.iconst 2, 1) := by decide +kernel
theorem d_Mo_sum_82 : decode c_Mo_sum 82 = .ok (.iload 7, 2) := by decide +kernel
theorem d_Mo_sum_84 : decode c_Mo_sum 84 = .ok (.invokevirtual 144, 3) := by decide +kernel
theorem d_Mo_sum_87 : decode c_Mo_sum 87 = .ok (.iload 8, 2) := by decide +kernel
theorem d_Mo_sum_89 : decode c_Mo_sum 89 = .ok (.invokevirtual 141, 3) := by decide +kernel
theorem d_Mo_sum_92 : decode c_Mo_sum 92 = .ok (.goto 31, 3) := by decide +kernel
theorem d_Mo_sum_95 : decode c_Mo_sum 95 = .ok (.aload_n 0, 1) := by decide +kernel
theorem d_Mo_sum_96 : decode c_Mo_sum 96 = .ok (.iload_n 1, 1) := by decide +kernel
theorem d_Mo_sum_97 : decode c_Mo_sum 97 = .ok (.aload_n 0, 1) := by decide +kernel
theorem d_Mo_sum_98 : decode c_Mo_sum 98 = .ok (.iconst 0, 1) := by decide +kernel
theorem d_Mo_sum_99 : decode c_Mo_sum 99 = .ok (.iload 5, 2) := by decide +kernel
theorem d_Mo_sum_101 : decode c_Mo_sum 101 = .ok (.invokevirtual 144, 3) := by decide +kernel
theorem d_Mo_sum_104 : decode c_Mo_sum 104 = .ok (.aload_n 0, 1) := by decide +kernel
theorem d_Mo_sum_105 : decode c_Mo_sum 105 = .ok (.iconst 1, 1) := by decide +kernel
theorem d_Mo_sum_106 : decode c_Mo_sum 106 = .ok (.iload 6, 2) := by decide +kernel
theorem d_Mo_sum_108 : decode c_Mo_sum 108 = .ok (.invokevirtual 144, 3) := by decide +kernel
theorem d_Mo_sum_111 : decode c_Mo_sum 111 = .ok (.aload_n 0, 1) := by decide +kernel
theorem d_Mo_sum_112 : decode c_Mo_sum 112 = .ok (.iconst 2, 1) := by decide +kernel
theorem d_Mo_sum_113 : decode c_Mo_sum 113 = .ok (.iload 7, 2) := by decide +kernel
theorem d_Mo_sum_115 : decode c_Mo_sum 115 = .ok (.invokevirtual 144, 3) := by decide +kernel
theorem d_Mo_sum_118 : decode c_Mo_sum 118 = .ok (.iload 8, 2) := by decide +kernel
theorem d_Mo_sum_120 : decode c_Mo_sum 120 = .ok (.invokevirtual 134, 3) := by decide +kernel
theorem d_Mo_sum_123 : decode c_Mo_sum 123 = .ok (.istore 9, 2) := by decide +kernel
theorem d_Mo_sum_125 : decode c_Mo_sum 125 = .ok (.iload 4, 2) := by decide +kernel
theorem d_Mo_sum_127 : decode c_Mo_sum 127 = .ok (.iload 9, 2) := by decide +kernel
theorem d_Mo_sum_129 : decode c_Mo_sum 129 = .ok (.iload_n 3, 1) := by decide +kernel
theorem d_Mo_sum_130 : decode c_Mo_sum 130 = .ok (.if_icmp .ne 29, 3) := by decide +kernel
theorem d_Mo_sum_133 : decode c_Mo_sum 133 = .ok (.aload_n 0, 1) := by decide +kernel
theorem d_Mo_sum_134 : decode c_Mo_sum 134 = .ok (.iconst 0, 1) := by decide +kernel
theorem d_Mo_sum_135 : decode c_Mo_sum 135 = .ok (.iload 5, 2) := by decide +kernel
theorem d_Mo_sum_137 : decode c_Mo_sum 137 = .ok (.invokevirtual 153, 3) := by decide +kernel
theorem d_Mo_sum_140 : decode c_Mo_sum 140 = .ok (.aload_n 0, 1) := by decide +kernel
theorem d_Mo_sum_141 : decode c_Mo_sum 141 = .ok (.iconst 1, 1) := by decide +kernel
theorem d_Mo_sum_142 : decode c_Mo_sum 142 = .ok (.iload 6, 2) := by decide +kernel
theorem d_Mo_sum_144 : decode c_Mo_sum 144 = .ok (.invokevirtual 153, 3) := by decide +kernel
theorem d_Mo_sum_147 : decode c_Mo_sum 147 = .ok (.imul, 1) := by decide +kernel
theorem d_Mo_sum_148 : decode c_Mo_sum 148 = .ok (.aload_n 0, 1) := by decide +kernel
theorem d_Mo_sum_149 : decode c_Mo_sum 149 = .ok (.iconst 2, 1) := by decide +kernel
theorem d_Mo_sum_150 : decode c_Mo_sum 150 = .ok (.iload 7, 2) := by decide +kernel
theorem d_Mo_sum_152 : decode c_Mo_sum 152 = .ok (.invokevirtual 153, 3) := by decide +kernel
theorem d_Mo_sum_155 : decode c_Mo_sum 155 = .ok (.imul, 1) := by decide +kernel
theorem d_Mo_sum_156 : decode c_Mo_sum 156 = .ok (.goto 4, 3) := by decide +kernel
theorem d_Mo_sum_159 : decode c_Mo_sum 159 = .ok (.iconst 0, 1) := by decide +kernel
theorem d_Mo_sum_160 : decode c_Mo_sum 160 = .ok (.iadd, 1) := by decide +kernel
theorem d_Mo_sum_161 : decode c_Mo_sum 161 = .ok (.istore 4, 2) := by decide +kernel
theorem d_Mo_sum_163 : decode c_Mo_sum 163 = .ok (.iinc 8 1, 3) := by decide +kernel
theorem d_Mo_sum_166 : decode c_Mo_sum 166 = .ok (.goto (-112), 3) := by decide +kernel
theorem d_Mo_sum_169 : decode c_Mo_sum 169 = .ok (.iinc 7 1, 3) := by decide +kernel
theorem d_Mo_sum_172 : decode c_Mo_sum 172 = .ok (.goto (-132), 3) := by decide +kernel
theorem d_Mo_sum_175 : decode c_Mo_sum 175 = .ok (.iinc 6 1, 3) := by decide +kernel
theorem d_Mo_sum_178 : decode c_Mo_sum 178 = .ok (.goto (-152), 3) := by decide +kernel
theorem d_Mo_sum_181 : decode c_Mo_sum 181 = .ok (.iinc 5 1, 3) := by decide +kernel
theorem d_Mo_sum_184 : decode c_Mo_sum 184 = .ok (.goto (-172), 3) := by decide +kernel
theorem d_Mo_sum_187 : decode c_Mo_sum 187 = .ok (.iload 4, 2) := by decide +kernel
theorem d_Mo_sum_189 : decode c_Mo_sum 189 = .ok (.ireturn, 1) := by decide +kernel
theorem d_Mo_cutBy_0 : decode c_Mo_cutBy 0 = .ok (.iconst 0, 1) := by decide +kernel
theorem d_Mo_cutBy_1 : decode c_Mo_cutBy 1 = .ok (.istore_n 3, 1) := by decide +kernel
theorem d_Mo_cutBy_2 : decode c_Mo_cutBy 2 = .ok (.iload_n 3, 1) := by decide +kernel
theorem d_Mo_cutBy_3 : decode c_Mo_cutBy 3 = .ok (.iconst 4, 1) := by decide +kernel
theorem d_Mo_cutBy_4 : decode c_Mo_cutBy 4 = .ok (.if_icmp .ge 136, 3) := by decide +kernel
theorem d_Mo_cutBy_7 : decode c_Mo_cutBy 7 = .ok (.aload_n 0, 1) := by decide +kernel
theorem d_Mo_cutBy_8 : decode c_Mo_cutBy 8 = .ok (.getfield 31, 3) := by decide +kernel
theorem d_Mo_cutBy_11 : decode c_Mo_cutBy 11 = .ok (.iload_n 3, 1) := by decide +kernel
theorem d_Mo_cutBy_12 : decode c_Mo_cutBy 12 = .ok (.iconst 0, 1) := by decide +kernel
theorem d_Mo_cutBy_13 : decode c_Mo_cutBy 13 = .ok (.iastore, 1) := by decide +kernel
theorem d_Mo_cutBy_14 : decode c_Mo_cutBy 14 = .ok (.aload_n 0, 1) := by decide +kernel
theorem d_Mo_cutBy_15 : decode c_Mo_cutBy 15 = .ok (.iload_n 3, 1) := by decide +kernel
theorem d_Mo_cutBy_16 : decode c_Mo_cutBy 16 = .ok (.iconst 0, 1) := by decide +kernel
theorem d_Mo_cutBy_17 : decode c_Mo_cutBy 17 = .ok (.invokevirtual 147, 3) := by decide +kernel
theorem d_Mo_cutBy_20 : decode c_Mo_cutBy 20 = .ok (.iconst 1, 1) := by decide +kernel
theorem d_Mo_cutBy_21 : decode c_Mo_cutBy 21 = .ok (.istore 4, 2) := by decide +kernel
theorem d_Mo_cutBy_23 : decode c_Mo_cutBy 23 = .ok (.iload 4, 2) := by decide +kernel
theorem d_Mo_cutBy_25 : decode c_Mo_cutBy 25 = .ok (.iconst 4, 1) := by decide +kernel
theorem d_Mo_cutBy_26 : decode c_Mo_cutBy 26 = .ok (.if_icmp .ge 21, 3) := by decide +kernel
theorem d_Mo_cutBy_29 : decode c_Mo_cutBy 29 = .ok (.iload_n 3, 1) := by decide +kernel
theorem d_Mo_cutBy_30 : decode c_Mo_cutBy 30 = .ok (.iconst 3, 1) := by decide +kernel
theorem d_Mo_cutBy_31 : decode c_Mo_cutBy 31 = .ok (.if_icmp .ne 16, 3) := by decide +kernel
theorem d_Mo_cutBy_34 : decode c_Mo_cutBy 34 = .ok (.aload_n 0, 1) := by decide +kernel
theorem d_Mo_cutBy_35 : decode c_Mo_cutBy 35 = .ok (.iload_n 3, 1) := by decide +kernel
theorem d_Mo_cutBy_36 : decode c_Mo_cutBy 36 = .ok (.iload 4, 2) := by decide +kernel
theorem d_Mo_cutBy_38 : decode c_Mo_cutBy 38 = .ok (.invokevirtual 147, 3) := by decide +kernel
theorem d_Mo_cutBy_41 : decode c_Mo_cutBy 41 = .ok (.iinc 4 1, 3) := by decide +kernel
theorem d_Mo_cutBy_44 : decode c_Mo_cutBy 44 = .ok (.goto (-21), 3) := by decide +kernel
theorem d_Mo_cutBy_47 : decode c_Mo_cutBy 47 = .ok (.iload_n 1, 1) := by decide +kernel
theorem d_Mo_cutBy_48 : decode c_Mo_cutBy 48 = .ok (.istore 4, 2) := by decide +kernel
theorem d_Mo_cutBy_50 : decode c_Mo_cutBy 50 = .ok (.iload 4, 2) := by decide +kernel
theorem d_Mo_cutBy_52 : decode c_Mo_cutBy 52 = .ok (.iload_n 2, 1) := by decide +kernel
theorem d_Mo_cutBy_53 : decode c_Mo_cutBy 53 = .ok (.if_icmp .gt 81, 3) := by decide +kernel
theorem d_Mo_cutBy_56 : decode c_Mo_cutBy 56 = .ok (.iload_n 3, 1) := by decide +kernel
theorem d_Mo_cutBy_57 : decode c_Mo_cutBy 57 = .ok (.iconst 3, 1) := by decide +kernel
theorem d_Mo_cutBy_58 : decode c_Mo_cutBy 58 = .ok (.if_icmp .ge 76, 3) := by decide +kernel
theorem d_Mo_cutBy_61 : decode c_Mo_cutBy 61 = .ok (.iconst 0, 1) := by decide +kernel
theorem d_Mo_cutBy_62 : decode c_Mo_cutBy 62 = .ok (.istore 5, 2) := by decide +kernel
theorem d_Mo_cutBy_64 : decode c_Mo_cutBy 64 = .ok (.iload 5, 2) := by decide +kernel
theorem d_Mo_cutBy_66 : decode c_Mo_cutBy 66 = .ok (.aload_n 0, 1) := by decide +kernel
theorem d_Mo_cutBy_67 : decode c_Mo_cutBy 67 = .ok (.getfield 22, 3) := by decide +kernel
theorem d_Mo_cutBy_70 : decode c_Mo_cutBy 70 = .ok (.iload 4, 2) := by decide +kernel
theorem d_Mo_cutBy_72 : decode c_Mo_cutBy 72 = .ok (.iaload, 1) := by decide +kernel
theorem d_Mo_cutBy_73 : decode c_Mo_cutBy 73 = .ok (.if_icmp .ge 55, 3) := by decide +kernel
theorem d_Mo_cutBy_76 : decode c_Mo_cutBy 76 = .ok (.aload_n 0, 1) := by decide +kernel
theorem d_Mo_cutBy_77 : decode c_Mo_cutBy 77 = .ok (.iload_n 3, 1) := by decide +kernel
theorem d_Mo_cutBy_78 : decode c_Mo_cutBy 78 = .ok (.aload_n 0, 1) := by decide +kernel
theorem d_Mo_cutBy_79 : decode c_Mo_cutBy 79 = .ok (.getfield 16, 3) := by decide +kernel
theorem d_Mo_cutBy_82 : decode c_Mo_cutBy 82 = .ok (.bipush 32, 2) := by decide +kernel
theorem d_Mo_cutBy_84 : decode c_Mo_cutBy 84 = .ok (.iload 4, 2) := by decide +kernel
theorem d_Mo_cutBy_86 : decode c_Mo_cutBy 86 = .ok (.imul, 1) := by decide +kernel
theorem d_Mo_cutBy_87 : decode c_Mo_cutBy 87 = .ok (.iconst 4, 1) := by decide +kernel
theorem d_Mo_cutBy_88 : decode c_Mo_cutBy 88 = .ok (.iload 5, 2) := by decide +kernel
theorem d_Mo_cutBy_90 : decode c_Mo_cutBy 90 = .ok (.imul, 1) := by decide +kernel
theorem d_Mo_cutBy_91 : decode c_Mo_cutBy 91 = .ok (.iadd, 1) := by decide +kernel
theorem d_Mo_cutBy_92 : decode c_Mo_cutBy 92 = .ok (.iload_n 3, 1) := by decide +kernel
theorem d_Mo_cutBy_93 : decode c_Mo_cutBy 93 = .ok (.iadd, 1) := by decide +kernel
theorem d_Mo_cutBy_94 : decode c_Mo_cutBy 94 = .ok (.iaload, 1) := by decide +kernel
theorem d_Mo_cutBy_95 : decode c_Mo_cutBy 95 = .ok (.invokevirtual 147, 3) := by decide +kernel
theorem d_Mo_cutBy_98 : decode c_Mo_cutBy 98 = .ok (.aload_n 0, 1) := by decide +kernel
theorem d_Mo_cutBy_99 : decode c_Mo_cutBy 99 = .ok (.iload_n 3, 1) := by decide +kernel
theorem d_Mo_cutBy_100 : decode c_Mo_cutBy 100 = .ok (.aload_n 0, 1) := by decide +kernel
theorem d_Mo_cutBy_101 : decode c_Mo_cutBy 101 = .ok (.getfield 19, 3) := by decide +kernel
theorem d_Mo_cutBy_104 : decode c_Mo_cutBy 104 = .ok (.bipush 32, 2) := by decide +kernel
theorem d_Mo_cutBy_106 : decode c_Mo_cutBy 106 = .ok (.iload 4, 2) := by decide +kernel
theorem d_Mo_cutBy_108 : decode c_Mo_cutBy 108 = .ok (.imul, 1) := by decide +kernel
theorem d_Mo_cutBy_109 : decode c_Mo_cutBy 109 = .ok (.iconst 4, 1) := by decide +kernel
theorem d_Mo_cutBy_110 : decode c_Mo_cutBy 110 = .ok (.iload 5, 2) := by decide +kernel
theorem d_Mo_cutBy_112 : decode c_Mo_cutBy 112 = .ok (.imul, 1) := by decide +kernel
theorem d_Mo_cutBy_113 : decode c_Mo_cutBy 113 = .ok (.iadd, 1) := by decide +kernel
theorem d_Mo_cutBy_114 : decode c_Mo_cutBy 114 = .ok (.iload_n 3, 1) := by decide +kernel
theorem d_Mo_cutBy_115 : decode c_Mo_cutBy 115 = .ok (.iadd, 1) := by decide +kernel
theorem d_Mo_cutBy_116 : decode c_Mo_cutBy 116 = .ok (.iaload, 1) := by decide +kernel
theorem d_Mo_cutBy_117 : decode c_Mo_cutBy 117 = .ok (.iconst 1, 1) := by decide +kernel
theorem d_Mo_cutBy_118 : decode c_Mo_cutBy 118 = .ok (.iadd, 1) := by decide +kernel
theorem d_Mo_cutBy_119 : decode c_Mo_cutBy 119 = .ok (.invokevirtual 147, 3) := by decide +kernel
theorem d_Mo_cutBy_122 : decode c_Mo_cutBy 122 = .ok (.iinc 5 1, 3) := by decide +kernel
theorem d_Mo_cutBy_125 : decode c_Mo_cutBy 125 = .ok (.goto (-61), 3) := by decide +kernel
theorem d_Mo_cutBy_128 : decode c_Mo_cutBy 128 = .ok (.iinc 4 1, 3) := by decide +kernel
theorem d_Mo_cutBy_131 : decode c_Mo_cutBy 131 = .ok (.goto (-81), 3) := by decide +kernel
theorem d_Mo_cutBy_134 : decode c_Mo_cutBy 134 = .ok (.iinc 3 1, 3) := by decide +kernel
theorem d_Mo_cutBy_137 : decode c_Mo_cutBy 137 = .ok (.goto (-135), 3) := by decide +kernel
theorem d_Mo_cutBy_140 : decode c_Mo_cutBy 140 = .ok (.return_, 1) := by decide +kernel
theorem d_Mo_addCut_0 : decode c_Mo_addCut 0 = .ok (.iconst 0, 1) := by decide +kernel
theorem d_Mo_addCut_1 : decode c_Mo_addCut 1 = .ok (.istore_n 3, 1) := by decide +kernel
theorem d_Mo_addCut_2 : decode c_Mo_addCut 2 = .ok (.iload_n 3, 1) := by decide +kernel
theorem d_Mo_addCut_3 : decode c_Mo_addCut 3 = .ok (.aload_n 0, 1) := by decide +kernel
theorem d_Mo_addCut_4 : decode c_Mo_addCut 4 = .ok (.getfield 31, 3) := by decide +kernel
theorem d_Mo_addCut_7 : decode c_Mo_addCut 7 = .ok (.iload_n 1, 1) := by decide +kernel
theorem d_Mo_addCut_8 : decode c_Mo_addCut 8 = .ok (.iaload, 1) := by decide +kernel
theorem d_Mo_addCut_9 : decode c_Mo_addCut 9 = .ok (.if_icmp .ge 19, 3) := by decide +kernel
theorem d_Mo_addCut_12 : decode c_Mo_addCut 12 = .ok (.aload_n 0, 1) := by decide +kernel
theorem d_Mo_addCut_13 : decode c_Mo_addCut 13 = .ok (.iload_n 1, 1) := by decide +kernel
theorem d_Mo_addCut_14 : decode c_Mo_addCut 14 = .ok (.iload_n 3, 1) := by decide +kernel
theorem d_Mo_addCut_15 : decode c_Mo_addCut 15 = .ok (.invokevirtual 144, 3) := by decide +kernel
theorem d_Mo_addCut_18 : decode c_Mo_addCut 18 = .ok (.iload_n 2, 1) := by decide +kernel
theorem d_Mo_addCut_19 : decode c_Mo_addCut 19 = .ok (.if_icmp .ge 9, 3) := by decide +kernel
theorem d_Mo_addCut_22 : decode c_Mo_addCut 22 = .ok (.iinc 3 1, 3) := by decide +kernel
theorem d_Mo_addCut_25 : decode c_Mo_addCut 25 = .ok (.goto (-23), 3) := by decide +kernel
theorem d_Mo_addCut_28 : decode c_Mo_addCut 28 = .ok (.iload_n 2, 1) := by decide +kernel
theorem d_Mo_addCut_29 : decode c_Mo_addCut 29 = .ok (.iload_n 1, 1) := by decide +kernel
theorem d_Mo_addCut_30 : decode c_Mo_addCut 30 = .ok (.invokestatic 92, 3) := by decide +kernel
theorem d_Mo_addCut_33 : decode c_Mo_addCut 33 = .ok (.if_icmp .gt 23, 3) := by decide +kernel
theorem d_Mo_addCut_36 : decode c_Mo_addCut 36 = .ok (.iload_n 3, 1) := by decide +kernel
theorem d_Mo_addCut_37 : decode c_Mo_addCut 37 = .ok (.aload_n 0, 1) := by decide +kernel
theorem d_Mo_addCut_38 : decode c_Mo_addCut 38 = .ok (.getfield 31, 3) := by decide +kernel
theorem d_Mo_addCut_41 : decode c_Mo_addCut 41 = .ok (.iload_n 1, 1) := by decide +kernel
theorem d_Mo_addCut_42 : decode c_Mo_addCut 42 = .ok (.iaload, 1) := by decide +kernel
theorem d_Mo_addCut_43 : decode c_Mo_addCut 43 = .ok (.if_icmp .ge 14, 3) := by decide +kernel
theorem d_Mo_addCut_46 : decode c_Mo_addCut 46 = .ok (.aload_n 0, 1) := by decide +kernel
theorem d_Mo_addCut_47 : decode c_Mo_addCut 47 = .ok (.iload_n 1, 1) := by decide +kernel
theorem d_Mo_addCut_48 : decode c_Mo_addCut 48 = .ok (.iload_n 3, 1) := by decide +kernel
theorem d_Mo_addCut_49 : decode c_Mo_addCut 49 = .ok (.invokevirtual 144, 3) := by decide +kernel
theorem d_Mo_addCut_52 : decode c_Mo_addCut 52 = .ok (.iload_n 2, 1) := by decide +kernel
theorem d_Mo_addCut_53 : decode c_Mo_addCut 53 = .ok (.if_icmp .ne 4, 3) := by decide +kernel
theorem d_Mo_addCut_56 : decode c_Mo_addCut 56 = .ok (.return_, 1) := by decide +kernel
theorem d_Mo_addCut_57 : decode c_Mo_addCut 57 = .ok (.aload_n 0, 1) := by decide +kernel
theorem d_Mo_addCut_58 : decode c_Mo_addCut 58 = .ok (.getfield 31, 3) := by decide +kernel
theorem d_Mo_addCut_61 : decode c_Mo_addCut 61 = .ok (.iload_n 1, 1) := by decide +kernel
theorem d_Mo_addCut_62 : decode c_Mo_addCut 62 = .ok (.iaload, 1) := by decide +kernel
theorem d_Mo_addCut_63 : decode c_Mo_addCut 63 = .ok (.istore 4, 2) := by decide +kernel
theorem d_Mo_addCut_65 : decode c_Mo_addCut 65 = .ok (.iload 4, 2) := by decide +kernel
theorem d_Mo_addCut_67 : decode c_Mo_addCut 67 = .ok (.iload_n 3, 1) := by decide +kernel
theorem d_Mo_addCut_68 : decode c_Mo_addCut 68 = .ok (.if_icmp .le 35, 3) := by decide +kernel
theorem d_Mo_addCut_71 : decode c_Mo_addCut 71 = .ok (.aload_n 0, 1) := by decide +kernel
theorem d_Mo_addCut_72 : decode c_Mo_addCut 72 = .ok (.getfield 28, 3) := by decide +kernel
theorem d_Mo_addCut_75 : decode c_Mo_addCut 75 = .ok (.bipush 40, 2) := by decide +kernel
theorem d_Mo_addCut_77 : decode c_Mo_addCut 77 = .ok (.iload_n 1, 1) := by decide +kernel
theorem d_Mo_addCut_78 : decode c_Mo_addCut 78 = .ok (.imul, 1) := by decide +kernel
theorem d_Mo_addCut_79 : decode c_Mo_addCut 79 = .ok (.iload 4, 2) := by decide +kernel
theorem d_Mo_addCut_81 : decode c_Mo_addCut 81 = .ok (.iadd, 1) := by decide +kernel
theorem d_Mo_addCut_82 : decode c_Mo_addCut 82 = .ok (.aload_n 0, 1) := by decide +kernel
theorem d_Mo_addCut_83 : decode c_Mo_addCut 83 = .ok (.getfield 28, 3) := by decide +kernel
theorem d_Mo_addCut_86 : decode c_Mo_addCut 86 = .ok (.bipush 40, 2) := by decide +kernel
theorem d_Mo_addCut_88 : decode c_Mo_addCut 88 = .ok (.iload_n 1, 1) := by decide +kernel
theorem d_Mo_addCut_89 : decode c_Mo_addCut 89 = .ok (.imul, 1) := by decide +kernel
theorem d_Mo_addCut_90 : decode c_Mo_addCut 90 = .ok (.iload 4, 2) := by decide +kernel
theorem d_Mo_addCut_92 : decode c_Mo_addCut 92 = .ok (.iadd, 1) := by decide +kernel
theorem d_Mo_addCut_93 : decode c_Mo_addCut 93 = .ok (.iconst 1, 1) := by decide +kernel
theorem d_Mo_addCut_94 : decode c_Mo_addCut 94 = .ok (.isub, 1) := by decide +kernel
theorem d_Mo_addCut_95 : decode c_Mo_addCut 95 = .ok (.iaload, 1) := by decide +kernel
theorem d_Mo_addCut_96 : decode c_Mo_addCut 96 = .ok (.iastore, 1) := by decide +kernel
theorem d_Mo_addCut_97 : decode c_Mo_addCut 97 = .ok (.iinc 4 (-1), 3) := by decide +kernel
theorem d_Mo_addCut_100 : decode c_Mo_addCut 100 = .ok (.goto (-35), 3) := by decide +kernel
theorem d_Mo_addCut_103 : decode c_Mo_addCut 103 = .ok (.aload_n 0, 1) := by decide +kernel
theorem d_Mo_addCut_104 : decode c_Mo_addCut 104 = .ok (.getfield 28, 3) := by decide +kernel
theorem d_Mo_addCut_107 : decode c_Mo_addCut 107 = .ok (.bipush 40, 2) := by decide +kernel
theorem d_Mo_addCut_109 : decode c_Mo_addCut 109 = .ok (.iload_n 1, 1) := by decide +kernel
theorem d_Mo_addCut_110 : decode c_Mo_addCut 110 = .ok (.imul, 1) := by decide +kernel
theorem d_Mo_addCut_111 : decode c_Mo_addCut 111 = .ok (.iload_n 3, 1) := by decide +kernel
theorem d_Mo_addCut_112 : decode c_Mo_addCut 112 = .ok (.iadd, 1) := by decide +kernel
theorem d_Mo_addCut_113 : decode c_Mo_addCut 113 = .ok (.iload_n 2, 1) := by decide +kernel
theorem d_Mo_addCut_114 : decode c_Mo_addCut 114 = .ok (.iastore, 1) := by decide +kernel
theorem d_Mo_addCut_115 : decode c_Mo_addCut 115 = .ok (.aload_n 0, 1) := by decide +kernel
theorem d_Mo_addCut_116 : decode c_Mo_addCut 116 = .ok (.getfield 31, 3) := by decide +kernel
theorem d_Mo_addCut_119 : decode c_Mo_addCut 119 = .ok (.iload_n 1, 1) := by decide +kernel
theorem d_Mo_addCut_120 : decode c_Mo_addCut 120 = .ok (.dup2, 1) := by decide +kernel
theorem d_Mo_addCut_121 : decode c_Mo_addCut 121 = .ok (.iaload, 1) := by decide +kernel
theorem d_Mo_addCut_122 : decode c_Mo_addCut 122 = .ok (.iconst 1, 1) := by decide +kernel
theorem d_Mo_addCut_123 : decode c_Mo_addCut 123 = .ok (.iadd, 1) := by decide +kernel
theorem d_Mo_addCut_124 : decode c_Mo_addCut 124 = .ok (.iastore, 1) := by decide +kernel
theorem d_Mo_addCut_125 : decode c_Mo_addCut 125 = .ok (.return_, 1) := by decide +kernel
theorem d_Mo_cut_0 : decode c_Mo_cut 0 = .ok (.aload_n 0, 1) := by decide +kernel
theorem d_Mo_cut_1 : decode c_Mo_cut 1 = .ok (.getfield 28, 3) := by decide +kernel
theorem d_Mo_cut_4 : decode c_Mo_cut 4 = .ok (.bipush 40, 2) := by decide +kernel
theorem d_Mo_cut_6 : decode c_Mo_cut 6 = .ok (.iload_n 1, 1) := by decide +kernel
theorem d_Mo_cut_7 : decode c_Mo_cut 7 = .ok (.imul, 1) := by decide +kernel
theorem d_Mo_cut_8 : decode c_Mo_cut 8 = .ok (.iload_n 2, 1) := by decide +kernel
theorem d_Mo_cut_9 : decode c_Mo_cut 9 = .ok (.iadd, 1) := by decide +kernel
theorem d_Mo_cut_10 : decode c_Mo_cut 10 = .ok (.iaload, 1) := by decide +kernel
theorem d_Mo_cut_11 : decode c_Mo_cut 11 = .ok (.ireturn, 1) := by decide +kernel
theorem d_Mo_width_0 : decode c_Mo_width 0 = .ok (.iload_n 2, 1) := by decide +kernel
theorem d_Mo_width_1 : decode c_Mo_width 1 = .ok (.iconst 1, 1) := by decide +kernel
theorem d_Mo_width_2 : decode c_Mo_width 2 = .ok (.iadd, 1) := by decide +kernel
theorem d_Mo_width_3 : decode c_Mo_width 3 = .ok (.aload_n 0, 1) := by decide +kernel
theorem d_Mo_width_4 : decode c_Mo_width 4 = .ok (.getfield 31, 3) := by decide +kernel
theorem d_Mo_width_7 : decode c_Mo_width 7 = .ok (.iload_n 1, 1) := by decide +kernel
theorem d_Mo_width_8 : decode c_Mo_width 8 = .ok (.iaload, 1) := by decide +kernel
theorem d_Mo_width_9 : decode c_Mo_width 9 = .ok (.if_icmp .ge 14, 3) := by decide +kernel
theorem d_Mo_width_12 : decode c_Mo_width 12 = .ok (.aload_n 0, 1) := by decide +kernel
theorem d_Mo_width_13 : decode c_Mo_width 13 = .ok (.iload_n 1, 1) := by decide +kernel
theorem d_Mo_width_14 : decode c_Mo_width 14 = .ok (.iload_n 2, 1) := by decide +kernel
theorem d_Mo_width_15 : decode c_Mo_width 15 = .ok (.iconst 1, 1) := by decide +kernel
theorem d_Mo_width_16 : decode c_Mo_width 16 = .ok (.iadd, 1) := by decide +kernel
theorem d_Mo_width_17 : decode c_Mo_width 17 = .ok (.invokevirtual 144, 3) := by decide +kernel
theorem d_Mo_width_20 : decode c_Mo_width 20 = .ok (.goto 9, 3) := by decide +kernel
theorem d_Mo_width_23 : decode c_Mo_width 23 = .ok (.iload_n 1, 1) := by decide +kernel
theorem d_Mo_width_24 : decode c_Mo_width 24 = .ok (.invokestatic 92, 3) := by decide +kernel
theorem d_Mo_width_27 : decode c_Mo_width 27 = .ok (.iconst 1, 1) := by decide +kernel
theorem d_Mo_width_28 : decode c_Mo_width 28 = .ok (.iadd, 1) := by decide +kernel
theorem d_Mo_width_29 : decode c_Mo_width 29 = .ok (.istore_n 3, 1) := by decide +kernel
theorem d_Mo_width_30 : decode c_Mo_width 30 = .ok (.iload_n 3, 1) := by decide +kernel
theorem d_Mo_width_31 : decode c_Mo_width 31 = .ok (.aload_n 0, 1) := by decide +kernel
theorem d_Mo_width_32 : decode c_Mo_width 32 = .ok (.iload_n 1, 1) := by decide +kernel
theorem d_Mo_width_33 : decode c_Mo_width 33 = .ok (.iload_n 2, 1) := by decide +kernel
theorem d_Mo_width_34 : decode c_Mo_width 34 = .ok (.invokevirtual 144, 3) := by decide +kernel
theorem d_Mo_width_37 : decode c_Mo_width 37 = .ok (.isub, 1) := by decide +kernel
theorem d_Mo_width_38 : decode c_Mo_width 38 = .ok (.ireturn, 1) := by decide +kernel
theorem d_Mo_used_0 : decode c_Mo_used 0 = .ok (.aload_n 0, 1) := by decide +kernel
theorem d_Mo_used_1 : decode c_Mo_used 1 = .ok (.iload_n 1, 1) := by decide +kernel
theorem d_Mo_used_2 : decode c_Mo_used 2 = .ok (.iconst 0, 1) := by decide +kernel
theorem d_Mo_used_3 : decode c_Mo_used 3 = .ok (.iconst 1, 1) := by decide +kernel
theorem d_Mo_used_4 : decode c_Mo_used 4 = .ok (.invokestatic 112, 3) := by decide +kernel
theorem d_Mo_used_7 : decode c_Mo_used 7 = .ok (.ifCond .ne 7, 3) := by decide +kernel
theorem d_Mo_used_10 : decode c_Mo_used 10 = .ok (.iconst 1, 1) := by decide +kernel
theorem d_Mo_used_11 : decode c_Mo_used 11 = .ok (.goto 4, 3) := by decide +kernel
theorem d_Mo_used_14 : decode c_Mo_used 14 = .ok (.iconst 0, 1) := by decide +kernel
theorem d_Mo_used_15 : decode c_Mo_used 15 = .ok (.aload_n 0, 1) := by decide +kernel
theorem d_Mo_used_16 : decode c_Mo_used 16 = .ok (.iload_n 1, 1) := by decide +kernel
theorem d_Mo_used_17 : decode c_Mo_used 17 = .ok (.iload_n 2, 1) := by decide +kernel
theorem d_Mo_used_18 : decode c_Mo_used 18 = .ok (.invokevirtual 123, 3) := by decide +kernel
theorem d_Mo_used_21 : decode c_Mo_used 21 = .ok (.invokevirtual 57, 3) := by decide +kernel
theorem d_Mo_used_24 : decode c_Mo_used 24 = .ok (.ifCond .eq 5, 3) := by decide +kernel
theorem d_Mo_used_27 : decode c_Mo_used 27 = .ok (.iconst 0, 1) := by decide +kernel
theorem d_Mo_used_28 : decode c_Mo_used 28 = .ok (.ireturn, 1) := by decide +kernel
theorem d_Mo_used_29 : decode c_Mo_used 29 = .ok (.aload_n 0, 1) := by decide +kernel
theorem d_Mo_used_30 : decode c_Mo_used 30 = .ok (.iload_n 1, 1) := by decide +kernel
theorem d_Mo_used_31 : decode c_Mo_used 31 = .ok (.iconst 1, 1) := by decide +kernel
theorem d_Mo_used_32 : decode c_Mo_used 32 = .ok (.iload_n 2, 1) := by decide +kernel
theorem d_Mo_used_33 : decode c_Mo_used 33 = .ok (.invokevirtual 156, 3) := by decide +kernel
theorem d_Mo_used_36 : decode c_Mo_used 36 = .ok (.ireturn, 1) := by decide +kernel
theorem d_Mo_prune_0 : decode c_Mo_prune 0 = .ok (.aload_n 0, 1) := by decide +kernel
theorem d_Mo_prune_1 : decode c_Mo_prune 1 = .ok (.iload_n 1, 1) := by decide +kernel
theorem d_Mo_prune_2 : decode c_Mo_prune 2 = .ok (.iconst 0, 1) := by decide +kernel
theorem d_Mo_prune_3 : decode c_Mo_prune 3 = .ok (.iconst 1, 1) := by decide +kernel
theorem d_Mo_prune_4 : decode c_Mo_prune 4 = .ok (.invokestatic 112, 3) := by decide +kernel
theorem d_Mo_prune_7 : decode c_Mo_prune 7 = .ok (.ifCond .ne 7, 3) := by decide +kernel
theorem d_Mo_prune_10 : decode c_Mo_prune 10 = .ok (.iconst 1, 1) := by decide +kernel
theorem d_Mo_prune_11 : decode c_Mo_prune 11 = .ok (.goto 4, 3) := by decide +kernel
theorem d_Mo_prune_14 : decode c_Mo_prune 14 = .ok (.iconst 0, 1) := by decide +kernel
theorem d_Mo_prune_15 : decode c_Mo_prune 15 = .ok (.iconst 0, 1) := by decide +kernel
theorem d_Mo_prune_16 : decode c_Mo_prune 16 = .ok (.invokevirtual 57, 3) := by decide +kernel
theorem d_Mo_prune_19 : decode c_Mo_prune 19 = .ok (.ifCond .eq 5, 3) := by decide +kernel
theorem d_Mo_prune_22 : decode c_Mo_prune 22 = .ok (.iconst 0, 1) := by decide +kernel
theorem d_Mo_prune_23 : decode c_Mo_prune 23 = .ok (.ireturn, 1) := by decide +kernel
theorem d_Mo_prune_24 : decode c_Mo_prune 24 = .ok (.iconst 0, 1) := by decide +kernel
theorem d_Mo_prune_25 : decode c_Mo_prune 25 = .ok (.istore_n 2, 1) := by decide +kernel
theorem d_Mo_prune_26 : decode c_Mo_prune 26 = .ok (.iconst 0, 1) := by decide +kernel
theorem d_Mo_prune_27 : decode c_Mo_prune 27 = .ok (.istore_n 3, 1) := by decide +kernel
theorem d_Mo_prune_28 : decode c_Mo_prune 28 = .ok (.iconst 0, 1) := by decide +kernel
theorem d_Mo_prune_29 : decode c_Mo_prune 29 = .ok (.istore 4, 2) := by decide +kernel
theorem d_Mo_prune_31 : decode c_Mo_prune 31 = .ok (.iload 4, 2) := by decide +kernel
theorem d_Mo_prune_33 : decode c_Mo_prune 33 = .ok (.aload_n 0, 1) := by decide +kernel
theorem d_Mo_prune_34 : decode c_Mo_prune 34 = .ok (.getfield 22, 3) := by decide +kernel
theorem d_Mo_prune_37 : decode c_Mo_prune 37 = .ok (.iload_n 1, 1) := by decide +kernel
theorem d_Mo_prune_38 : decode c_Mo_prune 38 = .ok (.iaload, 1) := by decide +kernel
theorem d_Mo_prune_39 : decode c_Mo_prune 39 = .ok (.if_icmp .ge 31, 3) := by decide +kernel
theorem d_Mo_prune_42 : decode c_Mo_prune 42 = .ok (.iload_n 3, 1) := by decide +kernel
theorem d_Mo_prune_43 : decode c_Mo_prune 43 = .ok (.aload_n 0, 1) := by decide +kernel
theorem d_Mo_prune_44 : decode c_Mo_prune 44 = .ok (.iload_n 1, 1) := by decide +kernel
theorem d_Mo_prune_45 : decode c_Mo_prune 45 = .ok (.iconst 1, 1) := by decide +kernel
theorem d_Mo_prune_46 : decode c_Mo_prune 46 = .ok (.iload 4, 2) := by decide +kernel
theorem d_Mo_prune_48 : decode c_Mo_prune 48 = .ok (.invokevirtual 156, 3) := by decide +kernel
theorem d_Mo_prune_51 : decode c_Mo_prune 51 = .ok (.ifCond .ne 10, 3) := by decide +kernel
theorem d_Mo_prune_54 : decode c_Mo_prune 54 = .ok (.iconst 1, 1) := by decide +kernel
theorem d_Mo_prune_55 : decode c_Mo_prune 55 = .ok (.iload 4, 2) := by decide +kernel
theorem d_Mo_prune_57 : decode c_Mo_prune 57 = .ok (.ishl, 1) := by decide +kernel
theorem d_Mo_prune_58 : decode c_Mo_prune 58 = .ok (.goto 4, 3) := by decide +kernel
theorem d_Mo_prune_61 : decode c_Mo_prune 61 = .ok (.iconst 0, 1) := by decide +kernel
theorem d_Mo_prune_62 : decode c_Mo_prune 62 = .ok (.ior, 1) := by decide +kernel
theorem d_Mo_prune_63 : decode c_Mo_prune 63 = .ok (.istore_n 3, 1) := by decide +kernel
theorem d_Mo_prune_64 : decode c_Mo_prune 64 = .ok (.iinc 4 1, 3) := by decide +kernel
theorem d_Mo_prune_67 : decode c_Mo_prune 67 = .ok (.goto (-36), 3) := by decide +kernel
theorem d_Mo_prune_70 : decode c_Mo_prune 70 = .ok (.aload_n 0, 1) := by decide +kernel
theorem d_Mo_prune_71 : decode c_Mo_prune 71 = .ok (.getfield 22, 3) := by decide +kernel
theorem d_Mo_prune_74 : decode c_Mo_prune 74 = .ok (.iload_n 1, 1) := by decide +kernel
theorem d_Mo_prune_75 : decode c_Mo_prune 75 = .ok (.iaload, 1) := by decide +kernel
theorem d_Mo_prune_76 : decode c_Mo_prune 76 = .ok (.iconst 1, 1) := by decide +kernel
theorem d_Mo_prune_77 : decode c_Mo_prune 77 = .ok (.isub, 1) := by decide +kernel
theorem d_Mo_prune_78 : decode c_Mo_prune 78 = .ok (.istore 4, 2) := by decide +kernel
theorem d_Mo_prune_80 : decode c_Mo_prune 80 = .ok (.iload 4, 2) := by decide +kernel
theorem d_Mo_prune_82 : decode c_Mo_prune 82 = .ok (.ifCond .lt 29, 3) := by decide +kernel
theorem d_Mo_prune_85 : decode c_Mo_prune 85 = .ok (.iload_n 3, 1) := by decide +kernel
theorem d_Mo_prune_86 : decode c_Mo_prune 86 = .ok (.iload 4, 2) := by decide +kernel
theorem d_Mo_prune_88 : decode c_Mo_prune 88 = .ok (.ishr, 1) := by decide +kernel
theorem d_Mo_prune_89 : decode c_Mo_prune 89 = .ok (.iconst 1, 1) := by decide +kernel
theorem d_Mo_prune_90 : decode c_Mo_prune 90 = .ok (.iand, 1) := by decide +kernel
theorem d_Mo_prune_91 : decode c_Mo_prune 91 = .ok (.iconst 1, 1) := by decide +kernel
theorem d_Mo_prune_92 : decode c_Mo_prune 92 = .ok (.if_icmp .ne 13, 3) := by decide +kernel
theorem d_Mo_prune_95 : decode c_Mo_prune 95 = .ok (.aload_n 0, 1) := by decide +kernel
theorem d_Mo_prune_96 : decode c_Mo_prune 96 = .ok (.iload_n 1, 1) := by decide +kernel
theorem d_Mo_prune_97 : decode c_Mo_prune 97 = .ok (.iload 4, 2) := by decide +kernel
theorem d_Mo_prune_99 : decode c_Mo_prune 99 = .ok (.invokevirtual 127, 3) := by decide +kernel
theorem d_Mo_prune_102 : decode c_Mo_prune 102 = .ok (.iinc 2 1, 3) := by decide +kernel
theorem d_Mo_prune_105 : decode c_Mo_prune 105 = .ok (.iinc 4 (-1), 3) := by decide +kernel
theorem d_Mo_prune_108 : decode c_Mo_prune 108 = .ok (.goto (-28), 3) := by decide +kernel
theorem d_Mo_prune_111 : decode c_Mo_prune 111 = .ok (.iload_n 2, 1) := by decide +kernel
theorem d_Mo_prune_112 : decode c_Mo_prune 112 = .ok (.ireturn, 1) := by decide +kernel
theorem d_Mo_differing_0 : decode c_Mo_differing 0 = .ok (.aload_n 0, 1) := by decide +kernel
theorem d_Mo_differing_1 : decode c_Mo_differing 1 = .ok (.iconst 0, 1) := by decide +kernel
theorem d_Mo_differing_2 : decode c_Mo_differing 2 = .ok (.putfield 46, 3) := by decide +kernel
theorem d_Mo_differing_5 : decode c_Mo_differing 5 = .ok (.aload_n 0, 1) := by decide +kernel
theorem d_Mo_differing_6 : decode c_Mo_differing 6 = .ok (.iconst (-1), 1) := by decide +kernel
theorem d_Mo_differing_7 : decode c_Mo_differing 7 = .ok (.invokevirtual 160, 3) := by decide +kernel
theorem d_Mo_differing_10 : decode c_Mo_differing 10 = .ok (.ireturn, 1) := by decide +kernel
theorem d_Mo_differ_0 : decode c_Mo_differ 0 = .ok (.aload_n 0, 1) := by decide +kernel
theorem d_Mo_differ_1 : decode c_Mo_differ 1 = .ok (.iconst 0, 1) := by decide +kernel
theorem d_Mo_differ_2 : decode c_Mo_differ 2 = .ok (.iconst 1, 1) := by decide +kernel
theorem d_Mo_differ_3 : decode c_Mo_differ 3 = .ok (.invokevirtual 150, 3) := by decide +kernel
theorem d_Mo_differ_6 : decode c_Mo_differ 6 = .ok (.iconst 0, 1) := by decide +kernel
theorem d_Mo_differ_7 : decode c_Mo_differ 7 = .ok (.istore_n 2, 1) := by decide +kernel
theorem d_Mo_differ_8 : decode c_Mo_differ 8 = .ok (.iconst 0, 1) := by decide +kernel
theorem d_Mo_differ_9 : decode c_Mo_differ 9 = .ok (.istore_n 3, 1) := by decide +kernel
theorem d_Mo_differ_10 : decode c_Mo_differ 10 = .ok (.iload_n 3, 1) := by decide +kernel
theorem d_Mo_differ_11 : decode c_Mo_differ 11 = .ok (.aload_n 0, 1) := by decide +kernel
theorem d_Mo_differ_12 : decode c_Mo_differ 12 = .ok (.getfield 31, 3) := by decide +kernel
theorem d_Mo_differ_15 : decode c_Mo_differ 15 = .ok (.iconst 0, 1) := by decide +kernel
theorem d_Mo_differ_16 : decode c_Mo_differ 16 = .ok (.iaload, 1) := by decide +kernel
theorem d_Mo_differ_17 : decode c_Mo_differ 17 = .ok (.if_icmp .ge 180, 3) := by decide +kernel
theorem d_Mo_differ_20 : decode c_Mo_differ 20 = .ok (.iconst 0, 1) := by decide +kernel
theorem d_Mo_differ_21 : decode c_Mo_differ 21 = .ok (.istore 4, 2) := by decide +kernel
theorem d_Mo_differ_23 : decode c_Mo_differ 23 = .ok (.iload 4, 2) := by decide +kernel
theorem d_Mo_differ_25 : decode c_Mo_differ 25 = .ok (.aload_n 0, 1) := by decide +kernel
theorem d_Mo_differ_26 : decode c_Mo_differ 26 = .ok (.getfield 31, 3) := by decide +kernel
theorem d_Mo_differ_29 : decode c_Mo_differ 29 = .ok (.iconst 1, 1) := by decide +kernel
theorem d_Mo_differ_30 : decode c_Mo_differ 30 = .ok (.iaload, 1) := by decide +kernel
theorem d_Mo_differ_31 : decode c_Mo_differ 31 = .ok (.if_icmp .ge 160, 3) := by decide +kernel
theorem d_Mo_differ_34 : decode c_Mo_differ 34 = .ok (.iconst 0, 1) := by decide +kernel
theorem d_Mo_differ_35 : decode c_Mo_differ 35 = .ok (.istore 5, 2) := by decide +kernel
theorem d_Mo_differ_37 : decode c_Mo_differ 37 = .ok (.iload 5, 2) := by decide +kernel
theorem d_Mo_differ_39 : decode c_Mo_differ 39 = .ok (.aload_n 0, 1) := by decide +kernel
theorem d_Mo_differ_40 : decode c_Mo_differ 40 = .ok (.getfield 31, 3) := by decide +kernel
theorem d_Mo_differ_43 : decode c_Mo_differ 43 = .ok (.iconst 2, 1) := by decide +kernel
theorem d_Mo_differ_44 : decode c_Mo_differ 44 = .ok (.iaload, 1) := by decide +kernel
theorem d_Mo_differ_45 : decode c_Mo_differ 45 = .ok (.if_icmp .ge 140, 3) := by decide +kernel
theorem d_Mo_differ_48 : decode c_Mo_differ 48 = .ok (.iconst 0, 1) := by decide +kernel
theorem d_Mo_differ_49 : decode c_Mo_differ 49 = .ok (.istore 6, 2) := by decide +kernel
theorem d_Mo_differ_51 : decode c_Mo_differ 51 = .ok (.iload 6, 2) := by decide +kernel
theorem d_Mo_differ_53 : decode c_Mo_differ 53 = .ok (.iconst 4, 1) := by decide +kernel
theorem d_Mo_differ_54 : decode c_Mo_differ 54 = .ok (.if_icmp .ge 125, 3) := by decide +kernel
theorem d_Mo_differ_57 : decode c_Mo_differ 57 = .ok (.aload_n 0, 1) := by decide +kernel
theorem d_Mo_differ_58 : decode c_Mo_differ 58 = .ok (.iconst 0, 1) := by decide +kernel
theorem d_Mo_differ_59 : decode c_Mo_differ 59 = .ok (.iload_n 3, 1) := by decide +kernel
theorem d_Mo_differ_60 : decode c_Mo_differ 60 = .ok (.invokevirtual 144, 3) := by decide +kernel
theorem d_Mo_differ_63 : decode c_Mo_differ 63 = .ok (.istore 7, 2) := by decide +kernel
theorem d_Mo_differ_65 : decode c_Mo_differ 65 = .ok (.aload_n 0, 1) := by decide +kernel
theorem d_Mo_differ_66 : decode c_Mo_differ 66 = .ok (.iconst 1, 1) := by decide +kernel
theorem d_Mo_differ_67 : decode c_Mo_differ 67 = .ok (.iload 4, 2) := by decide +kernel
theorem d_Mo_differ_69 : decode c_Mo_differ 69 = .ok (.invokevirtual 144, 3) := by decide +kernel
theorem d_Mo_differ_72 : decode c_Mo_differ 72 = .ok (.istore 8, 2) := by decide +kernel
theorem d_Mo_differ_74 : decode c_Mo_differ 74 = .ok (.aload_n 0, 1) := by decide +kernel
theorem d_Mo_differ_75 : decode c_Mo_differ 75 = .ok (.iconst 2, 1) := by decide +kernel
theorem d_Mo_differ_76 : decode c_Mo_differ 76 = .ok (.iload 5, 2) := by decide +kernel
theorem d_Mo_differ_78 : decode c_Mo_differ 78 = .ok (.invokevirtual 144, 3) := by decide +kernel
theorem d_Mo_differ_81 : decode c_Mo_differ 81 = .ok (.istore 9, 2) := by decide +kernel
theorem d_Mo_differ_83 : decode c_Mo_differ 83 = .ok (.aload_n 0, 1) := by decide +kernel
theorem d_Mo_differ_84 : decode c_Mo_differ 84 = .ok (.iconst 0, 1) := by decide +kernel
theorem d_Mo_differ_85 : decode c_Mo_differ 85 = .ok (.iload 7, 2) := by decide +kernel
theorem d_Mo_differ_87 : decode c_Mo_differ 87 = .ok (.iload 8, 2) := by decide +kernel
theorem d_Mo_differ_89 : decode c_Mo_differ 89 = .ok (.iload 9, 2) := by decide +kernel
theorem d_Mo_differ_91 : decode c_Mo_differ 91 = .ok (.iload 6, 2) := by decide +kernel
theorem d_Mo_differ_93 : decode c_Mo_differ 93 = .ok (.invokevirtual 141, 3) := by decide +kernel
theorem d_Mo_differ_96 : decode c_Mo_differ 96 = .ok (.aload_n 0, 1) := by decide +kernel
theorem d_Mo_differ_97 : decode c_Mo_differ 97 = .ok (.iconst 1, 1) := by decide +kernel
theorem d_Mo_differ_98 : decode c_Mo_differ 98 = .ok (.iload 7, 2) := by decide +kernel
theorem d_Mo_differ_100 : decode c_Mo_differ 100 = .ok (.iload 8, 2) := by decide +kernel
theorem d_Mo_differ_102 : decode c_Mo_differ 102 = .ok (.iload 9, 2) := by decide +kernel
theorem d_Mo_differ_104 : decode c_Mo_differ 104 = .ok (.iload 6, 2) := by decide +kernel
theorem d_Mo_differ_106 : decode c_Mo_differ 106 = .ok (.invokevirtual 141, 3) := by decide +kernel
theorem d_Mo_differ_109 : decode c_Mo_differ 109 = .ok (.if_icmp .eq 64, 3) := by decide +kernel
theorem d_Mo_differ_112 : decode c_Mo_differ 112 = .ok (.iload_n 2, 1) := by decide +kernel
theorem d_Mo_differ_113 : decode c_Mo_differ 113 = .ok (.aload_n 0, 1) := by decide +kernel
theorem d_Mo_differ_114 : decode c_Mo_differ 114 = .ok (.iconst 0, 1) := by decide +kernel
theorem d_Mo_differ_115 : decode c_Mo_differ 115 = .ok (.iload_n 3, 1) := by decide +kernel
theorem d_Mo_differ_116 : decode c_Mo_differ 116 = .ok (.invokevirtual 153, 3) := by decide +kernel
theorem d_Mo_differ_119 : decode c_Mo_differ 119 = .ok (.aload_n 0, 1) := by decide +kernel
theorem d_Mo_differ_120 : decode c_Mo_differ 120 = .ok (.iconst 1, 1) := by decide +kernel
theorem d_Mo_differ_121 : decode c_Mo_differ 121 = .ok (.iload 4, 2) := by decide +kernel
theorem d_Mo_differ_123 : decode c_Mo_differ 123 = .ok (.invokevirtual 153, 3) := by decide +kernel
theorem d_Mo_differ_126 : decode c_Mo_differ 126 = .ok (.imul, 1) := by decide +kernel
theorem d_Mo_differ_127 : decode c_Mo_differ 127 = .ok (.aload_n 0, 1) := by decide +kernel
theorem d_Mo_differ_128 : decode c_Mo_differ 128 = .ok (.iconst 2, 1) := by decide +kernel
theorem d_Mo_differ_129 : decode c_Mo_differ 129 = .ok (.iload 5, 2) := by decide +kernel
theorem d_Mo_differ_131 : decode c_Mo_differ 131 = .ok (.invokevirtual 153, 3) := by decide +kernel
theorem d_Mo_differ_134 : decode c_Mo_differ 134 = .ok (.imul, 1) := by decide +kernel
theorem d_Mo_differ_135 : decode c_Mo_differ 135 = .ok (.iadd, 1) := by decide +kernel
theorem d_Mo_differ_136 : decode c_Mo_differ 136 = .ok (.istore_n 2, 1) := by decide +kernel
theorem d_Mo_differ_137 : decode c_Mo_differ 137 = .ok (.iload_n 1, 1) := by decide +kernel
theorem d_Mo_differ_138 : decode c_Mo_differ 138 = .ok (.ifCond .lt 35, 3) := by decide +kernel
theorem d_Mo_differ_141 : decode c_Mo_differ 141 = .ok (.iload_n 1, 1) := by decide +kernel
theorem d_Mo_differ_142 : decode c_Mo_differ 142 = .ok (.ifCond .ne 8, 3) := by decide +kernel
theorem d_Mo_differ_145 : decode c_Mo_differ 145 = .ok (.iload 7, 2) := by decide +kernel
theorem d_Mo_differ_147 : decode c_Mo_differ 147 = .ok (.goto 25, 3) := by decide +kernel
theorem d_Mo_differ_150 : decode c_Mo_differ 150 = .ok (.iload_n 1, 1) := by decide +kernel
theorem d_Mo_differ_151 : decode c_Mo_differ 151 = .ok (.iconst 1, 1) := by decide +kernel
theorem d_Mo_differ_152 : decode c_Mo_differ 152 = .ok (.if_icmp .ne 8, 3) := by decide +kernel
theorem d_Mo_differ_155 : decode c_Mo_differ 155 = .ok (.iload 8, 2) := by decide +kernel
theorem d_Mo_differ_157 : decode c_Mo_differ 157 = .ok (.goto 15, 3) := by decide +kernel
theorem d_Mo_differ_160 : decode c_Mo_differ 160 = .ok (.iload_n 1, 1) := by decide +kernel
theorem d_Mo_differ_161 : decode c_Mo_differ 161 = .ok (.iconst 2, 1) := by decide +kernel
theorem d_Mo_differ_162 : decode c_Mo_differ 162 = .ok (.if_icmp .ne 8, 3) := by decide +kernel
theorem d_Mo_differ_165 : decode c_Mo_differ 165 = .ok (.iload 9, 2) := by decide +kernel
theorem d_Mo_differ_167 : decode c_Mo_differ 167 = .ok (.goto 5, 3) := by decide +kernel
theorem d_Mo_differ_170 : decode c_Mo_differ 170 = .ok (.iload 6, 2) := by decide +kernel
theorem d_Mo_differ_172 : decode c_Mo_differ 172 = .ok (.ireturn, 1) := by decide +kernel
theorem d_Mo_differ_173 : decode c_Mo_differ 173 = .ok (.iinc 6 1, 3) := by decide +kernel
theorem d_Mo_differ_176 : decode c_Mo_differ 176 = .ok (.goto (-125), 3) := by decide +kernel
theorem d_Mo_differ_179 : decode c_Mo_differ 179 = .ok (.iinc 5 1, 3) := by decide +kernel
theorem d_Mo_differ_182 : decode c_Mo_differ 182 = .ok (.goto (-145), 3) := by decide +kernel
theorem d_Mo_differ_185 : decode c_Mo_differ 185 = .ok (.iinc 4 1, 3) := by decide +kernel
theorem d_Mo_differ_188 : decode c_Mo_differ 188 = .ok (.goto (-165), 3) := by decide +kernel
theorem d_Mo_differ_191 : decode c_Mo_differ 191 = .ok (.iinc 3 1, 3) := by decide +kernel
theorem d_Mo_differ_194 : decode c_Mo_differ 194 = .ok (.goto (-184), 3) := by decide +kernel
theorem d_Mo_differ_197 : decode c_Mo_differ 197 = .ok (.iload_n 1, 1) := by decide +kernel
theorem d_Mo_differ_198 : decode c_Mo_differ 198 = .ok (.ifCond .ge 7, 3) := by decide +kernel
theorem d_Mo_differ_201 : decode c_Mo_differ 201 = .ok (.iload_n 2, 1) := by decide +kernel
theorem d_Mo_differ_202 : decode c_Mo_differ 202 = .ok (.goto 4, 3) := by decide +kernel
theorem d_Mo_differ_205 : decode c_Mo_differ 205 = .ok (.iconst (-1), 1) := by decide +kernel
theorem d_Mo_differ_206 : decode c_Mo_differ 206 = .ok (.ireturn, 1) := by decide +kernel
theorem d_Mo_witness_0 : decode c_Mo_witness 0 = .ok (.aload_n 0, 1) := by decide +kernel
theorem d_Mo_witness_1 : decode c_Mo_witness 1 = .ok (.iload_n 1, 1) := by decide +kernel
theorem d_Mo_witness_2 : decode c_Mo_witness 2 = .ok (.iconst 0, 1) := by decide +kernel
theorem d_Mo_witness_3 : decode c_Mo_witness 3 = .ok (.iconst 3, 1) := by decide +kernel
theorem d_Mo_witness_4 : decode c_Mo_witness 4 = .ok (.invokestatic 112, 3) := by decide +kernel
theorem d_Mo_witness_7 : decode c_Mo_witness 7 = .ok (.ifCond .ne 7, 3) := by decide +kernel
theorem d_Mo_witness_10 : decode c_Mo_witness 10 = .ok (.iconst 1, 1) := by decide +kernel
theorem d_Mo_witness_11 : decode c_Mo_witness 11 = .ok (.goto 4, 3) := by decide +kernel
theorem d_Mo_witness_14 : decode c_Mo_witness 14 = .ok (.iconst 0, 1) := by decide +kernel
theorem d_Mo_witness_15 : decode c_Mo_witness 15 = .ok (.iconst 0, 1) := by decide +kernel
theorem d_Mo_witness_16 : decode c_Mo_witness 16 = .ok (.invokevirtual 57, 3) := by decide +kernel
theorem d_Mo_witness_19 : decode c_Mo_witness 19 = .ok (.ifCond .eq 5, 3) := by decide +kernel
theorem d_Mo_witness_22 : decode c_Mo_witness 22 = .ok (.iconst 0, 1) := by decide +kernel
theorem d_Mo_witness_23 : decode c_Mo_witness 23 = .ok (.ireturn, 1) := by decide +kernel
theorem d_Mo_witness_24 : decode c_Mo_witness 24 = .ok (.aload_n 0, 1) := by decide +kernel
theorem d_Mo_witness_25 : decode c_Mo_witness 25 = .ok (.iload_n 1, 1) := by decide +kernel
theorem d_Mo_witness_26 : decode c_Mo_witness 26 = .ok (.invokevirtual 160, 3) := by decide +kernel
theorem d_Mo_witness_29 : decode c_Mo_witness 29 = .ok (.ireturn, 1) := by decide +kernel
theorem d_Mo_nodes_0 : decode c_Mo_nodes 0 = .ok (.aload_n 0, 1) := by decide +kernel
theorem d_Mo_nodes_1 : decode c_Mo_nodes 1 = .ok (.iload_n 1, 1) := by decide +kernel
theorem d_Mo_nodes_2 : decode c_Mo_nodes 2 = .ok (.iconst 0, 1) := by decide +kernel
theorem d_Mo_nodes_3 : decode c_Mo_nodes 3 = .ok (.iconst 1, 1) := by decide +kernel
theorem d_Mo_nodes_4 : decode c_Mo_nodes 4 = .ok (.invokestatic 112, 3) := by decide +kernel
theorem d_Mo_nodes_7 : decode c_Mo_nodes 7 = .ok (.ifCond .ne 7, 3) := by decide +kernel
theorem d_Mo_nodes_10 : decode c_Mo_nodes 10 = .ok (.iconst 1, 1) := by decide +kernel
theorem d_Mo_nodes_11 : decode c_Mo_nodes 11 = .ok (.goto 4, 3) := by decide +kernel
theorem d_Mo_nodes_14 : decode c_Mo_nodes 14 = .ok (.iconst 0, 1) := by decide +kernel
theorem d_Mo_nodes_15 : decode c_Mo_nodes 15 = .ok (.iload_n 2, 1) := by decide +kernel
theorem d_Mo_nodes_16 : decode c_Mo_nodes 16 = .ok (.iconst 0, 1) := by decide +kernel
theorem d_Mo_nodes_17 : decode c_Mo_nodes 17 = .ok (.iconst 3, 1) := by decide +kernel
theorem d_Mo_nodes_18 : decode c_Mo_nodes 18 = .ok (.invokestatic 112, 3) := by decide +kernel
theorem d_Mo_nodes_21 : decode c_Mo_nodes 21 = .ok (.ifCond .ne 7, 3) := by decide +kernel
theorem d_Mo_nodes_24 : decode c_Mo_nodes 24 = .ok (.iconst 1, 1) := by decide +kernel
theorem d_Mo_nodes_25 : decode c_Mo_nodes 25 = .ok (.goto 4, 3) := by decide +kernel
theorem d_Mo_nodes_28 : decode c_Mo_nodes 28 = .ok (.iconst 0, 1) := by decide +kernel
theorem d_Mo_nodes_29 : decode c_Mo_nodes 29 = .ok (.invokevirtual 57, 3) := by decide +kernel
theorem d_Mo_nodes_32 : decode c_Mo_nodes 32 = .ok (.ifCond .eq 5, 3) := by decide +kernel
theorem d_Mo_nodes_35 : decode c_Mo_nodes 35 = .ok (.iconst 0, 1) := by decide +kernel
theorem d_Mo_nodes_36 : decode c_Mo_nodes 36 = .ok (.ireturn, 1) := by decide +kernel
theorem d_Mo_nodes_37 : decode c_Mo_nodes 37 = .ok (.aload_n 0, 1) := by decide +kernel
theorem d_Mo_nodes_38 : decode c_Mo_nodes 38 = .ok (.iload_n 1, 1) := by decide +kernel
theorem d_Mo_nodes_39 : decode c_Mo_nodes 39 = .ok (.invokevirtual 178, 3) := by decide +kernel
theorem d_Mo_nodes_42 : decode c_Mo_nodes 42 = .ok (.aload_n 0, 1) := by decide +kernel
theorem d_Mo_nodes_43 : decode c_Mo_nodes 43 = .ok (.iload_n 2, 1) := by decide +kernel
theorem d_Mo_nodes_44 : decode c_Mo_nodes 44 = .ok (.iconst 0, 1) := by decide +kernel
theorem d_Mo_nodes_45 : decode c_Mo_nodes 45 = .ok (.invokevirtual 181, 3) := by decide +kernel
theorem d_Mo_nodes_48 : decode c_Mo_nodes 48 = .ok (.ireturn, 1) := by decide +kernel
theorem d_Mo_fill_0 : decode c_Mo_fill 0 = .ok (.aload_n 0, 1) := by decide +kernel
theorem d_Mo_fill_1 : decode c_Mo_fill 1 = .ok (.iload_n 1, 1) := by decide +kernel
theorem d_Mo_fill_2 : decode c_Mo_fill 2 = .ok (.iload_n 1, 1) := by decide +kernel
theorem d_Mo_fill_3 : decode c_Mo_fill 3 = .ok (.invokevirtual 150, 3) := by decide +kernel
theorem d_Mo_fill_6 : decode c_Mo_fill 6 = .ok (.iconst 0, 1) := by decide +kernel
theorem d_Mo_fill_7 : decode c_Mo_fill 7 = .ok (.istore_n 2, 1) := by decide +kernel
theorem d_Mo_fill_8 : decode c_Mo_fill 8 = .ok (.iload_n 2, 1) := by decide +kernel
theorem d_Mo_fill_9 : decode c_Mo_fill 9 = .ok (.sipush 19652, 3) := by decide +kernel
theorem d_Mo_fill_12 : decode c_Mo_fill 12 = .ok (.if_icmp .ge 147, 3) := by decide +kernel
theorem d_Mo_fill_15 : decode c_Mo_fill 15 = .ok (.iload_n 2, 1) := by decide +kernel
theorem d_Mo_fill_16 : decode c_Mo_fill 16 = .ok (.iconst 0, 1) := by decide +kernel
theorem d_Mo_fill_17 : decode c_Mo_fill 17 = .ok (.invokestatic 163, 3) := by decide +kernel
theorem d_Mo_fill_20 : decode c_Mo_fill 20 = .ok (.idiv, 1) := by decide +kernel
theorem d_Mo_fill_21 : decode c_Mo_fill 21 = .ok (.istore_n 3, 1) := by decide +kernel
theorem d_Mo_fill_22 : decode c_Mo_fill 22 = .ok (.iload_n 2, 1) := by decide +kernel
theorem d_Mo_fill_23 : decode c_Mo_fill 23 = .ok (.iconst 1, 1) := by decide +kernel
theorem d_Mo_fill_24 : decode c_Mo_fill 24 = .ok (.invokestatic 163, 3) := by decide +kernel
theorem d_Mo_fill_27 : decode c_Mo_fill 27 = .ok (.idiv, 1) := by decide +kernel
theorem d_Mo_fill_28 : decode c_Mo_fill 28 = .ok (.bipush 17, 2) := by decide +kernel
theorem d_Mo_fill_30 : decode c_Mo_fill 30 = .ok (.irem, 1) := by decide +kernel
theorem d_Mo_fill_31 : decode c_Mo_fill 31 = .ok (.istore 4, 2) := by decide +kernel
theorem d_Mo_fill_33 : decode c_Mo_fill 33 = .ok (.iload_n 2, 1) := by decide +kernel
theorem d_Mo_fill_34 : decode c_Mo_fill 34 = .ok (.iconst 2, 1) := by decide +kernel
theorem d_Mo_fill_35 : decode c_Mo_fill 35 = .ok (.invokestatic 163, 3) := by decide +kernel
theorem d_Mo_fill_38 : decode c_Mo_fill 38 = .ok (.idiv, 1) := by decide +kernel
theorem d_Mo_fill_39 : decode c_Mo_fill 39 = .ok (.bipush 17, 2) := by decide +kernel
theorem d_Mo_fill_41 : decode c_Mo_fill 41 = .ok (.irem, 1) := by decide +kernel
theorem d_Mo_fill_42 : decode c_Mo_fill 42 = .ok (.istore 5, 2) := by decide +kernel
theorem d_Mo_fill_44 : decode c_Mo_fill 44 = .ok (.iload_n 3, 1) := by decide +kernel
theorem d_Mo_fill_45 : decode c_Mo_fill 45 = .ok (.aload_n 0, 1) := by decide +kernel
theorem d_Mo_fill_46 : decode c_Mo_fill 46 = .ok (.getfield 31, 3) := by decide +kernel
theorem d_Mo_fill_49 : decode c_Mo_fill 49 = .ok (.iconst 0, 1) := by decide +kernel
theorem d_Mo_fill_50 : decode c_Mo_fill 50 = .ok (.iaload, 1) := by decide +kernel
theorem d_Mo_fill_51 : decode c_Mo_fill 51 = .ok (.if_icmp .ge 7, 3) := by decide +kernel
theorem d_Mo_fill_54 : decode c_Mo_fill 54 = .ok (.iload_n 3, 1) := by decide +kernel
theorem d_Mo_fill_55 : decode c_Mo_fill 55 = .ok (.goto 11, 3) := by decide +kernel
theorem d_Mo_fill_58 : decode c_Mo_fill 58 = .ok (.aload_n 0, 1) := by decide +kernel
theorem d_Mo_fill_59 : decode c_Mo_fill 59 = .ok (.getfield 31, 3) := by decide +kernel
theorem d_Mo_fill_62 : decode c_Mo_fill 62 = .ok (.iconst 0, 1) := by decide +kernel
theorem d_Mo_fill_63 : decode c_Mo_fill 63 = .ok (.iaload, 1) := by decide +kernel
theorem d_Mo_fill_64 : decode c_Mo_fill 64 = .ok (.iconst 1, 1) := by decide +kernel
theorem d_Mo_fill_65 : decode c_Mo_fill 65 = .ok (.isub, 1) := by decide +kernel
theorem d_Mo_fill_66 : decode c_Mo_fill 66 = .ok (.istore_n 3, 1) := by decide +kernel
theorem d_Mo_fill_67 : decode c_Mo_fill 67 = .ok (.iload 4, 2) := by decide +kernel
theorem d_Mo_fill_69 : decode c_Mo_fill 69 = .ok (.aload_n 0, 1) := by decide +kernel
theorem d_Mo_fill_70 : decode c_Mo_fill 70 = .ok (.getfield 31, 3) := by decide +kernel
theorem d_Mo_fill_73 : decode c_Mo_fill 73 = .ok (.iconst 1, 1) := by decide +kernel
theorem d_Mo_fill_74 : decode c_Mo_fill 74 = .ok (.iaload, 1) := by decide +kernel
theorem d_Mo_fill_75 : decode c_Mo_fill 75 = .ok (.if_icmp .ge 8, 3) := by decide +kernel
theorem d_Mo_fill_78 : decode c_Mo_fill 78 = .ok (.iload 4, 2) := by decide +kernel
theorem d_Mo_fill_80 : decode c_Mo_fill 80 = .ok (.goto 11, 3) := by decide +kernel
theorem d_Mo_fill_83 : decode c_Mo_fill 83 = .ok (.aload_n 0, 1) := by decide +kernel
theorem d_Mo_fill_84 : decode c_Mo_fill 84 = .ok (.getfield 31, 3) := by decide +kernel
theorem d_Mo_fill_87 : decode c_Mo_fill 87 = .ok (.iconst 1, 1) := by decide +kernel
theorem d_Mo_fill_88 : decode c_Mo_fill 88 = .ok (.iaload, 1) := by decide +kernel
theorem d_Mo_fill_89 : decode c_Mo_fill 89 = .ok (.iconst 1, 1) := by decide +kernel
theorem d_Mo_fill_90 : decode c_Mo_fill 90 = .ok (.isub, 1) := by decide +kernel
theorem d_Mo_fill_91 : decode c_Mo_fill 91 = .ok (.istore 4, 2) := by decide +kernel
theorem d_Mo_fill_93 : decode c_Mo_fill 93 = .ok (.iload 5, 2) := by decide +kernel
theorem d_Mo_fill_95 : decode c_Mo_fill 95 = .ok (.aload_n 0, 1) := by decide +kernel
theorem d_Mo_fill_96 : decode c_Mo_fill 96 = .ok (.getfield 31, 3) := by decide +kernel
theorem d_Mo_fill_99 : decode c_Mo_fill 99 = .ok (.iconst 2, 1) := by decide +kernel
theorem d_Mo_fill_100 : decode c_Mo_fill 100 = .ok (.iaload, 1) := by decide +kernel
theorem d_Mo_fill_101 : decode c_Mo_fill 101 = .ok (.if_icmp .ge 8, 3) := by decide +kernel
theorem d_Mo_fill_104 : decode c_Mo_fill 104 = .ok (.iload 5, 2) := by decide +kernel
theorem d_Mo_fill_106 : decode c_Mo_fill 106 = .ok (.goto 11, 3) := by decide +kernel
theorem d_Mo_fill_109 : decode c_Mo_fill 109 = .ok (.aload_n 0, 1) := by decide +kernel
theorem d_Mo_fill_110 : decode c_Mo_fill 110 = .ok (.getfield 31, 3) := by decide +kernel
theorem d_Mo_fill_113 : decode c_Mo_fill 113 = .ok (.iconst 2, 1) := by decide +kernel
theorem d_Mo_fill_114 : decode c_Mo_fill 114 = .ok (.iaload, 1) := by decide +kernel
theorem d_Mo_fill_115 : decode c_Mo_fill 115 = .ok (.iconst 1, 1) := by decide +kernel
theorem d_Mo_fill_116 : decode c_Mo_fill 116 = .ok (.isub, 1) := by decide +kernel
theorem d_Mo_fill_117 : decode c_Mo_fill 117 = .ok (.istore 5, 2) := by decide +kernel
theorem d_Mo_fill_119 : decode c_Mo_fill 119 = .ok (.aload_n 0, 1) := by decide +kernel
theorem d_Mo_fill_120 : decode c_Mo_fill 120 = .ok (.getfield 34, 3) := by decide +kernel
theorem d_Mo_fill_123 : decode c_Mo_fill 123 = .ok (.iload_n 2, 1) := by decide +kernel
theorem d_Mo_fill_124 : decode c_Mo_fill 124 = .ok (.aload_n 0, 1) := by decide +kernel
theorem d_Mo_fill_125 : decode c_Mo_fill 125 = .ok (.iload_n 1, 1) := by decide +kernel
theorem d_Mo_fill_126 : decode c_Mo_fill 126 = .ok (.aload_n 0, 1) := by decide +kernel
theorem d_Mo_fill_127 : decode c_Mo_fill 127 = .ok (.iconst 0, 1) := by decide +kernel
theorem d_Mo_fill_128 : decode c_Mo_fill 128 = .ok (.iload_n 3, 1) := by decide +kernel
theorem d_Mo_fill_129 : decode c_Mo_fill 129 = .ok (.invokevirtual 144, 3) := by decide +kernel
theorem d_Mo_fill_132 : decode c_Mo_fill 132 = .ok (.aload_n 0, 1) := by decide +kernel
theorem d_Mo_fill_133 : decode c_Mo_fill 133 = .ok (.iconst 1, 1) := by decide +kernel
theorem d_Mo_fill_134 : decode c_Mo_fill 134 = .ok (.iload 4, 2) := by decide +kernel
theorem d_Mo_fill_136 : decode c_Mo_fill 136 = .ok (.invokevirtual 144, 3) := by decide +kernel
theorem d_Mo_fill_139 : decode c_Mo_fill 139 = .ok (.aload_n 0, 1) := by decide +kernel
theorem d_Mo_fill_140 : decode c_Mo_fill 140 = .ok (.iconst 2, 1) := by decide +kernel
theorem d_Mo_fill_141 : decode c_Mo_fill 141 = .ok (.iload 5, 2) := by decide +kernel
theorem d_Mo_fill_143 : decode c_Mo_fill 143 = .ok (.invokevirtual 144, 3) := by decide +kernel
theorem d_Mo_fill_146 : decode c_Mo_fill 146 = .ok (.iload_n 2, 1) := by decide +kernel
theorem d_Mo_fill_147 : decode c_Mo_fill 147 = .ok (.iconst 4, 1) := by decide +kernel
theorem d_Mo_fill_148 : decode c_Mo_fill 148 = .ok (.irem, 1) := by decide +kernel
theorem d_Mo_fill_149 : decode c_Mo_fill 149 = .ok (.invokevirtual 141, 3) := by decide +kernel
theorem d_Mo_fill_152 : decode c_Mo_fill 152 = .ok (.iastore, 1) := by decide +kernel
theorem d_Mo_fill_153 : decode c_Mo_fill 153 = .ok (.iinc 2 1, 3) := by decide +kernel
theorem d_Mo_fill_156 : decode c_Mo_fill 156 = .ok (.goto (-148), 3) := by decide +kernel
theorem d_Mo_fill_159 : decode c_Mo_fill 159 = .ok (.return_, 1) := by decide +kernel
theorem d_Mo_room_0 : decode c_Mo_room 0 = .ok (.iload_n 0, 1) := by decide +kernel
theorem d_Mo_room_1 : decode c_Mo_room 1 = .ok (.ifCond .ne 9, 3) := by decide +kernel
theorem d_Mo_room_4 : decode c_Mo_room 4 = .ok (.sipush 1156, 3) := by decide +kernel
theorem d_Mo_room_7 : decode c_Mo_room 7 = .ok (.goto 23, 3) := by decide +kernel
theorem d_Mo_room_10 : decode c_Mo_room 10 = .ok (.iload_n 0, 1) := by decide +kernel
theorem d_Mo_room_11 : decode c_Mo_room 11 = .ok (.iconst 1, 1) := by decide +kernel
theorem d_Mo_room_12 : decode c_Mo_room 12 = .ok (.if_icmp .ne 8, 3) := by decide +kernel
theorem d_Mo_room_15 : decode c_Mo_room 15 = .ok (.bipush 68, 2) := by decide +kernel
theorem d_Mo_room_17 : decode c_Mo_room 17 = .ok (.goto 13, 3) := by decide +kernel
theorem d_Mo_room_20 : decode c_Mo_room 20 = .ok (.iload_n 0, 1) := by decide +kernel
theorem d_Mo_room_21 : decode c_Mo_room 21 = .ok (.iconst 2, 1) := by decide +kernel
theorem d_Mo_room_22 : decode c_Mo_room 22 = .ok (.if_icmp .ne 7, 3) := by decide +kernel
theorem d_Mo_room_25 : decode c_Mo_room 25 = .ok (.iconst 4, 1) := by decide +kernel
theorem d_Mo_room_26 : decode c_Mo_room 26 = .ok (.goto 4, 3) := by decide +kernel
theorem d_Mo_room_29 : decode c_Mo_room 29 = .ok (.iconst 1, 1) := by decide +kernel
theorem d_Mo_room_30 : decode c_Mo_room 30 = .ok (.ireturn, 1) := by decide +kernel
theorem d_Mo_counted_0 : decode c_Mo_counted 0 = .ok (.iload_n 1, 1) := by decide +kernel
theorem d_Mo_counted_1 : decode c_Mo_counted 1 = .ok (.invokestatic 166, 3) := by decide +kernel
theorem d_Mo_counted_4 : decode c_Mo_counted 4 = .ok (.iload_n 1, 1) := by decide +kernel
theorem d_Mo_counted_5 : decode c_Mo_counted 5 = .ok (.invokestatic 163, 3) := by decide +kernel
theorem d_Mo_counted_8 : decode c_Mo_counted 8 = .ok (.imul, 1) := by decide +kernel
theorem d_Mo_counted_9 : decode c_Mo_counted 9 = .ok (.istore_n 3, 1) := by decide +kernel
theorem d_Mo_counted_10 : decode c_Mo_counted 10 = .ok (.iconst 0, 1) := by decide +kernel
theorem d_Mo_counted_11 : decode c_Mo_counted 11 = .ok (.istore 4, 2) := by decide +kernel
theorem d_Mo_counted_13 : decode c_Mo_counted 13 = .ok (.iconst 0, 1) := by decide +kernel
theorem d_Mo_counted_14 : decode c_Mo_counted 14 = .ok (.istore 5, 2) := by decide +kernel
theorem d_Mo_counted_16 : decode c_Mo_counted 16 = .ok (.iload 5, 2) := by decide +kernel
theorem d_Mo_counted_18 : decode c_Mo_counted 18 = .ok (.sipush 19652, 3) := by decide +kernel
theorem d_Mo_counted_21 : decode c_Mo_counted 21 = .ok (.if_icmp .ge 119, 3) := by decide +kernel
theorem d_Mo_counted_24 : decode c_Mo_counted 24 = .ok (.aload_n 0, 1) := by decide +kernel
theorem d_Mo_counted_25 : decode c_Mo_counted 25 = .ok (.iload_n 1, 1) := by decide +kernel
theorem d_Mo_counted_26 : decode c_Mo_counted 26 = .ok (.iload 5, 2) := by decide +kernel
theorem d_Mo_counted_28 : decode c_Mo_counted 28 = .ok (.invokevirtual 172, 3) := by decide +kernel
theorem d_Mo_counted_31 : decode c_Mo_counted 31 = .ok (.istore 6, 2) := by decide +kernel
theorem d_Mo_counted_33 : decode c_Mo_counted 33 = .ok (.iload 6, 2) := by decide +kernel
theorem d_Mo_counted_35 : decode c_Mo_counted 35 = .ok (.iconst 1, 1) := by decide +kernel
theorem d_Mo_counted_36 : decode c_Mo_counted 36 = .ok (.if_icmp .le 16, 3) := by decide +kernel
theorem d_Mo_counted_39 : decode c_Mo_counted 39 = .ok (.aload_n 0, 1) := by decide +kernel
theorem d_Mo_counted_40 : decode c_Mo_counted 40 = .ok (.iload 5, 2) := by decide +kernel
theorem d_Mo_counted_42 : decode c_Mo_counted 42 = .ok (.invokevirtual 175, 3) := by decide +kernel
theorem d_Mo_counted_45 : decode c_Mo_counted 45 = .ok (.ifCond .eq 7, 3) := by decide +kernel
theorem d_Mo_counted_48 : decode c_Mo_counted 48 = .ok (.iconst 1, 1) := by decide +kernel
theorem d_Mo_counted_49 : decode c_Mo_counted 49 = .ok (.goto 4, 3) := by decide +kernel
theorem d_Mo_counted_52 : decode c_Mo_counted 52 = .ok (.iconst 0, 1) := by decide +kernel
theorem d_Mo_counted_53 : decode c_Mo_counted 53 = .ok (.istore 7, 2) := by decide +kernel
theorem d_Mo_counted_55 : decode c_Mo_counted 55 = .ok (.iconst 0, 1) := by decide +kernel
theorem d_Mo_counted_56 : decode c_Mo_counted 56 = .ok (.istore 8, 2) := by decide +kernel
theorem d_Mo_counted_58 : decode c_Mo_counted 58 = .ok (.iload 8, 2) := by decide +kernel
theorem d_Mo_counted_60 : decode c_Mo_counted 60 = .ok (.iload 5, 2) := by decide +kernel
theorem d_Mo_counted_62 : decode c_Mo_counted 62 = .ok (.if_icmp .ge 45, 3) := by decide +kernel
theorem d_Mo_counted_65 : decode c_Mo_counted 65 = .ok (.iload 7, 2) := by decide +kernel
theorem d_Mo_counted_67 : decode c_Mo_counted 67 = .ok (.ifCond .eq 40, 3) := by decide +kernel
theorem d_Mo_counted_70 : decode c_Mo_counted 70 = .ok (.aload_n 0, 1) := by decide +kernel
theorem d_Mo_counted_71 : decode c_Mo_counted 71 = .ok (.iload 8, 2) := by decide +kernel
theorem d_Mo_counted_73 : decode c_Mo_counted 73 = .ok (.invokevirtual 175, 3) := by decide +kernel
theorem d_Mo_counted_76 : decode c_Mo_counted 76 = .ok (.ifCond .eq 15, 3) := by decide +kernel
theorem d_Mo_counted_79 : decode c_Mo_counted 79 = .ok (.aload_n 0, 1) := by decide +kernel
theorem d_Mo_counted_80 : decode c_Mo_counted 80 = .ok (.iload 8, 2) := by decide +kernel
theorem d_Mo_counted_82 : decode c_Mo_counted 82 = .ok (.iload 5, 2) := by decide +kernel
theorem d_Mo_counted_84 : decode c_Mo_counted 84 = .ok (.iload_n 3, 1) := by decide +kernel
theorem d_Mo_counted_85 : decode c_Mo_counted 85 = .ok (.invokevirtual 169, 3) := by decide +kernel
theorem d_Mo_counted_88 : decode c_Mo_counted 88 = .ok (.ifCond .ne 7, 3) := by decide +kernel
theorem d_Mo_counted_91 : decode c_Mo_counted 91 = .ok (.iconst 1, 1) := by decide +kernel
theorem d_Mo_counted_92 : decode c_Mo_counted 92 = .ok (.goto 4, 3) := by decide +kernel
theorem d_Mo_counted_95 : decode c_Mo_counted 95 = .ok (.iconst 0, 1) := by decide +kernel
theorem d_Mo_counted_96 : decode c_Mo_counted 96 = .ok (.istore 7, 2) := by decide +kernel
theorem d_Mo_counted_98 : decode c_Mo_counted 98 = .ok (.iload 8, 2) := by decide +kernel
theorem d_Mo_counted_100 : decode c_Mo_counted 100 = .ok (.iload_n 3, 1) := by decide +kernel
theorem d_Mo_counted_101 : decode c_Mo_counted 101 = .ok (.iadd, 1) := by decide +kernel
theorem d_Mo_counted_102 : decode c_Mo_counted 102 = .ok (.istore 8, 2) := by decide +kernel
theorem d_Mo_counted_104 : decode c_Mo_counted 104 = .ok (.goto (-46), 3) := by decide +kernel
theorem d_Mo_counted_107 : decode c_Mo_counted 107 = .ok (.iload 4, 2) := by decide +kernel
theorem d_Mo_counted_109 : decode c_Mo_counted 109 = .ok (.iload 7, 2) := by decide +kernel
theorem d_Mo_counted_111 : decode c_Mo_counted 111 = .ok (.ifCond .eq 16, 3) := by decide +kernel
theorem d_Mo_counted_114 : decode c_Mo_counted 114 = .ok (.iload_n 2, 1) := by decide +kernel
theorem d_Mo_counted_115 : decode c_Mo_counted 115 = .ok (.ifCond .eq 8, 3) := by decide +kernel
theorem d_Mo_counted_118 : decode c_Mo_counted 118 = .ok (.iload 6, 2) := by decide +kernel
theorem d_Mo_counted_120 : decode c_Mo_counted 120 = .ok (.goto 8, 3) := by decide +kernel
theorem d_Mo_counted_123 : decode c_Mo_counted 123 = .ok (.iconst 1, 1) := by decide +kernel
theorem d_Mo_counted_124 : decode c_Mo_counted 124 = .ok (.goto 4, 3) := by decide +kernel
theorem d_Mo_counted_127 : decode c_Mo_counted 127 = .ok (.iconst 0, 1) := by decide +kernel
theorem d_Mo_counted_128 : decode c_Mo_counted 128 = .ok (.iadd, 1) := by decide +kernel
theorem d_Mo_counted_129 : decode c_Mo_counted 129 = .ok (.istore 4, 2) := by decide +kernel
theorem d_Mo_counted_131 : decode c_Mo_counted 131 = .ok (.iload 5, 2) := by decide +kernel
theorem d_Mo_counted_133 : decode c_Mo_counted 133 = .ok (.iload_n 3, 1) := by decide +kernel
theorem d_Mo_counted_134 : decode c_Mo_counted 134 = .ok (.iadd, 1) := by decide +kernel
theorem d_Mo_counted_135 : decode c_Mo_counted 135 = .ok (.istore 5, 2) := by decide +kernel
theorem d_Mo_counted_137 : decode c_Mo_counted 137 = .ok (.goto (-121), 3) := by decide +kernel
theorem d_Mo_counted_140 : decode c_Mo_counted 140 = .ok (.iload 4, 2) := by decide +kernel
theorem d_Mo_counted_142 : decode c_Mo_counted 142 = .ok (.ireturn, 1) := by decide +kernel
theorem d_Mo_wide_0 : decode c_Mo_wide 0 = .ok (.iload_n 0, 1) := by decide +kernel
theorem d_Mo_wide_1 : decode c_Mo_wide 1 = .ok (.iconst 3, 1) := by decide +kernel
theorem d_Mo_wide_2 : decode c_Mo_wide 2 = .ok (.if_icmp .ge 8, 3) := by decide +kernel
theorem d_Mo_wide_5 : decode c_Mo_wide 5 = .ok (.bipush 17, 2) := by decide +kernel
theorem d_Mo_wide_7 : decode c_Mo_wide 7 = .ok (.goto 4, 3) := by decide +kernel
theorem d_Mo_wide_10 : decode c_Mo_wide 10 = .ok (.iconst 4, 1) := by decide +kernel
theorem d_Mo_wide_11 : decode c_Mo_wide 11 = .ok (.ireturn, 1) := by decide +kernel
theorem d_Mo_rows_0 : decode c_Mo_rows 0 = .ok (.iconst 1, 1) := by decide +kernel
theorem d_Mo_rows_1 : decode c_Mo_rows 1 = .ok (.istore_n 3, 1) := by decide +kernel
theorem d_Mo_rows_2 : decode c_Mo_rows 2 = .ok (.iconst 1, 1) := by decide +kernel
theorem d_Mo_rows_3 : decode c_Mo_rows 3 = .ok (.istore 4, 2) := by decide +kernel
theorem d_Mo_rows_5 : decode c_Mo_rows 5 = .ok (.iload 4, 2) := by decide +kernel
theorem d_Mo_rows_7 : decode c_Mo_rows 7 = .ok (.iload_n 1, 1) := by decide +kernel
theorem d_Mo_rows_8 : decode c_Mo_rows 8 = .ok (.invokestatic 166, 3) := by decide +kernel
theorem d_Mo_rows_11 : decode c_Mo_rows 11 = .ok (.if_icmp .ge 48, 3) := by decide +kernel
theorem d_Mo_rows_14 : decode c_Mo_rows 14 = .ok (.iload_n 3, 1) := by decide +kernel
theorem d_Mo_rows_15 : decode c_Mo_rows 15 = .ok (.aload_n 0, 1) := by decide +kernel
theorem d_Mo_rows_16 : decode c_Mo_rows 16 = .ok (.iload_n 2, 1) := by decide +kernel
theorem d_Mo_rows_17 : decode c_Mo_rows 17 = .ok (.iload 4, 2) := by decide +kernel
theorem d_Mo_rows_19 : decode c_Mo_rows 19 = .ok (.iconst 1, 1) := by decide +kernel
theorem d_Mo_rows_20 : decode c_Mo_rows 20 = .ok (.isub, 1) := by decide +kernel
theorem d_Mo_rows_21 : decode c_Mo_rows 21 = .ok (.iload_n 1, 1) := by decide +kernel
theorem d_Mo_rows_22 : decode c_Mo_rows 22 = .ok (.invokestatic 163, 3) := by decide +kernel
theorem d_Mo_rows_25 : decode c_Mo_rows 25 = .ok (.imul, 1) := by decide +kernel
theorem d_Mo_rows_26 : decode c_Mo_rows 26 = .ok (.iadd, 1) := by decide +kernel
theorem d_Mo_rows_27 : decode c_Mo_rows 27 = .ok (.iload_n 2, 1) := by decide +kernel
theorem d_Mo_rows_28 : decode c_Mo_rows 28 = .ok (.iload 4, 2) := by decide +kernel
theorem d_Mo_rows_30 : decode c_Mo_rows 30 = .ok (.iload_n 1, 1) := by decide +kernel
theorem d_Mo_rows_31 : decode c_Mo_rows 31 = .ok (.invokestatic 163, 3) := by decide +kernel
theorem d_Mo_rows_34 : decode c_Mo_rows 34 = .ok (.imul, 1) := by decide +kernel
theorem d_Mo_rows_35 : decode c_Mo_rows 35 = .ok (.iadd, 1) := by decide +kernel
theorem d_Mo_rows_36 : decode c_Mo_rows 36 = .ok (.iload_n 1, 1) := by decide +kernel
theorem d_Mo_rows_37 : decode c_Mo_rows 37 = .ok (.invokestatic 163, 3) := by decide +kernel
theorem d_Mo_rows_40 : decode c_Mo_rows 40 = .ok (.invokevirtual 169, 3) := by decide +kernel
theorem d_Mo_rows_43 : decode c_Mo_rows 43 = .ok (.ifCond .eq 7, 3) := by decide +kernel
theorem d_Mo_rows_46 : decode c_Mo_rows 46 = .ok (.iconst 0, 1) := by decide +kernel
theorem d_Mo_rows_47 : decode c_Mo_rows 47 = .ok (.goto 4, 3) := by decide +kernel
theorem d_Mo_rows_50 : decode c_Mo_rows 50 = .ok (.iconst 1, 1) := by decide +kernel
theorem d_Mo_rows_51 : decode c_Mo_rows 51 = .ok (.iadd, 1) := by decide +kernel
theorem d_Mo_rows_52 : decode c_Mo_rows 52 = .ok (.istore_n 3, 1) := by decide +kernel
theorem d_Mo_rows_53 : decode c_Mo_rows 53 = .ok (.iinc 4 1, 3) := by decide +kernel
theorem d_Mo_rows_56 : decode c_Mo_rows 56 = .ok (.goto (-51), 3) := by decide +kernel
theorem d_Mo_rows_59 : decode c_Mo_rows 59 = .ok (.iload_n 3, 1) := by decide +kernel
theorem d_Mo_rows_60 : decode c_Mo_rows 60 = .ok (.ireturn, 1) := by decide +kernel
theorem d_Mo_same_0 : decode c_Mo_same 0 = .ok (.iconst 0, 1) := by decide +kernel
theorem d_Mo_same_1 : decode c_Mo_same 1 = .ok (.istore 4, 2) := by decide +kernel
theorem d_Mo_same_3 : decode c_Mo_same 3 = .ok (.iload 4, 2) := by decide +kernel
theorem d_Mo_same_5 : decode c_Mo_same 5 = .ok (.iload_n 3, 1) := by decide +kernel
theorem d_Mo_same_6 : decode c_Mo_same 6 = .ok (.if_icmp .ge 32, 3) := by decide +kernel
theorem d_Mo_same_9 : decode c_Mo_same 9 = .ok (.aload_n 0, 1) := by decide +kernel
theorem d_Mo_same_10 : decode c_Mo_same 10 = .ok (.getfield 34, 3) := by decide +kernel
theorem d_Mo_same_13 : decode c_Mo_same 13 = .ok (.iload_n 1, 1) := by decide +kernel
theorem d_Mo_same_14 : decode c_Mo_same 14 = .ok (.iload 4, 2) := by decide +kernel
theorem d_Mo_same_16 : decode c_Mo_same 16 = .ok (.iadd, 1) := by decide +kernel
theorem d_Mo_same_17 : decode c_Mo_same 17 = .ok (.iaload, 1) := by decide +kernel
theorem d_Mo_same_18 : decode c_Mo_same 18 = .ok (.aload_n 0, 1) := by decide +kernel
theorem d_Mo_same_19 : decode c_Mo_same 19 = .ok (.getfield 34, 3) := by decide +kernel
theorem d_Mo_same_22 : decode c_Mo_same 22 = .ok (.iload_n 2, 1) := by decide +kernel
theorem d_Mo_same_23 : decode c_Mo_same 23 = .ok (.iload 4, 2) := by decide +kernel
theorem d_Mo_same_25 : decode c_Mo_same 25 = .ok (.iadd, 1) := by decide +kernel
theorem d_Mo_same_26 : decode c_Mo_same 26 = .ok (.iaload, 1) := by decide +kernel
theorem d_Mo_same_27 : decode c_Mo_same 27 = .ok (.if_icmp .eq 5, 3) := by decide +kernel
theorem d_Mo_same_30 : decode c_Mo_same 30 = .ok (.iconst 0, 1) := by decide +kernel
theorem d_Mo_same_31 : decode c_Mo_same 31 = .ok (.ireturn, 1) := by decide +kernel
theorem d_Mo_same_32 : decode c_Mo_same 32 = .ok (.iinc 4 1, 3) := by decide +kernel
theorem d_Mo_same_35 : decode c_Mo_same 35 = .ok (.goto (-32), 3) := by decide +kernel
theorem d_Mo_same_38 : decode c_Mo_same 38 = .ok (.iconst 1, 1) := by decide +kernel
theorem d_Mo_same_39 : decode c_Mo_same 39 = .ok (.ireturn, 1) := by decide +kernel
theorem d_Mo_isReal_0 : decode c_Mo_isReal 0 = .ok (.iload_n 1, 1) := by decide +kernel
theorem d_Mo_isReal_1 : decode c_Mo_isReal 1 = .ok (.iconst 0, 1) := by decide +kernel
theorem d_Mo_isReal_2 : decode c_Mo_isReal 2 = .ok (.invokestatic 163, 3) := by decide +kernel
theorem d_Mo_isReal_5 : decode c_Mo_isReal 5 = .ok (.idiv, 1) := by decide +kernel
theorem d_Mo_isReal_6 : decode c_Mo_isReal 6 = .ok (.aload_n 0, 1) := by decide +kernel
theorem d_Mo_isReal_7 : decode c_Mo_isReal 7 = .ok (.getfield 31, 3) := by decide +kernel
theorem d_Mo_isReal_10 : decode c_Mo_isReal 10 = .ok (.iconst 0, 1) := by decide +kernel
theorem d_Mo_isReal_11 : decode c_Mo_isReal 11 = .ok (.iaload, 1) := by decide +kernel
theorem d_Mo_isReal_12 : decode c_Mo_isReal 12 = .ok (.if_icmp .ge 43, 3) := by decide +kernel
theorem d_Mo_isReal_15 : decode c_Mo_isReal 15 = .ok (.iload_n 1, 1) := by decide +kernel
theorem d_Mo_isReal_16 : decode c_Mo_isReal 16 = .ok (.iconst 1, 1) := by decide +kernel
theorem d_Mo_isReal_17 : decode c_Mo_isReal 17 = .ok (.invokestatic 163, 3) := by decide +kernel
theorem d_Mo_isReal_20 : decode c_Mo_isReal 20 = .ok (.idiv, 1) := by decide +kernel
theorem d_Mo_isReal_21 : decode c_Mo_isReal 21 = .ok (.bipush 17, 2) := by decide +kernel
theorem d_Mo_isReal_23 : decode c_Mo_isReal 23 = .ok (.irem, 1) := by decide +kernel
theorem d_Mo_isReal_24 : decode c_Mo_isReal 24 = .ok (.aload_n 0, 1) := by decide +kernel
theorem d_Mo_isReal_25 : decode c_Mo_isReal 25 = .ok (.getfield 31, 3) := by decide +kernel
theorem d_Mo_isReal_28 : decode c_Mo_isReal 28 = .ok (.iconst 1, 1) := by decide +kernel
theorem d_Mo_isReal_29 : decode c_Mo_isReal 29 = .ok (.iaload, 1) := by decide +kernel
theorem d_Mo_isReal_30 : decode c_Mo_isReal 30 = .ok (.if_icmp .ge 25, 3) := by decide +kernel
theorem d_Mo_isReal_33 : decode c_Mo_isReal 33 = .ok (.iload_n 1, 1) := by decide +kernel
theorem d_Mo_isReal_34 : decode c_Mo_isReal 34 = .ok (.iconst 2, 1) := by decide +kernel
theorem d_Mo_isReal_35 : decode c_Mo_isReal 35 = .ok (.invokestatic 163, 3) := by decide +kernel
theorem d_Mo_isReal_38 : decode c_Mo_isReal 38 = .ok (.idiv, 1) := by decide +kernel
theorem d_Mo_isReal_39 : decode c_Mo_isReal 39 = .ok (.bipush 17, 2) := by decide +kernel
theorem d_Mo_isReal_41 : decode c_Mo_isReal 41 = .ok (.irem, 1) := by decide +kernel
theorem d_Mo_isReal_42 : decode c_Mo_isReal 42 = .ok (.aload_n 0, 1) := by decide +kernel
theorem d_Mo_isReal_43 : decode c_Mo_isReal 43 = .ok (.getfield 31, 3) := by decide +kernel
theorem d_Mo_isReal_46 : decode c_Mo_isReal 46 = .ok (.iconst 2, 1) := by decide +kernel
theorem d_Mo_isReal_47 : decode c_Mo_isReal 47 = .ok (.iaload, 1) := by decide +kernel
theorem d_Mo_isReal_48 : decode c_Mo_isReal 48 = .ok (.if_icmp .ge 7, 3) := by decide +kernel
theorem d_Mo_isReal_51 : decode c_Mo_isReal 51 = .ok (.iconst 1, 1) := by decide +kernel
theorem d_Mo_isReal_52 : decode c_Mo_isReal 52 = .ok (.goto 4, 3) := by decide +kernel
theorem d_Mo_isReal_55 : decode c_Mo_isReal 55 = .ok (.iconst 0, 1) := by decide +kernel
theorem d_Mo_isReal_56 : decode c_Mo_isReal 56 = .ok (.ireturn, 1) := by decide +kernel
theorem d_Mo_edges_0 : decode c_Mo_edges 0 = .ok (.aload_n 0, 1) := by decide +kernel
theorem d_Mo_edges_1 : decode c_Mo_edges 1 = .ok (.iload_n 1, 1) := by decide +kernel
theorem d_Mo_edges_2 : decode c_Mo_edges 2 = .ok (.iconst 0, 1) := by decide +kernel
theorem d_Mo_edges_3 : decode c_Mo_edges 3 = .ok (.iconst 1, 1) := by decide +kernel
theorem d_Mo_edges_4 : decode c_Mo_edges 4 = .ok (.invokestatic 112, 3) := by decide +kernel
theorem d_Mo_edges_7 : decode c_Mo_edges 7 = .ok (.ifCond .ne 7, 3) := by decide +kernel
theorem d_Mo_edges_10 : decode c_Mo_edges 10 = .ok (.iconst 1, 1) := by decide +kernel
theorem d_Mo_edges_11 : decode c_Mo_edges 11 = .ok (.goto 4, 3) := by decide +kernel
theorem d_Mo_edges_14 : decode c_Mo_edges 14 = .ok (.iconst 0, 1) := by decide +kernel
theorem d_Mo_edges_15 : decode c_Mo_edges 15 = .ok (.iconst 0, 1) := by decide +kernel
theorem d_Mo_edges_16 : decode c_Mo_edges 16 = .ok (.invokevirtual 57, 3) := by decide +kernel
theorem d_Mo_edges_19 : decode c_Mo_edges 19 = .ok (.ifCond .eq 5, 3) := by decide +kernel
theorem d_Mo_edges_22 : decode c_Mo_edges 22 = .ok (.iconst 0, 1) := by decide +kernel
theorem d_Mo_edges_23 : decode c_Mo_edges 23 = .ok (.ireturn, 1) := by decide +kernel
theorem d_Mo_edges_24 : decode c_Mo_edges 24 = .ok (.aload_n 0, 1) := by decide +kernel
theorem d_Mo_edges_25 : decode c_Mo_edges 25 = .ok (.iload_n 1, 1) := by decide +kernel
theorem d_Mo_edges_26 : decode c_Mo_edges 26 = .ok (.invokevirtual 178, 3) := by decide +kernel
theorem d_Mo_edges_29 : decode c_Mo_edges 29 = .ok (.aload_n 0, 1) := by decide +kernel
theorem d_Mo_edges_30 : decode c_Mo_edges 30 = .ok (.iconst 0, 1) := by decide +kernel
theorem d_Mo_edges_31 : decode c_Mo_edges 31 = .ok (.iconst 1, 1) := by decide +kernel
theorem d_Mo_edges_32 : decode c_Mo_edges 32 = .ok (.invokevirtual 181, 3) := by decide +kernel
theorem d_Mo_edges_35 : decode c_Mo_edges 35 = .ok (.aload_n 0, 1) := by decide +kernel
theorem d_Mo_edges_36 : decode c_Mo_edges 36 = .ok (.iconst 1, 1) := by decide +kernel
theorem d_Mo_edges_37 : decode c_Mo_edges 37 = .ok (.iconst 1, 1) := by decide +kernel
theorem d_Mo_edges_38 : decode c_Mo_edges 38 = .ok (.invokevirtual 181, 3) := by decide +kernel
theorem d_Mo_edges_41 : decode c_Mo_edges 41 = .ok (.iadd, 1) := by decide +kernel
theorem d_Mo_edges_42 : decode c_Mo_edges 42 = .ok (.aload_n 0, 1) := by decide +kernel
theorem d_Mo_edges_43 : decode c_Mo_edges 43 = .ok (.iconst 2, 1) := by decide +kernel
theorem d_Mo_edges_44 : decode c_Mo_edges 44 = .ok (.iconst 1, 1) := by decide +kernel
theorem d_Mo_edges_45 : decode c_Mo_edges 45 = .ok (.invokevirtual 181, 3) := by decide +kernel
theorem d_Mo_edges_48 : decode c_Mo_edges 48 = .ok (.iadd, 1) := by decide +kernel
theorem d_Mo_edges_49 : decode c_Mo_edges 49 = .ok (.aload_n 0, 1) := by decide +kernel
theorem d_Mo_edges_50 : decode c_Mo_edges 50 = .ok (.iconst 3, 1) := by decide +kernel
theorem d_Mo_edges_51 : decode c_Mo_edges 51 = .ok (.iconst 1, 1) := by decide +kernel
theorem d_Mo_edges_52 : decode c_Mo_edges 52 = .ok (.invokevirtual 181, 3) := by decide +kernel
theorem d_Mo_edges_55 : decode c_Mo_edges 55 = .ok (.iadd, 1) := by decide +kernel
theorem d_Mo_edges_56 : decode c_Mo_edges 56 = .ok (.ireturn, 1) := by decide +kernel
theorem d_Mo_pass_0 : decode c_Mo_pass 0 = .ok (.aload_n 0, 1) := by decide +kernel
theorem d_Mo_pass_1 : decode c_Mo_pass 1 = .ok (.iload_n 1, 1) := by decide +kernel
theorem d_Mo_pass_2 : decode c_Mo_pass 2 = .ok (.iconst 0, 1) := by decide +kernel
theorem d_Mo_pass_3 : decode c_Mo_pass 3 = .ok (.iconst 1, 1) := by decide +kernel
theorem d_Mo_pass_4 : decode c_Mo_pass 4 = .ok (.invokestatic 112, 3) := by decide +kernel
theorem d_Mo_pass_7 : decode c_Mo_pass 7 = .ok (.ifCond .ne 7, 3) := by decide +kernel
theorem d_Mo_pass_10 : decode c_Mo_pass 10 = .ok (.iconst 1, 1) := by decide +kernel
theorem d_Mo_pass_11 : decode c_Mo_pass 11 = .ok (.goto 4, 3) := by decide +kernel
theorem d_Mo_pass_14 : decode c_Mo_pass 14 = .ok (.iconst 0, 1) := by decide +kernel
theorem d_Mo_pass_15 : decode c_Mo_pass 15 = .ok (.aload_n 0, 1) := by decide +kernel
theorem d_Mo_pass_16 : decode c_Mo_pass 16 = .ok (.iload_n 2, 1) := by decide +kernel
theorem d_Mo_pass_17 : decode c_Mo_pass 17 = .ok (.iload_n 3, 1) := by decide +kernel
theorem d_Mo_pass_18 : decode c_Mo_pass 18 = .ok (.iload 4, 2) := by decide +kernel
theorem d_Mo_pass_20 : decode c_Mo_pass 20 = .ok (.iload 5, 2) := by decide +kernel
theorem d_Mo_pass_22 : decode c_Mo_pass 22 = .ok (.invokevirtual 137, 3) := by decide +kernel
theorem d_Mo_pass_25 : decode c_Mo_pass 25 = .ok (.invokevirtual 57, 3) := by decide +kernel
theorem d_Mo_pass_28 : decode c_Mo_pass 28 = .ok (.ifCond .eq 5, 3) := by decide +kernel
theorem d_Mo_pass_31 : decode c_Mo_pass 31 = .ok (.iconst 0, 1) := by decide +kernel
theorem d_Mo_pass_32 : decode c_Mo_pass 32 = .ok (.ireturn, 1) := by decide +kernel
theorem d_Mo_pass_33 : decode c_Mo_pass 33 = .ok (.iconst 0, 1) := by decide +kernel
theorem d_Mo_pass_34 : decode c_Mo_pass 34 = .ok (.istore 6, 2) := by decide +kernel
theorem d_Mo_pass_36 : decode c_Mo_pass 36 = .ok (.iload 6, 2) := by decide +kernel
theorem d_Mo_pass_38 : decode c_Mo_pass 38 = .ok (.aload_n 0, 1) := by decide +kernel
theorem d_Mo_pass_39 : decode c_Mo_pass 39 = .ok (.getfield 185, 3) := by decide +kernel
theorem d_Mo_pass_42 : decode c_Mo_pass 42 = .ok (.if_icmp .ge 83, 3) := by decide +kernel
theorem d_Mo_pass_45 : decode c_Mo_pass 45 = .ok (.aload_n 0, 1) := by decide +kernel
theorem d_Mo_pass_46 : decode c_Mo_pass 46 = .ok (.iload 6, 2) := by decide +kernel
theorem d_Mo_pass_48 : decode c_Mo_pass 48 = .ok (.iload_n 2, 1) := by decide +kernel
theorem d_Mo_pass_49 : decode c_Mo_pass 49 = .ok (.iload_n 3, 1) := by decide +kernel
theorem d_Mo_pass_50 : decode c_Mo_pass 50 = .ok (.iload 4, 2) := by decide +kernel
theorem d_Mo_pass_52 : decode c_Mo_pass 52 = .ok (.iload 5, 2) := by decide +kernel
theorem d_Mo_pass_54 : decode c_Mo_pass 54 = .ok (.invokevirtual 188, 3) := by decide +kernel
theorem d_Mo_pass_57 : decode c_Mo_pass 57 = .ok (.ifCond .ne 18, 3) := by decide +kernel
theorem d_Mo_pass_60 : decode c_Mo_pass 60 = .ok (.aload_n 0, 1) := by decide +kernel
theorem d_Mo_pass_61 : decode c_Mo_pass 61 = .ok (.iload 6, 2) := by decide +kernel
theorem d_Mo_pass_63 : decode c_Mo_pass 63 = .ok (.iload_n 3, 1) := by decide +kernel
theorem d_Mo_pass_64 : decode c_Mo_pass 64 = .ok (.iload_n 2, 1) := by decide +kernel
theorem d_Mo_pass_65 : decode c_Mo_pass 65 = .ok (.iload 4, 2) := by decide +kernel
theorem d_Mo_pass_67 : decode c_Mo_pass 67 = .ok (.iload 5, 2) := by decide +kernel
theorem d_Mo_pass_69 : decode c_Mo_pass 69 = .ok (.invokevirtual 188, 3) := by decide +kernel
theorem d_Mo_pass_72 : decode c_Mo_pass 72 = .ok (.ifCond .eq 47, 3) := by decide +kernel
theorem d_Mo_pass_75 : decode c_Mo_pass 75 = .ok (.aload_n 0, 1) := by decide +kernel
theorem d_Mo_pass_76 : decode c_Mo_pass 76 = .ok (.getfield 25, 3) := by decide +kernel
theorem d_Mo_pass_79 : decode c_Mo_pass 79 = .ok (.iconst 4, 1) := by decide +kernel
theorem d_Mo_pass_80 : decode c_Mo_pass 80 = .ok (.iload 6, 2) := by decide +kernel
theorem d_Mo_pass_82 : decode c_Mo_pass 82 = .ok (.imul, 1) := by decide +kernel
theorem d_Mo_pass_83 : decode c_Mo_pass 83 = .ok (.iaload, 1) := by decide +kernel
theorem d_Mo_pass_84 : decode c_Mo_pass 84 = .ok (.istore 7, 2) := by decide +kernel
theorem d_Mo_pass_86 : decode c_Mo_pass 86 = .ok (.aload_n 0, 1) := by decide +kernel
theorem d_Mo_pass_87 : decode c_Mo_pass 87 = .ok (.getfield 25, 3) := by decide +kernel
theorem d_Mo_pass_90 : decode c_Mo_pass 90 = .ok (.iconst 4, 1) := by decide +kernel
theorem d_Mo_pass_91 : decode c_Mo_pass 91 = .ok (.iload 6, 2) := by decide +kernel
theorem d_Mo_pass_93 : decode c_Mo_pass 93 = .ok (.imul, 1) := by decide +kernel
theorem d_Mo_pass_94 : decode c_Mo_pass 94 = .ok (.iconst 1, 1) := by decide +kernel
theorem d_Mo_pass_95 : decode c_Mo_pass 95 = .ok (.iadd, 1) := by decide +kernel
theorem d_Mo_pass_96 : decode c_Mo_pass 96 = .ok (.iaload, 1) := by decide +kernel
theorem d_Mo_pass_97 : decode c_Mo_pass 97 = .ok (.istore 8, 2) := by decide +kernel
theorem d_Mo_pass_99 : decode c_Mo_pass 99 = .ok (.aload_n 0, 1) := by decide +kernel
theorem d_Mo_pass_100 : decode c_Mo_pass 100 = .ok (.iload 6, 2) := by decide +kernel
theorem d_Mo_pass_102 : decode c_Mo_pass 102 = .ok (.invokevirtual 191, 3) := by decide +kernel
theorem d_Mo_pass_105 : decode c_Mo_pass 105 = .ok (.aload_n 0, 1) := by decide +kernel
theorem d_Mo_pass_106 : decode c_Mo_pass 106 = .ok (.iload 7, 2) := by decide +kernel
theorem d_Mo_pass_108 : decode c_Mo_pass 108 = .ok (.iload 8, 2) := by decide +kernel
theorem d_Mo_pass_110 : decode c_Mo_pass 110 = .ok (.iload 4, 2) := by decide +kernel
theorem d_Mo_pass_112 : decode c_Mo_pass 112 = .ok (.iload 5, 2) := by decide +kernel
theorem d_Mo_pass_114 : decode c_Mo_pass 114 = .ok (.invokevirtual 194, 3) := by decide +kernel
theorem d_Mo_pass_117 : decode c_Mo_pass 117 = .ok (.iconst 3, 1) := by decide +kernel
theorem d_Mo_pass_118 : decode c_Mo_pass 118 = .ok (.ireturn, 1) := by decide +kernel
theorem d_Mo_pass_119 : decode c_Mo_pass 119 = .ok (.iinc 6 1, 3) := by decide +kernel
theorem d_Mo_pass_122 : decode c_Mo_pass 122 = .ok (.goto (-86), 3) := by decide +kernel
theorem d_Mo_pass_125 : decode c_Mo_pass 125 = .ok (.aload_n 0, 1) := by decide +kernel
theorem d_Mo_pass_126 : decode c_Mo_pass 126 = .ok (.iload_n 1, 1) := by decide +kernel
theorem d_Mo_pass_127 : decode c_Mo_pass 127 = .ok (.iload_n 2, 1) := by decide +kernel
theorem d_Mo_pass_128 : decode c_Mo_pass 128 = .ok (.iload_n 3, 1) := by decide +kernel
theorem d_Mo_pass_129 : decode c_Mo_pass 129 = .ok (.iload 4, 2) := by decide +kernel
theorem d_Mo_pass_131 : decode c_Mo_pass 131 = .ok (.iload 5, 2) := by decide +kernel
theorem d_Mo_pass_133 : decode c_Mo_pass 133 = .ok (.invokevirtual 141, 3) := by decide +kernel
theorem d_Mo_pass_136 : decode c_Mo_pass 136 = .ok (.istore 6, 2) := by decide +kernel
theorem d_Mo_pass_138 : decode c_Mo_pass 138 = .ok (.iload 6, 2) := by decide +kernel
theorem d_Mo_pass_140 : decode c_Mo_pass 140 = .ok (.ifCond .le 26, 3) := by decide +kernel
theorem d_Mo_pass_143 : decode c_Mo_pass 143 = .ok (.aload_n 0, 1) := by decide +kernel
theorem d_Mo_pass_144 : decode c_Mo_pass 144 = .ok (.getfield 185, 3) := by decide +kernel
theorem d_Mo_pass_147 : decode c_Mo_pass 147 = .ok (.iconst 4, 1) := by decide +kernel
theorem d_Mo_pass_148 : decode c_Mo_pass 148 = .ok (.if_icmp .ne 8, 3) := by decide +kernel
theorem d_Mo_pass_151 : decode c_Mo_pass 151 = .ok (.aload_n 0, 1) := by decide +kernel
theorem d_Mo_pass_152 : decode c_Mo_pass 152 = .ok (.iconst 0, 1) := by decide +kernel
theorem d_Mo_pass_153 : decode c_Mo_pass 153 = .ok (.invokevirtual 191, 3) := by decide +kernel
theorem d_Mo_pass_156 : decode c_Mo_pass 156 = .ok (.aload_n 0, 1) := by decide +kernel
theorem d_Mo_pass_157 : decode c_Mo_pass 157 = .ok (.iload_n 2, 1) := by decide +kernel
theorem d_Mo_pass_158 : decode c_Mo_pass 158 = .ok (.iload_n 3, 1) := by decide +kernel
theorem d_Mo_pass_159 : decode c_Mo_pass 159 = .ok (.iload 4, 2) := by decide +kernel
theorem d_Mo_pass_161 : decode c_Mo_pass 161 = .ok (.iload 5, 2) := by decide +kernel
theorem d_Mo_pass_163 : decode c_Mo_pass 163 = .ok (.invokevirtual 194, 3) := by decide +kernel
theorem d_Mo_pass_166 : decode c_Mo_pass 166 = .ok (.iload 6, 2) := by decide +kernel
theorem d_Mo_pass_168 : decode c_Mo_pass 168 = .ok (.ireturn, 1) := by decide +kernel
theorem d_Mo_isLink_0 : decode c_Mo_isLink 0 = .ok (.aload_n 0, 1) := by decide +kernel
theorem d_Mo_isLink_1 : decode c_Mo_isLink 1 = .ok (.getfield 25, 3) := by decide +kernel
theorem d_Mo_isLink_4 : decode c_Mo_isLink 4 = .ok (.iconst 4, 1) := by decide +kernel
theorem d_Mo_isLink_5 : decode c_Mo_isLink 5 = .ok (.iload_n 1, 1) := by decide +kernel
theorem d_Mo_isLink_6 : decode c_Mo_isLink 6 = .ok (.imul, 1) := by decide +kernel
theorem d_Mo_isLink_7 : decode c_Mo_isLink 7 = .ok (.iaload, 1) := by decide +kernel
theorem d_Mo_isLink_8 : decode c_Mo_isLink 8 = .ok (.iload_n 2, 1) := by decide +kernel
theorem d_Mo_isLink_9 : decode c_Mo_isLink 9 = .ok (.if_icmp .ne 51, 3) := by decide +kernel
theorem d_Mo_isLink_12 : decode c_Mo_isLink 12 = .ok (.aload_n 0, 1) := by decide +kernel
theorem d_Mo_isLink_13 : decode c_Mo_isLink 13 = .ok (.getfield 25, 3) := by decide +kernel
theorem d_Mo_isLink_16 : decode c_Mo_isLink 16 = .ok (.iconst 4, 1) := by decide +kernel
theorem d_Mo_isLink_17 : decode c_Mo_isLink 17 = .ok (.iload_n 1, 1) := by decide +kernel
theorem d_Mo_isLink_18 : decode c_Mo_isLink 18 = .ok (.imul, 1) := by decide +kernel
theorem d_Mo_isLink_19 : decode c_Mo_isLink 19 = .ok (.iconst 1, 1) := by decide +kernel
theorem d_Mo_isLink_20 : decode c_Mo_isLink 20 = .ok (.iadd, 1) := by decide +kernel
theorem d_Mo_isLink_21 : decode c_Mo_isLink 21 = .ok (.iaload, 1) := by decide +kernel
theorem d_Mo_isLink_22 : decode c_Mo_isLink 22 = .ok (.iload_n 3, 1) := by decide +kernel
theorem d_Mo_isLink_23 : decode c_Mo_isLink 23 = .ok (.if_icmp .ne 37, 3) := by decide +kernel
theorem d_Mo_isLink_26 : decode c_Mo_isLink 26 = .ok (.aload_n 0, 1) := by decide +kernel
theorem d_Mo_isLink_27 : decode c_Mo_isLink 27 = .ok (.getfield 25, 3) := by decide +kernel
theorem d_Mo_isLink_30 : decode c_Mo_isLink 30 = .ok (.iconst 4, 1) := by decide +kernel
theorem d_Mo_isLink_31 : decode c_Mo_isLink 31 = .ok (.iload_n 1, 1) := by decide +kernel
theorem d_Mo_isLink_32 : decode c_Mo_isLink 32 = .ok (.imul, 1) := by decide +kernel
theorem d_Mo_isLink_33 : decode c_Mo_isLink 33 = .ok (.iconst 2, 1) := by decide +kernel
theorem d_Mo_isLink_34 : decode c_Mo_isLink 34 = .ok (.iadd, 1) := by decide +kernel
theorem d_Mo_isLink_35 : decode c_Mo_isLink 35 = .ok (.iaload, 1) := by decide +kernel
theorem d_Mo_isLink_36 : decode c_Mo_isLink 36 = .ok (.iload 4, 2) := by decide +kernel
theorem d_Mo_isLink_38 : decode c_Mo_isLink 38 = .ok (.if_icmp .ne 22, 3) := by decide +kernel
theorem d_Mo_isLink_41 : decode c_Mo_isLink 41 = .ok (.aload_n 0, 1) := by decide +kernel
theorem d_Mo_isLink_42 : decode c_Mo_isLink 42 = .ok (.getfield 25, 3) := by decide +kernel
theorem d_Mo_isLink_45 : decode c_Mo_isLink 45 = .ok (.iconst 4, 1) := by decide +kernel
theorem d_Mo_isLink_46 : decode c_Mo_isLink 46 = .ok (.iload_n 1, 1) := by decide +kernel
theorem d_Mo_isLink_47 : decode c_Mo_isLink 47 = .ok (.imul, 1) := by decide +kernel
theorem d_Mo_isLink_48 : decode c_Mo_isLink 48 = .ok (.iconst 3, 1) := by decide +kernel
theorem d_Mo_isLink_49 : decode c_Mo_isLink 49 = .ok (.iadd, 1) := by decide +kernel
theorem d_Mo_isLink_50 : decode c_Mo_isLink 50 = .ok (.iaload, 1) := by decide +kernel
theorem d_Mo_isLink_51 : decode c_Mo_isLink 51 = .ok (.iload 5, 2) := by decide +kernel
theorem d_Mo_isLink_53 : decode c_Mo_isLink 53 = .ok (.if_icmp .ne 7, 3) := by decide +kernel
theorem d_Mo_isLink_56 : decode c_Mo_isLink 56 = .ok (.iconst 1, 1) := by decide +kernel
theorem d_Mo_isLink_57 : decode c_Mo_isLink 57 = .ok (.goto 4, 3) := by decide +kernel
theorem d_Mo_isLink_60 : decode c_Mo_isLink 60 = .ok (.iconst 0, 1) := by decide +kernel
theorem d_Mo_isLink_61 : decode c_Mo_isLink 61 = .ok (.ireturn, 1) := by decide +kernel
theorem d_Mo_unlink_0 : decode c_Mo_unlink 0 = .ok (.aload_n 0, 1) := by decide +kernel
theorem d_Mo_unlink_1 : decode c_Mo_unlink 1 = .ok (.dup, 1) := by decide +kernel
theorem d_Mo_unlink_2 : decode c_Mo_unlink 2 = .ok (.getfield 185, 3) := by decide +kernel
theorem d_Mo_unlink_5 : decode c_Mo_unlink 5 = .ok (.iconst 1, 1) := by decide +kernel
theorem d_Mo_unlink_6 : decode c_Mo_unlink 6 = .ok (.isub, 1) := by decide +kernel
theorem d_Mo_unlink_7 : decode c_Mo_unlink 7 = .ok (.putfield 185, 3) := by decide +kernel
theorem d_Mo_unlink_10 : decode c_Mo_unlink 10 = .ok (.iconst 4, 1) := by decide +kernel
theorem d_Mo_unlink_11 : decode c_Mo_unlink 11 = .ok (.iload_n 1, 1) := by decide +kernel
theorem d_Mo_unlink_12 : decode c_Mo_unlink 12 = .ok (.imul, 1) := by decide +kernel
theorem d_Mo_unlink_13 : decode c_Mo_unlink 13 = .ok (.istore_n 2, 1) := by decide +kernel
theorem d_Mo_unlink_14 : decode c_Mo_unlink 14 = .ok (.iload_n 2, 1) := by decide +kernel
theorem d_Mo_unlink_15 : decode c_Mo_unlink 15 = .ok (.iconst 4, 1) := by decide +kernel
theorem d_Mo_unlink_16 : decode c_Mo_unlink 16 = .ok (.aload_n 0, 1) := by decide +kernel
theorem d_Mo_unlink_17 : decode c_Mo_unlink 17 = .ok (.getfield 185, 3) := by decide +kernel
theorem d_Mo_unlink_20 : decode c_Mo_unlink 20 = .ok (.imul, 1) := by decide +kernel
theorem d_Mo_unlink_21 : decode c_Mo_unlink 21 = .ok (.if_icmp .ge 23, 3) := by decide +kernel
theorem d_Mo_unlink_24 : decode c_Mo_unlink 24 = .ok (.aload_n 0, 1) := by decide +kernel
theorem d_Mo_unlink_25 : decode c_Mo_unlink 25 = .ok (.getfield 25, 3) := by decide +kernel
theorem d_Mo_unlink_28 : decode c_Mo_unlink 28 = .ok (.iload_n 2, 1) := by decide +kernel
theorem d_Mo_unlink_29 : decode c_Mo_unlink 29 = .ok (.aload_n 0, 1) := by decide +kernel
theorem d_Mo_unlink_30 : decode c_Mo_unlink 30 = .ok (.getfield 25, 3) := by decide +kernel
theorem d_Mo_unlink_33 : decode c_Mo_unlink 33 = .ok (.iload_n 2, 1) := by decide +kernel
theorem d_Mo_unlink_34 : decode c_Mo_unlink 34 = .ok (.iconst 4, 1) := by decide +kernel
theorem d_Mo_unlink_35 : decode c_Mo_unlink 35 = .ok (.iadd, 1) := by decide +kernel
theorem d_Mo_unlink_36 : decode c_Mo_unlink 36 = .ok (.iaload, 1) := by decide +kernel
theorem d_Mo_unlink_37 : decode c_Mo_unlink 37 = .ok (.iastore, 1) := by decide +kernel
theorem d_Mo_unlink_38 : decode c_Mo_unlink 38 = .ok (.iinc 2 1, 3) := by decide +kernel
theorem d_Mo_unlink_41 : decode c_Mo_unlink 41 = .ok (.goto (-27), 3) := by decide +kernel
theorem d_Mo_unlink_44 : decode c_Mo_unlink 44 = .ok (.return_, 1) := by decide +kernel
theorem d_Mo_link_0 : decode c_Mo_link 0 = .ok (.aload_n 0, 1) := by decide +kernel
theorem d_Mo_link_1 : decode c_Mo_link 1 = .ok (.getfield 25, 3) := by decide +kernel
theorem d_Mo_link_4 : decode c_Mo_link 4 = .ok (.iconst 4, 1) := by decide +kernel
theorem d_Mo_link_5 : decode c_Mo_link 5 = .ok (.aload_n 0, 1) := by decide +kernel
theorem d_Mo_link_6 : decode c_Mo_link 6 = .ok (.getfield 185, 3) := by decide +kernel
theorem d_Mo_link_9 : decode c_Mo_link 9 = .ok (.imul, 1) := by decide +kernel
theorem d_Mo_link_10 : decode c_Mo_link 10 = .ok (.iload_n 1, 1) := by decide +kernel
theorem d_Mo_link_11 : decode c_Mo_link 11 = .ok (.iastore, 1) := by decide +kernel
theorem d_Mo_link_12 : decode c_Mo_link 12 = .ok (.aload_n 0, 1) := by decide +kernel
theorem d_Mo_link_13 : decode c_Mo_link 13 = .ok (.getfield 25, 3) := by decide +kernel
theorem d_Mo_link_16 : decode c_Mo_link 16 = .ok (.iconst 4, 1) := by decide +kernel
theorem d_Mo_link_17 : decode c_Mo_link 17 = .ok (.aload_n 0, 1) := by decide +kernel
theorem d_Mo_link_18 : decode c_Mo_link 18 = .ok (.getfield 185, 3) := by decide +kernel
theorem d_Mo_link_21 : decode c_Mo_link 21 = .ok (.imul, 1) := by decide +kernel
theorem d_Mo_link_22 : decode c_Mo_link 22 = .ok (.iconst 1, 1) := by decide +kernel
theorem d_Mo_link_23 : decode c_Mo_link 23 = .ok (.iadd, 1) := by decide +kernel
theorem d_Mo_link_24 : decode c_Mo_link 24 = .ok (.iload_n 2, 1) := by decide +kernel
theorem d_Mo_link_25 : decode c_Mo_link 25 = .ok (.iastore, 1) := by decide +kernel
theorem d_Mo_link_26 : decode c_Mo_link 26 = .ok (.aload_n 0, 1) := by decide +kernel
theorem d_Mo_link_27 : decode c_Mo_link 27 = .ok (.getfield 25, 3) := by decide +kernel
theorem d_Mo_link_30 : decode c_Mo_link 30 = .ok (.iconst 4, 1) := by decide +kernel
theorem d_Mo_link_31 : decode c_Mo_link 31 = .ok (.aload_n 0, 1) := by decide +kernel
theorem d_Mo_link_32 : decode c_Mo_link 32 = .ok (.getfield 185, 3) := by decide +kernel
theorem d_Mo_link_35 : decode c_Mo_link 35 = .ok (.imul, 1) := by decide +kernel
theorem d_Mo_link_36 : decode c_Mo_link 36 = .ok (.iconst 2, 1) := by decide +kernel
theorem d_Mo_link_37 : decode c_Mo_link 37 = .ok (.iadd, 1) := by decide +kernel
theorem d_Mo_link_38 : decode c_Mo_link 38 = .ok (.iload_n 3, 1) := by decide +kernel
theorem d_Mo_link_39 : decode c_Mo_link 39 = .ok (.iastore, 1) := by decide +kernel
theorem d_Mo_link_40 : decode c_Mo_link 40 = .ok (.aload_n 0, 1) := by decide +kernel
theorem d_Mo_link_41 : decode c_Mo_link 41 = .ok (.getfield 25, 3) := by decide +kernel
theorem d_Mo_link_44 : decode c_Mo_link 44 = .ok (.iconst 4, 1) := by decide +kernel
theorem d_Mo_link_45 : decode c_Mo_link 45 = .ok (.aload_n 0, 1) := by decide +kernel
theorem d_Mo_link_46 : decode c_Mo_link 46 = .ok (.getfield 185, 3) := by decide +kernel
theorem d_Mo_link_49 : decode c_Mo_link 49 = .ok (.imul, 1) := by decide +kernel
theorem d_Mo_link_50 : decode c_Mo_link 50 = .ok (.iconst 3, 1) := by decide +kernel
theorem d_Mo_link_51 : decode c_Mo_link 51 = .ok (.iadd, 1) := by decide +kernel
theorem d_Mo_link_52 : decode c_Mo_link 52 = .ok (.iload 4, 2) := by decide +kernel
theorem d_Mo_link_54 : decode c_Mo_link 54 = .ok (.iastore, 1) := by decide +kernel
theorem d_Mo_link_55 : decode c_Mo_link 55 = .ok (.aload_n 0, 1) := by decide +kernel
theorem d_Mo_link_56 : decode c_Mo_link 56 = .ok (.dup, 1) := by decide +kernel
theorem d_Mo_link_57 : decode c_Mo_link 57 = .ok (.getfield 185, 3) := by decide +kernel
theorem d_Mo_link_60 : decode c_Mo_link 60 = .ok (.iconst 1, 1) := by decide +kernel
theorem d_Mo_link_61 : decode c_Mo_link 61 = .ok (.iadd, 1) := by decide +kernel
theorem d_Mo_link_62 : decode c_Mo_link 62 = .ok (.putfield 185, 3) := by decide +kernel
theorem d_Mo_link_65 : decode c_Mo_link 65 = .ok (.return_, 1) := by decide +kernel
theorem d_Mo_connection_0 : decode c_Mo_connection 0 = .ok (.aload_n 0, 1) := by decide +kernel
theorem d_Mo_connection_1 : decode c_Mo_connection 1 = .ok (.iload_n 2, 1) := by decide +kernel
theorem d_Mo_connection_2 : decode c_Mo_connection 2 = .ok (.iconst 0, 1) := by decide +kernel
theorem d_Mo_connection_3 : decode c_Mo_connection 3 = .ok (.iconst 3, 1) := by decide +kernel
theorem d_Mo_connection_4 : decode c_Mo_connection 4 = .ok (.invokestatic 112, 3) := by decide +kernel
theorem d_Mo_connection_7 : decode c_Mo_connection 7 = .ok (.ifCond .ne 7, 3) := by decide +kernel
theorem d_Mo_connection_10 : decode c_Mo_connection 10 = .ok (.iconst 1, 1) := by decide +kernel
theorem d_Mo_connection_11 : decode c_Mo_connection 11 = .ok (.goto 4, 3) := by decide +kernel
theorem d_Mo_connection_14 : decode c_Mo_connection 14 = .ok (.iconst 0, 1) := by decide +kernel
theorem d_Mo_connection_15 : decode c_Mo_connection 15 = .ok (.iconst 0, 1) := by decide +kernel
theorem d_Mo_connection_16 : decode c_Mo_connection 16 = .ok (.invokevirtual 57, 3) := by decide +kernel
theorem d_Mo_connection_19 : decode c_Mo_connection 19 = .ok (.ifCond .eq 5, 3) := by decide +kernel
theorem d_Mo_connection_22 : decode c_Mo_connection 22 = .ok (.iconst 0, 1) := by decide +kernel
theorem d_Mo_connection_23 : decode c_Mo_connection 23 = .ok (.ireturn, 1) := by decide +kernel
theorem d_Mo_connection_24 : decode c_Mo_connection 24 = .ok (.iload_n 1, 1) := by decide +kernel
theorem d_Mo_connection_25 : decode c_Mo_connection 25 = .ok (.iconst 0, 1) := by decide +kernel
theorem d_Mo_connection_26 : decode c_Mo_connection 26 = .ok (.aload_n 0, 1) := by decide +kernel
theorem d_Mo_connection_27 : decode c_Mo_connection 27 = .ok (.getfield 185, 3) := by decide +kernel
theorem d_Mo_connection_30 : decode c_Mo_connection 30 = .ok (.iconst 1, 1) := by decide +kernel
theorem d_Mo_connection_31 : decode c_Mo_connection 31 = .ok (.isub, 1) := by decide +kernel
theorem d_Mo_connection_32 : decode c_Mo_connection 32 = .ok (.invokestatic 112, 3) := by decide +kernel
theorem d_Mo_connection_35 : decode c_Mo_connection 35 = .ok (.ifCond .eq 16, 3) := by decide +kernel
theorem d_Mo_connection_38 : decode c_Mo_connection 38 = .ok (.aload_n 0, 1) := by decide +kernel
theorem d_Mo_connection_39 : decode c_Mo_connection 39 = .ok (.getfield 25, 3) := by decide +kernel
theorem d_Mo_connection_42 : decode c_Mo_connection 42 = .ok (.iconst 4, 1) := by decide +kernel
theorem d_Mo_connection_43 : decode c_Mo_connection 43 = .ok (.iload_n 1, 1) := by decide +kernel
theorem d_Mo_connection_44 : decode c_Mo_connection 44 = .ok (.imul, 1) := by decide +kernel
theorem d_Mo_connection_45 : decode c_Mo_connection 45 = .ok (.iload_n 2, 1) := by decide +kernel
theorem d_Mo_connection_46 : decode c_Mo_connection 46 = .ok (.iadd, 1) := by decide +kernel
theorem d_Mo_connection_47 : decode c_Mo_connection 47 = .ok (.iaload, 1) := by decide +kernel
theorem d_Mo_connection_48 : decode c_Mo_connection 48 = .ok (.goto 4, 3) := by decide +kernel
theorem d_Mo_connection_51 : decode c_Mo_connection 51 = .ok (.iconst (-1), 1) := by decide +kernel
theorem d_Mo_connection_52 : decode c_Mo_connection 52 = .ok (.ireturn, 1) := by decide +kernel
