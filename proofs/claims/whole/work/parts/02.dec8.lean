theorem dX8_init_0 : decode cX8_init 0 = .ok (.aload_n 0, 1) := by decide +kernel
theorem dX8_init_1 : decode cX8_init 1 = .ok (.invokespecial 1, 3) := by decide +kernel
theorem dX8_init_4 : decode cX8_init 4 = .ok (.aload_n 0, 1) := by decide +kernel
theorem dX8_init_5 : decode cX8_init 5 = .ok (.sipush 457, 3) := by decide +kernel
theorem dX8_init_8 : decode cX8_init 8 = .ok (.newarray .int, 2) := by decide +kernel
theorem dX8_init_10 : decode cX8_init 10 = .ok (.putfield 7, 3) := by decide +kernel
theorem dX8_init_13 : decode cX8_init 13 = .ok (.aload_n 0, 1) := by decide +kernel
theorem dX8_init_14 : decode cX8_init 14 = .ok (.sipush 2742, 3) := by decide +kernel
theorem dX8_init_17 : decode cX8_init 17 = .ok (.newarray .int, 2) := by decide +kernel
theorem dX8_init_19 : decode cX8_init 19 = .ok (.putfield 13, 3) := by decide +kernel
theorem dX8_init_22 : decode cX8_init 22 = .ok (.aload_n 0, 1) := by decide +kernel
theorem dX8_init_23 : decode cX8_init 23 = .ok (.bipush 60, 2) := by decide +kernel
theorem dX8_init_25 : decode cX8_init 25 = .ok (.newarray .int, 2) := by decide +kernel
theorem dX8_init_27 : decode cX8_init 27 = .ok (.putfield 16, 3) := by decide +kernel
theorem dX8_init_30 : decode cX8_init 30 = .ok (.aload_n 0, 1) := by decide +kernel
theorem dX8_init_31 : decode cX8_init 31 = .ok (.sipush 169, 3) := by decide +kernel
theorem dX8_init_34 : decode cX8_init 34 = .ok (.newarray .int, 2) := by decide +kernel
theorem dX8_init_36 : decode cX8_init 36 = .ok (.putfield 19, 3) := by decide +kernel
theorem dX8_init_39 : decode cX8_init 39 = .ok (.aload_n 0, 1) := by decide +kernel
theorem dX8_init_40 : decode cX8_init 40 = .ok (.sipush 144, 3) := by decide +kernel
theorem dX8_init_43 : decode cX8_init 43 = .ok (.newarray .int, 2) := by decide +kernel
theorem dX8_init_45 : decode cX8_init 45 = .ok (.putfield 22, 3) := by decide +kernel
theorem dX8_init_48 : decode cX8_init 48 = .ok (.aload_n 0, 1) := by decide +kernel
theorem dX8_init_49 : decode cX8_init 49 = .ok (.sipush 144, 3) := by decide +kernel
theorem dX8_init_52 : decode cX8_init 52 = .ok (.newarray .int, 2) := by decide +kernel
theorem dX8_init_54 : decode cX8_init 54 = .ok (.putfield 25, 3) := by decide +kernel
theorem dX8_init_57 : decode cX8_init 57 = .ok (.aload_n 0, 1) := by decide +kernel
theorem dX8_init_58 : decode cX8_init 58 = .ok (.sipush 144, 3) := by decide +kernel
theorem dX8_init_61 : decode cX8_init 61 = .ok (.newarray .int, 2) := by decide +kernel
theorem dX8_init_63 : decode cX8_init 63 = .ok (.putfield 28, 3) := by decide +kernel
theorem dX8_init_66 : decode cX8_init 66 = .ok (.aload_n 0, 1) := by decide +kernel
theorem dX8_init_67 : decode cX8_init 67 = .ok (.iconst 4, 1) := by decide +kernel
theorem dX8_init_68 : decode cX8_init 68 = .ok (.newarray .int, 2) := by decide +kernel
theorem dX8_init_70 : decode cX8_init 70 = .ok (.putfield 31, 3) := by decide +kernel
theorem dX8_init_73 : decode cX8_init 73 = .ok (.aload_n 0, 1) := by decide +kernel
theorem dX8_init_74 : decode cX8_init 74 = .ok (.bipush 14, 2) := by decide +kernel
theorem dX8_init_76 : decode cX8_init 76 = .ok (.newarray .int, 2) := by decide +kernel
theorem dX8_init_78 : decode cX8_init 78 = .ok (.putfield 34, 3) := by decide +kernel
theorem dX8_init_81 : decode cX8_init 81 = .ok (.aload_n 0, 1) := by decide +kernel
theorem dX8_init_82 : decode cX8_init 82 = .ok (.bipush 14, 2) := by decide +kernel
theorem dX8_init_84 : decode cX8_init 84 = .ok (.newarray .int, 2) := by decide +kernel
theorem dX8_init_86 : decode cX8_init 86 = .ok (.putfield 37, 3) := by decide +kernel
theorem dX8_init_89 : decode cX8_init 89 = .ok (.aload_n 0, 1) := by decide +kernel
theorem dX8_init_90 : decode cX8_init 90 = .ok (.bipush 14, 2) := by decide +kernel
theorem dX8_init_92 : decode cX8_init 92 = .ok (.newarray .int, 2) := by decide +kernel
theorem dX8_init_94 : decode cX8_init 94 = .ok (.putfield 40, 3) := by decide +kernel
theorem dX8_init_97 : decode cX8_init 97 = .ok (.aload_n 0, 1) := by decide +kernel
theorem dX8_init_98 : decode cX8_init 98 = .ok (.bipush 14, 2) := by decide +kernel
theorem dX8_init_100 : decode cX8_init 100 = .ok (.newarray .int, 2) := by decide +kernel
theorem dX8_init_102 : decode cX8_init 102 = .ok (.putfield 43, 3) := by decide +kernel
theorem dX8_init_105 : decode cX8_init 105 = .ok (.aload_n 0, 1) := by decide +kernel
theorem dX8_init_106 : decode cX8_init 106 = .ok (.bipush 14, 2) := by decide +kernel
theorem dX8_init_108 : decode cX8_init 108 = .ok (.newarray .int, 2) := by decide +kernel
theorem dX8_init_110 : decode cX8_init 110 = .ok (.putfield 46, 3) := by decide +kernel
theorem dX8_init_113 : decode cX8_init 113 = .ok (.aload_n 0, 1) := by decide +kernel
theorem dX8_init_114 : decode cX8_init 114 = .ok (.bipush 14, 2) := by decide +kernel
theorem dX8_init_116 : decode cX8_init 116 = .ok (.newarray .int, 2) := by decide +kernel
theorem dX8_init_118 : decode cX8_init 118 = .ok (.putfield 49, 3) := by decide +kernel
theorem dX8_init_121 : decode cX8_init 121 = .ok (.aload_n 0, 1) := by decide +kernel
theorem dX8_init_122 : decode cX8_init 122 = .ok (.bipush 14, 2) := by decide +kernel
theorem dX8_init_124 : decode cX8_init 124 = .ok (.newarray .int, 2) := by decide +kernel
theorem dX8_init_126 : decode cX8_init 126 = .ok (.putfield 52, 3) := by decide +kernel
theorem dX8_init_129 : decode cX8_init 129 = .ok (.aload_n 0, 1) := by decide +kernel
theorem dX8_init_130 : decode cX8_init 130 = .ok (.getfield 7, 3) := by decide +kernel
theorem dX8_init_133 : decode cX8_init 133 = .ok (.bipush 19, 2) := by decide +kernel
theorem dX8_init_135 : decode cX8_init 135 = .ok (.sipush 5000, 3) := by decide +kernel
theorem dX8_init_138 : decode cX8_init 138 = .ok (.iastore, 1) := by decide +kernel
theorem dX8_init_139 : decode cX8_init 139 = .ok (.aload_n 0, 1) := by decide +kernel
theorem dX8_init_140 : decode cX8_init 140 = .ok (.getfield 7, 3) := by decide +kernel
theorem dX8_init_143 : decode cX8_init 143 = .ok (.bipush 21, 2) := by decide +kernel
theorem dX8_init_145 : decode cX8_init 145 = .ok (.sipush (-999), 3) := by decide +kernel
theorem dX8_init_148 : decode cX8_init 148 = .ok (.iastore, 1) := by decide +kernel
theorem dX8_init_149 : decode cX8_init 149 = .ok (.return_, 1) := by decide +kernel
theorem dX8_thrown_0 : decode cX8_thrown 0 = .ok (.aload_n 0, 1) := by decide +kernel
theorem dX8_thrown_1 : decode cX8_thrown 1 = .ok (.getfield 55, 3) := by decide +kernel
theorem dX8_thrown_4 : decode cX8_thrown 4 = .ok (.ireturn, 1) := by decide +kernel
theorem dX8_refused_0 : decode cX8_refused 0 = .ok (.aload_n 0, 1) := by decide +kernel
theorem dX8_refused_1 : decode cX8_refused 1 = .ok (.iload_n 1, 1) := by decide +kernel
theorem dX8_refused_2 : decode cX8_refused 2 = .ok (.putfield 55, 3) := by decide +kernel
theorem dX8_refused_5 : decode cX8_refused 5 = .ok (.iload_n 1, 1) := by decide +kernel
theorem dX8_refused_6 : decode cX8_refused 6 = .ok (.ifCond .le 7, 3) := by decide +kernel
theorem dX8_refused_9 : decode cX8_refused 9 = .ok (.iconst 1, 1) := by decide +kernel
theorem dX8_refused_10 : decode cX8_refused 10 = .ok (.goto 4, 3) := by decide +kernel
theorem dX8_refused_13 : decode cX8_refused 13 = .ok (.iconst 0, 1) := by decide +kernel
theorem dX8_refused_14 : decode cX8_refused 14 = .ok (.ireturn, 1) := by decide +kernel
theorem dX8_in_0 : decode cX8_in 0 = .ok (.iload_n 0, 1) := by decide +kernel
theorem dX8_in_1 : decode cX8_in 1 = .ok (.iload_n 1, 1) := by decide +kernel
theorem dX8_in_2 : decode cX8_in 2 = .ok (.if_icmp .lt 12, 3) := by decide +kernel
theorem dX8_in_5 : decode cX8_in 5 = .ok (.iload_n 0, 1) := by decide +kernel
theorem dX8_in_6 : decode cX8_in 6 = .ok (.iload_n 2, 1) := by decide +kernel
theorem dX8_in_7 : decode cX8_in 7 = .ok (.if_icmp .gt 7, 3) := by decide +kernel
theorem dX8_in_10 : decode cX8_in 10 = .ok (.iconst 1, 1) := by decide +kernel
theorem dX8_in_11 : decode cX8_in 11 = .ok (.goto 4, 3) := by decide +kernel
theorem dX8_in_14 : decode cX8_in 14 = .ok (.iconst 0, 1) := by decide +kernel
theorem dX8_in_15 : decode cX8_in 15 = .ok (.ireturn, 1) := by decide +kernel
theorem dX8_saves_0 : decode cX8_saves 0 = .ok (.aload_n 0, 1) := by decide +kernel
theorem dX8_saves_1 : decode cX8_saves 1 = .ok (.getfield 59, 3) := by decide +kernel
theorem dX8_saves_4 : decode cX8_saves 4 = .ok (.bipush 6, 2) := by decide +kernel
theorem dX8_saves_6 : decode cX8_saves 6 = .ok (.if_icmp .ne 44, 3) := by decide +kernel
theorem dX8_saves_9 : decode cX8_saves 9 = .ok (.iconst 0, 1) := by decide +kernel
theorem dX8_saves_10 : decode cX8_saves 10 = .ok (.istore_n 1, 1) := by decide +kernel
theorem dX8_saves_11 : decode cX8_saves 11 = .ok (.iload_n 1, 1) := by decide +kernel
theorem dX8_saves_12 : decode cX8_saves 12 = .ok (.sipush 2285, 3) := by decide +kernel
theorem dX8_saves_15 : decode cX8_saves 15 = .ok (.if_icmp .ge 25, 3) := by decide +kernel
theorem dX8_saves_18 : decode cX8_saves 18 = .ok (.aload_n 0, 1) := by decide +kernel
theorem dX8_saves_19 : decode cX8_saves 19 = .ok (.getfield 13, 3) := by decide +kernel
theorem dX8_saves_22 : decode cX8_saves 22 = .ok (.iload_n 1, 1) := by decide +kernel
theorem dX8_saves_23 : decode cX8_saves 23 = .ok (.aload_n 0, 1) := by decide +kernel
theorem dX8_saves_24 : decode cX8_saves 24 = .ok (.getfield 13, 3) := by decide +kernel
theorem dX8_saves_27 : decode cX8_saves 27 = .ok (.sipush 457, 3) := by decide +kernel
theorem dX8_saves_30 : decode cX8_saves 30 = .ok (.iload_n 1, 1) := by decide +kernel
theorem dX8_saves_31 : decode cX8_saves 31 = .ok (.iadd, 1) := by decide +kernel
theorem dX8_saves_32 : decode cX8_saves 32 = .ok (.iaload, 1) := by decide +kernel
theorem dX8_saves_33 : decode cX8_saves 33 = .ok (.iastore, 1) := by decide +kernel
theorem dX8_saves_34 : decode cX8_saves 34 = .ok (.iinc 1 1, 3) := by decide +kernel
theorem dX8_saves_37 : decode cX8_saves 37 = .ok (.goto (-26), 3) := by decide +kernel
theorem dX8_saves_40 : decode cX8_saves 40 = .ok (.aload_n 0, 1) := by decide +kernel
theorem dX8_saves_41 : decode cX8_saves 41 = .ok (.dup, 1) := by decide +kernel
theorem dX8_saves_42 : decode cX8_saves 42 = .ok (.getfield 59, 3) := by decide +kernel
theorem dX8_saves_45 : decode cX8_saves 45 = .ok (.iconst 1, 1) := by decide +kernel
theorem dX8_saves_46 : decode cX8_saves 46 = .ok (.isub, 1) := by decide +kernel
theorem dX8_saves_47 : decode cX8_saves 47 = .ok (.putfield 59, 3) := by decide +kernel
theorem dX8_saves_50 : decode cX8_saves 50 = .ok (.iconst 0, 1) := by decide +kernel
theorem dX8_saves_51 : decode cX8_saves 51 = .ok (.istore_n 1, 1) := by decide +kernel
theorem dX8_saves_52 : decode cX8_saves 52 = .ok (.iload_n 1, 1) := by decide +kernel
theorem dX8_saves_53 : decode cX8_saves 53 = .ok (.sipush 457, 3) := by decide +kernel
theorem dX8_saves_56 : decode cX8_saves 56 = .ok (.if_icmp .ge 30, 3) := by decide +kernel
theorem dX8_saves_59 : decode cX8_saves 59 = .ok (.aload_n 0, 1) := by decide +kernel
theorem dX8_saves_60 : decode cX8_saves 60 = .ok (.getfield 13, 3) := by decide +kernel
theorem dX8_saves_63 : decode cX8_saves 63 = .ok (.sipush 457, 3) := by decide +kernel
theorem dX8_saves_66 : decode cX8_saves 66 = .ok (.aload_n 0, 1) := by decide +kernel
theorem dX8_saves_67 : decode cX8_saves 67 = .ok (.getfield 59, 3) := by decide +kernel
theorem dX8_saves_70 : decode cX8_saves 70 = .ok (.imul, 1) := by decide +kernel
theorem dX8_saves_71 : decode cX8_saves 71 = .ok (.iload_n 1, 1) := by decide +kernel
theorem dX8_saves_72 : decode cX8_saves 72 = .ok (.iadd, 1) := by decide +kernel
theorem dX8_saves_73 : decode cX8_saves 73 = .ok (.aload_n 0, 1) := by decide +kernel
theorem dX8_saves_74 : decode cX8_saves 74 = .ok (.getfield 7, 3) := by decide +kernel
theorem dX8_saves_77 : decode cX8_saves 77 = .ok (.iload_n 1, 1) := by decide +kernel
theorem dX8_saves_78 : decode cX8_saves 78 = .ok (.iaload, 1) := by decide +kernel
theorem dX8_saves_79 : decode cX8_saves 79 = .ok (.iastore, 1) := by decide +kernel
theorem dX8_saves_80 : decode cX8_saves 80 = .ok (.iinc 1 1, 3) := by decide +kernel
theorem dX8_saves_83 : decode cX8_saves 83 = .ok (.goto (-31), 3) := by decide +kernel
theorem dX8_saves_86 : decode cX8_saves 86 = .ok (.aload_n 0, 1) := by decide +kernel
theorem dX8_saves_87 : decode cX8_saves 87 = .ok (.dup, 1) := by decide +kernel
theorem dX8_saves_88 : decode cX8_saves 88 = .ok (.getfield 59, 3) := by decide +kernel
theorem dX8_saves_91 : decode cX8_saves 91 = .ok (.iconst 1, 1) := by decide +kernel
theorem dX8_saves_92 : decode cX8_saves 92 = .ok (.iadd, 1) := by decide +kernel
theorem dX8_saves_93 : decode cX8_saves 93 = .ok (.putfield 59, 3) := by decide +kernel
theorem dX8_saves_96 : decode cX8_saves 96 = .ok (.return_, 1) := by decide +kernel
theorem dX8_isMove_0 : decode cX8_isMove 0 = .ok (.iload_n 0, 1) := by decide +kernel
theorem dX8_isMove_1 : decode cX8_isMove 1 = .ok (.iconst 0, 1) := by decide +kernel
theorem dX8_isMove_2 : decode cX8_isMove 2 = .ok (.iconst 3, 1) := by decide +kernel
theorem dX8_isMove_3 : decode cX8_isMove 3 = .ok (.invokestatic 62, 3) := by decide +kernel
theorem dX8_isMove_6 : decode cX8_isMove 6 = .ok (.ireturn, 1) := by decide +kernel
theorem dX8_takes_0 : decode cX8_takes 0 = .ok (.iload_n 0, 1) := by decide +kernel
theorem dX8_takes_1 : decode cX8_takes 1 = .ok (.iconst 2, 1) := by decide +kernel
theorem dX8_takes_2 : decode cX8_takes 2 = .ok (.irem, 1) := by decide +kernel
theorem dX8_takes_3 : decode cX8_takes 3 = .ok (.ifCond .ne 7, 3) := by decide +kernel
theorem dX8_takes_6 : decode cX8_takes 6 = .ok (.iconst 1, 1) := by decide +kernel
theorem dX8_takes_7 : decode cX8_takes 7 = .ok (.goto 4, 3) := by decide +kernel
theorem dX8_takes_10 : decode cX8_takes 10 = .ok (.iconst 2, 1) := by decide +kernel
theorem dX8_takes_11 : decode cX8_takes 11 = .ok (.ireturn, 1) := by decide +kernel
theorem dX8_behind_0 : decode cX8_behind 0 = .ok (.iload_n 1, 1) := by decide +kernel
theorem dX8_behind_1 : decode cX8_behind 1 = .ok (.iconst 2, 1) := by decide +kernel
theorem dX8_behind_2 : decode cX8_behind 2 = .ok (.if_icmp .ge 12, 3) := by decide +kernel
theorem dX8_behind_5 : decode cX8_behind 5 = .ok (.iload_n 0, 1) := by decide +kernel
theorem dX8_behind_6 : decode cX8_behind 6 = .ok (.iload_n 1, 1) := by decide +kernel
theorem dX8_behind_7 : decode cX8_behind 7 = .ok (.invokestatic 66, 3) := by decide +kernel
theorem dX8_behind_10 : decode cX8_behind 10 = .ok (.iadd, 1) := by decide +kernel
theorem dX8_behind_11 : decode cX8_behind 11 = .ok (.goto 4, 3) := by decide +kernel
theorem dX8_behind_14 : decode cX8_behind 14 = .ok (.iload_n 0, 1) := by decide +kernel
theorem dX8_behind_15 : decode cX8_behind 15 = .ok (.ireturn, 1) := by decide +kernel
theorem dX8_coinsOf_0 : decode cX8_coinsOf 0 = .ok (.iload_n 3, 1) := by decide +kernel
theorem dX8_coinsOf_1 : decode cX8_coinsOf 1 = .ok (.iconst 2, 1) := by decide +kernel
theorem dX8_coinsOf_2 : decode cX8_coinsOf 2 = .ok (.if_icmp .ge 7, 3) := by decide +kernel
theorem dX8_coinsOf_5 : decode cX8_coinsOf 5 = .ok (.iload_n 1, 1) := by decide +kernel
theorem dX8_coinsOf_6 : decode cX8_coinsOf 6 = .ok (.goto 11, 3) := by decide +kernel
theorem dX8_coinsOf_9 : decode cX8_coinsOf 9 = .ok (.iload_n 1, 1) := by decide +kernel
theorem dX8_coinsOf_10 : decode cX8_coinsOf 10 = .ok (.iload_n 2, 1) := by decide +kernel
theorem dX8_coinsOf_11 : decode cX8_coinsOf 11 = .ok (.iadd, 1) := by decide +kernel
theorem dX8_coinsOf_12 : decode cX8_coinsOf 12 = .ok (.iload_n 3, 1) := by decide +kernel
theorem dX8_coinsOf_13 : decode cX8_coinsOf 13 = .ok (.invokestatic 66, 3) := by decide +kernel
theorem dX8_coinsOf_16 : decode cX8_coinsOf 16 = .ok (.isub, 1) := by decide +kernel
theorem dX8_coinsOf_17 : decode cX8_coinsOf 17 = .ok (.istore 4, 2) := by decide +kernel
theorem dX8_coinsOf_19 : decode cX8_coinsOf 19 = .ok (.aload_n 0, 1) := by decide +kernel
theorem dX8_coinsOf_20 : decode cX8_coinsOf 20 = .ok (.getfield 7, 3) := by decide +kernel
theorem dX8_coinsOf_23 : decode cX8_coinsOf 23 = .ok (.iconst 1, 1) := by decide +kernel
theorem dX8_coinsOf_24 : decode cX8_coinsOf 24 = .ok (.iload 4, 2) := by decide +kernel
theorem dX8_coinsOf_26 : decode cX8_coinsOf 26 = .ok (.iadd, 1) := by decide +kernel
theorem dX8_coinsOf_27 : decode cX8_coinsOf 27 = .ok (.iaload, 1) := by decide +kernel
theorem dX8_coinsOf_28 : decode cX8_coinsOf 28 = .ok (.iload_n 3, 1) := by decide +kernel
theorem dX8_coinsOf_29 : decode cX8_coinsOf 29 = .ok (.iconst 2, 1) := by decide +kernel
theorem dX8_coinsOf_30 : decode cX8_coinsOf 30 = .ok (.irem, 1) := by decide +kernel
theorem dX8_coinsOf_31 : decode cX8_coinsOf 31 = .ok (.ifCond .ne 7, 3) := by decide +kernel
theorem dX8_coinsOf_34 : decode cX8_coinsOf 34 = .ok (.iconst 0, 1) := by decide +kernel
theorem dX8_coinsOf_35 : decode cX8_coinsOf 35 = .ok (.goto 14, 3) := by decide +kernel
theorem dX8_coinsOf_38 : decode cX8_coinsOf 38 = .ok (.aload_n 0, 1) := by decide +kernel
theorem dX8_coinsOf_39 : decode cX8_coinsOf 39 = .ok (.getfield 7, 3) := by decide +kernel
theorem dX8_coinsOf_42 : decode cX8_coinsOf 42 = .ok (.iconst 1, 1) := by decide +kernel
theorem dX8_coinsOf_43 : decode cX8_coinsOf 43 = .ok (.iload 4, 2) := by decide +kernel
theorem dX8_coinsOf_45 : decode cX8_coinsOf 45 = .ok (.iadd, 1) := by decide +kernel
theorem dX8_coinsOf_46 : decode cX8_coinsOf 46 = .ok (.iconst 1, 1) := by decide +kernel
theorem dX8_coinsOf_47 : decode cX8_coinsOf 47 = .ok (.iadd, 1) := by decide +kernel
theorem dX8_coinsOf_48 : decode cX8_coinsOf 48 = .ok (.iaload, 1) := by decide +kernel
theorem dX8_coinsOf_49 : decode cX8_coinsOf 49 = .ok (.iadd, 1) := by decide +kernel
theorem dX8_coinsOf_50 : decode cX8_coinsOf 50 = .ok (.ireturn, 1) := by decide +kernel
theorem dX8_place_0 : decode cX8_place 0 = .ok (.bipush 13, 2) := by decide +kernel
theorem dX8_place_2 : decode cX8_place 2 = .ok (.iload_n 0, 1) := by decide +kernel
theorem dX8_place_3 : decode cX8_place 3 = .ok (.imul, 1) := by decide +kernel
theorem dX8_place_4 : decode cX8_place 4 = .ok (.iload_n 1, 1) := by decide +kernel
theorem dX8_place_5 : decode cX8_place 5 = .ok (.iadd, 1) := by decide +kernel
theorem dX8_place_6 : decode cX8_place 6 = .ok (.ireturn, 1) := by decide +kernel
theorem dX8_resultIn_0 : decode cX8_resultIn 0 = .ok (.aload_n 0, 1) := by decide +kernel
theorem dX8_resultIn_1 : decode cX8_resultIn 1 = .ok (.iload_n 1, 1) := by decide +kernel
theorem dX8_resultIn_2 : decode cX8_resultIn 2 = .ok (.iload_n 2, 1) := by decide +kernel
theorem dX8_resultIn_3 : decode cX8_resultIn 3 = .ok (.iload_n 3, 1) := by decide +kernel
theorem dX8_resultIn_4 : decode cX8_resultIn 4 = .ok (.invokevirtual 70, 3) := by decide +kernel
theorem dX8_resultIn_7 : decode cX8_resultIn 7 = .ok (.aload_n 0, 1) := by decide +kernel
theorem dX8_resultIn_8 : decode cX8_resultIn 8 = .ok (.getfield 19, 3) := by decide +kernel
theorem dX8_resultIn_11 : decode cX8_resultIn 11 = .ok (.iload_n 1, 1) := by decide +kernel
theorem dX8_resultIn_12 : decode cX8_resultIn 12 = .ok (.iload_n 3, 1) := by decide +kernel
theorem dX8_resultIn_13 : decode cX8_resultIn 13 = .ok (.invokestatic 74, 3) := by decide +kernel
theorem dX8_resultIn_16 : decode cX8_resultIn 16 = .ok (.iload_n 2, 1) := by decide +kernel
theorem dX8_resultIn_17 : decode cX8_resultIn 17 = .ok (.iload_n 3, 1) := by decide +kernel
theorem dX8_resultIn_18 : decode cX8_resultIn 18 = .ok (.invokestatic 66, 3) := by decide +kernel
theorem dX8_resultIn_21 : decode cX8_resultIn 21 = .ok (.isub, 1) := by decide +kernel
theorem dX8_resultIn_22 : decode cX8_resultIn 22 = .ok (.invokestatic 78, 3) := by decide +kernel
theorem dX8_resultIn_25 : decode cX8_resultIn 25 = .ok (.iaload, 1) := by decide +kernel
theorem dX8_resultIn_26 : decode cX8_resultIn 26 = .ok (.isub, 1) := by decide +kernel
theorem dX8_resultIn_27 : decode cX8_resultIn 27 = .ok (.ireturn, 1) := by decide +kernel
theorem dX8_bestIn_0 : decode cX8_bestIn 0 = .ok (.sipush (-999), 3) := by decide +kernel
theorem dX8_bestIn_3 : decode cX8_bestIn 3 = .ok (.istore_n 3, 1) := by decide +kernel
theorem dX8_bestIn_4 : decode cX8_bestIn 4 = .ok (.iconst 0, 1) := by decide +kernel
theorem dX8_bestIn_5 : decode cX8_bestIn 5 = .ok (.istore 4, 2) := by decide +kernel
theorem dX8_bestIn_7 : decode cX8_bestIn 7 = .ok (.iload 4, 2) := by decide +kernel
theorem dX8_bestIn_9 : decode cX8_bestIn 9 = .ok (.iconst 4, 1) := by decide +kernel
theorem dX8_bestIn_10 : decode cX8_bestIn 10 = .ok (.if_icmp .ge 62, 3) := by decide +kernel
theorem dX8_bestIn_13 : decode cX8_bestIn 13 = .ok (.iload 4, 2) := by decide +kernel
theorem dX8_bestIn_15 : decode cX8_bestIn 15 = .ok (.invokestatic 66, 3) := by decide +kernel
theorem dX8_bestIn_18 : decode cX8_bestIn 18 = .ok (.iload_n 2, 1) := by decide +kernel
theorem dX8_bestIn_19 : decode cX8_bestIn 19 = .ok (.if_icmp .gt 7, 3) := by decide +kernel
theorem dX8_bestIn_22 : decode cX8_bestIn 22 = .ok (.iconst 1, 1) := by decide +kernel
theorem dX8_bestIn_23 : decode cX8_bestIn 23 = .ok (.goto 4, 3) := by decide +kernel
theorem dX8_bestIn_26 : decode cX8_bestIn 26 = .ok (.iconst 0, 1) := by decide +kernel
theorem dX8_bestIn_27 : decode cX8_bestIn 27 = .ok (.istore 5, 2) := by decide +kernel
theorem dX8_bestIn_29 : decode cX8_bestIn 29 = .ok (.iload 5, 2) := by decide +kernel
theorem dX8_bestIn_31 : decode cX8_bestIn 31 = .ok (.ifCond .eq 33, 3) := by decide +kernel
theorem dX8_bestIn_34 : decode cX8_bestIn 34 = .ok (.iload_n 3, 1) := by decide +kernel
theorem dX8_bestIn_35 : decode cX8_bestIn 35 = .ok (.sipush (-999), 3) := by decide +kernel
theorem dX8_bestIn_38 : decode cX8_bestIn 38 = .ok (.if_icmp .eq 21, 3) := by decide +kernel
theorem dX8_bestIn_41 : decode cX8_bestIn 41 = .ok (.aload_n 0, 1) := by decide +kernel
theorem dX8_bestIn_42 : decode cX8_bestIn 42 = .ok (.iload_n 1, 1) := by decide +kernel
theorem dX8_bestIn_43 : decode cX8_bestIn 43 = .ok (.iload_n 2, 1) := by decide +kernel
theorem dX8_bestIn_44 : decode cX8_bestIn 44 = .ok (.iload 4, 2) := by decide +kernel
theorem dX8_bestIn_46 : decode cX8_bestIn 46 = .ok (.invokevirtual 81, 3) := by decide +kernel
theorem dX8_bestIn_49 : decode cX8_bestIn 49 = .ok (.aload_n 0, 1) := by decide +kernel
theorem dX8_bestIn_50 : decode cX8_bestIn 50 = .ok (.iload_n 1, 1) := by decide +kernel
theorem dX8_bestIn_51 : decode cX8_bestIn 51 = .ok (.iload_n 2, 1) := by decide +kernel
theorem dX8_bestIn_52 : decode cX8_bestIn 52 = .ok (.iload_n 3, 1) := by decide +kernel
theorem dX8_bestIn_53 : decode cX8_bestIn 53 = .ok (.invokevirtual 81, 3) := by decide +kernel
theorem dX8_bestIn_56 : decode cX8_bestIn 56 = .ok (.if_icmp .le 8, 3) := by decide +kernel
theorem dX8_bestIn_59 : decode cX8_bestIn 59 = .ok (.iload 4, 2) := by decide +kernel
theorem dX8_bestIn_61 : decode cX8_bestIn 61 = .ok (.goto 4, 3) := by decide +kernel
theorem dX8_bestIn_64 : decode cX8_bestIn 64 = .ok (.iload_n 3, 1) := by decide +kernel
theorem dX8_bestIn_65 : decode cX8_bestIn 65 = .ok (.istore_n 3, 1) := by decide +kernel
theorem dX8_bestIn_66 : decode cX8_bestIn 66 = .ok (.iinc 4 1, 3) := by decide +kernel
theorem dX8_bestIn_69 : decode cX8_bestIn 69 = .ok (.goto (-62), 3) := by decide +kernel
theorem dX8_bestIn_72 : decode cX8_bestIn 72 = .ok (.iload_n 3, 1) := by decide +kernel
theorem dX8_bestIn_73 : decode cX8_bestIn 73 = .ok (.ireturn, 1) := by decide +kernel
theorem dX8_fills_0 : decode cX8_fills 0 = .ok (.iconst 0, 1) := by decide +kernel
theorem dX8_fills_1 : decode cX8_fills 1 = .ok (.istore_n 1, 1) := by decide +kernel
theorem dX8_fills_2 : decode cX8_fills 2 = .ok (.iload_n 1, 1) := by decide +kernel
theorem dX8_fills_3 : decode cX8_fills 3 = .ok (.bipush 13, 2) := by decide +kernel
theorem dX8_fills_5 : decode cX8_fills 5 = .ok (.if_icmp .ge 20, 3) := by decide +kernel
theorem dX8_fills_8 : decode cX8_fills 8 = .ok (.aload_n 0, 1) := by decide +kernel
theorem dX8_fills_9 : decode cX8_fills 9 = .ok (.getfield 19, 3) := by decide +kernel
theorem dX8_fills_12 : decode cX8_fills 12 = .ok (.iload_n 1, 1) := by decide +kernel
theorem dX8_fills_13 : decode cX8_fills 13 = .ok (.iconst 0, 1) := by decide +kernel
theorem dX8_fills_14 : decode cX8_fills 14 = .ok (.invokestatic 78, 3) := by decide +kernel
theorem dX8_fills_17 : decode cX8_fills 17 = .ok (.iconst 0, 1) := by decide +kernel
theorem dX8_fills_18 : decode cX8_fills 18 = .ok (.iastore, 1) := by decide +kernel
theorem dX8_fills_19 : decode cX8_fills 19 = .ok (.iinc 1 1, 3) := by decide +kernel
theorem dX8_fills_22 : decode cX8_fills 22 = .ok (.goto (-20), 3) := by decide +kernel
theorem dX8_fills_25 : decode cX8_fills 25 = .ok (.iconst 1, 1) := by decide +kernel
theorem dX8_fills_26 : decode cX8_fills 26 = .ok (.istore_n 1, 1) := by decide +kernel
theorem dX8_fills_27 : decode cX8_fills 27 = .ok (.iload_n 1, 1) := by decide +kernel
theorem dX8_fills_28 : decode cX8_fills 28 = .ok (.aload_n 0, 1) := by decide +kernel
theorem dX8_fills_29 : decode cX8_fills 29 = .ok (.getfield 7, 3) := by decide +kernel
theorem dX8_fills_32 : decode cX8_fills 32 = .ok (.iconst 0, 1) := by decide +kernel
theorem dX8_fills_33 : decode cX8_fills 33 = .ok (.iaload, 1) := by decide +kernel
theorem dX8_fills_34 : decode cX8_fills 34 = .ok (.if_icmp .gt 51, 3) := by decide +kernel
theorem dX8_fills_37 : decode cX8_fills 37 = .ok (.iconst 0, 1) := by decide +kernel
theorem dX8_fills_38 : decode cX8_fills 38 = .ok (.istore_n 2, 1) := by decide +kernel
theorem dX8_fills_39 : decode cX8_fills 39 = .ok (.iload_n 2, 1) := by decide +kernel
theorem dX8_fills_40 : decode cX8_fills 40 = .ok (.iload_n 1, 1) := by decide +kernel
theorem dX8_fills_41 : decode cX8_fills 41 = .ok (.iadd, 1) := by decide +kernel
theorem dX8_fills_42 : decode cX8_fills 42 = .ok (.aload_n 0, 1) := by decide +kernel
theorem dX8_fills_43 : decode cX8_fills 43 = .ok (.getfield 7, 3) := by decide +kernel
theorem dX8_fills_46 : decode cX8_fills 46 = .ok (.iconst 0, 1) := by decide +kernel
theorem dX8_fills_47 : decode cX8_fills 47 = .ok (.iaload, 1) := by decide +kernel
theorem dX8_fills_48 : decode cX8_fills 48 = .ok (.if_icmp .gt 31, 3) := by decide +kernel
theorem dX8_fills_51 : decode cX8_fills 51 = .ok (.aload_n 0, 1) := by decide +kernel
theorem dX8_fills_52 : decode cX8_fills 52 = .ok (.getfield 19, 3) := by decide +kernel
theorem dX8_fills_55 : decode cX8_fills 55 = .ok (.iload_n 2, 1) := by decide +kernel
theorem dX8_fills_56 : decode cX8_fills 56 = .ok (.iload_n 1, 1) := by decide +kernel
theorem dX8_fills_57 : decode cX8_fills 57 = .ok (.invokestatic 78, 3) := by decide +kernel
theorem dX8_fills_60 : decode cX8_fills 60 = .ok (.aload_n 0, 1) := by decide +kernel
theorem dX8_fills_61 : decode cX8_fills 61 = .ok (.iload_n 2, 1) := by decide +kernel
theorem dX8_fills_62 : decode cX8_fills 62 = .ok (.iload_n 1, 1) := by decide +kernel
theorem dX8_fills_63 : decode cX8_fills 63 = .ok (.aload_n 0, 1) := by decide +kernel
theorem dX8_fills_64 : decode cX8_fills 64 = .ok (.iload_n 2, 1) := by decide +kernel
theorem dX8_fills_65 : decode cX8_fills 65 = .ok (.iload_n 1, 1) := by decide +kernel
theorem dX8_fills_66 : decode cX8_fills 66 = .ok (.invokevirtual 84, 3) := by decide +kernel
theorem dX8_fills_69 : decode cX8_fills 69 = .ok (.invokevirtual 81, 3) := by decide +kernel
theorem dX8_fills_72 : decode cX8_fills 72 = .ok (.iastore, 1) := by decide +kernel
theorem dX8_fills_73 : decode cX8_fills 73 = .ok (.iinc 2 1, 3) := by decide +kernel
theorem dX8_fills_76 : decode cX8_fills 76 = .ok (.goto (-37), 3) := by decide +kernel
theorem dX8_fills_79 : decode cX8_fills 79 = .ok (.iinc 1 1, 3) := by decide +kernel
theorem dX8_fills_82 : decode cX8_fills 82 = .ok (.goto (-55), 3) := by decide +kernel
theorem dX8_fills_85 : decode cX8_fills 85 = .ok (.return_, 1) := by decide +kernel
theorem dX8_next_0 : decode cX8_next 0 = .ok (.aload_n 0, 1) := by decide +kernel
theorem dX8_next_1 : decode cX8_next 1 = .ok (.getfield 87, 3) := by decide +kernel
theorem dX8_next_4 : decode cX8_next 4 = .ok (.aload_n 0, 1) := by decide +kernel
theorem dX8_next_5 : decode cX8_next 5 = .ok (.getfield 90, 3) := by decide +kernel
theorem dX8_next_8 : decode cX8_next 8 = .ok (.if_icmp .ge 15, 3) := by decide +kernel
theorem dX8_next_11 : decode cX8_next 11 = .ok (.aload_n 0, 1) := by decide +kernel
theorem dX8_next_12 : decode cX8_next 12 = .ok (.getfield 16, 3) := by decide +kernel
theorem dX8_next_15 : decode cX8_next 15 = .ok (.aload_n 0, 1) := by decide +kernel
theorem dX8_next_16 : decode cX8_next 16 = .ok (.getfield 87, 3) := by decide +kernel
theorem dX8_next_19 : decode cX8_next 19 = .ok (.iaload, 1) := by decide +kernel
theorem dX8_next_20 : decode cX8_next 20 = .ok (.goto 4, 3) := by decide +kernel
theorem dX8_next_23 : decode cX8_next 23 = .ok (.iconst 0, 1) := by decide +kernel
theorem dX8_next_24 : decode cX8_next 24 = .ok (.ireturn, 1) := by decide +kernel
theorem dX8_number_0 : decode cX8_number 0 = .ok (.aload_n 0, 1) := by decide +kernel
theorem dX8_number_1 : decode cX8_number 1 = .ok (.invokevirtual 93, 3) := by decide +kernel
theorem dX8_number_4 : decode cX8_number 4 = .ok (.bipush 48, 2) := by decide +kernel
theorem dX8_number_6 : decode cX8_number 6 = .ok (.isub, 1) := by decide +kernel
theorem dX8_number_7 : decode cX8_number 7 = .ok (.istore_n 2, 1) := by decide +kernel
theorem dX8_number_8 : decode cX8_number 8 = .ok (.aload_n 0, 1) := by decide +kernel
theorem dX8_number_9 : decode cX8_number 9 = .ok (.aload_n 0, 1) := by decide +kernel
theorem dX8_number_10 : decode cX8_number 10 = .ok (.getfield 97, 3) := by decide +kernel
theorem dX8_number_13 : decode cX8_number 13 = .ok (.ifCond .ne 13, 3) := by decide +kernel
theorem dX8_number_16 : decode cX8_number 16 = .ok (.iload_n 2, 1) := by decide +kernel
theorem dX8_number_17 : decode cX8_number 17 = .ok (.iconst 1, 1) := by decide +kernel
theorem dX8_number_18 : decode cX8_number 18 = .ok (.bipush 9, 2) := by decide +kernel
theorem dX8_number_20 : decode cX8_number 20 = .ok (.invokestatic 62, 3) := by decide +kernel
theorem dX8_number_23 : decode cX8_number 23 = .ok (.ifCond .ne 7, 3) := by decide +kernel
theorem dX8_number_26 : decode cX8_number 26 = .ok (.iconst 1, 1) := by decide +kernel
theorem dX8_number_27 : decode cX8_number 27 = .ok (.goto 4, 3) := by decide +kernel
theorem dX8_number_30 : decode cX8_number 30 = .ok (.iconst 0, 1) := by decide +kernel
theorem dX8_number_31 : decode cX8_number 31 = .ok (.putfield 97, 3) := by decide +kernel
theorem dX8_number_34 : decode cX8_number 34 = .ok (.aload_n 0, 1) := by decide +kernel
theorem dX8_number_35 : decode cX8_number 35 = .ok (.getfield 97, 3) := by decide +kernel
theorem dX8_number_38 : decode cX8_number 38 = .ok (.ifCond .eq 4, 3) := by decide +kernel
theorem dX8_number_41 : decode cX8_number 41 = .ok (.return_, 1) := by decide +kernel
theorem dX8_number_42 : decode cX8_number 42 = .ok (.aload_n 0, 1) := by decide +kernel
theorem dX8_number_43 : decode cX8_number 43 = .ok (.dup, 1) := by decide +kernel
theorem dX8_number_44 : decode cX8_number 44 = .ok (.getfield 87, 3) := by decide +kernel
theorem dX8_number_47 : decode cX8_number 47 = .ok (.iconst 1, 1) := by decide +kernel
theorem dX8_number_48 : decode cX8_number 48 = .ok (.iadd, 1) := by decide +kernel
theorem dX8_number_49 : decode cX8_number 49 = .ok (.putfield 87, 3) := by decide +kernel
theorem dX8_number_52 : decode cX8_number 52 = .ok (.bipush 10, 2) := by decide +kernel
theorem dX8_number_54 : decode cX8_number 54 = .ok (.iload_n 2, 1) := by decide +kernel
theorem dX8_number_55 : decode cX8_number 55 = .ok (.imul, 1) := by decide +kernel
theorem dX8_number_56 : decode cX8_number 56 = .ok (.aload_n 0, 1) := by decide +kernel
theorem dX8_number_57 : decode cX8_number 57 = .ok (.invokevirtual 93, 3) := by decide +kernel
theorem dX8_number_60 : decode cX8_number 60 = .ok (.iadd, 1) := by decide +kernel
theorem dX8_number_61 : decode cX8_number 61 = .ok (.bipush 48, 2) := by decide +kernel
theorem dX8_number_63 : decode cX8_number 63 = .ok (.isub, 1) := by decide +kernel
theorem dX8_number_64 : decode cX8_number 64 = .ok (.istore_n 3, 1) := by decide +kernel
theorem dX8_number_65 : decode cX8_number 65 = .ok (.aload_n 0, 1) := by decide +kernel
theorem dX8_number_66 : decode cX8_number 66 = .ok (.invokevirtual 93, 3) := by decide +kernel
theorem dX8_number_69 : decode cX8_number 69 = .ok (.bipush 48, 2) := by decide +kernel
theorem dX8_number_71 : decode cX8_number 71 = .ok (.bipush 57, 2) := by decide +kernel
theorem dX8_number_73 : decode cX8_number 73 = .ok (.invokestatic 62, 3) := by decide +kernel
theorem dX8_number_76 : decode cX8_number 76 = .ok (.ifCond .eq 21, 3) := by decide +kernel
theorem dX8_number_79 : decode cX8_number 79 = .ok (.iload_n 3, 1) := by decide +kernel
theorem dX8_number_80 : decode cX8_number 80 = .ok (.bipush 20, 2) := by decide +kernel
theorem dX8_number_82 : decode cX8_number 82 = .ok (.if_icmp .gt 15, 3) := by decide +kernel
theorem dX8_number_85 : decode cX8_number 85 = .ok (.iload_n 3, 1) := by decide +kernel
theorem dX8_number_86 : decode cX8_number 86 = .ok (.istore_n 2, 1) := by decide +kernel
theorem dX8_number_87 : decode cX8_number 87 = .ok (.aload_n 0, 1) := by decide +kernel
theorem dX8_number_88 : decode cX8_number 88 = .ok (.dup, 1) := by decide +kernel
theorem dX8_number_89 : decode cX8_number 89 = .ok (.getfield 87, 3) := by decide +kernel
theorem dX8_number_92 : decode cX8_number 92 = .ok (.iconst 1, 1) := by decide +kernel
theorem dX8_number_93 : decode cX8_number 93 = .ok (.iadd, 1) := by decide +kernel
theorem dX8_number_94 : decode cX8_number 94 = .ok (.putfield 87, 3) := by decide +kernel
theorem dX8_number_97 : decode cX8_number 97 = .ok (.iload_n 1, 1) := by decide +kernel
theorem dX8_number_98 : decode cX8_number 98 = .ok (.ifCond .eq 15, 3) := by decide +kernel
theorem dX8_number_101 : decode cX8_number 101 = .ok (.aload_n 0, 1) := by decide +kernel
theorem dX8_number_102 : decode cX8_number 102 = .ok (.getfield 7, 3) := by decide +kernel
theorem dX8_number_105 : decode cX8_number 105 = .ok (.iconst 1, 1) := by decide +kernel
theorem dX8_number_106 : decode cX8_number 106 = .ok (.aload_n 0, 1) := by decide +kernel
theorem dX8_number_107 : decode cX8_number 107 = .ok (.getfield 101, 3) := by decide +kernel
theorem dX8_number_110 : decode cX8_number 110 = .ok (.iadd, 1) := by decide +kernel
theorem dX8_number_111 : decode cX8_number 111 = .ok (.iload_n 2, 1) := by decide +kernel
theorem dX8_number_112 : decode cX8_number 112 = .ok (.iastore, 1) := by decide +kernel
theorem dX8_number_113 : decode cX8_number 113 = .ok (.aload_n 0, 1) := by decide +kernel
theorem dX8_number_114 : decode cX8_number 114 = .ok (.dup, 1) := by decide +kernel
theorem dX8_number_115 : decode cX8_number 115 = .ok (.getfield 101, 3) := by decide +kernel
theorem dX8_number_118 : decode cX8_number 118 = .ok (.iconst 1, 1) := by decide +kernel
theorem dX8_number_119 : decode cX8_number 119 = .ok (.iadd, 1) := by decide +kernel
theorem dX8_number_120 : decode cX8_number 120 = .ok (.putfield 101, 3) := by decide +kernel
theorem dX8_number_123 : decode cX8_number 123 = .ok (.return_, 1) := by decide +kernel
theorem dX8_isWhole_0 : decode cX8_isWhole 0 = .ok (.aload_n 0, 1) := by decide +kernel
theorem dX8_isWhole_1 : decode cX8_isWhole 1 = .ok (.iconst 0, 1) := by decide +kernel
theorem dX8_isWhole_2 : decode cX8_isWhole 2 = .ok (.putfield 87, 3) := by decide +kernel
theorem dX8_isWhole_5 : decode cX8_isWhole 5 = .ok (.aload_n 0, 1) := by decide +kernel
theorem dX8_isWhole_6 : decode cX8_isWhole 6 = .ok (.iconst 0, 1) := by decide +kernel
theorem dX8_isWhole_7 : decode cX8_isWhole 7 = .ok (.putfield 97, 3) := by decide +kernel
theorem dX8_isWhole_10 : decode cX8_isWhole 10 = .ok (.aload_n 0, 1) := by decide +kernel
theorem dX8_isWhole_11 : decode cX8_isWhole 11 = .ok (.iconst 0, 1) := by decide +kernel
theorem dX8_isWhole_12 : decode cX8_isWhole 12 = .ok (.putfield 101, 3) := by decide +kernel
theorem dX8_isWhole_15 : decode cX8_isWhole 15 = .ok (.iconst 1, 1) := by decide +kernel
theorem dX8_isWhole_16 : decode cX8_isWhole 16 = .ok (.istore_n 2, 1) := by decide +kernel
theorem dX8_isWhole_17 : decode cX8_isWhole 17 = .ok (.iload_n 2, 1) := by decide +kernel
theorem dX8_isWhole_18 : decode cX8_isWhole 18 = .ok (.ifCond .eq 100, 3) := by decide +kernel
theorem dX8_isWhole_21 : decode cX8_isWhole 21 = .ok (.aload_n 0, 1) := by decide +kernel
theorem dX8_isWhole_22 : decode cX8_isWhole 22 = .ok (.iload_n 1, 1) := by decide +kernel
theorem dX8_isWhole_23 : decode cX8_isWhole 23 = .ok (.invokevirtual 104, 3) := by decide +kernel
theorem dX8_isWhole_26 : decode cX8_isWhole 26 = .ok (.aload_n 0, 1) := by decide +kernel
theorem dX8_isWhole_27 : decode cX8_isWhole 27 = .ok (.getfield 97, 3) := by decide +kernel
theorem dX8_isWhole_30 : decode cX8_isWhole 30 = .ok (.ifCond .ne 18, 3) := by decide +kernel
theorem dX8_isWhole_33 : decode cX8_isWhole 33 = .ok (.aload_n 0, 1) := by decide +kernel
theorem dX8_isWhole_34 : decode cX8_isWhole 34 = .ok (.getfield 87, 3) := by decide +kernel
theorem dX8_isWhole_37 : decode cX8_isWhole 37 = .ok (.aload_n 0, 1) := by decide +kernel
theorem dX8_isWhole_38 : decode cX8_isWhole 38 = .ok (.getfield 90, 3) := by decide +kernel
theorem dX8_isWhole_41 : decode cX8_isWhole 41 = .ok (.if_icmp .ge 7, 3) := by decide +kernel
theorem dX8_isWhole_44 : decode cX8_isWhole 44 = .ok (.iconst 1, 1) := by decide +kernel
theorem dX8_isWhole_45 : decode cX8_isWhole 45 = .ok (.goto 4, 3) := by decide +kernel
theorem dX8_isWhole_48 : decode cX8_isWhole 48 = .ok (.iconst 0, 1) := by decide +kernel
theorem dX8_isWhole_49 : decode cX8_isWhole 49 = .ok (.istore_n 2, 1) := by decide +kernel
theorem dX8_isWhole_50 : decode cX8_isWhole 50 = .ok (.iload_n 2, 1) := by decide +kernel
theorem dX8_isWhole_51 : decode cX8_isWhole 51 = .ok (.ifCond .eq (-34), 3) := by decide +kernel
theorem dX8_isWhole_54 : decode cX8_isWhole 54 = .ok (.aload_n 0, 1) := by decide +kernel
theorem dX8_isWhole_55 : decode cX8_isWhole 55 = .ok (.aload_n 0, 1) := by decide +kernel
theorem dX8_isWhole_56 : decode cX8_isWhole 56 = .ok (.invokevirtual 93, 3) := by decide +kernel
theorem dX8_isWhole_59 : decode cX8_isWhole 59 = .ok (.bipush 44, 2) := by decide +kernel
theorem dX8_isWhole_61 : decode cX8_isWhole 61 = .ok (.if_icmp .ne 12, 3) := by decide +kernel
theorem dX8_isWhole_64 : decode cX8_isWhole 64 = .ok (.aload_n 0, 1) := by decide +kernel
theorem dX8_isWhole_65 : decode cX8_isWhole 65 = .ok (.getfield 101, 3) := by decide +kernel
theorem dX8_isWhole_68 : decode cX8_isWhole 68 = .ok (.bipush 12, 2) := by decide +kernel
theorem dX8_isWhole_70 : decode cX8_isWhole 70 = .ok (.if_icmp .ne 7, 3) := by decide +kernel
theorem dX8_isWhole_73 : decode cX8_isWhole 73 = .ok (.iconst 1, 1) := by decide +kernel
theorem dX8_isWhole_74 : decode cX8_isWhole 74 = .ok (.goto 4, 3) := by decide +kernel
theorem dX8_isWhole_77 : decode cX8_isWhole 77 = .ok (.iconst 0, 1) := by decide +kernel
theorem dX8_isWhole_78 : decode cX8_isWhole 78 = .ok (.putfield 97, 3) := by decide +kernel
theorem dX8_isWhole_81 : decode cX8_isWhole 81 = .ok (.aload_n 0, 1) := by decide +kernel
theorem dX8_isWhole_82 : decode cX8_isWhole 82 = .ok (.dup, 1) := by decide +kernel
theorem dX8_isWhole_83 : decode cX8_isWhole 83 = .ok (.getfield 87, 3) := by decide +kernel
theorem dX8_isWhole_86 : decode cX8_isWhole 86 = .ok (.aload_n 0, 1) := by decide +kernel
theorem dX8_isWhole_87 : decode cX8_isWhole 87 = .ok (.getfield 97, 3) := by decide +kernel
theorem dX8_isWhole_90 : decode cX8_isWhole 90 = .ok (.ifCond .eq 7, 3) := by decide +kernel
theorem dX8_isWhole_93 : decode cX8_isWhole 93 = .ok (.iconst 0, 1) := by decide +kernel
theorem dX8_isWhole_94 : decode cX8_isWhole 94 = .ok (.goto 4, 3) := by decide +kernel
theorem dX8_isWhole_97 : decode cX8_isWhole 97 = .ok (.iconst 1, 1) := by decide +kernel
theorem dX8_isWhole_98 : decode cX8_isWhole 98 = .ok (.iadd, 1) := by decide +kernel
theorem dX8_isWhole_99 : decode cX8_isWhole 99 = .ok (.putfield 87, 3) := by decide +kernel
theorem dX8_isWhole_102 : decode cX8_isWhole 102 = .ok (.aload_n 0, 1) := by decide +kernel
theorem dX8_isWhole_103 : decode cX8_isWhole 103 = .ok (.getfield 97, 3) := by decide +kernel
theorem dX8_isWhole_106 : decode cX8_isWhole 106 = .ok (.ifCond .ne 7, 3) := by decide +kernel
theorem dX8_isWhole_109 : decode cX8_isWhole 109 = .ok (.iconst 1, 1) := by decide +kernel
theorem dX8_isWhole_110 : decode cX8_isWhole 110 = .ok (.goto 4, 3) := by decide +kernel
theorem dX8_isWhole_113 : decode cX8_isWhole 113 = .ok (.iconst 0, 1) := by decide +kernel
theorem dX8_isWhole_114 : decode cX8_isWhole 114 = .ok (.istore_n 2, 1) := by decide +kernel
theorem dX8_isWhole_115 : decode cX8_isWhole 115 = .ok (.goto (-98), 3) := by decide +kernel
theorem dX8_isWhole_118 : decode cX8_isWhole 118 = .ok (.aload_n 0, 1) := by decide +kernel
theorem dX8_isWhole_119 : decode cX8_isWhole 119 = .ok (.getfield 97, 3) := by decide +kernel
theorem dX8_isWhole_122 : decode cX8_isWhole 122 = .ok (.ifCond .ne 7, 3) := by decide +kernel
theorem dX8_isWhole_125 : decode cX8_isWhole 125 = .ok (.iconst 1, 1) := by decide +kernel
theorem dX8_isWhole_126 : decode cX8_isWhole 126 = .ok (.goto 4, 3) := by decide +kernel
theorem dX8_isWhole_129 : decode cX8_isWhole 129 = .ok (.iconst 0, 1) := by decide +kernel
theorem dX8_isWhole_130 : decode cX8_isWhole 130 = .ok (.ireturn, 1) := by decide +kernel
theorem dX8_load_0 : decode cX8_load 0 = .ok (.aload_n 0, 1) := by decide +kernel
theorem dX8_load_1 : decode cX8_load 1 = .ok (.aload_n 0, 1) := by decide +kernel
theorem dX8_load_2 : decode cX8_load 2 = .ok (.iconst 0, 1) := by decide +kernel
theorem dX8_load_3 : decode cX8_load 3 = .ok (.invokevirtual 108, 3) := by decide +kernel
theorem dX8_load_6 : decode cX8_load 6 = .ok (.ifCond .eq 7, 3) := by decide +kernel
theorem dX8_load_9 : decode cX8_load 9 = .ok (.iconst 0, 1) := by decide +kernel
theorem dX8_load_10 : decode cX8_load 10 = .ok (.goto 4, 3) := by decide +kernel
theorem dX8_load_13 : decode cX8_load 13 = .ok (.iconst 1, 1) := by decide +kernel
theorem dX8_load_14 : decode cX8_load 14 = .ok (.invokevirtual 112, 3) := by decide +kernel
theorem dX8_load_17 : decode cX8_load 17 = .ok (.ifCond .eq 5, 3) := by decide +kernel
theorem dX8_load_20 : decode cX8_load 20 = .ok (.iconst 0, 1) := by decide +kernel
theorem dX8_load_21 : decode cX8_load 21 = .ok (.ireturn, 1) := by decide +kernel
theorem dX8_load_22 : decode cX8_load 22 = .ok (.aload_n 0, 1) := by decide +kernel
theorem dX8_load_23 : decode cX8_load 23 = .ok (.invokevirtual 116, 3) := by decide +kernel
theorem dX8_load_26 : decode cX8_load 26 = .ok (.aload_n 0, 1) := by decide +kernel
theorem dX8_load_27 : decode cX8_load 27 = .ok (.iconst 1, 1) := by decide +kernel
theorem dX8_load_28 : decode cX8_load 28 = .ok (.invokevirtual 108, 3) := by decide +kernel
theorem dX8_load_31 : decode cX8_load 31 = .ok (.istore_n 1, 1) := by decide +kernel
theorem dX8_load_32 : decode cX8_load 32 = .ok (.aload_n 0, 1) := by decide +kernel
theorem dX8_load_33 : decode cX8_load 33 = .ok (.getfield 101, 3) := by decide +kernel
theorem dX8_load_36 : decode cX8_load 36 = .ok (.istore_n 2, 1) := by decide +kernel
theorem dX8_load_37 : decode cX8_load 37 = .ok (.iload_n 2, 1) := by decide +kernel
theorem dX8_load_38 : decode cX8_load 38 = .ok (.bipush 12, 2) := by decide +kernel
theorem dX8_load_40 : decode cX8_load 40 = .ok (.if_icmp .ge 18, 3) := by decide +kernel
theorem dX8_load_43 : decode cX8_load 43 = .ok (.aload_n 0, 1) := by decide +kernel
theorem dX8_load_44 : decode cX8_load 44 = .ok (.getfield 7, 3) := by decide +kernel
theorem dX8_load_47 : decode cX8_load 47 = .ok (.iconst 1, 1) := by decide +kernel
theorem dX8_load_48 : decode cX8_load 48 = .ok (.iload_n 2, 1) := by decide +kernel
theorem dX8_load_49 : decode cX8_load 49 = .ok (.iadd, 1) := by decide +kernel
theorem dX8_load_50 : decode cX8_load 50 = .ok (.iconst 0, 1) := by decide +kernel
theorem dX8_load_51 : decode cX8_load 51 = .ok (.iastore, 1) := by decide +kernel
theorem dX8_load_52 : decode cX8_load 52 = .ok (.iinc 2 1, 3) := by decide +kernel
theorem dX8_load_55 : decode cX8_load 55 = .ok (.goto (-18), 3) := by decide +kernel
theorem dX8_load_58 : decode cX8_load 58 = .ok (.aload_n 0, 1) := by decide +kernel
theorem dX8_load_59 : decode cX8_load 59 = .ok (.getfield 7, 3) := by decide +kernel
theorem dX8_load_62 : decode cX8_load 62 = .ok (.iconst 0, 1) := by decide +kernel
theorem dX8_load_63 : decode cX8_load 63 = .ok (.aload_n 0, 1) := by decide +kernel
theorem dX8_load_64 : decode cX8_load 64 = .ok (.getfield 101, 3) := by decide +kernel
theorem dX8_load_67 : decode cX8_load 67 = .ok (.iastore, 1) := by decide +kernel
theorem dX8_load_68 : decode cX8_load 68 = .ok (.aload_n 0, 1) := by decide +kernel
theorem dX8_load_69 : decode cX8_load 69 = .ok (.getfield 7, 3) := by decide +kernel
theorem dX8_load_72 : decode cX8_load 72 = .ok (.bipush 13, 2) := by decide +kernel
theorem dX8_load_74 : decode cX8_load 74 = .ok (.iconst 0, 1) := by decide +kernel
theorem dX8_load_75 : decode cX8_load 75 = .ok (.iastore, 1) := by decide +kernel
theorem dX8_load_76 : decode cX8_load 76 = .ok (.aload_n 0, 1) := by decide +kernel
theorem dX8_load_77 : decode cX8_load 77 = .ok (.getfield 7, 3) := by decide +kernel
theorem dX8_load_80 : decode cX8_load 80 = .ok (.bipush 14, 2) := by decide +kernel
theorem dX8_load_82 : decode cX8_load 82 = .ok (.aload_n 0, 1) := by decide +kernel
theorem dX8_load_83 : decode cX8_load 83 = .ok (.getfield 101, 3) := by decide +kernel
theorem dX8_load_86 : decode cX8_load 86 = .ok (.iastore, 1) := by decide +kernel
theorem dX8_load_87 : decode cX8_load 87 = .ok (.aload_n 0, 1) := by decide +kernel
theorem dX8_load_88 : decode cX8_load 88 = .ok (.getfield 7, 3) := by decide +kernel
theorem dX8_load_91 : decode cX8_load 91 = .ok (.bipush 15, 2) := by decide +kernel
theorem dX8_load_93 : decode cX8_load 93 = .ok (.iconst 0, 1) := by decide +kernel
theorem dX8_load_94 : decode cX8_load 94 = .ok (.iastore, 1) := by decide +kernel
theorem dX8_load_95 : decode cX8_load 95 = .ok (.aload_n 0, 1) := by decide +kernel
theorem dX8_load_96 : decode cX8_load 96 = .ok (.getfield 7, 3) := by decide +kernel
theorem dX8_load_99 : decode cX8_load 99 = .ok (.bipush 16, 2) := by decide +kernel
theorem dX8_load_101 : decode cX8_load 101 = .ok (.iconst 0, 1) := by decide +kernel
theorem dX8_load_102 : decode cX8_load 102 = .ok (.iastore, 1) := by decide +kernel
theorem dX8_load_103 : decode cX8_load 103 = .ok (.aload_n 0, 1) := by decide +kernel
theorem dX8_load_104 : decode cX8_load 104 = .ok (.getfield 7, 3) := by decide +kernel
theorem dX8_load_107 : decode cX8_load 107 = .ok (.bipush 17, 2) := by decide +kernel
theorem dX8_load_109 : decode cX8_load 109 = .ok (.iconst 0, 1) := by decide +kernel
theorem dX8_load_110 : decode cX8_load 110 = .ok (.iastore, 1) := by decide +kernel
theorem dX8_load_111 : decode cX8_load 111 = .ok (.aload_n 0, 1) := by decide +kernel
theorem dX8_load_112 : decode cX8_load 112 = .ok (.iconst 0, 1) := by decide +kernel
theorem dX8_load_113 : decode cX8_load 113 = .ok (.putfield 90, 3) := by decide +kernel
theorem dX8_load_116 : decode cX8_load 116 = .ok (.aload_n 0, 1) := by decide +kernel
theorem dX8_load_117 : decode cX8_load 117 = .ok (.getfield 101, 3) := by decide +kernel
theorem dX8_load_120 : decode cX8_load 120 = .ok (.ireturn, 1) := by decide +kernel
theorem dX8_plays_0 : decode cX8_plays 0 = .ok (.aload_n 0, 1) := by decide +kernel
theorem dX8_plays_1 : decode cX8_plays 1 = .ok (.aload_n 0, 1) := by decide +kernel
theorem dX8_plays_2 : decode cX8_plays 2 = .ok (.getfield 7, 3) := by decide +kernel
theorem dX8_plays_5 : decode cX8_plays 5 = .ok (.bipush 13, 2) := by decide +kernel
theorem dX8_plays_7 : decode cX8_plays 7 = .ok (.iaload, 1) := by decide +kernel
theorem dX8_plays_8 : decode cX8_plays 8 = .ok (.aload_n 0, 1) := by decide +kernel
theorem dX8_plays_9 : decode cX8_plays 9 = .ok (.getfield 7, 3) := by decide +kernel
theorem dX8_plays_12 : decode cX8_plays 12 = .ok (.bipush 14, 2) := by decide +kernel
theorem dX8_plays_14 : decode cX8_plays 14 = .ok (.iaload, 1) := by decide +kernel
theorem dX8_plays_15 : decode cX8_plays 15 = .ok (.iload_n 1, 1) := by decide +kernel
theorem dX8_plays_16 : decode cX8_plays 16 = .ok (.invokevirtual 70, 3) := by decide +kernel
theorem dX8_plays_19 : decode cX8_plays 19 = .ok (.istore_n 2, 1) := by decide +kernel
theorem dX8_plays_20 : decode cX8_plays 20 = .ok (.aload_n 0, 1) := by decide +kernel
theorem dX8_plays_21 : decode cX8_plays 21 = .ok (.getfield 7, 3) := by decide +kernel
theorem dX8_plays_24 : decode cX8_plays 24 = .ok (.bipush 16, 2) := by decide +kernel
theorem dX8_plays_26 : decode cX8_plays 26 = .ok (.aload_n 0, 1) := by decide +kernel
theorem dX8_plays_27 : decode cX8_plays 27 = .ok (.getfield 7, 3) := by decide +kernel
theorem dX8_plays_30 : decode cX8_plays 30 = .ok (.bipush 15, 2) := by decide +kernel
theorem dX8_plays_32 : decode cX8_plays 32 = .ok (.iaload, 1) := by decide +kernel
theorem dX8_plays_33 : decode cX8_plays 33 = .ok (.iadd, 1) := by decide +kernel
theorem dX8_plays_34 : decode cX8_plays 34 = .ok (.dup2, 1) := by decide +kernel
theorem dX8_plays_35 : decode cX8_plays 35 = .ok (.iaload, 1) := by decide +kernel
theorem dX8_plays_36 : decode cX8_plays 36 = .ok (.iload_n 2, 1) := by decide +kernel
theorem dX8_plays_37 : decode cX8_plays 37 = .ok (.iadd, 1) := by decide +kernel
theorem dX8_plays_38 : decode cX8_plays 38 = .ok (.iastore, 1) := by decide +kernel
theorem dX8_plays_39 : decode cX8_plays 39 = .ok (.aload_n 0, 1) := by decide +kernel
theorem dX8_plays_40 : decode cX8_plays 40 = .ok (.getfield 7, 3) := by decide +kernel
theorem dX8_plays_43 : decode cX8_plays 43 = .ok (.bipush 13, 2) := by decide +kernel
theorem dX8_plays_45 : decode cX8_plays 45 = .ok (.aload_n 0, 1) := by decide +kernel
theorem dX8_plays_46 : decode cX8_plays 46 = .ok (.getfield 7, 3) := by decide +kernel
theorem dX8_plays_49 : decode cX8_plays 49 = .ok (.bipush 13, 2) := by decide +kernel
theorem dX8_plays_51 : decode cX8_plays 51 = .ok (.iaload, 1) := by decide +kernel
theorem dX8_plays_52 : decode cX8_plays 52 = .ok (.iload_n 1, 1) := by decide +kernel
theorem dX8_plays_53 : decode cX8_plays 53 = .ok (.invokestatic 74, 3) := by decide +kernel
theorem dX8_plays_56 : decode cX8_plays 56 = .ok (.iastore, 1) := by decide +kernel
theorem dX8_plays_57 : decode cX8_plays 57 = .ok (.aload_n 0, 1) := by decide +kernel
theorem dX8_plays_58 : decode cX8_plays 58 = .ok (.getfield 7, 3) := by decide +kernel
theorem dX8_plays_61 : decode cX8_plays 61 = .ok (.bipush 14, 2) := by decide +kernel
theorem dX8_plays_63 : decode cX8_plays 63 = .ok (.dup2, 1) := by decide +kernel
theorem dX8_plays_64 : decode cX8_plays 64 = .ok (.iaload, 1) := by decide +kernel
theorem dX8_plays_65 : decode cX8_plays 65 = .ok (.iload_n 1, 1) := by decide +kernel
theorem dX8_plays_66 : decode cX8_plays 66 = .ok (.invokestatic 66, 3) := by decide +kernel
theorem dX8_plays_69 : decode cX8_plays 69 = .ok (.isub, 1) := by decide +kernel
theorem dX8_plays_70 : decode cX8_plays 70 = .ok (.iastore, 1) := by decide +kernel
theorem dX8_plays_71 : decode cX8_plays 71 = .ok (.aload_n 0, 1) := by decide +kernel
theorem dX8_plays_72 : decode cX8_plays 72 = .ok (.getfield 7, 3) := by decide +kernel
theorem dX8_plays_75 : decode cX8_plays 75 = .ok (.bipush 15, 2) := by decide +kernel
theorem dX8_plays_77 : decode cX8_plays 77 = .ok (.iconst 1, 1) := by decide +kernel
theorem dX8_plays_78 : decode cX8_plays 78 = .ok (.aload_n 0, 1) := by decide +kernel
theorem dX8_plays_79 : decode cX8_plays 79 = .ok (.getfield 7, 3) := by decide +kernel
theorem dX8_plays_82 : decode cX8_plays 82 = .ok (.bipush 15, 2) := by decide +kernel
theorem dX8_plays_84 : decode cX8_plays 84 = .ok (.iaload, 1) := by decide +kernel
theorem dX8_plays_85 : decode cX8_plays 85 = .ok (.isub, 1) := by decide +kernel
theorem dX8_plays_86 : decode cX8_plays 86 = .ok (.iastore, 1) := by decide +kernel
theorem dX8_plays_87 : decode cX8_plays 87 = .ok (.iload_n 2, 1) := by decide +kernel
theorem dX8_plays_88 : decode cX8_plays 88 = .ok (.ireturn, 1) := by decide +kernel
theorem dX8_play_0 : decode cX8_play 0 = .ok (.aload_n 0, 1) := by decide +kernel
theorem dX8_play_1 : decode cX8_play 1 = .ok (.iload_n 1, 1) := by decide +kernel
theorem dX8_play_2 : decode cX8_play 2 = .ok (.invokestatic 119, 3) := by decide +kernel
theorem dX8_play_5 : decode cX8_play 5 = .ok (.ifCond .ne 7, 3) := by decide +kernel
theorem dX8_play_8 : decode cX8_play 8 = .ok (.iconst 1, 1) := by decide +kernel
theorem dX8_play_9 : decode cX8_play 9 = .ok (.goto 22, 3) := by decide +kernel
theorem dX8_play_12 : decode cX8_play 12 = .ok (.iload_n 1, 1) := by decide +kernel
theorem dX8_play_13 : decode cX8_play 13 = .ok (.invokestatic 66, 3) := by decide +kernel
theorem dX8_play_16 : decode cX8_play 16 = .ok (.aload_n 0, 1) := by decide +kernel
theorem dX8_play_17 : decode cX8_play 17 = .ok (.getfield 7, 3) := by decide +kernel
theorem dX8_play_20 : decode cX8_play 20 = .ok (.bipush 14, 2) := by decide +kernel
theorem dX8_play_22 : decode cX8_play 22 = .ok (.iaload, 1) := by decide +kernel
theorem dX8_play_23 : decode cX8_play 23 = .ok (.if_icmp .le 7, 3) := by decide +kernel
theorem dX8_play_26 : decode cX8_play 26 = .ok (.iconst 2, 1) := by decide +kernel
theorem dX8_play_27 : decode cX8_play 27 = .ok (.goto 4, 3) := by decide +kernel
theorem dX8_play_30 : decode cX8_play 30 = .ok (.iconst 0, 1) := by decide +kernel
theorem dX8_play_31 : decode cX8_play 31 = .ok (.invokevirtual 112, 3) := by decide +kernel
theorem dX8_play_34 : decode cX8_play 34 = .ok (.ifCond .eq 5, 3) := by decide +kernel
theorem dX8_play_37 : decode cX8_play 37 = .ok (.iconst 0, 1) := by decide +kernel
theorem dX8_play_38 : decode cX8_play 38 = .ok (.ireturn, 1) := by decide +kernel
theorem dX8_play_39 : decode cX8_play 39 = .ok (.aload_n 0, 1) := by decide +kernel
theorem dX8_play_40 : decode cX8_play 40 = .ok (.invokevirtual 116, 3) := by decide +kernel
theorem dX8_play_43 : decode cX8_play 43 = .ok (.aload_n 0, 1) := by decide +kernel
theorem dX8_play_44 : decode cX8_play 44 = .ok (.iload_n 1, 1) := by decide +kernel
theorem dX8_play_45 : decode cX8_play 45 = .ok (.invokevirtual 122, 3) := by decide +kernel
theorem dX8_play_48 : decode cX8_play 48 = .ok (.ireturn, 1) := by decide +kernel
theorem dX8_playBest_0 : decode cX8_playBest 0 = .ok (.aload_n 0, 1) := by decide +kernel
theorem dX8_playBest_1 : decode cX8_playBest 1 = .ok (.iload_n 1, 1) := by decide +kernel
theorem dX8_playBest_2 : decode cX8_playBest 2 = .ok (.iconst 1, 1) := by decide +kernel
theorem dX8_playBest_3 : decode cX8_playBest 3 = .ok (.bipush 12, 2) := by decide +kernel
theorem dX8_playBest_5 : decode cX8_playBest 5 = .ok (.invokestatic 62, 3) := by decide +kernel
theorem dX8_playBest_8 : decode cX8_playBest 8 = .ok (.ifCond .eq 7, 3) := by decide +kernel
theorem dX8_playBest_11 : decode cX8_playBest 11 = .ok (.iconst 0, 1) := by decide +kernel
theorem dX8_playBest_12 : decode cX8_playBest 12 = .ok (.goto 4, 3) := by decide +kernel
theorem dX8_playBest_15 : decode cX8_playBest 15 = .ok (.iconst 1, 1) := by decide +kernel
theorem dX8_playBest_16 : decode cX8_playBest 16 = .ok (.invokevirtual 112, 3) := by decide +kernel
theorem dX8_playBest_19 : decode cX8_playBest 19 = .ok (.ifCond .eq 5, 3) := by decide +kernel
theorem dX8_playBest_22 : decode cX8_playBest 22 = .ok (.iconst 0, 1) := by decide +kernel
theorem dX8_playBest_23 : decode cX8_playBest 23 = .ok (.ireturn, 1) := by decide +kernel
theorem dX8_playBest_24 : decode cX8_playBest 24 = .ok (.aload_n 0, 1) := by decide +kernel
theorem dX8_playBest_25 : decode cX8_playBest 25 = .ok (.invokevirtual 116, 3) := by decide +kernel
theorem dX8_playBest_28 : decode cX8_playBest 28 = .ok (.aload_n 0, 1) := by decide +kernel
theorem dX8_playBest_29 : decode cX8_playBest 29 = .ok (.invokevirtual 125, 3) := by decide +kernel
theorem dX8_playBest_32 : decode cX8_playBest 32 = .ok (.iconst 0, 1) := by decide +kernel
theorem dX8_playBest_33 : decode cX8_playBest 33 = .ok (.istore_n 2, 1) := by decide +kernel
theorem dX8_playBest_34 : decode cX8_playBest 34 = .ok (.iload_n 2, 1) := by decide +kernel
theorem dX8_playBest_35 : decode cX8_playBest 35 = .ok (.iload_n 1, 1) := by decide +kernel
theorem dX8_playBest_36 : decode cX8_playBest 36 = .ok (.if_icmp .ge 42, 3) := by decide +kernel
theorem dX8_playBest_39 : decode cX8_playBest 39 = .ok (.aload_n 0, 1) := by decide +kernel
theorem dX8_playBest_40 : decode cX8_playBest 40 = .ok (.getfield 7, 3) := by decide +kernel
theorem dX8_playBest_43 : decode cX8_playBest 43 = .ok (.bipush 14, 2) := by decide +kernel
theorem dX8_playBest_45 : decode cX8_playBest 45 = .ok (.iaload, 1) := by decide +kernel
theorem dX8_playBest_46 : decode cX8_playBest 46 = .ok (.ifCond .le 32, 3) := by decide +kernel
theorem dX8_playBest_49 : decode cX8_playBest 49 = .ok (.aload_n 0, 1) := by decide +kernel
theorem dX8_playBest_50 : decode cX8_playBest 50 = .ok (.aload_n 0, 1) := by decide +kernel
theorem dX8_playBest_51 : decode cX8_playBest 51 = .ok (.aload_n 0, 1) := by decide +kernel
theorem dX8_playBest_52 : decode cX8_playBest 52 = .ok (.getfield 7, 3) := by decide +kernel
theorem dX8_playBest_55 : decode cX8_playBest 55 = .ok (.bipush 13, 2) := by decide +kernel
theorem dX8_playBest_57 : decode cX8_playBest 57 = .ok (.iaload, 1) := by decide +kernel
theorem dX8_playBest_58 : decode cX8_playBest 58 = .ok (.aload_n 0, 1) := by decide +kernel
theorem dX8_playBest_59 : decode cX8_playBest 59 = .ok (.getfield 7, 3) := by decide +kernel
theorem dX8_playBest_62 : decode cX8_playBest 62 = .ok (.bipush 14, 2) := by decide +kernel
theorem dX8_playBest_64 : decode cX8_playBest 64 = .ok (.iaload, 1) := by decide +kernel
theorem dX8_playBest_65 : decode cX8_playBest 65 = .ok (.invokevirtual 84, 3) := by decide +kernel
theorem dX8_playBest_68 : decode cX8_playBest 68 = .ok (.invokevirtual 122, 3) := by decide +kernel
theorem dX8_playBest_71 : decode cX8_playBest 71 = .ok (.istore_n 3, 1) := by decide +kernel
theorem dX8_playBest_72 : decode cX8_playBest 72 = .ok (.iinc 2 1, 3) := by decide +kernel
theorem dX8_playBest_75 : decode cX8_playBest 75 = .ok (.goto (-41), 3) := by decide +kernel
theorem dX8_playBest_78 : decode cX8_playBest 78 = .ok (.iload_n 2, 1) := by decide +kernel
theorem dX8_playBest_79 : decode cX8_playBest 79 = .ok (.ireturn, 1) := by decide +kernel
theorem dX8_turn_0 : decode cX8_turn 0 = .ok (.aload_n 0, 1) := by decide +kernel
theorem dX8_turn_1 : decode cX8_turn 1 = .ok (.iconst 0, 1) := by decide +kernel
theorem dX8_turn_2 : decode cX8_turn 2 = .ok (.putfield 55, 3) := by decide +kernel
theorem dX8_turn_5 : decode cX8_turn 5 = .ok (.aload_n 0, 1) := by decide +kernel
theorem dX8_turn_6 : decode cX8_turn 6 = .ok (.getfield 7, 3) := by decide +kernel
theorem dX8_turn_9 : decode cX8_turn 9 = .ok (.bipush 15, 2) := by decide +kernel
theorem dX8_turn_11 : decode cX8_turn 11 = .ok (.iaload, 1) := by decide +kernel
theorem dX8_turn_12 : decode cX8_turn 12 = .ok (.ireturn, 1) := by decide +kernel
theorem dX8_left_0 : decode cX8_left 0 = .ok (.aload_n 0, 1) := by decide +kernel
theorem dX8_left_1 : decode cX8_left 1 = .ok (.iconst 0, 1) := by decide +kernel
theorem dX8_left_2 : decode cX8_left 2 = .ok (.putfield 55, 3) := by decide +kernel
theorem dX8_left_5 : decode cX8_left 5 = .ok (.aload_n 0, 1) := by decide +kernel
theorem dX8_left_6 : decode cX8_left 6 = .ok (.getfield 7, 3) := by decide +kernel
theorem dX8_left_9 : decode cX8_left 9 = .ok (.bipush 14, 2) := by decide +kernel
theorem dX8_left_11 : decode cX8_left 11 = .ok (.iaload, 1) := by decide +kernel
theorem dX8_left_12 : decode cX8_left 12 = .ok (.ireturn, 1) := by decide +kernel
theorem dX8_pile_0 : decode cX8_pile 0 = .ok (.aload_n 0, 1) := by decide +kernel
theorem dX8_pile_1 : decode cX8_pile 1 = .ok (.iload_n 1, 1) := by decide +kernel
theorem dX8_pile_2 : decode cX8_pile 2 = .ok (.iconst 0, 1) := by decide +kernel
theorem dX8_pile_3 : decode cX8_pile 3 = .ok (.aload_n 0, 1) := by decide +kernel
theorem dX8_pile_4 : decode cX8_pile 4 = .ok (.getfield 7, 3) := by decide +kernel
theorem dX8_pile_7 : decode cX8_pile 7 = .ok (.bipush 14, 2) := by decide +kernel
theorem dX8_pile_9 : decode cX8_pile 9 = .ok (.iaload, 1) := by decide +kernel
theorem dX8_pile_10 : decode cX8_pile 10 = .ok (.iconst 1, 1) := by decide +kernel
theorem dX8_pile_11 : decode cX8_pile 11 = .ok (.isub, 1) := by decide +kernel
theorem dX8_pile_12 : decode cX8_pile 12 = .ok (.invokestatic 62, 3) := by decide +kernel
theorem dX8_pile_15 : decode cX8_pile 15 = .ok (.ifCond .eq 7, 3) := by decide +kernel
theorem dX8_pile_18 : decode cX8_pile 18 = .ok (.iconst 0, 1) := by decide +kernel
theorem dX8_pile_19 : decode cX8_pile 19 = .ok (.goto 4, 3) := by decide +kernel
theorem dX8_pile_22 : decode cX8_pile 22 = .ok (.iconst 1, 1) := by decide +kernel
theorem dX8_pile_23 : decode cX8_pile 23 = .ok (.invokevirtual 112, 3) := by decide +kernel
theorem dX8_pile_26 : decode cX8_pile 26 = .ok (.ifCond .eq 5, 3) := by decide +kernel
theorem dX8_pile_29 : decode cX8_pile 29 = .ok (.iconst 0, 1) := by decide +kernel
theorem dX8_pile_30 : decode cX8_pile 30 = .ok (.ireturn, 1) := by decide +kernel
theorem dX8_pile_31 : decode cX8_pile 31 = .ok (.aload_n 0, 1) := by decide +kernel
theorem dX8_pile_32 : decode cX8_pile 32 = .ok (.getfield 7, 3) := by decide +kernel
theorem dX8_pile_35 : decode cX8_pile 35 = .ok (.iconst 1, 1) := by decide +kernel
theorem dX8_pile_36 : decode cX8_pile 36 = .ok (.aload_n 0, 1) := by decide +kernel
theorem dX8_pile_37 : decode cX8_pile 37 = .ok (.getfield 7, 3) := by decide +kernel
theorem dX8_pile_40 : decode cX8_pile 40 = .ok (.bipush 13, 2) := by decide +kernel
theorem dX8_pile_42 : decode cX8_pile 42 = .ok (.iaload, 1) := by decide +kernel
theorem dX8_pile_43 : decode cX8_pile 43 = .ok (.iadd, 1) := by decide +kernel
theorem dX8_pile_44 : decode cX8_pile 44 = .ok (.iload_n 1, 1) := by decide +kernel
theorem dX8_pile_45 : decode cX8_pile 45 = .ok (.iadd, 1) := by decide +kernel
theorem dX8_pile_46 : decode cX8_pile 46 = .ok (.iaload, 1) := by decide +kernel
theorem dX8_pile_47 : decode cX8_pile 47 = .ok (.ireturn, 1) := by decide +kernel
theorem dX8_coins_0 : decode cX8_coins 0 = .ok (.aload_n 0, 1) := by decide +kernel
theorem dX8_coins_1 : decode cX8_coins 1 = .ok (.iload_n 1, 1) := by decide +kernel
theorem dX8_coins_2 : decode cX8_coins 2 = .ok (.iconst 0, 1) := by decide +kernel
theorem dX8_coins_3 : decode cX8_coins 3 = .ok (.iconst 1, 1) := by decide +kernel
theorem dX8_coins_4 : decode cX8_coins 4 = .ok (.invokestatic 62, 3) := by decide +kernel
theorem dX8_coins_7 : decode cX8_coins 7 = .ok (.ifCond .eq 7, 3) := by decide +kernel
theorem dX8_coins_10 : decode cX8_coins 10 = .ok (.iconst 0, 1) := by decide +kernel
theorem dX8_coins_11 : decode cX8_coins 11 = .ok (.goto 4, 3) := by decide +kernel
theorem dX8_coins_14 : decode cX8_coins 14 = .ok (.iconst 1, 1) := by decide +kernel
theorem dX8_coins_15 : decode cX8_coins 15 = .ok (.invokevirtual 112, 3) := by decide +kernel
theorem dX8_coins_18 : decode cX8_coins 18 = .ok (.ifCond .eq 5, 3) := by decide +kernel
theorem dX8_coins_21 : decode cX8_coins 21 = .ok (.iconst 0, 1) := by decide +kernel
theorem dX8_coins_22 : decode cX8_coins 22 = .ok (.ireturn, 1) := by decide +kernel
theorem dX8_coins_23 : decode cX8_coins 23 = .ok (.aload_n 0, 1) := by decide +kernel
theorem dX8_coins_24 : decode cX8_coins 24 = .ok (.getfield 7, 3) := by decide +kernel
theorem dX8_coins_27 : decode cX8_coins 27 = .ok (.bipush 16, 2) := by decide +kernel
theorem dX8_coins_29 : decode cX8_coins 29 = .ok (.iload_n 1, 1) := by decide +kernel
theorem dX8_coins_30 : decode cX8_coins 30 = .ok (.iadd, 1) := by decide +kernel
theorem dX8_coins_31 : decode cX8_coins 31 = .ok (.iaload, 1) := by decide +kernel
theorem dX8_coins_32 : decode cX8_coins 32 = .ok (.ireturn, 1) := by decide +kernel
theorem dX8_value_0 : decode cX8_value 0 = .ok (.aload_n 0, 1) := by decide +kernel
theorem dX8_value_1 : decode cX8_value 1 = .ok (.iconst 0, 1) := by decide +kernel
theorem dX8_value_2 : decode cX8_value 2 = .ok (.putfield 55, 3) := by decide +kernel
theorem dX8_value_5 : decode cX8_value 5 = .ok (.aload_n 0, 1) := by decide +kernel
theorem dX8_value_6 : decode cX8_value 6 = .ok (.invokevirtual 125, 3) := by decide +kernel
theorem dX8_value_9 : decode cX8_value 9 = .ok (.aload_n 0, 1) := by decide +kernel
theorem dX8_value_10 : decode cX8_value 10 = .ok (.getfield 19, 3) := by decide +kernel
theorem dX8_value_13 : decode cX8_value 13 = .ok (.aload_n 0, 1) := by decide +kernel
theorem dX8_value_14 : decode cX8_value 14 = .ok (.getfield 7, 3) := by decide +kernel
theorem dX8_value_17 : decode cX8_value 17 = .ok (.bipush 13, 2) := by decide +kernel
theorem dX8_value_19 : decode cX8_value 19 = .ok (.iaload, 1) := by decide +kernel
theorem dX8_value_20 : decode cX8_value 20 = .ok (.aload_n 0, 1) := by decide +kernel
theorem dX8_value_21 : decode cX8_value 21 = .ok (.getfield 7, 3) := by decide +kernel
theorem dX8_value_24 : decode cX8_value 24 = .ok (.bipush 14, 2) := by decide +kernel
theorem dX8_value_26 : decode cX8_value 26 = .ok (.iaload, 1) := by decide +kernel
theorem dX8_value_27 : decode cX8_value 27 = .ok (.invokestatic 78, 3) := by decide +kernel
theorem dX8_value_30 : decode cX8_value 30 = .ok (.iaload, 1) := by decide +kernel
theorem dX8_value_31 : decode cX8_value 31 = .ok (.ireturn, 1) := by decide +kernel
theorem dX8_resultOf_0 : decode cX8_resultOf 0 = .ok (.aload_n 0, 1) := by decide +kernel
theorem dX8_resultOf_1 : decode cX8_resultOf 1 = .ok (.iload_n 1, 1) := by decide +kernel
theorem dX8_resultOf_2 : decode cX8_resultOf 2 = .ok (.invokestatic 119, 3) := by decide +kernel
theorem dX8_resultOf_5 : decode cX8_resultOf 5 = .ok (.ifCond .eq 7, 3) := by decide +kernel
theorem dX8_resultOf_8 : decode cX8_resultOf 8 = .ok (.iconst 0, 1) := by decide +kernel
theorem dX8_resultOf_9 : decode cX8_resultOf 9 = .ok (.goto 4, 3) := by decide +kernel
theorem dX8_resultOf_12 : decode cX8_resultOf 12 = .ok (.iconst 1, 1) := by decide +kernel
theorem dX8_resultOf_13 : decode cX8_resultOf 13 = .ok (.invokevirtual 112, 3) := by decide +kernel
theorem dX8_resultOf_16 : decode cX8_resultOf 16 = .ok (.ifCond .eq 5, 3) := by decide +kernel
theorem dX8_resultOf_19 : decode cX8_resultOf 19 = .ok (.iconst 0, 1) := by decide +kernel
theorem dX8_resultOf_20 : decode cX8_resultOf 20 = .ok (.ireturn, 1) := by decide +kernel
theorem dX8_resultOf_21 : decode cX8_resultOf 21 = .ok (.aload_n 0, 1) := by decide +kernel
theorem dX8_resultOf_22 : decode cX8_resultOf 22 = .ok (.invokevirtual 125, 3) := by decide +kernel
theorem dX8_resultOf_25 : decode cX8_resultOf 25 = .ok (.iload_n 1, 1) := by decide +kernel
theorem dX8_resultOf_26 : decode cX8_resultOf 26 = .ok (.invokestatic 66, 3) := by decide +kernel
theorem dX8_resultOf_29 : decode cX8_resultOf 29 = .ok (.aload_n 0, 1) := by decide +kernel
theorem dX8_resultOf_30 : decode cX8_resultOf 30 = .ok (.getfield 7, 3) := by decide +kernel
theorem dX8_resultOf_33 : decode cX8_resultOf 33 = .ok (.bipush 14, 2) := by decide +kernel
theorem dX8_resultOf_35 : decode cX8_resultOf 35 = .ok (.iaload, 1) := by decide +kernel
theorem dX8_resultOf_36 : decode cX8_resultOf 36 = .ok (.if_icmp .le 9, 3) := by decide +kernel
theorem dX8_resultOf_39 : decode cX8_resultOf 39 = .ok (.sipush (-999), 3) := by decide +kernel
theorem dX8_resultOf_42 : decode cX8_resultOf 42 = .ok (.goto 22, 3) := by decide +kernel
theorem dX8_resultOf_45 : decode cX8_resultOf 45 = .ok (.aload_n 0, 1) := by decide +kernel
theorem dX8_resultOf_46 : decode cX8_resultOf 46 = .ok (.aload_n 0, 1) := by decide +kernel
theorem dX8_resultOf_47 : decode cX8_resultOf 47 = .ok (.getfield 7, 3) := by decide +kernel
theorem dX8_resultOf_50 : decode cX8_resultOf 50 = .ok (.bipush 13, 2) := by decide +kernel
theorem dX8_resultOf_52 : decode cX8_resultOf 52 = .ok (.iaload, 1) := by decide +kernel
theorem dX8_resultOf_53 : decode cX8_resultOf 53 = .ok (.aload_n 0, 1) := by decide +kernel
theorem dX8_resultOf_54 : decode cX8_resultOf 54 = .ok (.getfield 7, 3) := by decide +kernel
theorem dX8_resultOf_57 : decode cX8_resultOf 57 = .ok (.bipush 14, 2) := by decide +kernel
theorem dX8_resultOf_59 : decode cX8_resultOf 59 = .ok (.iaload, 1) := by decide +kernel
theorem dX8_resultOf_60 : decode cX8_resultOf 60 = .ok (.iload_n 1, 1) := by decide +kernel
theorem dX8_resultOf_61 : decode cX8_resultOf 61 = .ok (.invokevirtual 81, 3) := by decide +kernel
theorem dX8_resultOf_64 : decode cX8_resultOf 64 = .ok (.ireturn, 1) := by decide +kernel
theorem dX8_bestMove_0 : decode cX8_bestMove 0 = .ok (.aload_n 0, 1) := by decide +kernel
theorem dX8_bestMove_1 : decode cX8_bestMove 1 = .ok (.iconst 0, 1) := by decide +kernel
theorem dX8_bestMove_2 : decode cX8_bestMove 2 = .ok (.putfield 55, 3) := by decide +kernel
theorem dX8_bestMove_5 : decode cX8_bestMove 5 = .ok (.aload_n 0, 1) := by decide +kernel
theorem dX8_bestMove_6 : decode cX8_bestMove 6 = .ok (.invokevirtual 125, 3) := by decide +kernel
theorem dX8_bestMove_9 : decode cX8_bestMove 9 = .ok (.aload_n 0, 1) := by decide +kernel
theorem dX8_bestMove_10 : decode cX8_bestMove 10 = .ok (.aload_n 0, 1) := by decide +kernel
theorem dX8_bestMove_11 : decode cX8_bestMove 11 = .ok (.getfield 7, 3) := by decide +kernel
theorem dX8_bestMove_14 : decode cX8_bestMove 14 = .ok (.bipush 13, 2) := by decide +kernel
theorem dX8_bestMove_16 : decode cX8_bestMove 16 = .ok (.iaload, 1) := by decide +kernel
theorem dX8_bestMove_17 : decode cX8_bestMove 17 = .ok (.aload_n 0, 1) := by decide +kernel
theorem dX8_bestMove_18 : decode cX8_bestMove 18 = .ok (.getfield 7, 3) := by decide +kernel
theorem dX8_bestMove_21 : decode cX8_bestMove 21 = .ok (.bipush 14, 2) := by decide +kernel
theorem dX8_bestMove_23 : decode cX8_bestMove 23 = .ok (.iaload, 1) := by decide +kernel
theorem dX8_bestMove_24 : decode cX8_bestMove 24 = .ok (.invokevirtual 84, 3) := by decide +kernel
theorem dX8_bestMove_27 : decode cX8_bestMove 27 = .ok (.ireturn, 1) := by decide +kernel
theorem dX8_lineAt_0 : decode cX8_lineAt 0 = .ok (.aload_n 0, 1) := by decide +kernel
theorem dX8_lineAt_1 : decode cX8_lineAt 1 = .ok (.getfield 7, 3) := by decide +kernel
theorem dX8_lineAt_4 : decode cX8_lineAt 4 = .ok (.bipush 13, 2) := by decide +kernel
theorem dX8_lineAt_6 : decode cX8_lineAt 6 = .ok (.iaload, 1) := by decide +kernel
theorem dX8_lineAt_7 : decode cX8_lineAt 7 = .ok (.istore_n 2, 1) := by decide +kernel
theorem dX8_lineAt_8 : decode cX8_lineAt 8 = .ok (.aload_n 0, 1) := by decide +kernel
theorem dX8_lineAt_9 : decode cX8_lineAt 9 = .ok (.getfield 7, 3) := by decide +kernel
theorem dX8_lineAt_12 : decode cX8_lineAt 12 = .ok (.bipush 14, 2) := by decide +kernel
theorem dX8_lineAt_14 : decode cX8_lineAt 14 = .ok (.iaload, 1) := by decide +kernel
theorem dX8_lineAt_15 : decode cX8_lineAt 15 = .ok (.istore_n 3, 1) := by decide +kernel
theorem dX8_lineAt_16 : decode cX8_lineAt 16 = .ok (.aload_n 0, 1) := by decide +kernel
theorem dX8_lineAt_17 : decode cX8_lineAt 17 = .ok (.iload_n 2, 1) := by decide +kernel
theorem dX8_lineAt_18 : decode cX8_lineAt 18 = .ok (.iload_n 3, 1) := by decide +kernel
theorem dX8_lineAt_19 : decode cX8_lineAt 19 = .ok (.invokevirtual 84, 3) := by decide +kernel
theorem dX8_lineAt_22 : decode cX8_lineAt 22 = .ok (.istore 4, 2) := by decide +kernel
theorem dX8_lineAt_24 : decode cX8_lineAt 24 = .ok (.iconst 0, 1) := by decide +kernel
theorem dX8_lineAt_25 : decode cX8_lineAt 25 = .ok (.istore 5, 2) := by decide +kernel
theorem dX8_lineAt_27 : decode cX8_lineAt 27 = .ok (.iload 5, 2) := by decide +kernel
theorem dX8_lineAt_29 : decode cX8_lineAt 29 = .ok (.iload_n 1, 1) := by decide +kernel
theorem dX8_lineAt_30 : decode cX8_lineAt 30 = .ok (.if_icmp .ge 36, 3) := by decide +kernel
theorem dX8_lineAt_33 : decode cX8_lineAt 33 = .ok (.iload_n 3, 1) := by decide +kernel
theorem dX8_lineAt_34 : decode cX8_lineAt 34 = .ok (.ifCond .le 32, 3) := by decide +kernel
theorem dX8_lineAt_37 : decode cX8_lineAt 37 = .ok (.iload_n 2, 1) := by decide +kernel
theorem dX8_lineAt_38 : decode cX8_lineAt 38 = .ok (.iload 4, 2) := by decide +kernel
theorem dX8_lineAt_40 : decode cX8_lineAt 40 = .ok (.invokestatic 74, 3) := by decide +kernel
theorem dX8_lineAt_43 : decode cX8_lineAt 43 = .ok (.istore_n 2, 1) := by decide +kernel
theorem dX8_lineAt_44 : decode cX8_lineAt 44 = .ok (.iload_n 3, 1) := by decide +kernel
theorem dX8_lineAt_45 : decode cX8_lineAt 45 = .ok (.iload 4, 2) := by decide +kernel
theorem dX8_lineAt_47 : decode cX8_lineAt 47 = .ok (.invokestatic 66, 3) := by decide +kernel
theorem dX8_lineAt_50 : decode cX8_lineAt 50 = .ok (.isub, 1) := by decide +kernel
theorem dX8_lineAt_51 : decode cX8_lineAt 51 = .ok (.istore_n 3, 1) := by decide +kernel
theorem dX8_lineAt_52 : decode cX8_lineAt 52 = .ok (.aload_n 0, 1) := by decide +kernel
theorem dX8_lineAt_53 : decode cX8_lineAt 53 = .ok (.iload_n 2, 1) := by decide +kernel
theorem dX8_lineAt_54 : decode cX8_lineAt 54 = .ok (.iload_n 3, 1) := by decide +kernel
theorem dX8_lineAt_55 : decode cX8_lineAt 55 = .ok (.invokevirtual 84, 3) := by decide +kernel
theorem dX8_lineAt_58 : decode cX8_lineAt 58 = .ok (.istore 4, 2) := by decide +kernel
theorem dX8_lineAt_60 : decode cX8_lineAt 60 = .ok (.iinc 5 1, 3) := by decide +kernel
theorem dX8_lineAt_63 : decode cX8_lineAt 63 = .ok (.goto (-36), 3) := by decide +kernel
theorem dX8_lineAt_66 : decode cX8_lineAt 66 = .ok (.iload_n 3, 1) := by decide +kernel
theorem dX8_lineAt_67 : decode cX8_lineAt 67 = .ok (.ifCond .ne 9, 3) := by decide +kernel
theorem dX8_lineAt_70 : decode cX8_lineAt 70 = .ok (.sipush (-999), 3) := by decide +kernel
theorem dX8_lineAt_73 : decode cX8_lineAt 73 = .ok (.goto 5, 3) := by decide +kernel
theorem dX8_lineAt_76 : decode cX8_lineAt 76 = .ok (.iload 4, 2) := by decide +kernel
theorem dX8_lineAt_78 : decode cX8_lineAt 78 = .ok (.ireturn, 1) := by decide +kernel
theorem dX8_line_0 : decode cX8_line 0 = .ok (.aload_n 0, 1) := by decide +kernel
theorem dX8_line_1 : decode cX8_line 1 = .ok (.iload_n 1, 1) := by decide +kernel
theorem dX8_line_2 : decode cX8_line 2 = .ok (.ifCond .ge 7, 3) := by decide +kernel
theorem dX8_line_5 : decode cX8_line 5 = .ok (.iconst 1, 1) := by decide +kernel
theorem dX8_line_6 : decode cX8_line 6 = .ok (.goto 4, 3) := by decide +kernel
theorem dX8_line_9 : decode cX8_line 9 = .ok (.iconst 0, 1) := by decide +kernel
theorem dX8_line_10 : decode cX8_line 10 = .ok (.invokevirtual 112, 3) := by decide +kernel
theorem dX8_line_13 : decode cX8_line 13 = .ok (.ifCond .eq 5, 3) := by decide +kernel
theorem dX8_line_16 : decode cX8_line 16 = .ok (.iconst 0, 1) := by decide +kernel
theorem dX8_line_17 : decode cX8_line 17 = .ok (.ireturn, 1) := by decide +kernel
theorem dX8_line_18 : decode cX8_line 18 = .ok (.aload_n 0, 1) := by decide +kernel
theorem dX8_line_19 : decode cX8_line 19 = .ok (.invokevirtual 125, 3) := by decide +kernel
theorem dX8_line_22 : decode cX8_line 22 = .ok (.aload_n 0, 1) := by decide +kernel
theorem dX8_line_23 : decode cX8_line 23 = .ok (.iload_n 1, 1) := by decide +kernel
theorem dX8_line_24 : decode cX8_line 24 = .ok (.invokevirtual 128, 3) := by decide +kernel
theorem dX8_line_27 : decode cX8_line 27 = .ok (.ireturn, 1) := by decide +kernel
theorem dX8_marginNow_0 : decode cX8_marginNow 0 = .ok (.aload_n 0, 1) := by decide +kernel
theorem dX8_marginNow_1 : decode cX8_marginNow 1 = .ok (.aload_n 0, 1) := by decide +kernel
theorem dX8_marginNow_2 : decode cX8_marginNow 2 = .ok (.getfield 7, 3) := by decide +kernel
theorem dX8_marginNow_5 : decode cX8_marginNow 5 = .ok (.bipush 13, 2) := by decide +kernel
theorem dX8_marginNow_7 : decode cX8_marginNow 7 = .ok (.iaload, 1) := by decide +kernel
theorem dX8_marginNow_8 : decode cX8_marginNow 8 = .ok (.aload_n 0, 1) := by decide +kernel
theorem dX8_marginNow_9 : decode cX8_marginNow 9 = .ok (.getfield 7, 3) := by decide +kernel
theorem dX8_marginNow_12 : decode cX8_marginNow 12 = .ok (.bipush 14, 2) := by decide +kernel
theorem dX8_marginNow_14 : decode cX8_marginNow 14 = .ok (.iaload, 1) := by decide +kernel
theorem dX8_marginNow_15 : decode cX8_marginNow 15 = .ok (.invokevirtual 84, 3) := by decide +kernel
theorem dX8_marginNow_18 : decode cX8_marginNow 18 = .ok (.istore_n 1, 1) := by decide +kernel
theorem dX8_marginNow_19 : decode cX8_marginNow 19 = .ok (.sipush (-999), 3) := by decide +kernel
theorem dX8_marginNow_22 : decode cX8_marginNow 22 = .ok (.istore_n 2, 1) := by decide +kernel
theorem dX8_marginNow_23 : decode cX8_marginNow 23 = .ok (.iconst 0, 1) := by decide +kernel
theorem dX8_marginNow_24 : decode cX8_marginNow 24 = .ok (.istore_n 3, 1) := by decide +kernel
theorem dX8_marginNow_25 : decode cX8_marginNow 25 = .ok (.iload_n 3, 1) := by decide +kernel
theorem dX8_marginNow_26 : decode cX8_marginNow 26 = .ok (.iconst 4, 1) := by decide +kernel
theorem dX8_marginNow_27 : decode cX8_marginNow 27 = .ok (.if_icmp .ge 68, 3) := by decide +kernel
theorem dX8_marginNow_30 : decode cX8_marginNow 30 = .ok (.iload_n 3, 1) := by decide +kernel
theorem dX8_marginNow_31 : decode cX8_marginNow 31 = .ok (.invokestatic 66, 3) := by decide +kernel
theorem dX8_marginNow_34 : decode cX8_marginNow 34 = .ok (.aload_n 0, 1) := by decide +kernel
theorem dX8_marginNow_35 : decode cX8_marginNow 35 = .ok (.getfield 7, 3) := by decide +kernel
theorem dX8_marginNow_38 : decode cX8_marginNow 38 = .ok (.bipush 14, 2) := by decide +kernel
theorem dX8_marginNow_40 : decode cX8_marginNow 40 = .ok (.iaload, 1) := by decide +kernel
theorem dX8_marginNow_41 : decode cX8_marginNow 41 = .ok (.if_icmp .gt 8, 3) := by decide +kernel
theorem dX8_marginNow_44 : decode cX8_marginNow 44 = .ok (.iload_n 3, 1) := by decide +kernel
theorem dX8_marginNow_45 : decode cX8_marginNow 45 = .ok (.iload_n 1, 1) := by decide +kernel
theorem dX8_marginNow_46 : decode cX8_marginNow 46 = .ok (.if_icmp .ne 9, 3) := by decide +kernel
theorem dX8_marginNow_49 : decode cX8_marginNow 49 = .ok (.sipush (-999), 3) := by decide +kernel
theorem dX8_marginNow_52 : decode cX8_marginNow 52 = .ok (.goto 22, 3) := by decide +kernel
theorem dX8_marginNow_55 : decode cX8_marginNow 55 = .ok (.aload_n 0, 1) := by decide +kernel
theorem dX8_marginNow_56 : decode cX8_marginNow 56 = .ok (.aload_n 0, 1) := by decide +kernel
theorem dX8_marginNow_57 : decode cX8_marginNow 57 = .ok (.getfield 7, 3) := by decide +kernel
theorem dX8_marginNow_60 : decode cX8_marginNow 60 = .ok (.bipush 13, 2) := by decide +kernel
theorem dX8_marginNow_62 : decode cX8_marginNow 62 = .ok (.iaload, 1) := by decide +kernel
theorem dX8_marginNow_63 : decode cX8_marginNow 63 = .ok (.aload_n 0, 1) := by decide +kernel
theorem dX8_marginNow_64 : decode cX8_marginNow 64 = .ok (.getfield 7, 3) := by decide +kernel
theorem dX8_marginNow_67 : decode cX8_marginNow 67 = .ok (.bipush 14, 2) := by decide +kernel
theorem dX8_marginNow_69 : decode cX8_marginNow 69 = .ok (.iaload, 1) := by decide +kernel
theorem dX8_marginNow_70 : decode cX8_marginNow 70 = .ok (.iload_n 3, 1) := by decide +kernel
theorem dX8_marginNow_71 : decode cX8_marginNow 71 = .ok (.invokevirtual 81, 3) := by decide +kernel
theorem dX8_marginNow_74 : decode cX8_marginNow 74 = .ok (.istore 4, 2) := by decide +kernel
theorem dX8_marginNow_76 : decode cX8_marginNow 76 = .ok (.iload 4, 2) := by decide +kernel
theorem dX8_marginNow_78 : decode cX8_marginNow 78 = .ok (.iload_n 2, 1) := by decide +kernel
theorem dX8_marginNow_79 : decode cX8_marginNow 79 = .ok (.if_icmp .le 8, 3) := by decide +kernel
theorem dX8_marginNow_82 : decode cX8_marginNow 82 = .ok (.iload 4, 2) := by decide +kernel
theorem dX8_marginNow_84 : decode cX8_marginNow 84 = .ok (.goto 4, 3) := by decide +kernel
theorem dX8_marginNow_87 : decode cX8_marginNow 87 = .ok (.iload_n 2, 1) := by decide +kernel
theorem dX8_marginNow_88 : decode cX8_marginNow 88 = .ok (.istore_n 2, 1) := by decide +kernel
theorem dX8_marginNow_89 : decode cX8_marginNow 89 = .ok (.iinc 3 1, 3) := by decide +kernel
theorem dX8_marginNow_92 : decode cX8_marginNow 92 = .ok (.goto (-67), 3) := by decide +kernel
theorem dX8_marginNow_95 : decode cX8_marginNow 95 = .ok (.iload_n 2, 1) := by decide +kernel
theorem dX8_marginNow_96 : decode cX8_marginNow 96 = .ok (.sipush (-999), 3) := by decide +kernel
theorem dX8_marginNow_99 : decode cX8_marginNow 99 = .ok (.if_icmp .ne 9, 3) := by decide +kernel
theorem dX8_marginNow_102 : decode cX8_marginNow 102 = .ok (.sipush (-999), 3) := by decide +kernel
theorem dX8_marginNow_105 : decode cX8_marginNow 105 = .ok (.goto 24, 3) := by decide +kernel
theorem dX8_marginNow_108 : decode cX8_marginNow 108 = .ok (.aload_n 0, 1) := by decide +kernel
theorem dX8_marginNow_109 : decode cX8_marginNow 109 = .ok (.aload_n 0, 1) := by decide +kernel
theorem dX8_marginNow_110 : decode cX8_marginNow 110 = .ok (.getfield 7, 3) := by decide +kernel
theorem dX8_marginNow_113 : decode cX8_marginNow 113 = .ok (.bipush 13, 2) := by decide +kernel
theorem dX8_marginNow_115 : decode cX8_marginNow 115 = .ok (.iaload, 1) := by decide +kernel
theorem dX8_marginNow_116 : decode cX8_marginNow 116 = .ok (.aload_n 0, 1) := by decide +kernel
theorem dX8_marginNow_117 : decode cX8_marginNow 117 = .ok (.getfield 7, 3) := by decide +kernel
theorem dX8_marginNow_120 : decode cX8_marginNow 120 = .ok (.bipush 14, 2) := by decide +kernel
theorem dX8_marginNow_122 : decode cX8_marginNow 122 = .ok (.iaload, 1) := by decide +kernel
theorem dX8_marginNow_123 : decode cX8_marginNow 123 = .ok (.iload_n 1, 1) := by decide +kernel
theorem dX8_marginNow_124 : decode cX8_marginNow 124 = .ok (.invokevirtual 81, 3) := by decide +kernel
theorem dX8_marginNow_127 : decode cX8_marginNow 127 = .ok (.iload_n 2, 1) := by decide +kernel
theorem dX8_marginNow_128 : decode cX8_marginNow 128 = .ok (.isub, 1) := by decide +kernel
theorem dX8_marginNow_129 : decode cX8_marginNow 129 = .ok (.ireturn, 1) := by decide +kernel
theorem dX8_margin_0 : decode cX8_margin 0 = .ok (.aload_n 0, 1) := by decide +kernel
theorem dX8_margin_1 : decode cX8_margin 1 = .ok (.iconst 0, 1) := by decide +kernel
theorem dX8_margin_2 : decode cX8_margin 2 = .ok (.putfield 55, 3) := by decide +kernel
theorem dX8_margin_5 : decode cX8_margin 5 = .ok (.aload_n 0, 1) := by decide +kernel
theorem dX8_margin_6 : decode cX8_margin 6 = .ok (.invokevirtual 125, 3) := by decide +kernel
theorem dX8_margin_9 : decode cX8_margin 9 = .ok (.aload_n 0, 1) := by decide +kernel
theorem dX8_margin_10 : decode cX8_margin 10 = .ok (.invokevirtual 131, 3) := by decide +kernel
theorem dX8_margin_13 : decode cX8_margin 13 = .ok (.ireturn, 1) := by decide +kernel
theorem dX8_moveOf_0 : decode cX8_moveOf 0 = .ok (.iconst 0, 1) := by decide +kernel
theorem dX8_moveOf_1 : decode cX8_moveOf 1 = .ok (.istore_n 2, 1) := by decide +kernel
theorem dX8_moveOf_2 : decode cX8_moveOf 2 = .ok (.iload_n 0, 1) := by decide +kernel
theorem dX8_moveOf_3 : decode cX8_moveOf 3 = .ok (.istore_n 3, 1) := by decide +kernel
theorem dX8_moveOf_4 : decode cX8_moveOf 4 = .ok (.iconst 0, 1) := by decide +kernel
theorem dX8_moveOf_5 : decode cX8_moveOf 5 = .ok (.istore 4, 2) := by decide +kernel
theorem dX8_moveOf_7 : decode cX8_moveOf 7 = .ok (.bipush 6, 2) := by decide +kernel
theorem dX8_moveOf_9 : decode cX8_moveOf 9 = .ok (.istore 5, 2) := by decide +kernel
theorem dX8_moveOf_11 : decode cX8_moveOf 11 = .ok (.iconst 0, 1) := by decide +kernel
theorem dX8_moveOf_12 : decode cX8_moveOf 12 = .ok (.istore 6, 2) := by decide +kernel
theorem dX8_moveOf_14 : decode cX8_moveOf 14 = .ok (.iload 6, 2) := by decide +kernel
theorem dX8_moveOf_16 : decode cX8_moveOf 16 = .ok (.iload_n 1, 1) := by decide +kernel
theorem dX8_moveOf_17 : decode cX8_moveOf 17 = .ok (.if_icmp .gt 83, 3) := by decide +kernel
theorem dX8_moveOf_20 : decode cX8_moveOf 20 = .ok (.iload_n 3, 1) := by decide +kernel
theorem dX8_moveOf_21 : decode cX8_moveOf 21 = .ok (.iload 5, 2) := by decide +kernel
theorem dX8_moveOf_23 : decode cX8_moveOf 23 = .ok (.idiv, 1) := by decide +kernel
theorem dX8_moveOf_24 : decode cX8_moveOf 24 = .ok (.istore 7, 2) := by decide +kernel
theorem dX8_moveOf_26 : decode cX8_moveOf 26 = .ok (.iload_n 3, 1) := by decide +kernel
theorem dX8_moveOf_27 : decode cX8_moveOf 27 = .ok (.iload 5, 2) := by decide +kernel
theorem dX8_moveOf_29 : decode cX8_moveOf 29 = .ok (.irem, 1) := by decide +kernel
theorem dX8_moveOf_30 : decode cX8_moveOf 30 = .ok (.istore_n 3, 1) := by decide +kernel
theorem dX8_moveOf_31 : decode cX8_moveOf 31 = .ok (.iconst 0, 1) := by decide +kernel
theorem dX8_moveOf_32 : decode cX8_moveOf 32 = .ok (.istore 4, 2) := by decide +kernel
theorem dX8_moveOf_34 : decode cX8_moveOf 34 = .ok (.iload_n 2, 1) := by decide +kernel
theorem dX8_moveOf_35 : decode cX8_moveOf 35 = .ok (.iload 4, 2) := by decide +kernel
theorem dX8_moveOf_37 : decode cX8_moveOf 37 = .ok (.ishr, 1) := by decide +kernel
theorem dX8_moveOf_38 : decode cX8_moveOf 38 = .ok (.iconst 1, 1) := by decide +kernel
theorem dX8_moveOf_39 : decode cX8_moveOf 39 = .ok (.iand, 1) := by decide +kernel
theorem dX8_moveOf_40 : decode cX8_moveOf 40 = .ok (.iconst 1, 1) := by decide +kernel
theorem dX8_moveOf_41 : decode cX8_moveOf 41 = .ok (.if_icmp .eq 8, 3) := by decide +kernel
theorem dX8_moveOf_44 : decode cX8_moveOf 44 = .ok (.iload 7, 2) := by decide +kernel
theorem dX8_moveOf_46 : decode cX8_moveOf 46 = .ok (.ifCond .le 29, 3) := by decide +kernel
theorem dX8_moveOf_49 : decode cX8_moveOf 49 = .ok (.iload 7, 2) := by decide +kernel
theorem dX8_moveOf_51 : decode cX8_moveOf 51 = .ok (.iload_n 2, 1) := by decide +kernel
theorem dX8_moveOf_52 : decode cX8_moveOf 52 = .ok (.iload 4, 2) := by decide +kernel
theorem dX8_moveOf_54 : decode cX8_moveOf 54 = .ok (.ishr, 1) := by decide +kernel
theorem dX8_moveOf_55 : decode cX8_moveOf 55 = .ok (.iconst 1, 1) := by decide +kernel
theorem dX8_moveOf_56 : decode cX8_moveOf 56 = .ok (.iand, 1) := by decide +kernel
theorem dX8_moveOf_57 : decode cX8_moveOf 57 = .ok (.iconst 1, 1) := by decide +kernel
theorem dX8_moveOf_58 : decode cX8_moveOf 58 = .ok (.if_icmp .ne 7, 3) := by decide +kernel
theorem dX8_moveOf_61 : decode cX8_moveOf 61 = .ok (.iconst 0, 1) := by decide +kernel
theorem dX8_moveOf_62 : decode cX8_moveOf 62 = .ok (.goto 4, 3) := by decide +kernel
theorem dX8_moveOf_65 : decode cX8_moveOf 65 = .ok (.iconst 1, 1) := by decide +kernel
theorem dX8_moveOf_66 : decode cX8_moveOf 66 = .ok (.isub, 1) := by decide +kernel
theorem dX8_moveOf_67 : decode cX8_moveOf 67 = .ok (.istore 7, 2) := by decide +kernel
theorem dX8_moveOf_69 : decode cX8_moveOf 69 = .ok (.iinc 4 1, 3) := by decide +kernel
theorem dX8_moveOf_72 : decode cX8_moveOf 72 = .ok (.goto (-38), 3) := by decide +kernel
theorem dX8_moveOf_75 : decode cX8_moveOf 75 = .ok (.iload_n 2, 1) := by decide +kernel
theorem dX8_moveOf_76 : decode cX8_moveOf 76 = .ok (.iconst 1, 1) := by decide +kernel
theorem dX8_moveOf_77 : decode cX8_moveOf 77 = .ok (.iload 4, 2) := by decide +kernel
theorem dX8_moveOf_79 : decode cX8_moveOf 79 = .ok (.ishl, 1) := by decide +kernel
theorem dX8_moveOf_80 : decode cX8_moveOf 80 = .ok (.ior, 1) := by decide +kernel
theorem dX8_moveOf_81 : decode cX8_moveOf 81 = .ok (.istore_n 2, 1) := by decide +kernel
theorem dX8_moveOf_82 : decode cX8_moveOf 82 = .ok (.iload 6, 2) := by decide +kernel
theorem dX8_moveOf_84 : decode cX8_moveOf 84 = .ok (.ifCond .ne 7, 3) := by decide +kernel
theorem dX8_moveOf_87 : decode cX8_moveOf 87 = .ok (.iconst 2, 1) := by decide +kernel
theorem dX8_moveOf_88 : decode cX8_moveOf 88 = .ok (.goto 4, 3) := by decide +kernel
theorem dX8_moveOf_91 : decode cX8_moveOf 91 = .ok (.iconst 1, 1) := by decide +kernel
theorem dX8_moveOf_92 : decode cX8_moveOf 92 = .ok (.istore 5, 2) := by decide +kernel
theorem dX8_moveOf_94 : decode cX8_moveOf 94 = .ok (.iinc 6 1, 3) := by decide +kernel
theorem dX8_moveOf_97 : decode cX8_moveOf 97 = .ok (.goto (-83), 3) := by decide +kernel
theorem dX8_moveOf_100 : decode cX8_moveOf 100 = .ok (.iload 4, 2) := by decide +kernel
theorem dX8_moveOf_102 : decode cX8_moveOf 102 = .ok (.ireturn, 1) := by decide +kernel
theorem dX8_entry_0 : decode cX8_entry 0 = .ok (.bipush 12, 2) := by decide +kernel
theorem dX8_entry_2 : decode cX8_entry 2 = .ok (.iload_n 0, 1) := by decide +kernel
theorem dX8_entry_3 : decode cX8_entry 3 = .ok (.imul, 1) := by decide +kernel
theorem dX8_entry_4 : decode cX8_entry 4 = .ok (.iload_n 1, 1) := by decide +kernel
theorem dX8_entry_5 : decode cX8_entry 5 = .ok (.iadd, 1) := by decide +kernel
theorem dX8_entry_6 : decode cX8_entry 6 = .ok (.iconst 1, 1) := by decide +kernel
theorem dX8_entry_7 : decode cX8_entry 7 = .ok (.isub, 1) := by decide +kernel
theorem dX8_entry_8 : decode cX8_entry 8 = .ok (.ireturn, 1) := by decide +kernel
theorem dX8_isHit_0 : decode cX8_isHit 0 = .ok (.aload_n 0, 1) := by decide +kernel
theorem dX8_isHit_1 : decode cX8_isHit 1 = .ok (.getfield 34, 3) := by decide +kernel
theorem dX8_isHit_4 : decode cX8_isHit 4 = .ok (.iload_n 1, 1) := by decide +kernel
theorem dX8_isHit_5 : decode cX8_isHit 5 = .ok (.iaload, 1) := by decide +kernel
theorem dX8_isHit_6 : decode cX8_isHit 6 = .ok (.aload_n 0, 1) := by decide +kernel
theorem dX8_isHit_7 : decode cX8_isHit 7 = .ok (.getfield 37, 3) := by decide +kernel
theorem dX8_isHit_10 : decode cX8_isHit 10 = .ok (.iload_n 1, 1) := by decide +kernel
theorem dX8_isHit_11 : decode cX8_isHit 11 = .ok (.iaload, 1) := by decide +kernel
theorem dX8_isHit_12 : decode cX8_isHit 12 = .ok (.invokestatic 134, 3) := by decide +kernel
theorem dX8_isHit_15 : decode cX8_isHit 15 = .ok (.istore_n 3, 1) := by decide +kernel
theorem dX8_isHit_16 : decode cX8_isHit 16 = .ok (.aload_n 0, 1) := by decide +kernel
theorem dX8_isHit_17 : decode cX8_isHit 17 = .ok (.getfield 7, 3) := by decide +kernel
theorem dX8_isHit_20 : decode cX8_isHit 20 = .ok (.bipush 20, 2) := by decide +kernel
theorem dX8_isHit_22 : decode cX8_isHit 22 = .ok (.iaload, 1) := by decide +kernel
theorem dX8_isHit_23 : decode cX8_isHit 23 = .ok (.iconst 1, 1) := by decide +kernel
theorem dX8_isHit_24 : decode cX8_isHit 24 = .ok (.if_icmp .eq 22, 3) := by decide +kernel
theorem dX8_isHit_27 : decode cX8_isHit 27 = .ok (.aload_n 0, 1) := by decide +kernel
theorem dX8_isHit_28 : decode cX8_isHit 28 = .ok (.getfield 22, 3) := by decide +kernel
theorem dX8_isHit_31 : decode cX8_isHit 31 = .ok (.iload_n 3, 1) := by decide +kernel
theorem dX8_isHit_32 : decode cX8_isHit 32 = .ok (.iaload, 1) := by decide +kernel
theorem dX8_isHit_33 : decode cX8_isHit 33 = .ok (.ifCond .eq 13, 3) := by decide +kernel
theorem dX8_isHit_36 : decode cX8_isHit 36 = .ok (.aload_n 0, 1) := by decide +kernel
theorem dX8_isHit_37 : decode cX8_isHit 37 = .ok (.getfield 25, 3) := by decide +kernel
theorem dX8_isHit_40 : decode cX8_isHit 40 = .ok (.iload_n 3, 1) := by decide +kernel
theorem dX8_isHit_41 : decode cX8_isHit 41 = .ok (.iaload, 1) := by decide +kernel
theorem dX8_isHit_42 : decode cX8_isHit 42 = .ok (.iload_n 2, 1) := by decide +kernel
theorem dX8_isHit_43 : decode cX8_isHit 43 = .ok (.if_icmp .eq 5, 3) := by decide +kernel
theorem dX8_isHit_46 : decode cX8_isHit 46 = .ok (.iconst 0, 1) := by decide +kernel
theorem dX8_isHit_47 : decode cX8_isHit 47 = .ok (.ireturn, 1) := by decide +kernel
theorem dX8_isHit_48 : decode cX8_isHit 48 = .ok (.aload_n 0, 1) := by decide +kernel
theorem dX8_isHit_49 : decode cX8_isHit 49 = .ok (.getfield 22, 3) := by decide +kernel
theorem dX8_isHit_52 : decode cX8_isHit 52 = .ok (.iload_n 3, 1) := by decide +kernel
theorem dX8_isHit_53 : decode cX8_isHit 53 = .ok (.iaload, 1) := by decide +kernel
theorem dX8_isHit_54 : decode cX8_isHit 54 = .ok (.iconst 1, 1) := by decide +kernel
theorem dX8_isHit_55 : decode cX8_isHit 55 = .ok (.if_icmp .eq 53, 3) := by decide +kernel
theorem dX8_isHit_58 : decode cX8_isHit 58 = .ok (.aload_n 0, 1) := by decide +kernel
theorem dX8_isHit_59 : decode cX8_isHit 59 = .ok (.getfield 22, 3) := by decide +kernel
theorem dX8_isHit_62 : decode cX8_isHit 62 = .ok (.iload_n 3, 1) := by decide +kernel
theorem dX8_isHit_63 : decode cX8_isHit 63 = .ok (.iaload, 1) := by decide +kernel
theorem dX8_isHit_64 : decode cX8_isHit 64 = .ok (.iconst 2, 1) := by decide +kernel
theorem dX8_isHit_65 : decode cX8_isHit 65 = .ok (.if_icmp .ne 18, 3) := by decide +kernel
theorem dX8_isHit_68 : decode cX8_isHit 68 = .ok (.aload_n 0, 1) := by decide +kernel
theorem dX8_isHit_69 : decode cX8_isHit 69 = .ok (.getfield 28, 3) := by decide +kernel
theorem dX8_isHit_72 : decode cX8_isHit 72 = .ok (.iload_n 3, 1) := by decide +kernel
theorem dX8_isHit_73 : decode cX8_isHit 73 = .ok (.iaload, 1) := by decide +kernel
theorem dX8_isHit_74 : decode cX8_isHit 74 = .ok (.aload_n 0, 1) := by decide +kernel
theorem dX8_isHit_75 : decode cX8_isHit 75 = .ok (.getfield 43, 3) := by decide +kernel
theorem dX8_isHit_78 : decode cX8_isHit 78 = .ok (.iload_n 1, 1) := by decide +kernel
theorem dX8_isHit_79 : decode cX8_isHit 79 = .ok (.iaload, 1) := by decide +kernel
theorem dX8_isHit_80 : decode cX8_isHit 80 = .ok (.if_icmp .ge 28, 3) := by decide +kernel
theorem dX8_isHit_83 : decode cX8_isHit 83 = .ok (.aload_n 0, 1) := by decide +kernel
theorem dX8_isHit_84 : decode cX8_isHit 84 = .ok (.getfield 22, 3) := by decide +kernel
theorem dX8_isHit_87 : decode cX8_isHit 87 = .ok (.iload_n 3, 1) := by decide +kernel
theorem dX8_isHit_88 : decode cX8_isHit 88 = .ok (.iaload, 1) := by decide +kernel
theorem dX8_isHit_89 : decode cX8_isHit 89 = .ok (.iconst 3, 1) := by decide +kernel
theorem dX8_isHit_90 : decode cX8_isHit 90 = .ok (.if_icmp .ne 22, 3) := by decide +kernel
theorem dX8_isHit_93 : decode cX8_isHit 93 = .ok (.aload_n 0, 1) := by decide +kernel
theorem dX8_isHit_94 : decode cX8_isHit 94 = .ok (.getfield 28, 3) := by decide +kernel
theorem dX8_isHit_97 : decode cX8_isHit 97 = .ok (.iload_n 3, 1) := by decide +kernel
theorem dX8_isHit_98 : decode cX8_isHit 98 = .ok (.iaload, 1) := by decide +kernel
theorem dX8_isHit_99 : decode cX8_isHit 99 = .ok (.aload_n 0, 1) := by decide +kernel
theorem dX8_isHit_100 : decode cX8_isHit 100 = .ok (.getfield 40, 3) := by decide +kernel
theorem dX8_isHit_103 : decode cX8_isHit 103 = .ok (.iload_n 1, 1) := by decide +kernel
theorem dX8_isHit_104 : decode cX8_isHit 104 = .ok (.iaload, 1) := by decide +kernel
theorem dX8_isHit_105 : decode cX8_isHit 105 = .ok (.if_icmp .gt 7, 3) := by decide +kernel
theorem dX8_isHit_108 : decode cX8_isHit 108 = .ok (.iconst 1, 1) := by decide +kernel
theorem dX8_isHit_109 : decode cX8_isHit 109 = .ok (.goto 4, 3) := by decide +kernel
theorem dX8_isHit_112 : decode cX8_isHit 112 = .ok (.iconst 0, 1) := by decide +kernel
theorem dX8_isHit_113 : decode cX8_isHit 113 = .ok (.ireturn, 1) := by decide +kernel
theorem dX8_keeps_0 : decode cX8_keeps 0 = .ok (.aload_n 0, 1) := by decide +kernel
theorem dX8_keeps_1 : decode cX8_keeps 1 = .ok (.getfield 7, 3) := by decide +kernel
theorem dX8_keeps_4 : decode cX8_keeps 4 = .ok (.bipush 20, 2) := by decide +kernel
theorem dX8_keeps_6 : decode cX8_keeps 6 = .ok (.iaload, 1) := by decide +kernel
theorem dX8_keeps_7 : decode cX8_keeps 7 = .ok (.iconst 1, 1) := by decide +kernel
theorem dX8_keeps_8 : decode cX8_keeps 8 = .ok (.if_icmp .ne 4, 3) := by decide +kernel
theorem dX8_keeps_11 : decode cX8_keeps 11 = .ok (.return_, 1) := by decide +kernel
theorem dX8_keeps_12 : decode cX8_keeps 12 = .ok (.aload_n 0, 1) := by decide +kernel
theorem dX8_keeps_13 : decode cX8_keeps 13 = .ok (.getfield 34, 3) := by decide +kernel
theorem dX8_keeps_16 : decode cX8_keeps 16 = .ok (.iload_n 1, 1) := by decide +kernel
theorem dX8_keeps_17 : decode cX8_keeps 17 = .ok (.iaload, 1) := by decide +kernel
theorem dX8_keeps_18 : decode cX8_keeps 18 = .ok (.aload_n 0, 1) := by decide +kernel
theorem dX8_keeps_19 : decode cX8_keeps 19 = .ok (.getfield 37, 3) := by decide +kernel
theorem dX8_keeps_22 : decode cX8_keeps 22 = .ok (.iload_n 1, 1) := by decide +kernel
theorem dX8_keeps_23 : decode cX8_keeps 23 = .ok (.iaload, 1) := by decide +kernel
theorem dX8_keeps_24 : decode cX8_keeps 24 = .ok (.invokestatic 134, 3) := by decide +kernel
theorem dX8_keeps_27 : decode cX8_keeps 27 = .ok (.istore_n 3, 1) := by decide +kernel
theorem dX8_keeps_28 : decode cX8_keeps 28 = .ok (.aload_n 0, 1) := by decide +kernel
theorem dX8_keeps_29 : decode cX8_keeps 29 = .ok (.getfield 22, 3) := by decide +kernel
theorem dX8_keeps_32 : decode cX8_keeps 32 = .ok (.iload_n 3, 1) := by decide +kernel
theorem dX8_keeps_33 : decode cX8_keeps 33 = .ok (.aload_n 0, 1) := by decide +kernel
theorem dX8_keeps_34 : decode cX8_keeps 34 = .ok (.getfield 46, 3) := by decide +kernel
theorem dX8_keeps_37 : decode cX8_keeps 37 = .ok (.iload_n 1, 1) := by decide +kernel
theorem dX8_keeps_38 : decode cX8_keeps 38 = .ok (.iaload, 1) := by decide +kernel
theorem dX8_keeps_39 : decode cX8_keeps 39 = .ok (.aload_n 0, 1) := by decide +kernel
theorem dX8_keeps_40 : decode cX8_keeps 40 = .ok (.getfield 43, 3) := by decide +kernel
theorem dX8_keeps_43 : decode cX8_keeps 43 = .ok (.iload_n 1, 1) := by decide +kernel
theorem dX8_keeps_44 : decode cX8_keeps 44 = .ok (.iaload, 1) := by decide +kernel
theorem dX8_keeps_45 : decode cX8_keeps 45 = .ok (.if_icmp .lt 7, 3) := by decide +kernel
theorem dX8_keeps_48 : decode cX8_keeps 48 = .ok (.iconst 2, 1) := by decide +kernel
theorem dX8_keeps_49 : decode cX8_keeps 49 = .ok (.goto 23, 3) := by decide +kernel
theorem dX8_keeps_52 : decode cX8_keeps 52 = .ok (.aload_n 0, 1) := by decide +kernel
theorem dX8_keeps_53 : decode cX8_keeps 53 = .ok (.getfield 46, 3) := by decide +kernel
theorem dX8_keeps_56 : decode cX8_keeps 56 = .ok (.iload_n 1, 1) := by decide +kernel
theorem dX8_keeps_57 : decode cX8_keeps 57 = .ok (.iaload, 1) := by decide +kernel
theorem dX8_keeps_58 : decode cX8_keeps 58 = .ok (.aload_n 0, 1) := by decide +kernel
theorem dX8_keeps_59 : decode cX8_keeps 59 = .ok (.getfield 40, 3) := by decide +kernel
theorem dX8_keeps_62 : decode cX8_keeps 62 = .ok (.iload_n 1, 1) := by decide +kernel
theorem dX8_keeps_63 : decode cX8_keeps 63 = .ok (.iaload, 1) := by decide +kernel
theorem dX8_keeps_64 : decode cX8_keeps 64 = .ok (.if_icmp .gt 7, 3) := by decide +kernel
theorem dX8_keeps_67 : decode cX8_keeps 67 = .ok (.iconst 3, 1) := by decide +kernel
theorem dX8_keeps_68 : decode cX8_keeps 68 = .ok (.goto 4, 3) := by decide +kernel
theorem dX8_keeps_71 : decode cX8_keeps 71 = .ok (.iconst 1, 1) := by decide +kernel
theorem dX8_keeps_72 : decode cX8_keeps 72 = .ok (.iastore, 1) := by decide +kernel
theorem dX8_keeps_73 : decode cX8_keeps 73 = .ok (.aload_n 0, 1) := by decide +kernel
theorem dX8_keeps_74 : decode cX8_keeps 74 = .ok (.getfield 25, 3) := by decide +kernel
theorem dX8_keeps_77 : decode cX8_keeps 77 = .ok (.iload_n 3, 1) := by decide +kernel
theorem dX8_keeps_78 : decode cX8_keeps 78 = .ok (.iload_n 2, 1) := by decide +kernel
theorem dX8_keeps_79 : decode cX8_keeps 79 = .ok (.iastore, 1) := by decide +kernel
theorem dX8_keeps_80 : decode cX8_keeps 80 = .ok (.aload_n 0, 1) := by decide +kernel
theorem dX8_keeps_81 : decode cX8_keeps 81 = .ok (.getfield 28, 3) := by decide +kernel
theorem dX8_keeps_84 : decode cX8_keeps 84 = .ok (.iload_n 3, 1) := by decide +kernel
theorem dX8_keeps_85 : decode cX8_keeps 85 = .ok (.aload_n 0, 1) := by decide +kernel
theorem dX8_keeps_86 : decode cX8_keeps 86 = .ok (.getfield 46, 3) := by decide +kernel
theorem dX8_keeps_89 : decode cX8_keeps 89 = .ok (.iload_n 1, 1) := by decide +kernel
theorem dX8_keeps_90 : decode cX8_keeps 90 = .ok (.iaload, 1) := by decide +kernel
theorem dX8_keeps_91 : decode cX8_keeps 91 = .ok (.iastore, 1) := by decide +kernel
theorem dX8_keeps_92 : decode cX8_keeps 92 = .ok (.return_, 1) := by decide +kernel
theorem dX8_nextOf_0 : decode cX8_nextOf 0 = .ok (.aload_n 0, 1) := by decide +kernel
theorem dX8_nextOf_1 : decode cX8_nextOf 1 = .ok (.getfield 52, 3) := by decide +kernel
theorem dX8_nextOf_4 : decode cX8_nextOf 4 = .ok (.iload_n 1, 1) := by decide +kernel
theorem dX8_nextOf_5 : decode cX8_nextOf 5 = .ok (.iaload, 1) := by decide +kernel
theorem dX8_nextOf_6 : decode cX8_nextOf 6 = .ok (.istore_n 2, 1) := by decide +kernel
theorem dX8_nextOf_7 : decode cX8_nextOf 7 = .ok (.iload_n 2, 1) := by decide +kernel
theorem dX8_nextOf_8 : decode cX8_nextOf 8 = .ok (.iconst 4, 1) := by decide +kernel
theorem dX8_nextOf_9 : decode cX8_nextOf 9 = .ok (.if_icmp .ge 27, 3) := by decide +kernel
theorem dX8_nextOf_12 : decode cX8_nextOf 12 = .ok (.aload_n 0, 1) := by decide +kernel
theorem dX8_nextOf_13 : decode cX8_nextOf 13 = .ok (.getfield 31, 3) := by decide +kernel
theorem dX8_nextOf_16 : decode cX8_nextOf 16 = .ok (.iload_n 2, 1) := by decide +kernel
theorem dX8_nextOf_17 : decode cX8_nextOf 17 = .ok (.iaload, 1) := by decide +kernel
theorem dX8_nextOf_18 : decode cX8_nextOf 18 = .ok (.invokestatic 66, 3) := by decide +kernel
theorem dX8_nextOf_21 : decode cX8_nextOf 21 = .ok (.aload_n 0, 1) := by decide +kernel
theorem dX8_nextOf_22 : decode cX8_nextOf 22 = .ok (.getfield 37, 3) := by decide +kernel
theorem dX8_nextOf_25 : decode cX8_nextOf 25 = .ok (.iload_n 1, 1) := by decide +kernel
theorem dX8_nextOf_26 : decode cX8_nextOf 26 = .ok (.iaload, 1) := by decide +kernel
theorem dX8_nextOf_27 : decode cX8_nextOf 27 = .ok (.if_icmp .le 9, 3) := by decide +kernel
theorem dX8_nextOf_30 : decode cX8_nextOf 30 = .ok (.iinc 2 1, 3) := by decide +kernel
theorem dX8_nextOf_33 : decode cX8_nextOf 33 = .ok (.goto (-26), 3) := by decide +kernel
theorem dX8_nextOf_36 : decode cX8_nextOf 36 = .ok (.iload_n 2, 1) := by decide +kernel
theorem dX8_nextOf_37 : decode cX8_nextOf 37 = .ok (.ireturn, 1) := by decide +kernel
theorem dX8_enters_0 : decode cX8_enters 0 = .ok (.aload_n 0, 1) := by decide +kernel
theorem dX8_enters_1 : decode cX8_enters 1 = .ok (.getfield 34, 3) := by decide +kernel
theorem dX8_enters_4 : decode cX8_enters 4 = .ok (.iload_n 1, 1) := by decide +kernel
theorem dX8_enters_5 : decode cX8_enters 5 = .ok (.iload_n 2, 1) := by decide +kernel
theorem dX8_enters_6 : decode cX8_enters 6 = .ok (.iastore, 1) := by decide +kernel
theorem dX8_enters_7 : decode cX8_enters 7 = .ok (.aload_n 0, 1) := by decide +kernel
theorem dX8_enters_8 : decode cX8_enters 8 = .ok (.getfield 37, 3) := by decide +kernel
theorem dX8_enters_11 : decode cX8_enters 11 = .ok (.iload_n 1, 1) := by decide +kernel
theorem dX8_enters_12 : decode cX8_enters 12 = .ok (.iload_n 3, 1) := by decide +kernel
theorem dX8_enters_13 : decode cX8_enters 13 = .ok (.iastore, 1) := by decide +kernel
theorem dX8_enters_14 : decode cX8_enters 14 = .ok (.aload_n 0, 1) := by decide +kernel
theorem dX8_enters_15 : decode cX8_enters 15 = .ok (.getfield 40, 3) := by decide +kernel
theorem dX8_enters_18 : decode cX8_enters 18 = .ok (.iload_n 1, 1) := by decide +kernel
theorem dX8_enters_19 : decode cX8_enters 19 = .ok (.iload 4, 2) := by decide +kernel
theorem dX8_enters_21 : decode cX8_enters 21 = .ok (.iastore, 1) := by decide +kernel
theorem dX8_enters_22 : decode cX8_enters 22 = .ok (.aload_n 0, 1) := by decide +kernel
theorem dX8_enters_23 : decode cX8_enters 23 = .ok (.getfield 43, 3) := by decide +kernel
theorem dX8_enters_26 : decode cX8_enters 26 = .ok (.iload_n 1, 1) := by decide +kernel
theorem dX8_enters_27 : decode cX8_enters 27 = .ok (.iload 5, 2) := by decide +kernel
theorem dX8_enters_29 : decode cX8_enters 29 = .ok (.iastore, 1) := by decide +kernel
theorem dX8_enters_30 : decode cX8_enters 30 = .ok (.aload_n 0, 1) := by decide +kernel
theorem dX8_enters_31 : decode cX8_enters 31 = .ok (.getfield 46, 3) := by decide +kernel
theorem dX8_enters_34 : decode cX8_enters 34 = .ok (.iload_n 1, 1) := by decide +kernel
theorem dX8_enters_35 : decode cX8_enters 35 = .ok (.sipush (-999), 3) := by decide +kernel
theorem dX8_enters_38 : decode cX8_enters 38 = .ok (.iastore, 1) := by decide +kernel
theorem dX8_enters_39 : decode cX8_enters 39 = .ok (.aload_n 0, 1) := by decide +kernel
theorem dX8_enters_40 : decode cX8_enters 40 = .ok (.getfield 52, 3) := by decide +kernel
theorem dX8_enters_43 : decode cX8_enters 43 = .ok (.iload_n 1, 1) := by decide +kernel
theorem dX8_enters_44 : decode cX8_enters 44 = .ok (.iconst 0, 1) := by decide +kernel
theorem dX8_enters_45 : decode cX8_enters 45 = .ok (.iastore, 1) := by decide +kernel
theorem dX8_enters_46 : decode cX8_enters 46 = .ok (.aload_n 0, 1) := by decide +kernel
theorem dX8_enters_47 : decode cX8_enters 47 = .ok (.dup, 1) := by decide +kernel
theorem dX8_enters_48 : decode cX8_enters 48 = .ok (.getfield 137, 3) := by decide +kernel
theorem dX8_enters_51 : decode cX8_enters 51 = .ok (.iconst 1, 1) := by decide +kernel
theorem dX8_enters_52 : decode cX8_enters 52 = .ok (.iadd, 1) := by decide +kernel
theorem dX8_enters_53 : decode cX8_enters 53 = .ok (.putfield 137, 3) := by decide +kernel
theorem dX8_enters_56 : decode cX8_enters 56 = .ok (.return_, 1) := by decide +kernel
theorem dX8_searches_0 : decode cX8_searches 0 = .ok (.iconst 0, 1) := by decide +kernel
theorem dX8_searches_1 : decode cX8_searches 1 = .ok (.istore 5, 2) := by decide +kernel
theorem dX8_searches_3 : decode cX8_searches 3 = .ok (.iload 5, 2) := by decide +kernel
theorem dX8_searches_5 : decode cX8_searches 5 = .ok (.sipush 144, 3) := by decide +kernel
theorem dX8_searches_8 : decode cX8_searches 8 = .ok (.if_icmp .ge 33, 3) := by decide +kernel
theorem dX8_searches_11 : decode cX8_searches 11 = .ok (.aload_n 0, 1) := by decide +kernel
theorem dX8_searches_12 : decode cX8_searches 12 = .ok (.getfield 22, 3) := by decide +kernel
theorem dX8_searches_15 : decode cX8_searches 15 = .ok (.iload 5, 2) := by decide +kernel
theorem dX8_searches_17 : decode cX8_searches 17 = .ok (.iconst 0, 1) := by decide +kernel
theorem dX8_searches_18 : decode cX8_searches 18 = .ok (.iastore, 1) := by decide +kernel
theorem dX8_searches_19 : decode cX8_searches 19 = .ok (.aload_n 0, 1) := by decide +kernel
theorem dX8_searches_20 : decode cX8_searches 20 = .ok (.getfield 25, 3) := by decide +kernel
theorem dX8_searches_23 : decode cX8_searches 23 = .ok (.iload 5, 2) := by decide +kernel
theorem dX8_searches_25 : decode cX8_searches 25 = .ok (.iconst 0, 1) := by decide +kernel
theorem dX8_searches_26 : decode cX8_searches 26 = .ok (.iastore, 1) := by decide +kernel
theorem dX8_searches_27 : decode cX8_searches 27 = .ok (.aload_n 0, 1) := by decide +kernel
theorem dX8_searches_28 : decode cX8_searches 28 = .ok (.getfield 28, 3) := by decide +kernel
theorem dX8_searches_31 : decode cX8_searches 31 = .ok (.iload 5, 2) := by decide +kernel
theorem dX8_searches_33 : decode cX8_searches 33 = .ok (.iconst 0, 1) := by decide +kernel
theorem dX8_searches_34 : decode cX8_searches 34 = .ok (.iastore, 1) := by decide +kernel
theorem dX8_searches_35 : decode cX8_searches 35 = .ok (.iinc 5 1, 3) := by decide +kernel
theorem dX8_searches_38 : decode cX8_searches 38 = .ok (.goto (-35), 3) := by decide +kernel
theorem dX8_searches_41 : decode cX8_searches 41 = .ok (.iconst 0, 1) := by decide +kernel
theorem dX8_searches_42 : decode cX8_searches 42 = .ok (.istore 5, 2) := by decide +kernel
theorem dX8_searches_44 : decode cX8_searches 44 = .ok (.iload 5, 2) := by decide +kernel
theorem dX8_searches_46 : decode cX8_searches 46 = .ok (.iconst 4, 1) := by decide +kernel
theorem dX8_searches_47 : decode cX8_searches 47 = .ok (.if_icmp .ge 23, 3) := by decide +kernel
theorem dX8_searches_50 : decode cX8_searches 50 = .ok (.aload_n 0, 1) := by decide +kernel
theorem dX8_searches_51 : decode cX8_searches 51 = .ok (.getfield 31, 3) := by decide +kernel
theorem dX8_searches_54 : decode cX8_searches 54 = .ok (.iload 5, 2) := by decide +kernel
theorem dX8_searches_56 : decode cX8_searches 56 = .ok (.iload 4, 2) := by decide +kernel
theorem dX8_searches_58 : decode cX8_searches 58 = .ok (.iload 5, 2) := by decide +kernel
theorem dX8_searches_60 : decode cX8_searches 60 = .ok (.invokestatic 140, 3) := by decide +kernel
theorem dX8_searches_63 : decode cX8_searches 63 = .ok (.iastore, 1) := by decide +kernel
theorem dX8_searches_64 : decode cX8_searches 64 = .ok (.iinc 5 1, 3) := by decide +kernel
theorem dX8_searches_67 : decode cX8_searches 67 = .ok (.goto (-23), 3) := by decide +kernel
theorem dX8_searches_70 : decode cX8_searches 70 = .ok (.aload_n 0, 1) := by decide +kernel
theorem dX8_searches_71 : decode cX8_searches 71 = .ok (.iconst 0, 1) := by decide +kernel
theorem dX8_searches_72 : decode cX8_searches 72 = .ok (.putfield 137, 3) := by decide +kernel
theorem dX8_searches_75 : decode cX8_searches 75 = .ok (.aload_n 0, 1) := by decide +kernel
theorem dX8_searches_76 : decode cX8_searches 76 = .ok (.iconst 0, 1) := by decide +kernel
theorem dX8_searches_77 : decode cX8_searches 77 = .ok (.putfield 143, 3) := by decide +kernel
theorem dX8_searches_80 : decode cX8_searches 80 = .ok (.aload_n 0, 1) := by decide +kernel
theorem dX8_searches_81 : decode cX8_searches 81 = .ok (.iconst 0, 1) := by decide +kernel
theorem dX8_searches_82 : decode cX8_searches 82 = .ok (.putfield 146, 3) := by decide +kernel
theorem dX8_searches_85 : decode cX8_searches 85 = .ok (.iconst 0, 1) := by decide +kernel
theorem dX8_searches_86 : decode cX8_searches 86 = .ok (.istore 5, 2) := by decide +kernel
theorem dX8_searches_88 : decode cX8_searches 88 = .ok (.aload_n 0, 1) := by decide +kernel
theorem dX8_searches_89 : decode cX8_searches 89 = .ok (.iconst 0, 1) := by decide +kernel
theorem dX8_searches_90 : decode cX8_searches 90 = .ok (.aload_n 0, 1) := by decide +kernel
theorem dX8_searches_91 : decode cX8_searches 91 = .ok (.getfield 7, 3) := by decide +kernel
theorem dX8_searches_94 : decode cX8_searches 94 = .ok (.bipush 13, 2) := by decide +kernel
theorem dX8_searches_96 : decode cX8_searches 96 = .ok (.iaload, 1) := by decide +kernel
theorem dX8_searches_97 : decode cX8_searches 97 = .ok (.aload_n 0, 1) := by decide +kernel
theorem dX8_searches_98 : decode cX8_searches 98 = .ok (.getfield 7, 3) := by decide +kernel
theorem dX8_searches_101 : decode cX8_searches 101 = .ok (.bipush 14, 2) := by decide +kernel
theorem dX8_searches_103 : decode cX8_searches 103 = .ok (.iaload, 1) := by decide +kernel
theorem dX8_searches_104 : decode cX8_searches 104 = .ok (.iload_n 2, 1) := by decide +kernel
theorem dX8_searches_105 : decode cX8_searches 105 = .ok (.iload_n 3, 1) := by decide +kernel
theorem dX8_searches_106 : decode cX8_searches 106 = .ok (.invokevirtual 149, 3) := by decide +kernel
theorem dX8_searches_109 : decode cX8_searches 109 = .ok (.iconst 1, 1) := by decide +kernel
theorem dX8_searches_110 : decode cX8_searches 110 = .ok (.istore 6, 2) := by decide +kernel
theorem dX8_searches_112 : decode cX8_searches 112 = .ok (.iconst 0, 1) := by decide +kernel
theorem dX8_searches_113 : decode cX8_searches 113 = .ok (.istore 7, 2) := by decide +kernel
theorem dX8_searches_115 : decode cX8_searches 115 = .ok (.iload 5, 2) := by decide +kernel
theorem dX8_searches_117 : decode cX8_searches 117 = .ok (.ifCond .lt 436, 3) := by decide +kernel
theorem dX8_searches_120 : decode cX8_searches 120 = .ok (.iload_n 1, 1) := by decide +kernel
theorem dX8_searches_121 : decode cX8_searches 121 = .ok (.iload 5, 2) := by decide +kernel
theorem dX8_searches_123 : decode cX8_searches 123 = .ok (.isub, 1) := by decide +kernel
theorem dX8_searches_124 : decode cX8_searches 124 = .ok (.istore 8, 2) := by decide +kernel
theorem dX8_searches_126 : decode cX8_searches 126 = .ok (.aload_n 0, 1) := by decide +kernel
theorem dX8_searches_127 : decode cX8_searches 127 = .ok (.getfield 137, 3) := by decide +kernel
theorem dX8_searches_130 : decode cX8_searches 130 = .ok (.aload_n 0, 1) := by decide +kernel
theorem dX8_searches_131 : decode cX8_searches 131 = .ok (.getfield 7, 3) := by decide +kernel
theorem dX8_searches_134 : decode cX8_searches 134 = .ok (.bipush 19, 2) := by decide +kernel
theorem dX8_searches_136 : decode cX8_searches 136 = .ok (.iaload, 1) := by decide +kernel
theorem dX8_searches_137 : decode cX8_searches 137 = .ok (.if_icmp .le 7, 3) := by decide +kernel
theorem dX8_searches_140 : decode cX8_searches 140 = .ok (.sipush (-999), 3) := by decide +kernel
theorem dX8_searches_143 : decode cX8_searches 143 = .ok (.ireturn, 1) := by decide +kernel
theorem dX8_searches_144 : decode cX8_searches 144 = .ok (.iload 6, 2) := by decide +kernel
theorem dX8_searches_146 : decode cX8_searches 146 = .ok (.ifCond .eq 84, 3) := by decide +kernel
theorem dX8_searches_149 : decode cX8_searches 149 = .ok (.aload_n 0, 1) := by decide +kernel
theorem dX8_searches_150 : decode cX8_searches 150 = .ok (.getfield 37, 3) := by decide +kernel
theorem dX8_searches_153 : decode cX8_searches 153 = .ok (.iload 5, 2) := by decide +kernel
theorem dX8_searches_155 : decode cX8_searches 155 = .ok (.iaload, 1) := by decide +kernel
theorem dX8_searches_156 : decode cX8_searches 156 = .ok (.ifCond .eq 8, 3) := by decide +kernel
theorem dX8_searches_159 : decode cX8_searches 159 = .ok (.iload 8, 2) := by decide +kernel
theorem dX8_searches_161 : decode cX8_searches 161 = .ok (.ifCond .ne 7, 3) := by decide +kernel
theorem dX8_searches_164 : decode cX8_searches 164 = .ok (.iconst 1, 1) := by decide +kernel
theorem dX8_searches_165 : decode cX8_searches 165 = .ok (.goto 4, 3) := by decide +kernel
theorem dX8_searches_168 : decode cX8_searches 168 = .ok (.iconst 0, 1) := by decide +kernel
theorem dX8_searches_169 : decode cX8_searches 169 = .ok (.istore 9, 2) := by decide +kernel
theorem dX8_searches_171 : decode cX8_searches 171 = .ok (.iconst 0, 1) := by decide +kernel
theorem dX8_searches_172 : decode cX8_searches 172 = .ok (.istore 7, 2) := by decide +kernel
theorem dX8_searches_174 : decode cX8_searches 174 = .ok (.iload 9, 2) := by decide +kernel
theorem dX8_searches_176 : decode cX8_searches 176 = .ok (.ifCond .ne 192, 3) := by decide +kernel
theorem dX8_searches_179 : decode cX8_searches 179 = .ok (.aload_n 0, 1) := by decide +kernel
theorem dX8_searches_180 : decode cX8_searches 180 = .ok (.iload 5, 2) := by decide +kernel
theorem dX8_searches_182 : decode cX8_searches 182 = .ok (.iload 8, 2) := by decide +kernel
theorem dX8_searches_184 : decode cX8_searches 184 = .ok (.invokevirtual 153, 3) := by decide +kernel
theorem dX8_searches_187 : decode cX8_searches 187 = .ok (.ifCond .eq 181, 3) := by decide +kernel
theorem dX8_searches_190 : decode cX8_searches 190 = .ok (.aload_n 0, 1) := by decide +kernel
theorem dX8_searches_191 : decode cX8_searches 191 = .ok (.dup, 1) := by decide +kernel
theorem dX8_searches_192 : decode cX8_searches 192 = .ok (.getfield 146, 3) := by decide +kernel
theorem dX8_searches_195 : decode cX8_searches 195 = .ok (.iconst 1, 1) := by decide +kernel
theorem dX8_searches_196 : decode cX8_searches 196 = .ok (.iadd, 1) := by decide +kernel
theorem dX8_searches_197 : decode cX8_searches 197 = .ok (.putfield 146, 3) := by decide +kernel
theorem dX8_searches_200 : decode cX8_searches 200 = .ok (.aload_n 0, 1) := by decide +kernel
theorem dX8_searches_201 : decode cX8_searches 201 = .ok (.getfield 28, 3) := by decide +kernel
theorem dX8_searches_204 : decode cX8_searches 204 = .ok (.aload_n 0, 1) := by decide +kernel
theorem dX8_searches_205 : decode cX8_searches 205 = .ok (.getfield 34, 3) := by decide +kernel
theorem dX8_searches_208 : decode cX8_searches 208 = .ok (.iload 5, 2) := by decide +kernel
theorem dX8_searches_210 : decode cX8_searches 210 = .ok (.iaload, 1) := by decide +kernel
theorem dX8_searches_211 : decode cX8_searches 211 = .ok (.aload_n 0, 1) := by decide +kernel
theorem dX8_searches_212 : decode cX8_searches 212 = .ok (.getfield 37, 3) := by decide +kernel
theorem dX8_searches_215 : decode cX8_searches 215 = .ok (.iload 5, 2) := by decide +kernel
theorem dX8_searches_217 : decode cX8_searches 217 = .ok (.iaload, 1) := by decide +kernel
theorem dX8_searches_218 : decode cX8_searches 218 = .ok (.invokestatic 134, 3) := by decide +kernel
theorem dX8_searches_221 : decode cX8_searches 221 = .ok (.iaload, 1) := by decide +kernel
theorem dX8_searches_222 : decode cX8_searches 222 = .ok (.istore 7, 2) := by decide +kernel
theorem dX8_searches_224 : decode cX8_searches 224 = .ok (.iconst 1, 1) := by decide +kernel
theorem dX8_searches_225 : decode cX8_searches 225 = .ok (.istore 9, 2) := by decide +kernel
theorem dX8_searches_227 : decode cX8_searches 227 = .ok (.goto 141, 3) := by decide +kernel
theorem dX8_searches_230 : decode cX8_searches 230 = .ok (.aload_n 0, 1) := by decide +kernel
theorem dX8_searches_231 : decode cX8_searches 231 = .ok (.getfield 49, 3) := by decide +kernel
theorem dX8_searches_234 : decode cX8_searches 234 = .ok (.iload 5, 2) := by decide +kernel
theorem dX8_searches_236 : decode cX8_searches 236 = .ok (.iaload, 1) := by decide +kernel
theorem dX8_searches_237 : decode cX8_searches 237 = .ok (.iload 7, 2) := by decide +kernel
theorem dX8_searches_239 : decode cX8_searches 239 = .ok (.isub, 1) := by decide +kernel
theorem dX8_searches_240 : decode cX8_searches 240 = .ok (.istore 10, 2) := by decide +kernel
theorem dX8_searches_242 : decode cX8_searches 242 = .ok (.aload_n 0, 1) := by decide +kernel
theorem dX8_searches_243 : decode cX8_searches 243 = .ok (.getfield 46, 3) := by decide +kernel
theorem dX8_searches_246 : decode cX8_searches 246 = .ok (.iload 5, 2) := by decide +kernel
theorem dX8_searches_248 : decode cX8_searches 248 = .ok (.aload_n 0, 1) := by decide +kernel
theorem dX8_searches_249 : decode cX8_searches 249 = .ok (.getfield 46, 3) := by decide +kernel
theorem dX8_searches_252 : decode cX8_searches 252 = .ok (.iload 5, 2) := by decide +kernel
theorem dX8_searches_254 : decode cX8_searches 254 = .ok (.iaload, 1) := by decide +kernel
theorem dX8_searches_255 : decode cX8_searches 255 = .ok (.sipush (-999), 3) := by decide +kernel
theorem dX8_searches_258 : decode cX8_searches 258 = .ok (.if_icmp .eq 15, 3) := by decide +kernel
theorem dX8_searches_261 : decode cX8_searches 261 = .ok (.iload 10, 2) := by decide +kernel
theorem dX8_searches_263 : decode cX8_searches 263 = .ok (.aload_n 0, 1) := by decide +kernel
theorem dX8_searches_264 : decode cX8_searches 264 = .ok (.getfield 46, 3) := by decide +kernel
theorem dX8_searches_267 : decode cX8_searches 267 = .ok (.iload 5, 2) := by decide +kernel
theorem dX8_searches_269 : decode cX8_searches 269 = .ok (.iaload, 1) := by decide +kernel
theorem dX8_searches_270 : decode cX8_searches 270 = .ok (.if_icmp .le 8, 3) := by decide +kernel
theorem dX8_searches_273 : decode cX8_searches 273 = .ok (.iload 10, 2) := by decide +kernel
theorem dX8_searches_275 : decode cX8_searches 275 = .ok (.goto 10, 3) := by decide +kernel
theorem dX8_searches_278 : decode cX8_searches 278 = .ok (.aload_n 0, 1) := by decide +kernel
theorem dX8_searches_279 : decode cX8_searches 279 = .ok (.getfield 46, 3) := by decide +kernel
theorem dX8_searches_282 : decode cX8_searches 282 = .ok (.iload 5, 2) := by decide +kernel
theorem dX8_searches_284 : decode cX8_searches 284 = .ok (.iaload, 1) := by decide +kernel
theorem dX8_searches_285 : decode cX8_searches 285 = .ok (.iastore, 1) := by decide +kernel
theorem dX8_searches_286 : decode cX8_searches 286 = .ok (.iload 10, 2) := by decide +kernel
theorem dX8_searches_288 : decode cX8_searches 288 = .ok (.aload_n 0, 1) := by decide +kernel
theorem dX8_searches_289 : decode cX8_searches 289 = .ok (.getfield 43, 3) := by decide +kernel
theorem dX8_searches_292 : decode cX8_searches 292 = .ok (.iload 5, 2) := by decide +kernel
theorem dX8_searches_294 : decode cX8_searches 294 = .ok (.iaload, 1) := by decide +kernel
theorem dX8_searches_295 : decode cX8_searches 295 = .ok (.if_icmp .lt 7, 3) := by decide +kernel
theorem dX8_searches_298 : decode cX8_searches 298 = .ok (.iconst 1, 1) := by decide +kernel
theorem dX8_searches_299 : decode cX8_searches 299 = .ok (.goto 4, 3) := by decide +kernel
theorem dX8_searches_302 : decode cX8_searches 302 = .ok (.iconst 0, 1) := by decide +kernel
theorem dX8_searches_303 : decode cX8_searches 303 = .ok (.istore 11, 2) := by decide +kernel
theorem dX8_searches_305 : decode cX8_searches 305 = .ok (.aload_n 0, 1) := by decide +kernel
theorem dX8_searches_306 : decode cX8_searches 306 = .ok (.dup, 1) := by decide +kernel
theorem dX8_searches_307 : decode cX8_searches 307 = .ok (.getfield 143, 3) := by decide +kernel
theorem dX8_searches_310 : decode cX8_searches 310 = .ok (.iload 11, 2) := by decide +kernel
theorem dX8_searches_312 : decode cX8_searches 312 = .ok (.ifCond .eq 7, 3) := by decide +kernel
theorem dX8_searches_315 : decode cX8_searches 315 = .ok (.iconst 1, 1) := by decide +kernel
theorem dX8_searches_316 : decode cX8_searches 316 = .ok (.goto 4, 3) := by decide +kernel
theorem dX8_searches_319 : decode cX8_searches 319 = .ok (.iconst 0, 1) := by decide +kernel
theorem dX8_searches_320 : decode cX8_searches 320 = .ok (.iadd, 1) := by decide +kernel
theorem dX8_searches_321 : decode cX8_searches 321 = .ok (.putfield 143, 3) := by decide +kernel
theorem dX8_searches_324 : decode cX8_searches 324 = .ok (.iload 11, 2) := by decide +kernel
theorem dX8_searches_326 : decode cX8_searches 326 = .ok (.ifCond .ne 13, 3) := by decide +kernel
theorem dX8_searches_329 : decode cX8_searches 329 = .ok (.aload_n 0, 1) := by decide +kernel
theorem dX8_searches_330 : decode cX8_searches 330 = .ok (.iload 5, 2) := by decide +kernel
theorem dX8_searches_332 : decode cX8_searches 332 = .ok (.invokevirtual 157, 3) := by decide +kernel
theorem dX8_searches_335 : decode cX8_searches 335 = .ok (.iconst 4, 1) := by decide +kernel
theorem dX8_searches_336 : decode cX8_searches 336 = .ok (.if_icmp .ne 7, 3) := by decide +kernel
theorem dX8_searches_339 : decode cX8_searches 339 = .ok (.iconst 1, 1) := by decide +kernel
theorem dX8_searches_340 : decode cX8_searches 340 = .ok (.goto 4, 3) := by decide +kernel
theorem dX8_searches_343 : decode cX8_searches 343 = .ok (.iconst 0, 1) := by decide +kernel
theorem dX8_searches_344 : decode cX8_searches 344 = .ok (.istore 9, 2) := by decide +kernel
theorem dX8_searches_346 : decode cX8_searches 346 = .ok (.iload 9, 2) := by decide +kernel
theorem dX8_searches_348 : decode cX8_searches 348 = .ok (.ifCond .eq 20, 3) := by decide +kernel
theorem dX8_searches_351 : decode cX8_searches 351 = .ok (.aload_n 0, 1) := by decide +kernel
theorem dX8_searches_352 : decode cX8_searches 352 = .ok (.iload 5, 2) := by decide +kernel
theorem dX8_searches_354 : decode cX8_searches 354 = .ok (.iload 8, 2) := by decide +kernel
theorem dX8_searches_356 : decode cX8_searches 356 = .ok (.invokevirtual 160, 3) := by decide +kernel
theorem dX8_searches_359 : decode cX8_searches 359 = .ok (.aload_n 0, 1) := by decide +kernel
theorem dX8_searches_360 : decode cX8_searches 360 = .ok (.getfield 46, 3) := by decide +kernel
theorem dX8_searches_363 : decode cX8_searches 363 = .ok (.iload 5, 2) := by decide +kernel
theorem dX8_searches_365 : decode cX8_searches 365 = .ok (.iaload, 1) := by decide +kernel
theorem dX8_searches_366 : decode cX8_searches 366 = .ok (.istore 7, 2) := by decide +kernel
theorem dX8_searches_368 : decode cX8_searches 368 = .ok (.iload 9, 2) := by decide +kernel
theorem dX8_searches_370 : decode cX8_searches 370 = .ok (.ifCond .eq 12, 3) := by decide +kernel
theorem dX8_searches_373 : decode cX8_searches 373 = .ok (.iinc 5 (-1), 3) := by decide +kernel
theorem dX8_searches_376 : decode cX8_searches 376 = .ok (.iconst 0, 1) := by decide +kernel
theorem dX8_searches_377 : decode cX8_searches 377 = .ok (.istore 6, 2) := by decide +kernel
theorem dX8_searches_379 : decode cX8_searches 379 = .ok (.goto 171, 3) := by decide +kernel
theorem dX8_searches_382 : decode cX8_searches 382 = .ok (.aload_n 0, 1) := by decide +kernel
theorem dX8_searches_383 : decode cX8_searches 383 = .ok (.iload 5, 2) := by decide +kernel
theorem dX8_searches_385 : decode cX8_searches 385 = .ok (.invokevirtual 157, 3) := by decide +kernel
theorem dX8_searches_388 : decode cX8_searches 388 = .ok (.istore 10, 2) := by decide +kernel
theorem dX8_searches_390 : decode cX8_searches 390 = .ok (.aload_n 0, 1) := by decide +kernel
theorem dX8_searches_391 : decode cX8_searches 391 = .ok (.getfield 31, 3) := by decide +kernel
theorem dX8_searches_394 : decode cX8_searches 394 = .ok (.iload 10, 2) := by decide +kernel
theorem dX8_searches_396 : decode cX8_searches 396 = .ok (.iaload, 1) := by decide +kernel
theorem dX8_searches_397 : decode cX8_searches 397 = .ok (.istore 11, 2) := by decide +kernel
theorem dX8_searches_399 : decode cX8_searches 399 = .ok (.aload_n 0, 1) := by decide +kernel
theorem dX8_searches_400 : decode cX8_searches 400 = .ok (.getfield 52, 3) := by decide +kernel
theorem dX8_searches_403 : decode cX8_searches 403 = .ok (.iload 5, 2) := by decide +kernel
theorem dX8_searches_405 : decode cX8_searches 405 = .ok (.iload 10, 2) := by decide +kernel
theorem dX8_searches_407 : decode cX8_searches 407 = .ok (.iconst 1, 1) := by decide +kernel
theorem dX8_searches_408 : decode cX8_searches 408 = .ok (.iadd, 1) := by decide +kernel
theorem dX8_searches_409 : decode cX8_searches 409 = .ok (.iastore, 1) := by decide +kernel
theorem dX8_searches_410 : decode cX8_searches 410 = .ok (.aload_n 0, 1) := by decide +kernel
theorem dX8_searches_411 : decode cX8_searches 411 = .ok (.getfield 49, 3) := by decide +kernel
theorem dX8_searches_414 : decode cX8_searches 414 = .ok (.iload 5, 2) := by decide +kernel
theorem dX8_searches_416 : decode cX8_searches 416 = .ok (.aload_n 0, 1) := by decide +kernel
theorem dX8_searches_417 : decode cX8_searches 417 = .ok (.aload_n 0, 1) := by decide +kernel
theorem dX8_searches_418 : decode cX8_searches 418 = .ok (.getfield 34, 3) := by decide +kernel
theorem dX8_searches_421 : decode cX8_searches 421 = .ok (.iload 5, 2) := by decide +kernel
theorem dX8_searches_423 : decode cX8_searches 423 = .ok (.iaload, 1) := by decide +kernel
theorem dX8_searches_424 : decode cX8_searches 424 = .ok (.aload_n 0, 1) := by decide +kernel
theorem dX8_searches_425 : decode cX8_searches 425 = .ok (.getfield 37, 3) := by decide +kernel
theorem dX8_searches_428 : decode cX8_searches 428 = .ok (.iload 5, 2) := by decide +kernel
theorem dX8_searches_430 : decode cX8_searches 430 = .ok (.iaload, 1) := by decide +kernel
theorem dX8_searches_431 : decode cX8_searches 431 = .ok (.iload 11, 2) := by decide +kernel
theorem dX8_searches_433 : decode cX8_searches 433 = .ok (.invokevirtual 70, 3) := by decide +kernel
theorem dX8_searches_436 : decode cX8_searches 436 = .ok (.iastore, 1) := by decide +kernel
theorem dX8_searches_437 : decode cX8_searches 437 = .ok (.aload_n 0, 1) := by decide +kernel
theorem dX8_searches_438 : decode cX8_searches 438 = .ok (.getfield 46, 3) := by decide +kernel
theorem dX8_searches_441 : decode cX8_searches 441 = .ok (.iload 5, 2) := by decide +kernel
theorem dX8_searches_443 : decode cX8_searches 443 = .ok (.iaload, 1) := by decide +kernel
theorem dX8_searches_444 : decode cX8_searches 444 = .ok (.sipush (-999), 3) := by decide +kernel
theorem dX8_searches_447 : decode cX8_searches 447 = .ok (.if_icmp .eq 30, 3) := by decide +kernel
theorem dX8_searches_450 : decode cX8_searches 450 = .ok (.aload_n 0, 1) := by decide +kernel
theorem dX8_searches_451 : decode cX8_searches 451 = .ok (.getfield 46, 3) := by decide +kernel
theorem dX8_searches_454 : decode cX8_searches 454 = .ok (.iload 5, 2) := by decide +kernel
theorem dX8_searches_456 : decode cX8_searches 456 = .ok (.iaload, 1) := by decide +kernel
theorem dX8_searches_457 : decode cX8_searches 457 = .ok (.aload_n 0, 1) := by decide +kernel
theorem dX8_searches_458 : decode cX8_searches 458 = .ok (.getfield 40, 3) := by decide +kernel
theorem dX8_searches_461 : decode cX8_searches 461 = .ok (.iload 5, 2) := by decide +kernel
theorem dX8_searches_463 : decode cX8_searches 463 = .ok (.iaload, 1) := by decide +kernel
theorem dX8_searches_464 : decode cX8_searches 464 = .ok (.if_icmp .le 13, 3) := by decide +kernel
theorem dX8_searches_467 : decode cX8_searches 467 = .ok (.aload_n 0, 1) := by decide +kernel
theorem dX8_searches_468 : decode cX8_searches 468 = .ok (.getfield 46, 3) := by decide +kernel
theorem dX8_searches_471 : decode cX8_searches 471 = .ok (.iload 5, 2) := by decide +kernel
theorem dX8_searches_473 : decode cX8_searches 473 = .ok (.iaload, 1) := by decide +kernel
theorem dX8_searches_474 : decode cX8_searches 474 = .ok (.goto 10, 3) := by decide +kernel
theorem dX8_searches_477 : decode cX8_searches 477 = .ok (.aload_n 0, 1) := by decide +kernel
theorem dX8_searches_478 : decode cX8_searches 478 = .ok (.getfield 40, 3) := by decide +kernel
theorem dX8_searches_481 : decode cX8_searches 481 = .ok (.iload 5, 2) := by decide +kernel
theorem dX8_searches_483 : decode cX8_searches 483 = .ok (.iaload, 1) := by decide +kernel
theorem dX8_searches_484 : decode cX8_searches 484 = .ok (.istore 12, 2) := by decide +kernel
theorem dX8_searches_486 : decode cX8_searches 486 = .ok (.aload_n 0, 1) := by decide +kernel
theorem dX8_searches_487 : decode cX8_searches 487 = .ok (.iload 5, 2) := by decide +kernel
theorem dX8_searches_489 : decode cX8_searches 489 = .ok (.iconst 1, 1) := by decide +kernel
theorem dX8_searches_490 : decode cX8_searches 490 = .ok (.iadd, 1) := by decide +kernel
theorem dX8_searches_491 : decode cX8_searches 491 = .ok (.aload_n 0, 1) := by decide +kernel
theorem dX8_searches_492 : decode cX8_searches 492 = .ok (.getfield 34, 3) := by decide +kernel
theorem dX8_searches_495 : decode cX8_searches 495 = .ok (.iload 5, 2) := by decide +kernel
theorem dX8_searches_497 : decode cX8_searches 497 = .ok (.iaload, 1) := by decide +kernel
theorem dX8_searches_498 : decode cX8_searches 498 = .ok (.iload 11, 2) := by decide +kernel
theorem dX8_searches_500 : decode cX8_searches 500 = .ok (.invokestatic 74, 3) := by decide +kernel
theorem dX8_searches_503 : decode cX8_searches 503 = .ok (.aload_n 0, 1) := by decide +kernel
theorem dX8_searches_504 : decode cX8_searches 504 = .ok (.getfield 37, 3) := by decide +kernel
theorem dX8_searches_507 : decode cX8_searches 507 = .ok (.iload 5, 2) := by decide +kernel
theorem dX8_searches_509 : decode cX8_searches 509 = .ok (.iaload, 1) := by decide +kernel
theorem dX8_searches_510 : decode cX8_searches 510 = .ok (.iload 11, 2) := by decide +kernel
theorem dX8_searches_512 : decode cX8_searches 512 = .ok (.invokestatic 66, 3) := by decide +kernel
theorem dX8_searches_515 : decode cX8_searches 515 = .ok (.isub, 1) := by decide +kernel
theorem dX8_searches_516 : decode cX8_searches 516 = .ok (.aload_n 0, 1) := by decide +kernel
theorem dX8_searches_517 : decode cX8_searches 517 = .ok (.getfield 49, 3) := by decide +kernel
theorem dX8_searches_520 : decode cX8_searches 520 = .ok (.iload 5, 2) := by decide +kernel
theorem dX8_searches_522 : decode cX8_searches 522 = .ok (.iaload, 1) := by decide +kernel
theorem dX8_searches_523 : decode cX8_searches 523 = .ok (.aload_n 0, 1) := by decide +kernel
theorem dX8_searches_524 : decode cX8_searches 524 = .ok (.getfield 43, 3) := by decide +kernel
theorem dX8_searches_527 : decode cX8_searches 527 = .ok (.iload 5, 2) := by decide +kernel
theorem dX8_searches_529 : decode cX8_searches 529 = .ok (.iaload, 1) := by decide +kernel
theorem dX8_searches_530 : decode cX8_searches 530 = .ok (.isub, 1) := by decide +kernel
theorem dX8_searches_531 : decode cX8_searches 531 = .ok (.aload_n 0, 1) := by decide +kernel
theorem dX8_searches_532 : decode cX8_searches 532 = .ok (.getfield 49, 3) := by decide +kernel
theorem dX8_searches_535 : decode cX8_searches 535 = .ok (.iload 5, 2) := by decide +kernel
theorem dX8_searches_537 : decode cX8_searches 537 = .ok (.iaload, 1) := by decide +kernel
theorem dX8_searches_538 : decode cX8_searches 538 = .ok (.iload 12, 2) := by decide +kernel
theorem dX8_searches_540 : decode cX8_searches 540 = .ok (.isub, 1) := by decide +kernel
theorem dX8_searches_541 : decode cX8_searches 541 = .ok (.invokevirtual 149, 3) := by decide +kernel
theorem dX8_searches_544 : decode cX8_searches 544 = .ok (.iinc 5 1, 3) := by decide +kernel
theorem dX8_searches_547 : decode cX8_searches 547 = .ok (.iconst 1, 1) := by decide +kernel
theorem dX8_searches_548 : decode cX8_searches 548 = .ok (.istore 6, 2) := by decide +kernel
theorem dX8_searches_550 : decode cX8_searches 550 = .ok (.goto (-435), 3) := by decide +kernel
theorem dX8_searches_553 : decode cX8_searches 553 = .ok (.iload 7, 2) := by decide +kernel
theorem dX8_searches_555 : decode cX8_searches 555 = .ok (.ireturn, 1) := by decide +kernel
theorem dX8_search_0 : decode cX8_search 0 = .ok (.aload_n 0, 1) := by decide +kernel
theorem dX8_search_1 : decode cX8_search 1 = .ok (.iload_n 1, 1) := by decide +kernel
theorem dX8_search_2 : decode cX8_search 2 = .ok (.iconst 0, 1) := by decide +kernel
theorem dX8_search_3 : decode cX8_search 3 = .ok (.bipush 12, 2) := by decide +kernel
theorem dX8_search_5 : decode cX8_search 5 = .ok (.invokestatic 62, 3) := by decide +kernel
theorem dX8_search_8 : decode cX8_search 8 = .ok (.ifCond .eq 33, 3) := by decide +kernel
theorem dX8_search_11 : decode cX8_search 11 = .ok (.iload_n 2, 1) := by decide +kernel
theorem dX8_search_12 : decode cX8_search 12 = .ok (.sipush (-240), 3) := by decide +kernel
theorem dX8_search_15 : decode cX8_search 15 = .ok (.sipush 240, 3) := by decide +kernel
theorem dX8_search_18 : decode cX8_search 18 = .ok (.invokestatic 62, 3) := by decide +kernel
theorem dX8_search_21 : decode cX8_search 21 = .ok (.ifCond .eq 20, 3) := by decide +kernel
theorem dX8_search_24 : decode cX8_search 24 = .ok (.iload_n 3, 1) := by decide +kernel
theorem dX8_search_25 : decode cX8_search 25 = .ok (.iload_n 2, 1) := by decide +kernel
theorem dX8_search_26 : decode cX8_search 26 = .ok (.iconst 1, 1) := by decide +kernel
theorem dX8_search_27 : decode cX8_search 27 = .ok (.iadd, 1) := by decide +kernel
theorem dX8_search_28 : decode cX8_search 28 = .ok (.sipush 241, 3) := by decide +kernel
theorem dX8_search_31 : decode cX8_search 31 = .ok (.invokestatic 62, 3) := by decide +kernel
theorem dX8_search_34 : decode cX8_search 34 = .ok (.ifCond .eq 7, 3) := by decide +kernel
theorem dX8_search_37 : decode cX8_search 37 = .ok (.iconst 0, 1) := by decide +kernel
theorem dX8_search_38 : decode cX8_search 38 = .ok (.goto 4, 3) := by decide +kernel
theorem dX8_search_41 : decode cX8_search 41 = .ok (.iconst 1, 1) := by decide +kernel
theorem dX8_search_42 : decode cX8_search 42 = .ok (.invokevirtual 112, 3) := by decide +kernel
theorem dX8_search_45 : decode cX8_search 45 = .ok (.ifCond .eq 5, 3) := by decide +kernel
theorem dX8_search_48 : decode cX8_search 48 = .ok (.iconst 0, 1) := by decide +kernel
theorem dX8_search_49 : decode cX8_search 49 = .ok (.ireturn, 1) := by decide +kernel
theorem dX8_search_50 : decode cX8_search 50 = .ok (.aload_n 0, 1) := by decide +kernel
theorem dX8_search_51 : decode cX8_search 51 = .ok (.invokevirtual 116, 3) := by decide +kernel
theorem dX8_search_54 : decode cX8_search 54 = .ok (.aload_n 0, 1) := by decide +kernel
theorem dX8_search_55 : decode cX8_search 55 = .ok (.iload_n 1, 1) := by decide +kernel
theorem dX8_search_56 : decode cX8_search 56 = .ok (.iload_n 2, 1) := by decide +kernel
theorem dX8_search_57 : decode cX8_search 57 = .ok (.iload_n 3, 1) := by decide +kernel
theorem dX8_search_58 : decode cX8_search 58 = .ok (.aload_n 0, 1) := by decide +kernel
theorem dX8_search_59 : decode cX8_search 59 = .ok (.getfield 7, 3) := by decide +kernel
theorem dX8_search_62 : decode cX8_search 62 = .ok (.bipush 18, 2) := by decide +kernel
theorem dX8_search_64 : decode cX8_search 64 = .ok (.iaload, 1) := by decide +kernel
theorem dX8_search_65 : decode cX8_search 65 = .ok (.invokevirtual 164, 3) := by decide +kernel
theorem dX8_search_68 : decode cX8_search 68 = .ok (.istore 4, 2) := by decide +kernel
theorem dX8_search_70 : decode cX8_search 70 = .ok (.aload_n 0, 1) := by decide +kernel
theorem dX8_search_71 : decode cX8_search 71 = .ok (.getfield 7, 3) := by decide +kernel
theorem dX8_search_74 : decode cX8_search 74 = .ok (.bipush 21, 2) := by decide +kernel
theorem dX8_search_76 : decode cX8_search 76 = .ok (.iload 4, 2) := by decide +kernel
theorem dX8_search_78 : decode cX8_search 78 = .ok (.iastore, 1) := by decide +kernel
theorem dX8_search_79 : decode cX8_search 79 = .ok (.aload_n 0, 1) := by decide +kernel
theorem dX8_search_80 : decode cX8_search 80 = .ok (.getfield 7, 3) := by decide +kernel
theorem dX8_search_83 : decode cX8_search 83 = .ok (.bipush 22, 2) := by decide +kernel
theorem dX8_search_85 : decode cX8_search 85 = .ok (.aload_n 0, 1) := by decide +kernel
theorem dX8_search_86 : decode cX8_search 86 = .ok (.getfield 137, 3) := by decide +kernel
theorem dX8_search_89 : decode cX8_search 89 = .ok (.iastore, 1) := by decide +kernel
theorem dX8_search_90 : decode cX8_search 90 = .ok (.aload_n 0, 1) := by decide +kernel
theorem dX8_search_91 : decode cX8_search 91 = .ok (.getfield 7, 3) := by decide +kernel
theorem dX8_search_94 : decode cX8_search 94 = .ok (.bipush 23, 2) := by decide +kernel
theorem dX8_search_96 : decode cX8_search 96 = .ok (.aload_n 0, 1) := by decide +kernel
theorem dX8_search_97 : decode cX8_search 97 = .ok (.getfield 143, 3) := by decide +kernel
theorem dX8_search_100 : decode cX8_search 100 = .ok (.iastore, 1) := by decide +kernel
theorem dX8_search_101 : decode cX8_search 101 = .ok (.aload_n 0, 1) := by decide +kernel
theorem dX8_search_102 : decode cX8_search 102 = .ok (.getfield 7, 3) := by decide +kernel
theorem dX8_search_105 : decode cX8_search 105 = .ok (.bipush 24, 2) := by decide +kernel
theorem dX8_search_107 : decode cX8_search 107 = .ok (.aload_n 0, 1) := by decide +kernel
theorem dX8_search_108 : decode cX8_search 108 = .ok (.getfield 146, 3) := by decide +kernel
theorem dX8_search_111 : decode cX8_search 111 = .ok (.iastore, 1) := by decide +kernel
theorem dX8_search_112 : decode cX8_search 112 = .ok (.iconst 0, 1) := by decide +kernel
theorem dX8_search_113 : decode cX8_search 113 = .ok (.istore 5, 2) := by decide +kernel
theorem dX8_search_115 : decode cX8_search 115 = .ok (.iload 5, 2) := by decide +kernel
theorem dX8_search_117 : decode cX8_search 117 = .ok (.sipush 144, 3) := by decide +kernel
theorem dX8_search_120 : decode cX8_search 120 = .ok (.if_icmp .ge 62, 3) := by decide +kernel
theorem dX8_search_123 : decode cX8_search 123 = .ok (.aload_n 0, 1) := by decide +kernel
theorem dX8_search_124 : decode cX8_search 124 = .ok (.getfield 7, 3) := by decide +kernel
theorem dX8_search_127 : decode cX8_search 127 = .ok (.bipush 25, 2) := by decide +kernel
theorem dX8_search_129 : decode cX8_search 129 = .ok (.iload 5, 2) := by decide +kernel
theorem dX8_search_131 : decode cX8_search 131 = .ok (.iadd, 1) := by decide +kernel
theorem dX8_search_132 : decode cX8_search 132 = .ok (.aload_n 0, 1) := by decide +kernel
theorem dX8_search_133 : decode cX8_search 133 = .ok (.getfield 22, 3) := by decide +kernel
theorem dX8_search_136 : decode cX8_search 136 = .ok (.iload 5, 2) := by decide +kernel
theorem dX8_search_138 : decode cX8_search 138 = .ok (.iaload, 1) := by decide +kernel
theorem dX8_search_139 : decode cX8_search 139 = .ok (.iastore, 1) := by decide +kernel
theorem dX8_search_140 : decode cX8_search 140 = .ok (.aload_n 0, 1) := by decide +kernel
theorem dX8_search_141 : decode cX8_search 141 = .ok (.getfield 7, 3) := by decide +kernel
theorem dX8_search_144 : decode cX8_search 144 = .ok (.sipush 169, 3) := by decide +kernel
theorem dX8_search_147 : decode cX8_search 147 = .ok (.iload 5, 2) := by decide +kernel
theorem dX8_search_149 : decode cX8_search 149 = .ok (.iadd, 1) := by decide +kernel
theorem dX8_search_150 : decode cX8_search 150 = .ok (.aload_n 0, 1) := by decide +kernel
theorem dX8_search_151 : decode cX8_search 151 = .ok (.getfield 25, 3) := by decide +kernel
theorem dX8_search_154 : decode cX8_search 154 = .ok (.iload 5, 2) := by decide +kernel
theorem dX8_search_156 : decode cX8_search 156 = .ok (.iaload, 1) := by decide +kernel
theorem dX8_search_157 : decode cX8_search 157 = .ok (.iastore, 1) := by decide +kernel
theorem dX8_search_158 : decode cX8_search 158 = .ok (.aload_n 0, 1) := by decide +kernel
theorem dX8_search_159 : decode cX8_search 159 = .ok (.getfield 7, 3) := by decide +kernel
theorem dX8_search_162 : decode cX8_search 162 = .ok (.sipush 313, 3) := by decide +kernel
theorem dX8_search_165 : decode cX8_search 165 = .ok (.iload 5, 2) := by decide +kernel
theorem dX8_search_167 : decode cX8_search 167 = .ok (.iadd, 1) := by decide +kernel
theorem dX8_search_168 : decode cX8_search 168 = .ok (.aload_n 0, 1) := by decide +kernel
theorem dX8_search_169 : decode cX8_search 169 = .ok (.getfield 28, 3) := by decide +kernel
theorem dX8_search_172 : decode cX8_search 172 = .ok (.iload 5, 2) := by decide +kernel
theorem dX8_search_174 : decode cX8_search 174 = .ok (.iaload, 1) := by decide +kernel
theorem dX8_search_175 : decode cX8_search 175 = .ok (.iastore, 1) := by decide +kernel
theorem dX8_search_176 : decode cX8_search 176 = .ok (.iinc 5 1, 3) := by decide +kernel
theorem dX8_search_179 : decode cX8_search 179 = .ok (.goto (-64), 3) := by decide +kernel
theorem dX8_search_182 : decode cX8_search 182 = .ok (.iload 4, 2) := by decide +kernel
theorem dX8_search_184 : decode cX8_search 184 = .ok (.ireturn, 1) := by decide +kernel
theorem dX8_result_0 : decode cX8_result 0 = .ok (.aload_n 0, 1) := by decide +kernel
theorem dX8_result_1 : decode cX8_result 1 = .ok (.iconst 0, 1) := by decide +kernel
theorem dX8_result_2 : decode cX8_result 2 = .ok (.putfield 55, 3) := by decide +kernel
theorem dX8_result_5 : decode cX8_result 5 = .ok (.aload_n 0, 1) := by decide +kernel
theorem dX8_result_6 : decode cX8_result 6 = .ok (.getfield 7, 3) := by decide +kernel
theorem dX8_result_9 : decode cX8_result 9 = .ok (.bipush 21, 2) := by decide +kernel
theorem dX8_result_11 : decode cX8_result 11 = .ok (.iaload, 1) := by decide +kernel
theorem dX8_result_12 : decode cX8_result 12 = .ok (.ireturn, 1) := by decide +kernel
theorem dX8_nodes_0 : decode cX8_nodes 0 = .ok (.aload_n 0, 1) := by decide +kernel
theorem dX8_nodes_1 : decode cX8_nodes 1 = .ok (.iconst 0, 1) := by decide +kernel
theorem dX8_nodes_2 : decode cX8_nodes 2 = .ok (.putfield 55, 3) := by decide +kernel
theorem dX8_nodes_5 : decode cX8_nodes 5 = .ok (.aload_n 0, 1) := by decide +kernel
theorem dX8_nodes_6 : decode cX8_nodes 6 = .ok (.getfield 7, 3) := by decide +kernel
theorem dX8_nodes_9 : decode cX8_nodes 9 = .ok (.bipush 22, 2) := by decide +kernel
theorem dX8_nodes_11 : decode cX8_nodes 11 = .ok (.iaload, 1) := by decide +kernel
theorem dX8_nodes_12 : decode cX8_nodes 12 = .ok (.ireturn, 1) := by decide +kernel
theorem dX8_cuts_0 : decode cX8_cuts 0 = .ok (.aload_n 0, 1) := by decide +kernel
theorem dX8_cuts_1 : decode cX8_cuts 1 = .ok (.iconst 0, 1) := by decide +kernel
theorem dX8_cuts_2 : decode cX8_cuts 2 = .ok (.putfield 55, 3) := by decide +kernel
theorem dX8_cuts_5 : decode cX8_cuts 5 = .ok (.aload_n 0, 1) := by decide +kernel
theorem dX8_cuts_6 : decode cX8_cuts 6 = .ok (.getfield 7, 3) := by decide +kernel
theorem dX8_cuts_9 : decode cX8_cuts 9 = .ok (.bipush 23, 2) := by decide +kernel
theorem dX8_cuts_11 : decode cX8_cuts 11 = .ok (.iaload, 1) := by decide +kernel
theorem dX8_cuts_12 : decode cX8_cuts 12 = .ok (.ireturn, 1) := by decide +kernel
theorem dX8_hits_0 : decode cX8_hits 0 = .ok (.aload_n 0, 1) := by decide +kernel
theorem dX8_hits_1 : decode cX8_hits 1 = .ok (.iconst 0, 1) := by decide +kernel
theorem dX8_hits_2 : decode cX8_hits 2 = .ok (.putfield 55, 3) := by decide +kernel
theorem dX8_hits_5 : decode cX8_hits 5 = .ok (.aload_n 0, 1) := by decide +kernel
theorem dX8_hits_6 : decode cX8_hits 6 = .ok (.getfield 7, 3) := by decide +kernel
theorem dX8_hits_9 : decode cX8_hits 9 = .ok (.bipush 24, 2) := by decide +kernel
theorem dX8_hits_11 : decode cX8_hits 11 = .ok (.iaload, 1) := by decide +kernel
theorem dX8_hits_12 : decode cX8_hits 12 = .ok (.ireturn, 1) := by decide +kernel
theorem dX8_filled_0 : decode cX8_filled 0 = .ok (.iconst 0, 1) := by decide +kernel
theorem dX8_filled_1 : decode cX8_filled 1 = .ok (.istore_n 1, 1) := by decide +kernel
theorem dX8_filled_2 : decode cX8_filled 2 = .ok (.iconst 0, 1) := by decide +kernel
theorem dX8_filled_3 : decode cX8_filled 3 = .ok (.istore_n 2, 1) := by decide +kernel
theorem dX8_filled_4 : decode cX8_filled 4 = .ok (.iload_n 2, 1) := by decide +kernel
theorem dX8_filled_5 : decode cX8_filled 5 = .ok (.sipush 144, 3) := by decide +kernel
theorem dX8_filled_8 : decode cX8_filled 8 = .ok (.if_icmp .ge 29, 3) := by decide +kernel
theorem dX8_filled_11 : decode cX8_filled 11 = .ok (.iload_n 1, 1) := by decide +kernel
theorem dX8_filled_12 : decode cX8_filled 12 = .ok (.aload_n 0, 1) := by decide +kernel
theorem dX8_filled_13 : decode cX8_filled 13 = .ok (.getfield 7, 3) := by decide +kernel
theorem dX8_filled_16 : decode cX8_filled 16 = .ok (.bipush 25, 2) := by decide +kernel
theorem dX8_filled_18 : decode cX8_filled 18 = .ok (.iload_n 2, 1) := by decide +kernel
theorem dX8_filled_19 : decode cX8_filled 19 = .ok (.iadd, 1) := by decide +kernel
theorem dX8_filled_20 : decode cX8_filled 20 = .ok (.iaload, 1) := by decide +kernel
theorem dX8_filled_21 : decode cX8_filled 21 = .ok (.ifCond .ne 7, 3) := by decide +kernel
theorem dX8_filled_24 : decode cX8_filled 24 = .ok (.iconst 0, 1) := by decide +kernel
theorem dX8_filled_25 : decode cX8_filled 25 = .ok (.goto 4, 3) := by decide +kernel
theorem dX8_filled_28 : decode cX8_filled 28 = .ok (.iconst 1, 1) := by decide +kernel
theorem dX8_filled_29 : decode cX8_filled 29 = .ok (.iadd, 1) := by decide +kernel
theorem dX8_filled_30 : decode cX8_filled 30 = .ok (.istore_n 1, 1) := by decide +kernel
theorem dX8_filled_31 : decode cX8_filled 31 = .ok (.iinc 2 1, 3) := by decide +kernel
theorem dX8_filled_34 : decode cX8_filled 34 = .ok (.goto (-30), 3) := by decide +kernel
theorem dX8_filled_37 : decode cX8_filled 37 = .ok (.iload_n 1, 1) := by decide +kernel
theorem dX8_filled_38 : decode cX8_filled 38 = .ok (.ireturn, 1) := by decide +kernel
theorem dX8_entries_0 : decode cX8_entries 0 = .ok (.aload_n 0, 1) := by decide +kernel
theorem dX8_entries_1 : decode cX8_entries 1 = .ok (.iconst 0, 1) := by decide +kernel
theorem dX8_entries_2 : decode cX8_entries 2 = .ok (.putfield 55, 3) := by decide +kernel
theorem dX8_entries_5 : decode cX8_entries 5 = .ok (.aload_n 0, 1) := by decide +kernel
theorem dX8_entries_6 : decode cX8_entries 6 = .ok (.invokevirtual 168, 3) := by decide +kernel
theorem dX8_entries_9 : decode cX8_entries 9 = .ok (.ireturn, 1) := by decide +kernel
theorem dX8_valueAt_0 : decode cX8_valueAt 0 = .ok (.aload_n 0, 1) := by decide +kernel
theorem dX8_valueAt_1 : decode cX8_valueAt 1 = .ok (.getfield 7, 3) := by decide +kernel
theorem dX8_valueAt_4 : decode cX8_valueAt 4 = .ok (.bipush 25, 2) := by decide +kernel
theorem dX8_valueAt_6 : decode cX8_valueAt 6 = .ok (.iload_n 1, 1) := by decide +kernel
theorem dX8_valueAt_7 : decode cX8_valueAt 7 = .ok (.iadd, 1) := by decide +kernel
theorem dX8_valueAt_8 : decode cX8_valueAt 8 = .ok (.iaload, 1) := by decide +kernel
theorem dX8_valueAt_9 : decode cX8_valueAt 9 = .ok (.ifCond .ne 9, 3) := by decide +kernel
theorem dX8_valueAt_12 : decode cX8_valueAt 12 = .ok (.sipush (-999), 3) := by decide +kernel
theorem dX8_valueAt_15 : decode cX8_valueAt 15 = .ok (.goto 13, 3) := by decide +kernel
theorem dX8_valueAt_18 : decode cX8_valueAt 18 = .ok (.aload_n 0, 1) := by decide +kernel
theorem dX8_valueAt_19 : decode cX8_valueAt 19 = .ok (.getfield 7, 3) := by decide +kernel
theorem dX8_valueAt_22 : decode cX8_valueAt 22 = .ok (.sipush 313, 3) := by decide +kernel
theorem dX8_valueAt_25 : decode cX8_valueAt 25 = .ok (.iload_n 1, 1) := by decide +kernel
theorem dX8_valueAt_26 : decode cX8_valueAt 26 = .ok (.iadd, 1) := by decide +kernel
theorem dX8_valueAt_27 : decode cX8_valueAt 27 = .ok (.iaload, 1) := by decide +kernel
theorem dX8_valueAt_28 : decode cX8_valueAt 28 = .ok (.ireturn, 1) := by decide +kernel
theorem dX8_entryKind_0 : decode cX8_entryKind 0 = .ok (.aload_n 0, 1) := by decide +kernel
theorem dX8_entryKind_1 : decode cX8_entryKind 1 = .ok (.iload_n 1, 1) := by decide +kernel
theorem dX8_entryKind_2 : decode cX8_entryKind 2 = .ok (.iconst 0, 1) := by decide +kernel
theorem dX8_entryKind_3 : decode cX8_entryKind 3 = .ok (.bipush 11, 2) := by decide +kernel
theorem dX8_entryKind_5 : decode cX8_entryKind 5 = .ok (.invokestatic 62, 3) := by decide +kernel
theorem dX8_entryKind_8 : decode cX8_entryKind 8 = .ok (.ifCond .eq 17, 3) := by decide +kernel
theorem dX8_entryKind_11 : decode cX8_entryKind 11 = .ok (.iload_n 2, 1) := by decide +kernel
theorem dX8_entryKind_12 : decode cX8_entryKind 12 = .ok (.iconst 1, 1) := by decide +kernel
theorem dX8_entryKind_13 : decode cX8_entryKind 13 = .ok (.bipush 12, 2) := by decide +kernel
theorem dX8_entryKind_15 : decode cX8_entryKind 15 = .ok (.invokestatic 62, 3) := by decide +kernel
theorem dX8_entryKind_18 : decode cX8_entryKind 18 = .ok (.ifCond .eq 7, 3) := by decide +kernel
theorem dX8_entryKind_21 : decode cX8_entryKind 21 = .ok (.iconst 0, 1) := by decide +kernel
theorem dX8_entryKind_22 : decode cX8_entryKind 22 = .ok (.goto 4, 3) := by decide +kernel
theorem dX8_entryKind_25 : decode cX8_entryKind 25 = .ok (.iconst 1, 1) := by decide +kernel
theorem dX8_entryKind_26 : decode cX8_entryKind 26 = .ok (.invokevirtual 112, 3) := by decide +kernel
theorem dX8_entryKind_29 : decode cX8_entryKind 29 = .ok (.ifCond .eq 5, 3) := by decide +kernel
theorem dX8_entryKind_32 : decode cX8_entryKind 32 = .ok (.iconst 0, 1) := by decide +kernel
theorem dX8_entryKind_33 : decode cX8_entryKind 33 = .ok (.ireturn, 1) := by decide +kernel
theorem dX8_entryKind_34 : decode cX8_entryKind 34 = .ok (.aload_n 0, 1) := by decide +kernel
theorem dX8_entryKind_35 : decode cX8_entryKind 35 = .ok (.getfield 7, 3) := by decide +kernel
theorem dX8_entryKind_38 : decode cX8_entryKind 38 = .ok (.bipush 25, 2) := by decide +kernel
theorem dX8_entryKind_40 : decode cX8_entryKind 40 = .ok (.iload_n 1, 1) := by decide +kernel
theorem dX8_entryKind_41 : decode cX8_entryKind 41 = .ok (.iload_n 2, 1) := by decide +kernel
theorem dX8_entryKind_42 : decode cX8_entryKind 42 = .ok (.invokestatic 134, 3) := by decide +kernel
theorem dX8_entryKind_45 : decode cX8_entryKind 45 = .ok (.iadd, 1) := by decide +kernel
theorem dX8_entryKind_46 : decode cX8_entryKind 46 = .ok (.iaload, 1) := by decide +kernel
theorem dX8_entryKind_47 : decode cX8_entryKind 47 = .ok (.ireturn, 1) := by decide +kernel
theorem dX8_entryValue_0 : decode cX8_entryValue 0 = .ok (.aload_n 0, 1) := by decide +kernel
theorem dX8_entryValue_1 : decode cX8_entryValue 1 = .ok (.iload_n 1, 1) := by decide +kernel
theorem dX8_entryValue_2 : decode cX8_entryValue 2 = .ok (.iconst 0, 1) := by decide +kernel
theorem dX8_entryValue_3 : decode cX8_entryValue 3 = .ok (.bipush 11, 2) := by decide +kernel
theorem dX8_entryValue_5 : decode cX8_entryValue 5 = .ok (.invokestatic 62, 3) := by decide +kernel
theorem dX8_entryValue_8 : decode cX8_entryValue 8 = .ok (.ifCond .eq 17, 3) := by decide +kernel
theorem dX8_entryValue_11 : decode cX8_entryValue 11 = .ok (.iload_n 2, 1) := by decide +kernel
theorem dX8_entryValue_12 : decode cX8_entryValue 12 = .ok (.iconst 1, 1) := by decide +kernel
theorem dX8_entryValue_13 : decode cX8_entryValue 13 = .ok (.bipush 12, 2) := by decide +kernel
theorem dX8_entryValue_15 : decode cX8_entryValue 15 = .ok (.invokestatic 62, 3) := by decide +kernel
theorem dX8_entryValue_18 : decode cX8_entryValue 18 = .ok (.ifCond .eq 7, 3) := by decide +kernel
theorem dX8_entryValue_21 : decode cX8_entryValue 21 = .ok (.iconst 0, 1) := by decide +kernel
theorem dX8_entryValue_22 : decode cX8_entryValue 22 = .ok (.goto 4, 3) := by decide +kernel
theorem dX8_entryValue_25 : decode cX8_entryValue 25 = .ok (.iconst 1, 1) := by decide +kernel
theorem dX8_entryValue_26 : decode cX8_entryValue 26 = .ok (.invokevirtual 112, 3) := by decide +kernel
theorem dX8_entryValue_29 : decode cX8_entryValue 29 = .ok (.ifCond .eq 5, 3) := by decide +kernel
theorem dX8_entryValue_32 : decode cX8_entryValue 32 = .ok (.iconst 0, 1) := by decide +kernel
theorem dX8_entryValue_33 : decode cX8_entryValue 33 = .ok (.ireturn, 1) := by decide +kernel
theorem dX8_entryValue_34 : decode cX8_entryValue 34 = .ok (.aload_n 0, 1) := by decide +kernel
theorem dX8_entryValue_35 : decode cX8_entryValue 35 = .ok (.iload_n 1, 1) := by decide +kernel
theorem dX8_entryValue_36 : decode cX8_entryValue 36 = .ok (.iload_n 2, 1) := by decide +kernel
theorem dX8_entryValue_37 : decode cX8_entryValue 37 = .ok (.invokestatic 134, 3) := by decide +kernel
theorem dX8_entryValue_40 : decode cX8_entryValue 40 = .ok (.invokevirtual 171, 3) := by decide +kernel
theorem dX8_entryValue_43 : decode cX8_entryValue 43 = .ok (.ireturn, 1) := by decide +kernel
theorem dX8_hitShare_0 : decode cX8_hitShare 0 = .ok (.aload_n 0, 1) := by decide +kernel
theorem dX8_hitShare_1 : decode cX8_hitShare 1 = .ok (.iconst 0, 1) := by decide +kernel
theorem dX8_hitShare_2 : decode cX8_hitShare 2 = .ok (.putfield 55, 3) := by decide +kernel
theorem dX8_hitShare_5 : decode cX8_hitShare 5 = .ok (.aload_n 0, 1) := by decide +kernel
theorem dX8_hitShare_6 : decode cX8_hitShare 6 = .ok (.getfield 7, 3) := by decide +kernel
theorem dX8_hitShare_9 : decode cX8_hitShare 9 = .ok (.bipush 22, 2) := by decide +kernel
theorem dX8_hitShare_11 : decode cX8_hitShare 11 = .ok (.iaload, 1) := by decide +kernel
theorem dX8_hitShare_12 : decode cX8_hitShare 12 = .ok (.ifCond .ne 7, 3) := by decide +kernel
theorem dX8_hitShare_15 : decode cX8_hitShare 15 = .ok (.dconst 0, 1) := by decide +kernel
theorem dX8_hitShare_16 : decode cX8_hitShare 16 = .ok (.goto 20, 3) := by decide +kernel
theorem dX8_hitShare_19 : decode cX8_hitShare 19 = .ok (.aload_n 0, 1) := by decide +kernel
theorem dX8_hitShare_20 : decode cX8_hitShare 20 = .ok (.getfield 7, 3) := by decide +kernel
theorem dX8_hitShare_23 : decode cX8_hitShare 23 = .ok (.bipush 24, 2) := by decide +kernel
theorem dX8_hitShare_25 : decode cX8_hitShare 25 = .ok (.iaload, 1) := by decide +kernel
theorem dX8_hitShare_26 : decode cX8_hitShare 26 = .ok (.i2d, 1) := by decide +kernel
theorem dX8_hitShare_27 : decode cX8_hitShare 27 = .ok (.aload_n 0, 1) := by decide +kernel
theorem dX8_hitShare_28 : decode cX8_hitShare 28 = .ok (.getfield 7, 3) := by decide +kernel
theorem dX8_hitShare_31 : decode cX8_hitShare 31 = .ok (.bipush 22, 2) := by decide +kernel
theorem dX8_hitShare_33 : decode cX8_hitShare 33 = .ok (.iaload, 1) := by decide +kernel
theorem dX8_hitShare_34 : decode cX8_hitShare 34 = .ok (.i2d, 1) := by decide +kernel
theorem dX8_hitShare_35 : decode cX8_hitShare 35 = .ok (.ddiv, 1) := by decide +kernel
theorem dX8_hitShare_36 : decode cX8_hitShare 36 = .ok (.dreturn, 1) := by decide +kernel
theorem dX8_setOrder_0 : decode cX8_setOrder 0 = .ok (.aload_n 0, 1) := by decide +kernel
theorem dX8_setOrder_1 : decode cX8_setOrder 1 = .ok (.iload_n 1, 1) := by decide +kernel
theorem dX8_setOrder_2 : decode cX8_setOrder 2 = .ok (.iconst 0, 1) := by decide +kernel
theorem dX8_setOrder_3 : decode cX8_setOrder 3 = .ok (.bipush 23, 2) := by decide +kernel
theorem dX8_setOrder_5 : decode cX8_setOrder 5 = .ok (.invokestatic 62, 3) := by decide +kernel
theorem dX8_setOrder_8 : decode cX8_setOrder 8 = .ok (.ifCond .eq 7, 3) := by decide +kernel
theorem dX8_setOrder_11 : decode cX8_setOrder 11 = .ok (.iconst 0, 1) := by decide +kernel
theorem dX8_setOrder_12 : decode cX8_setOrder 12 = .ok (.goto 4, 3) := by decide +kernel
theorem dX8_setOrder_15 : decode cX8_setOrder 15 = .ok (.iconst 1, 1) := by decide +kernel
theorem dX8_setOrder_16 : decode cX8_setOrder 16 = .ok (.invokevirtual 112, 3) := by decide +kernel
theorem dX8_setOrder_19 : decode cX8_setOrder 19 = .ok (.ifCond .eq 5, 3) := by decide +kernel
theorem dX8_setOrder_22 : decode cX8_setOrder 22 = .ok (.iconst 0, 1) := by decide +kernel
theorem dX8_setOrder_23 : decode cX8_setOrder 23 = .ok (.ireturn, 1) := by decide +kernel
theorem dX8_setOrder_24 : decode cX8_setOrder 24 = .ok (.aload_n 0, 1) := by decide +kernel
theorem dX8_setOrder_25 : decode cX8_setOrder 25 = .ok (.invokevirtual 116, 3) := by decide +kernel
theorem dX8_setOrder_28 : decode cX8_setOrder 28 = .ok (.aload_n 0, 1) := by decide +kernel
theorem dX8_setOrder_29 : decode cX8_setOrder 29 = .ok (.getfield 7, 3) := by decide +kernel
theorem dX8_setOrder_32 : decode cX8_setOrder 32 = .ok (.bipush 18, 2) := by decide +kernel
theorem dX8_setOrder_34 : decode cX8_setOrder 34 = .ok (.iaload, 1) := by decide +kernel
theorem dX8_setOrder_35 : decode cX8_setOrder 35 = .ok (.istore_n 2, 1) := by decide +kernel
theorem dX8_setOrder_36 : decode cX8_setOrder 36 = .ok (.aload_n 0, 1) := by decide +kernel
theorem dX8_setOrder_37 : decode cX8_setOrder 37 = .ok (.getfield 7, 3) := by decide +kernel
theorem dX8_setOrder_40 : decode cX8_setOrder 40 = .ok (.bipush 18, 2) := by decide +kernel
theorem dX8_setOrder_42 : decode cX8_setOrder 42 = .ok (.iload_n 1, 1) := by decide +kernel
theorem dX8_setOrder_43 : decode cX8_setOrder 43 = .ok (.iastore, 1) := by decide +kernel
theorem dX8_setOrder_44 : decode cX8_setOrder 44 = .ok (.iload_n 2, 1) := by decide +kernel
theorem dX8_setOrder_45 : decode cX8_setOrder 45 = .ok (.ireturn, 1) := by decide +kernel
theorem dX8_order_0 : decode cX8_order 0 = .ok (.aload_n 0, 1) := by decide +kernel
theorem dX8_order_1 : decode cX8_order 1 = .ok (.iload_n 1, 1) := by decide +kernel
theorem dX8_order_2 : decode cX8_order 2 = .ok (.iconst 0, 1) := by decide +kernel
theorem dX8_order_3 : decode cX8_order 3 = .ok (.iconst 3, 1) := by decide +kernel
theorem dX8_order_4 : decode cX8_order 4 = .ok (.invokestatic 62, 3) := by decide +kernel
theorem dX8_order_7 : decode cX8_order 7 = .ok (.ifCond .eq 7, 3) := by decide +kernel
theorem dX8_order_10 : decode cX8_order 10 = .ok (.iconst 0, 1) := by decide +kernel
theorem dX8_order_11 : decode cX8_order 11 = .ok (.goto 4, 3) := by decide +kernel
theorem dX8_order_14 : decode cX8_order 14 = .ok (.iconst 1, 1) := by decide +kernel
theorem dX8_order_15 : decode cX8_order 15 = .ok (.invokevirtual 112, 3) := by decide +kernel
theorem dX8_order_18 : decode cX8_order 18 = .ok (.ifCond .eq 5, 3) := by decide +kernel
theorem dX8_order_21 : decode cX8_order 21 = .ok (.iconst 0, 1) := by decide +kernel
theorem dX8_order_22 : decode cX8_order 22 = .ok (.ireturn, 1) := by decide +kernel
theorem dX8_order_23 : decode cX8_order 23 = .ok (.aload_n 0, 1) := by decide +kernel
theorem dX8_order_24 : decode cX8_order 24 = .ok (.getfield 7, 3) := by decide +kernel
theorem dX8_order_27 : decode cX8_order 27 = .ok (.bipush 18, 2) := by decide +kernel
theorem dX8_order_29 : decode cX8_order 29 = .ok (.iaload, 1) := by decide +kernel
theorem dX8_order_30 : decode cX8_order 30 = .ok (.iload_n 1, 1) := by decide +kernel
theorem dX8_order_31 : decode cX8_order 31 = .ok (.invokestatic 140, 3) := by decide +kernel
theorem dX8_order_34 : decode cX8_order 34 = .ok (.ireturn, 1) := by decide +kernel
theorem dX8_setLimit_0 : decode cX8_setLimit 0 = .ok (.aload_n 0, 1) := by decide +kernel
theorem dX8_setLimit_1 : decode cX8_setLimit 1 = .ok (.iload_n 1, 1) := by decide +kernel
theorem dX8_setLimit_2 : decode cX8_setLimit 2 = .ok (.iconst 1, 1) := by decide +kernel
theorem dX8_setLimit_3 : decode cX8_setLimit 3 = .ok (.sipush 5000, 3) := by decide +kernel
theorem dX8_setLimit_6 : decode cX8_setLimit 6 = .ok (.invokestatic 62, 3) := by decide +kernel
theorem dX8_setLimit_9 : decode cX8_setLimit 9 = .ok (.ifCond .eq 7, 3) := by decide +kernel
theorem dX8_setLimit_12 : decode cX8_setLimit 12 = .ok (.iconst 0, 1) := by decide +kernel
theorem dX8_setLimit_13 : decode cX8_setLimit 13 = .ok (.goto 4, 3) := by decide +kernel
theorem dX8_setLimit_16 : decode cX8_setLimit 16 = .ok (.iconst 1, 1) := by decide +kernel
theorem dX8_setLimit_17 : decode cX8_setLimit 17 = .ok (.invokevirtual 112, 3) := by decide +kernel
theorem dX8_setLimit_20 : decode cX8_setLimit 20 = .ok (.ifCond .eq 5, 3) := by decide +kernel
theorem dX8_setLimit_23 : decode cX8_setLimit 23 = .ok (.iconst 0, 1) := by decide +kernel
theorem dX8_setLimit_24 : decode cX8_setLimit 24 = .ok (.ireturn, 1) := by decide +kernel
theorem dX8_setLimit_25 : decode cX8_setLimit 25 = .ok (.aload_n 0, 1) := by decide +kernel
theorem dX8_setLimit_26 : decode cX8_setLimit 26 = .ok (.invokevirtual 116, 3) := by decide +kernel
theorem dX8_setLimit_29 : decode cX8_setLimit 29 = .ok (.aload_n 0, 1) := by decide +kernel
theorem dX8_setLimit_30 : decode cX8_setLimit 30 = .ok (.getfield 7, 3) := by decide +kernel
theorem dX8_setLimit_33 : decode cX8_setLimit 33 = .ok (.bipush 19, 2) := by decide +kernel
theorem dX8_setLimit_35 : decode cX8_setLimit 35 = .ok (.iaload, 1) := by decide +kernel
theorem dX8_setLimit_36 : decode cX8_setLimit 36 = .ok (.istore_n 2, 1) := by decide +kernel
theorem dX8_setLimit_37 : decode cX8_setLimit 37 = .ok (.aload_n 0, 1) := by decide +kernel
theorem dX8_setLimit_38 : decode cX8_setLimit 38 = .ok (.getfield 7, 3) := by decide +kernel
theorem dX8_setLimit_41 : decode cX8_setLimit 41 = .ok (.bipush 19, 2) := by decide +kernel
theorem dX8_setLimit_43 : decode cX8_setLimit 43 = .ok (.iload_n 1, 1) := by decide +kernel
theorem dX8_setLimit_44 : decode cX8_setLimit 44 = .ok (.iastore, 1) := by decide +kernel
theorem dX8_setLimit_45 : decode cX8_setLimit 45 = .ok (.iload_n 2, 1) := by decide +kernel
theorem dX8_setLimit_46 : decode cX8_setLimit 46 = .ok (.ireturn, 1) := by decide +kernel
theorem dX8_useTable_0 : decode cX8_useTable 0 = .ok (.aload_n 0, 1) := by decide +kernel
theorem dX8_useTable_1 : decode cX8_useTable 1 = .ok (.iconst 0, 1) := by decide +kernel
theorem dX8_useTable_2 : decode cX8_useTable 2 = .ok (.putfield 55, 3) := by decide +kernel
theorem dX8_useTable_5 : decode cX8_useTable 5 = .ok (.aload_n 0, 1) := by decide +kernel
theorem dX8_useTable_6 : decode cX8_useTable 6 = .ok (.invokevirtual 116, 3) := by decide +kernel
theorem dX8_useTable_9 : decode cX8_useTable 9 = .ok (.aload_n 0, 1) := by decide +kernel
theorem dX8_useTable_10 : decode cX8_useTable 10 = .ok (.getfield 7, 3) := by decide +kernel
theorem dX8_useTable_13 : decode cX8_useTable 13 = .ok (.bipush 20, 2) := by decide +kernel
theorem dX8_useTable_15 : decode cX8_useTable 15 = .ok (.iaload, 1) := by decide +kernel
theorem dX8_useTable_16 : decode cX8_useTable 16 = .ok (.ifCond .ne 7, 3) := by decide +kernel
theorem dX8_useTable_19 : decode cX8_useTable 19 = .ok (.iconst 1, 1) := by decide +kernel
theorem dX8_useTable_20 : decode cX8_useTable 20 = .ok (.goto 4, 3) := by decide +kernel
theorem dX8_useTable_23 : decode cX8_useTable 23 = .ok (.iconst 0, 1) := by decide +kernel
theorem dX8_useTable_24 : decode cX8_useTable 24 = .ok (.istore_n 2, 1) := by decide +kernel
theorem dX8_useTable_25 : decode cX8_useTable 25 = .ok (.aload_n 0, 1) := by decide +kernel
theorem dX8_useTable_26 : decode cX8_useTable 26 = .ok (.getfield 7, 3) := by decide +kernel
theorem dX8_useTable_29 : decode cX8_useTable 29 = .ok (.bipush 20, 2) := by decide +kernel
theorem dX8_useTable_31 : decode cX8_useTable 31 = .ok (.iload_n 1, 1) := by decide +kernel
theorem dX8_useTable_32 : decode cX8_useTable 32 = .ok (.ifCond .eq 7, 3) := by decide +kernel
theorem dX8_useTable_35 : decode cX8_useTable 35 = .ok (.iconst 0, 1) := by decide +kernel
theorem dX8_useTable_36 : decode cX8_useTable 36 = .ok (.goto 4, 3) := by decide +kernel
theorem dX8_useTable_39 : decode cX8_useTable 39 = .ok (.iconst 1, 1) := by decide +kernel
theorem dX8_useTable_40 : decode cX8_useTable 40 = .ok (.iastore, 1) := by decide +kernel
theorem dX8_useTable_41 : decode cX8_useTable 41 = .ok (.iload_n 2, 1) := by decide +kernel
theorem dX8_useTable_42 : decode cX8_useTable 42 = .ok (.ireturn, 1) := by decide +kernel
theorem dX8_nodesBy_0 : decode cX8_nodesBy 0 = .ok (.aload_n 0, 1) := by decide +kernel
theorem dX8_nodesBy_1 : decode cX8_nodesBy 1 = .ok (.bipush 12, 2) := by decide +kernel
theorem dX8_nodesBy_3 : decode cX8_nodesBy 3 = .ok (.sipush (-240), 3) := by decide +kernel
theorem dX8_nodesBy_6 : decode cX8_nodesBy 6 = .ok (.sipush 241, 3) := by decide +kernel
theorem dX8_nodesBy_9 : decode cX8_nodesBy 9 = .ok (.iload_n 1, 1) := by decide +kernel
theorem dX8_nodesBy_10 : decode cX8_nodesBy 10 = .ok (.invokevirtual 164, 3) := by decide +kernel
theorem dX8_nodesBy_13 : decode cX8_nodesBy 13 = .ok (.istore_n 2, 1) := by decide +kernel
theorem dX8_nodesBy_14 : decode cX8_nodesBy 14 = .ok (.aload_n 0, 1) := by decide +kernel
theorem dX8_nodesBy_15 : decode cX8_nodesBy 15 = .ok (.getfield 137, 3) := by decide +kernel
theorem dX8_nodesBy_18 : decode cX8_nodesBy 18 = .ok (.ireturn, 1) := by decide +kernel
theorem dX8_nodesWith_0 : decode cX8_nodesWith 0 = .ok (.aload_n 0, 1) := by decide +kernel
theorem dX8_nodesWith_1 : decode cX8_nodesWith 1 = .ok (.iload_n 1, 1) := by decide +kernel
theorem dX8_nodesWith_2 : decode cX8_nodesWith 2 = .ok (.iconst 0, 1) := by decide +kernel
theorem dX8_nodesWith_3 : decode cX8_nodesWith 3 = .ok (.bipush 23, 2) := by decide +kernel
theorem dX8_nodesWith_5 : decode cX8_nodesWith 5 = .ok (.invokestatic 62, 3) := by decide +kernel
theorem dX8_nodesWith_8 : decode cX8_nodesWith 8 = .ok (.ifCond .eq 7, 3) := by decide +kernel
theorem dX8_nodesWith_11 : decode cX8_nodesWith 11 = .ok (.iconst 0, 1) := by decide +kernel
theorem dX8_nodesWith_12 : decode cX8_nodesWith 12 = .ok (.goto 4, 3) := by decide +kernel
theorem dX8_nodesWith_15 : decode cX8_nodesWith 15 = .ok (.iconst 1, 1) := by decide +kernel
theorem dX8_nodesWith_16 : decode cX8_nodesWith 16 = .ok (.invokevirtual 112, 3) := by decide +kernel
theorem dX8_nodesWith_19 : decode cX8_nodesWith 19 = .ok (.ifCond .eq 5, 3) := by decide +kernel
theorem dX8_nodesWith_22 : decode cX8_nodesWith 22 = .ok (.iconst 0, 1) := by decide +kernel
theorem dX8_nodesWith_23 : decode cX8_nodesWith 23 = .ok (.ireturn, 1) := by decide +kernel
theorem dX8_nodesWith_24 : decode cX8_nodesWith 24 = .ok (.aload_n 0, 1) := by decide +kernel
theorem dX8_nodesWith_25 : decode cX8_nodesWith 25 = .ok (.iload_n 1, 1) := by decide +kernel
theorem dX8_nodesWith_26 : decode cX8_nodesWith 26 = .ok (.invokevirtual 174, 3) := by decide +kernel
theorem dX8_nodesWith_29 : decode cX8_nodesWith 29 = .ok (.ireturn, 1) := by decide +kernel
theorem dX8_bestOrder_0 : decode cX8_bestOrder 0 = .ok (.aload_n 0, 1) := by decide +kernel
theorem dX8_bestOrder_1 : decode cX8_bestOrder 1 = .ok (.iconst 0, 1) := by decide +kernel
theorem dX8_bestOrder_2 : decode cX8_bestOrder 2 = .ok (.putfield 55, 3) := by decide +kernel
theorem dX8_bestOrder_5 : decode cX8_bestOrder 5 = .ok (.iconst 0, 1) := by decide +kernel
theorem dX8_bestOrder_6 : decode cX8_bestOrder 6 = .ok (.istore_n 1, 1) := by decide +kernel
theorem dX8_bestOrder_7 : decode cX8_bestOrder 7 = .ok (.aload_n 0, 1) := by decide +kernel
theorem dX8_bestOrder_8 : decode cX8_bestOrder 8 = .ok (.iconst 0, 1) := by decide +kernel
theorem dX8_bestOrder_9 : decode cX8_bestOrder 9 = .ok (.invokevirtual 174, 3) := by decide +kernel
theorem dX8_bestOrder_12 : decode cX8_bestOrder 12 = .ok (.istore_n 2, 1) := by decide +kernel
theorem dX8_bestOrder_13 : decode cX8_bestOrder 13 = .ok (.iconst 1, 1) := by decide +kernel
theorem dX8_bestOrder_14 : decode cX8_bestOrder 14 = .ok (.istore_n 3, 1) := by decide +kernel
theorem dX8_bestOrder_15 : decode cX8_bestOrder 15 = .ok (.iload_n 3, 1) := by decide +kernel
theorem dX8_bestOrder_16 : decode cX8_bestOrder 16 = .ok (.bipush 24, 2) := by decide +kernel
theorem dX8_bestOrder_18 : decode cX8_bestOrder 18 = .ok (.if_icmp .ge 41, 3) := by decide +kernel
theorem dX8_bestOrder_21 : decode cX8_bestOrder 21 = .ok (.aload_n 0, 1) := by decide +kernel
theorem dX8_bestOrder_22 : decode cX8_bestOrder 22 = .ok (.iload_n 3, 1) := by decide +kernel
theorem dX8_bestOrder_23 : decode cX8_bestOrder 23 = .ok (.invokevirtual 174, 3) := by decide +kernel
theorem dX8_bestOrder_26 : decode cX8_bestOrder 26 = .ok (.istore 4, 2) := by decide +kernel
theorem dX8_bestOrder_28 : decode cX8_bestOrder 28 = .ok (.iload 4, 2) := by decide +kernel
theorem dX8_bestOrder_30 : decode cX8_bestOrder 30 = .ok (.iload_n 2, 1) := by decide +kernel
theorem dX8_bestOrder_31 : decode cX8_bestOrder 31 = .ok (.if_icmp .ge 7, 3) := by decide +kernel
theorem dX8_bestOrder_34 : decode cX8_bestOrder 34 = .ok (.iload_n 3, 1) := by decide +kernel
theorem dX8_bestOrder_35 : decode cX8_bestOrder 35 = .ok (.goto 4, 3) := by decide +kernel
theorem dX8_bestOrder_38 : decode cX8_bestOrder 38 = .ok (.iload_n 1, 1) := by decide +kernel
theorem dX8_bestOrder_39 : decode cX8_bestOrder 39 = .ok (.istore_n 1, 1) := by decide +kernel
theorem dX8_bestOrder_40 : decode cX8_bestOrder 40 = .ok (.iload 4, 2) := by decide +kernel
theorem dX8_bestOrder_42 : decode cX8_bestOrder 42 = .ok (.iload_n 2, 1) := by decide +kernel
theorem dX8_bestOrder_43 : decode cX8_bestOrder 43 = .ok (.if_icmp .ge 8, 3) := by decide +kernel
theorem dX8_bestOrder_46 : decode cX8_bestOrder 46 = .ok (.iload 4, 2) := by decide +kernel
theorem dX8_bestOrder_48 : decode cX8_bestOrder 48 = .ok (.goto 4, 3) := by decide +kernel
theorem dX8_bestOrder_51 : decode cX8_bestOrder 51 = .ok (.iload_n 2, 1) := by decide +kernel
theorem dX8_bestOrder_52 : decode cX8_bestOrder 52 = .ok (.istore_n 2, 1) := by decide +kernel
theorem dX8_bestOrder_53 : decode cX8_bestOrder 53 = .ok (.iinc 3 1, 3) := by decide +kernel
theorem dX8_bestOrder_56 : decode cX8_bestOrder 56 = .ok (.goto (-41), 3) := by decide +kernel
theorem dX8_bestOrder_59 : decode cX8_bestOrder 59 = .ok (.iload_n 1, 1) := by decide +kernel
theorem dX8_bestOrder_60 : decode cX8_bestOrder 60 = .ok (.ireturn, 1) := by decide +kernel
theorem dX8_append_0 : decode cX8_append 0 = .ok (.aload_n 0, 1) := by decide +kernel
theorem dX8_append_1 : decode cX8_append 1 = .ok (.iload_n 1, 1) := by decide +kernel
theorem dX8_append_2 : decode cX8_append 2 = .ok (.bipush 33, 2) := by decide +kernel
theorem dX8_append_4 : decode cX8_append 4 = .ok (.bipush 126, 2) := by decide +kernel
theorem dX8_append_6 : decode cX8_append 6 = .ok (.invokestatic 62, 3) := by decide +kernel
theorem dX8_append_9 : decode cX8_append 9 = .ok (.ifCond .ne 7, 3) := by decide +kernel
theorem dX8_append_12 : decode cX8_append 12 = .ok (.iconst 1, 1) := by decide +kernel
theorem dX8_append_13 : decode cX8_append 13 = .ok (.goto 17, 3) := by decide +kernel
theorem dX8_append_16 : decode cX8_append 16 = .ok (.aload_n 0, 1) := by decide +kernel
theorem dX8_append_17 : decode cX8_append 17 = .ok (.getfield 90, 3) := by decide +kernel
theorem dX8_append_20 : decode cX8_append 20 = .ok (.bipush 60, 2) := by decide +kernel
theorem dX8_append_22 : decode cX8_append 22 = .ok (.if_icmp .ne 7, 3) := by decide +kernel
theorem dX8_append_25 : decode cX8_append 25 = .ok (.iconst 2, 1) := by decide +kernel
theorem dX8_append_26 : decode cX8_append 26 = .ok (.goto 4, 3) := by decide +kernel
theorem dX8_append_29 : decode cX8_append 29 = .ok (.iconst 0, 1) := by decide +kernel
theorem dX8_append_30 : decode cX8_append 30 = .ok (.invokevirtual 112, 3) := by decide +kernel
theorem dX8_append_33 : decode cX8_append 33 = .ok (.ifCond .eq 5, 3) := by decide +kernel
theorem dX8_append_36 : decode cX8_append 36 = .ok (.iconst 0, 1) := by decide +kernel
theorem dX8_append_37 : decode cX8_append 37 = .ok (.ireturn, 1) := by decide +kernel
theorem dX8_append_38 : decode cX8_append 38 = .ok (.aload_n 0, 1) := by decide +kernel
theorem dX8_append_39 : decode cX8_append 39 = .ok (.getfield 16, 3) := by decide +kernel
theorem dX8_append_42 : decode cX8_append 42 = .ok (.aload_n 0, 1) := by decide +kernel
theorem dX8_append_43 : decode cX8_append 43 = .ok (.getfield 90, 3) := by decide +kernel
theorem dX8_append_46 : decode cX8_append 46 = .ok (.iload_n 1, 1) := by decide +kernel
theorem dX8_append_47 : decode cX8_append 47 = .ok (.iastore, 1) := by decide +kernel
theorem dX8_append_48 : decode cX8_append 48 = .ok (.aload_n 0, 1) := by decide +kernel
theorem dX8_append_49 : decode cX8_append 49 = .ok (.dup, 1) := by decide +kernel
theorem dX8_append_50 : decode cX8_append 50 = .ok (.getfield 90, 3) := by decide +kernel
theorem dX8_append_53 : decode cX8_append 53 = .ok (.iconst 1, 1) := by decide +kernel
theorem dX8_append_54 : decode cX8_append 54 = .ok (.iadd, 1) := by decide +kernel
theorem dX8_append_55 : decode cX8_append 55 = .ok (.putfield 90, 3) := by decide +kernel
theorem dX8_append_58 : decode cX8_append 58 = .ok (.aload_n 0, 1) := by decide +kernel
theorem dX8_append_59 : decode cX8_append 59 = .ok (.getfield 90, 3) := by decide +kernel
theorem dX8_append_62 : decode cX8_append 62 = .ok (.ireturn, 1) := by decide +kernel
theorem dX8_clearText_0 : decode cX8_clearText 0 = .ok (.aload_n 0, 1) := by decide +kernel
theorem dX8_clearText_1 : decode cX8_clearText 1 = .ok (.iconst 0, 1) := by decide +kernel
theorem dX8_clearText_2 : decode cX8_clearText 2 = .ok (.putfield 55, 3) := by decide +kernel
theorem dX8_clearText_5 : decode cX8_clearText 5 = .ok (.aload_n 0, 1) := by decide +kernel
theorem dX8_clearText_6 : decode cX8_clearText 6 = .ok (.getfield 90, 3) := by decide +kernel
theorem dX8_clearText_9 : decode cX8_clearText 9 = .ok (.istore_n 1, 1) := by decide +kernel
theorem dX8_clearText_10 : decode cX8_clearText 10 = .ok (.aload_n 0, 1) := by decide +kernel
theorem dX8_clearText_11 : decode cX8_clearText 11 = .ok (.iconst 0, 1) := by decide +kernel
theorem dX8_clearText_12 : decode cX8_clearText 12 = .ok (.putfield 90, 3) := by decide +kernel
theorem dX8_clearText_15 : decode cX8_clearText 15 = .ok (.iload_n 1, 1) := by decide +kernel
theorem dX8_clearText_16 : decode cX8_clearText 16 = .ok (.ireturn, 1) := by decide +kernel
theorem dX8_firstError_0 : decode cX8_firstError 0 = .ok (.aload_n 0, 1) := by decide +kernel
theorem dX8_firstError_1 : decode cX8_firstError 1 = .ok (.iconst 0, 1) := by decide +kernel
theorem dX8_firstError_2 : decode cX8_firstError 2 = .ok (.putfield 55, 3) := by decide +kernel
theorem dX8_firstError_5 : decode cX8_firstError 5 = .ok (.aload_n 0, 1) := by decide +kernel
theorem dX8_firstError_6 : decode cX8_firstError 6 = .ok (.iconst 0, 1) := by decide +kernel
theorem dX8_firstError_7 : decode cX8_firstError 7 = .ok (.invokevirtual 108, 3) := by decide +kernel
theorem dX8_firstError_10 : decode cX8_firstError 10 = .ok (.ifCond .eq 10, 3) := by decide +kernel
theorem dX8_firstError_13 : decode cX8_firstError 13 = .ok (.aload_n 0, 1) := by decide +kernel
theorem dX8_firstError_14 : decode cX8_firstError 14 = .ok (.getfield 90, 3) := by decide +kernel
theorem dX8_firstError_17 : decode cX8_firstError 17 = .ok (.goto 7, 3) := by decide +kernel
theorem dX8_firstError_20 : decode cX8_firstError 20 = .ok (.aload_n 0, 1) := by decide +kernel
theorem dX8_firstError_21 : decode cX8_firstError 21 = .ok (.getfield 87, 3) := by decide +kernel
theorem dX8_firstError_24 : decode cX8_firstError 24 = .ok (.ireturn, 1) := by decide +kernel
theorem dX8_undo_0 : decode cX8_undo 0 = .ok (.aload_n 0, 1) := by decide +kernel
theorem dX8_undo_1 : decode cX8_undo 1 = .ok (.aload_n 0, 1) := by decide +kernel
theorem dX8_undo_2 : decode cX8_undo 2 = .ok (.getfield 59, 3) := by decide +kernel
theorem dX8_undo_5 : decode cX8_undo 5 = .ok (.ifCond .ne 7, 3) := by decide +kernel
theorem dX8_undo_8 : decode cX8_undo 8 = .ok (.iconst 1, 1) := by decide +kernel
theorem dX8_undo_9 : decode cX8_undo 9 = .ok (.goto 4, 3) := by decide +kernel
theorem dX8_undo_12 : decode cX8_undo 12 = .ok (.iconst 0, 1) := by decide +kernel
theorem dX8_undo_13 : decode cX8_undo 13 = .ok (.invokevirtual 112, 3) := by decide +kernel
theorem dX8_undo_16 : decode cX8_undo 16 = .ok (.ifCond .eq 5, 3) := by decide +kernel
theorem dX8_undo_19 : decode cX8_undo 19 = .ok (.iconst 0, 1) := by decide +kernel
theorem dX8_undo_20 : decode cX8_undo 20 = .ok (.ireturn, 1) := by decide +kernel
theorem dX8_undo_21 : decode cX8_undo 21 = .ok (.aload_n 0, 1) := by decide +kernel
theorem dX8_undo_22 : decode cX8_undo 22 = .ok (.dup, 1) := by decide +kernel
theorem dX8_undo_23 : decode cX8_undo 23 = .ok (.getfield 59, 3) := by decide +kernel
theorem dX8_undo_26 : decode cX8_undo 26 = .ok (.iconst 1, 1) := by decide +kernel
theorem dX8_undo_27 : decode cX8_undo 27 = .ok (.isub, 1) := by decide +kernel
theorem dX8_undo_28 : decode cX8_undo 28 = .ok (.putfield 59, 3) := by decide +kernel
theorem dX8_undo_31 : decode cX8_undo 31 = .ok (.iconst 0, 1) := by decide +kernel
theorem dX8_undo_32 : decode cX8_undo 32 = .ok (.istore_n 1, 1) := by decide +kernel
theorem dX8_undo_33 : decode cX8_undo 33 = .ok (.iload_n 1, 1) := by decide +kernel
theorem dX8_undo_34 : decode cX8_undo 34 = .ok (.sipush 457, 3) := by decide +kernel
theorem dX8_undo_37 : decode cX8_undo 37 = .ok (.if_icmp .ge 30, 3) := by decide +kernel
theorem dX8_undo_40 : decode cX8_undo 40 = .ok (.aload_n 0, 1) := by decide +kernel
theorem dX8_undo_41 : decode cX8_undo 41 = .ok (.getfield 7, 3) := by decide +kernel
theorem dX8_undo_44 : decode cX8_undo 44 = .ok (.iload_n 1, 1) := by decide +kernel
theorem dX8_undo_45 : decode cX8_undo 45 = .ok (.aload_n 0, 1) := by decide +kernel
theorem dX8_undo_46 : decode cX8_undo 46 = .ok (.getfield 13, 3) := by decide +kernel
theorem dX8_undo_49 : decode cX8_undo 49 = .ok (.sipush 457, 3) := by decide +kernel
theorem dX8_undo_52 : decode cX8_undo 52 = .ok (.aload_n 0, 1) := by decide +kernel
theorem dX8_undo_53 : decode cX8_undo 53 = .ok (.getfield 59, 3) := by decide +kernel
theorem dX8_undo_56 : decode cX8_undo 56 = .ok (.imul, 1) := by decide +kernel
theorem dX8_undo_57 : decode cX8_undo 57 = .ok (.iload_n 1, 1) := by decide +kernel
theorem dX8_undo_58 : decode cX8_undo 58 = .ok (.iadd, 1) := by decide +kernel
theorem dX8_undo_59 : decode cX8_undo 59 = .ok (.iaload, 1) := by decide +kernel
theorem dX8_undo_60 : decode cX8_undo 60 = .ok (.iastore, 1) := by decide +kernel
theorem dX8_undo_61 : decode cX8_undo 61 = .ok (.iinc 1 1, 3) := by decide +kernel
theorem dX8_undo_64 : decode cX8_undo 64 = .ok (.goto (-31), 3) := by decide +kernel
theorem dX8_undo_67 : decode cX8_undo 67 = .ok (.aload_n 0, 1) := by decide +kernel
theorem dX8_undo_68 : decode cX8_undo 68 = .ok (.getfield 59, 3) := by decide +kernel
theorem dX8_undo_71 : decode cX8_undo 71 = .ok (.ireturn, 1) := by decide +kernel
theorem dX8_savedStates_0 : decode cX8_savedStates 0 = .ok (.aload_n 0, 1) := by decide +kernel
theorem dX8_savedStates_1 : decode cX8_savedStates 1 = .ok (.iconst 0, 1) := by decide +kernel
theorem dX8_savedStates_2 : decode cX8_savedStates 2 = .ok (.putfield 55, 3) := by decide +kernel
theorem dX8_savedStates_5 : decode cX8_savedStates 5 = .ok (.aload_n 0, 1) := by decide +kernel
theorem dX8_savedStates_6 : decode cX8_savedStates 6 = .ok (.getfield 59, 3) := by decide +kernel
theorem dX8_savedStates_9 : decode cX8_savedStates 9 = .ok (.ireturn, 1) := by decide +kernel
theorem dX8_digest_0 : decode cX8_digest 0 = .ok (.aload_n 0, 1) := by decide +kernel
theorem dX8_digest_1 : decode cX8_digest 1 = .ok (.iconst 0, 1) := by decide +kernel
theorem dX8_digest_2 : decode cX8_digest 2 = .ok (.putfield 55, 3) := by decide +kernel
theorem dX8_digest_5 : decode cX8_digest 5 = .ok (.aload_n 0, 1) := by decide +kernel
theorem dX8_digest_6 : decode cX8_digest 6 = .ok (.invokevirtual 125, 3) := by decide +kernel
theorem dX8_digest_9 : decode cX8_digest 9 = .ok (.ldc2_w 177, 3) := by decide +kernel
theorem dX8_digest_12 : decode cX8_digest 12 = .ok (.aload_n 0, 1) := by decide +kernel
theorem dX8_digest_13 : decode cX8_digest 13 = .ok (.getfield 7, 3) := by decide +kernel
theorem dX8_digest_16 : decode cX8_digest 16 = .ok (.bipush 15, 2) := by decide +kernel
theorem dX8_digest_18 : decode cX8_digest 18 = .ok (.iaload, 1) := by decide +kernel
theorem dX8_digest_19 : decode cX8_digest 19 = .ok (.i2l, 1) := by decide +kernel
theorem dX8_digest_20 : decode cX8_digest 20 = .ok (.ladd, 1) := by decide +kernel
theorem dX8_digest_21 : decode cX8_digest 21 = .ok (.lstore_n 1, 1) := by decide +kernel
theorem dX8_digest_22 : decode cX8_digest 22 = .ok (.ldc2_w 179, 3) := by decide +kernel
theorem dX8_digest_25 : decode cX8_digest 25 = .ok (.lload_n 1, 1) := by decide +kernel
theorem dX8_digest_26 : decode cX8_digest 26 = .ok (.lmul, 1) := by decide +kernel
theorem dX8_digest_27 : decode cX8_digest 27 = .ok (.aload_n 0, 1) := by decide +kernel
theorem dX8_digest_28 : decode cX8_digest 28 = .ok (.getfield 7, 3) := by decide +kernel
theorem dX8_digest_31 : decode cX8_digest 31 = .ok (.bipush 14, 2) := by decide +kernel
theorem dX8_digest_33 : decode cX8_digest 33 = .ok (.iaload, 1) := by decide +kernel
theorem dX8_digest_34 : decode cX8_digest 34 = .ok (.i2l, 1) := by decide +kernel
theorem dX8_digest_35 : decode cX8_digest 35 = .ok (.ladd, 1) := by decide +kernel
theorem dX8_digest_36 : decode cX8_digest 36 = .ok (.lstore_n 1, 1) := by decide +kernel
theorem dX8_digest_37 : decode cX8_digest 37 = .ok (.ldc2_w 179, 3) := by decide +kernel
theorem dX8_digest_40 : decode cX8_digest 40 = .ok (.lload_n 1, 1) := by decide +kernel
theorem dX8_digest_41 : decode cX8_digest 41 = .ok (.lmul, 1) := by decide +kernel
theorem dX8_digest_42 : decode cX8_digest 42 = .ok (.aload_n 0, 1) := by decide +kernel
theorem dX8_digest_43 : decode cX8_digest 43 = .ok (.getfield 7, 3) := by decide +kernel
theorem dX8_digest_46 : decode cX8_digest 46 = .ok (.bipush 16, 2) := by decide +kernel
theorem dX8_digest_48 : decode cX8_digest 48 = .ok (.iaload, 1) := by decide +kernel
theorem dX8_digest_49 : decode cX8_digest 49 = .ok (.i2l, 1) := by decide +kernel
theorem dX8_digest_50 : decode cX8_digest 50 = .ok (.ladd, 1) := by decide +kernel
theorem dX8_digest_51 : decode cX8_digest 51 = .ok (.lstore_n 1, 1) := by decide +kernel
theorem dX8_digest_52 : decode cX8_digest 52 = .ok (.ldc2_w 179, 3) := by decide +kernel
theorem dX8_digest_55 : decode cX8_digest 55 = .ok (.lload_n 1, 1) := by decide +kernel
theorem dX8_digest_56 : decode cX8_digest 56 = .ok (.lmul, 1) := by decide +kernel
theorem dX8_digest_57 : decode cX8_digest 57 = .ok (.aload_n 0, 1) := by decide +kernel
theorem dX8_digest_58 : decode cX8_digest 58 = .ok (.getfield 7, 3) := by decide +kernel
theorem dX8_digest_61 : decode cX8_digest 61 = .ok (.bipush 17, 2) := by decide +kernel
theorem dX8_digest_63 : decode cX8_digest 63 = .ok (.iaload, 1) := by decide +kernel
theorem dX8_digest_64 : decode cX8_digest 64 = .ok (.i2l, 1) := by decide +kernel
theorem dX8_digest_65 : decode cX8_digest 65 = .ok (.ladd, 1) := by decide +kernel
theorem dX8_digest_66 : decode cX8_digest 66 = .ok (.lstore_n 1, 1) := by decide +kernel
theorem dX8_digest_67 : decode cX8_digest 67 = .ok (.ldc2_w 179, 3) := by decide +kernel
theorem dX8_digest_70 : decode cX8_digest 70 = .ok (.lload_n 1, 1) := by decide +kernel
theorem dX8_digest_71 : decode cX8_digest 71 = .ok (.lmul, 1) := by decide +kernel
theorem dX8_digest_72 : decode cX8_digest 72 = .ok (.aload_n 0, 1) := by decide +kernel
theorem dX8_digest_73 : decode cX8_digest 73 = .ok (.getfield 19, 3) := by decide +kernel
theorem dX8_digest_76 : decode cX8_digest 76 = .ok (.aload_n 0, 1) := by decide +kernel
theorem dX8_digest_77 : decode cX8_digest 77 = .ok (.getfield 7, 3) := by decide +kernel
theorem dX8_digest_80 : decode cX8_digest 80 = .ok (.bipush 13, 2) := by decide +kernel
theorem dX8_digest_82 : decode cX8_digest 82 = .ok (.iaload, 1) := by decide +kernel
theorem dX8_digest_83 : decode cX8_digest 83 = .ok (.aload_n 0, 1) := by decide +kernel
theorem dX8_digest_84 : decode cX8_digest 84 = .ok (.getfield 7, 3) := by decide +kernel
theorem dX8_digest_87 : decode cX8_digest 87 = .ok (.bipush 14, 2) := by decide +kernel
theorem dX8_digest_89 : decode cX8_digest 89 = .ok (.iaload, 1) := by decide +kernel
theorem dX8_digest_90 : decode cX8_digest 90 = .ok (.invokestatic 78, 3) := by decide +kernel
theorem dX8_digest_93 : decode cX8_digest 93 = .ok (.iaload, 1) := by decide +kernel
theorem dX8_digest_94 : decode cX8_digest 94 = .ok (.i2l, 1) := by decide +kernel
theorem dX8_digest_95 : decode cX8_digest 95 = .ok (.ladd, 1) := by decide +kernel
theorem dX8_digest_96 : decode cX8_digest 96 = .ok (.lstore_n 1, 1) := by decide +kernel
theorem dX8_digest_97 : decode cX8_digest 97 = .ok (.ldc2_w 179, 3) := by decide +kernel
theorem dX8_digest_100 : decode cX8_digest 100 = .ok (.lload_n 1, 1) := by decide +kernel
theorem dX8_digest_101 : decode cX8_digest 101 = .ok (.lmul, 1) := by decide +kernel
theorem dX8_digest_102 : decode cX8_digest 102 = .ok (.aload_n 0, 1) := by decide +kernel
theorem dX8_digest_103 : decode cX8_digest 103 = .ok (.invokevirtual 131, 3) := by decide +kernel
theorem dX8_digest_106 : decode cX8_digest 106 = .ok (.i2l, 1) := by decide +kernel
theorem dX8_digest_107 : decode cX8_digest 107 = .ok (.ladd, 1) := by decide +kernel
theorem dX8_digest_108 : decode cX8_digest 108 = .ok (.lstore_n 1, 1) := by decide +kernel
theorem dX8_digest_109 : decode cX8_digest 109 = .ok (.ldc2_w 179, 3) := by decide +kernel
theorem dX8_digest_112 : decode cX8_digest 112 = .ok (.lload_n 1, 1) := by decide +kernel
theorem dX8_digest_113 : decode cX8_digest 113 = .ok (.lmul, 1) := by decide +kernel
theorem dX8_digest_114 : decode cX8_digest 114 = .ok (.aload_n 0, 1) := by decide +kernel
theorem dX8_digest_115 : decode cX8_digest 115 = .ok (.getfield 7, 3) := by decide +kernel
theorem dX8_digest_118 : decode cX8_digest 118 = .ok (.bipush 21, 2) := by decide +kernel
theorem dX8_digest_120 : decode cX8_digest 120 = .ok (.iaload, 1) := by decide +kernel
theorem dX8_digest_121 : decode cX8_digest 121 = .ok (.i2l, 1) := by decide +kernel
theorem dX8_digest_122 : decode cX8_digest 122 = .ok (.ladd, 1) := by decide +kernel
theorem dX8_digest_123 : decode cX8_digest 123 = .ok (.lstore_n 1, 1) := by decide +kernel
theorem dX8_digest_124 : decode cX8_digest 124 = .ok (.ldc2_w 179, 3) := by decide +kernel
theorem dX8_digest_127 : decode cX8_digest 127 = .ok (.lload_n 1, 1) := by decide +kernel
theorem dX8_digest_128 : decode cX8_digest 128 = .ok (.lmul, 1) := by decide +kernel
theorem dX8_digest_129 : decode cX8_digest 129 = .ok (.aload_n 0, 1) := by decide +kernel
theorem dX8_digest_130 : decode cX8_digest 130 = .ok (.getfield 7, 3) := by decide +kernel
theorem dX8_digest_133 : decode cX8_digest 133 = .ok (.bipush 22, 2) := by decide +kernel
theorem dX8_digest_135 : decode cX8_digest 135 = .ok (.iaload, 1) := by decide +kernel
theorem dX8_digest_136 : decode cX8_digest 136 = .ok (.i2l, 1) := by decide +kernel
theorem dX8_digest_137 : decode cX8_digest 137 = .ok (.ladd, 1) := by decide +kernel
theorem dX8_digest_138 : decode cX8_digest 138 = .ok (.lstore_n 1, 1) := by decide +kernel
theorem dX8_digest_139 : decode cX8_digest 139 = .ok (.ldc2_w 179, 3) := by decide +kernel
theorem dX8_digest_142 : decode cX8_digest 142 = .ok (.lload_n 1, 1) := by decide +kernel
theorem dX8_digest_143 : decode cX8_digest 143 = .ok (.lmul, 1) := by decide +kernel
theorem dX8_digest_144 : decode cX8_digest 144 = .ok (.aload_n 0, 1) := by decide +kernel
theorem dX8_digest_145 : decode cX8_digest 145 = .ok (.getfield 7, 3) := by decide +kernel
theorem dX8_digest_148 : decode cX8_digest 148 = .ok (.bipush 23, 2) := by decide +kernel
theorem dX8_digest_150 : decode cX8_digest 150 = .ok (.iaload, 1) := by decide +kernel
theorem dX8_digest_151 : decode cX8_digest 151 = .ok (.i2l, 1) := by decide +kernel
theorem dX8_digest_152 : decode cX8_digest 152 = .ok (.ladd, 1) := by decide +kernel
theorem dX8_digest_153 : decode cX8_digest 153 = .ok (.lstore_n 1, 1) := by decide +kernel
theorem dX8_digest_154 : decode cX8_digest 154 = .ok (.ldc2_w 179, 3) := by decide +kernel
theorem dX8_digest_157 : decode cX8_digest 157 = .ok (.lload_n 1, 1) := by decide +kernel
theorem dX8_digest_158 : decode cX8_digest 158 = .ok (.lmul, 1) := by decide +kernel
theorem dX8_digest_159 : decode cX8_digest 159 = .ok (.aload_n 0, 1) := by decide +kernel
theorem dX8_digest_160 : decode cX8_digest 160 = .ok (.getfield 7, 3) := by decide +kernel
theorem dX8_digest_163 : decode cX8_digest 163 = .ok (.bipush 24, 2) := by decide +kernel
theorem dX8_digest_165 : decode cX8_digest 165 = .ok (.iaload, 1) := by decide +kernel
theorem dX8_digest_166 : decode cX8_digest 166 = .ok (.i2l, 1) := by decide +kernel
theorem dX8_digest_167 : decode cX8_digest 167 = .ok (.ladd, 1) := by decide +kernel
theorem dX8_digest_168 : decode cX8_digest 168 = .ok (.lstore_n 1, 1) := by decide +kernel
theorem dX8_digest_169 : decode cX8_digest 169 = .ok (.ldc2_w 179, 3) := by decide +kernel
theorem dX8_digest_172 : decode cX8_digest 172 = .ok (.lload_n 1, 1) := by decide +kernel
theorem dX8_digest_173 : decode cX8_digest 173 = .ok (.lmul, 1) := by decide +kernel
theorem dX8_digest_174 : decode cX8_digest 174 = .ok (.aload_n 0, 1) := by decide +kernel
theorem dX8_digest_175 : decode cX8_digest 175 = .ok (.invokevirtual 168, 3) := by decide +kernel
theorem dX8_digest_178 : decode cX8_digest 178 = .ok (.i2l, 1) := by decide +kernel
theorem dX8_digest_179 : decode cX8_digest 179 = .ok (.ladd, 1) := by decide +kernel
theorem dX8_digest_180 : decode cX8_digest 180 = .ok (.lstore_n 1, 1) := by decide +kernel
theorem dX8_digest_181 : decode cX8_digest 181 = .ok (.iconst 0, 1) := by decide +kernel
theorem dX8_digest_182 : decode cX8_digest 182 = .ok (.istore_n 3, 1) := by decide +kernel
theorem dX8_digest_183 : decode cX8_digest 183 = .ok (.iload_n 3, 1) := by decide +kernel
theorem dX8_digest_184 : decode cX8_digest 184 = .ok (.aload_n 0, 1) := by decide +kernel
theorem dX8_digest_185 : decode cX8_digest 185 = .ok (.getfield 7, 3) := by decide +kernel
theorem dX8_digest_188 : decode cX8_digest 188 = .ok (.bipush 14, 2) := by decide +kernel
theorem dX8_digest_190 : decode cX8_digest 190 = .ok (.iaload, 1) := by decide +kernel
theorem dX8_digest_191 : decode cX8_digest 191 = .ok (.if_icmp .ge 33, 3) := by decide +kernel
theorem dX8_digest_194 : decode cX8_digest 194 = .ok (.ldc2_w 179, 3) := by decide +kernel
theorem dX8_digest_197 : decode cX8_digest 197 = .ok (.lload_n 1, 1) := by decide +kernel
theorem dX8_digest_198 : decode cX8_digest 198 = .ok (.lmul, 1) := by decide +kernel
theorem dX8_digest_199 : decode cX8_digest 199 = .ok (.aload_n 0, 1) := by decide +kernel
theorem dX8_digest_200 : decode cX8_digest 200 = .ok (.getfield 7, 3) := by decide +kernel
theorem dX8_digest_203 : decode cX8_digest 203 = .ok (.iconst 1, 1) := by decide +kernel
theorem dX8_digest_204 : decode cX8_digest 204 = .ok (.aload_n 0, 1) := by decide +kernel
theorem dX8_digest_205 : decode cX8_digest 205 = .ok (.getfield 7, 3) := by decide +kernel
theorem dX8_digest_208 : decode cX8_digest 208 = .ok (.bipush 13, 2) := by decide +kernel
theorem dX8_digest_210 : decode cX8_digest 210 = .ok (.iaload, 1) := by decide +kernel
theorem dX8_digest_211 : decode cX8_digest 211 = .ok (.iadd, 1) := by decide +kernel
theorem dX8_digest_212 : decode cX8_digest 212 = .ok (.iload_n 3, 1) := by decide +kernel
theorem dX8_digest_213 : decode cX8_digest 213 = .ok (.iadd, 1) := by decide +kernel
theorem dX8_digest_214 : decode cX8_digest 214 = .ok (.iaload, 1) := by decide +kernel
theorem dX8_digest_215 : decode cX8_digest 215 = .ok (.i2l, 1) := by decide +kernel
theorem dX8_digest_216 : decode cX8_digest 216 = .ok (.ladd, 1) := by decide +kernel
theorem dX8_digest_217 : decode cX8_digest 217 = .ok (.lstore_n 1, 1) := by decide +kernel
theorem dX8_digest_218 : decode cX8_digest 218 = .ok (.iinc 3 1, 3) := by decide +kernel
theorem dX8_digest_221 : decode cX8_digest 221 = .ok (.goto (-38), 3) := by decide +kernel
theorem dX8_digest_224 : decode cX8_digest 224 = .ok (.iconst 0, 1) := by decide +kernel
theorem dX8_digest_225 : decode cX8_digest 225 = .ok (.istore_n 3, 1) := by decide +kernel
theorem dX8_digest_226 : decode cX8_digest 226 = .ok (.aload_n 0, 1) := by decide +kernel
theorem dX8_digest_227 : decode cX8_digest 227 = .ok (.iload_n 3, 1) := by decide +kernel
theorem dX8_digest_228 : decode cX8_digest 228 = .ok (.invokevirtual 128, 3) := by decide +kernel
theorem dX8_digest_231 : decode cX8_digest 231 = .ok (.sipush (-999), 3) := by decide +kernel
theorem dX8_digest_234 : decode cX8_digest 234 = .ok (.if_icmp .eq 22, 3) := by decide +kernel
theorem dX8_digest_237 : decode cX8_digest 237 = .ok (.ldc2_w 179, 3) := by decide +kernel
theorem dX8_digest_240 : decode cX8_digest 240 = .ok (.lload_n 1, 1) := by decide +kernel
theorem dX8_digest_241 : decode cX8_digest 241 = .ok (.lmul, 1) := by decide +kernel
theorem dX8_digest_242 : decode cX8_digest 242 = .ok (.aload_n 0, 1) := by decide +kernel
theorem dX8_digest_243 : decode cX8_digest 243 = .ok (.iload_n 3, 1) := by decide +kernel
theorem dX8_digest_244 : decode cX8_digest 244 = .ok (.invokevirtual 128, 3) := by decide +kernel
theorem dX8_digest_247 : decode cX8_digest 247 = .ok (.i2l, 1) := by decide +kernel
theorem dX8_digest_248 : decode cX8_digest 248 = .ok (.ladd, 1) := by decide +kernel
theorem dX8_digest_249 : decode cX8_digest 249 = .ok (.lstore_n 1, 1) := by decide +kernel
theorem dX8_digest_250 : decode cX8_digest 250 = .ok (.iinc 3 1, 3) := by decide +kernel
theorem dX8_digest_253 : decode cX8_digest 253 = .ok (.goto (-27), 3) := by decide +kernel
theorem dX8_digest_256 : decode cX8_digest 256 = .ok (.iconst 0, 1) := by decide +kernel
theorem dX8_digest_257 : decode cX8_digest 257 = .ok (.istore_n 3, 1) := by decide +kernel
theorem dX8_digest_258 : decode cX8_digest 258 = .ok (.iload_n 3, 1) := by decide +kernel
theorem dX8_digest_259 : decode cX8_digest 259 = .ok (.iconst 4, 1) := by decide +kernel
theorem dX8_digest_260 : decode cX8_digest 260 = .ok (.if_icmp .ge 28, 3) := by decide +kernel
theorem dX8_digest_263 : decode cX8_digest 263 = .ok (.ldc2_w 179, 3) := by decide +kernel
theorem dX8_digest_266 : decode cX8_digest 266 = .ok (.lload_n 1, 1) := by decide +kernel
theorem dX8_digest_267 : decode cX8_digest 267 = .ok (.lmul, 1) := by decide +kernel
theorem dX8_digest_268 : decode cX8_digest 268 = .ok (.aload_n 0, 1) := by decide +kernel
theorem dX8_digest_269 : decode cX8_digest 269 = .ok (.getfield 7, 3) := by decide +kernel
theorem dX8_digest_272 : decode cX8_digest 272 = .ok (.bipush 18, 2) := by decide +kernel
theorem dX8_digest_274 : decode cX8_digest 274 = .ok (.iaload, 1) := by decide +kernel
theorem dX8_digest_275 : decode cX8_digest 275 = .ok (.iload_n 3, 1) := by decide +kernel
theorem dX8_digest_276 : decode cX8_digest 276 = .ok (.invokestatic 140, 3) := by decide +kernel
theorem dX8_digest_279 : decode cX8_digest 279 = .ok (.i2l, 1) := by decide +kernel
theorem dX8_digest_280 : decode cX8_digest 280 = .ok (.ladd, 1) := by decide +kernel
theorem dX8_digest_281 : decode cX8_digest 281 = .ok (.lstore_n 1, 1) := by decide +kernel
theorem dX8_digest_282 : decode cX8_digest 282 = .ok (.iinc 3 1, 3) := by decide +kernel
theorem dX8_digest_285 : decode cX8_digest 285 = .ok (.goto (-27), 3) := by decide +kernel
theorem dX8_digest_288 : decode cX8_digest 288 = .ok (.iconst 0, 1) := by decide +kernel
theorem dX8_digest_289 : decode cX8_digest 289 = .ok (.istore_n 3, 1) := by decide +kernel
theorem dX8_digest_290 : decode cX8_digest 290 = .ok (.iload_n 3, 1) := by decide +kernel
theorem dX8_digest_291 : decode cX8_digest 291 = .ok (.sipush 144, 3) := by decide +kernel
theorem dX8_digest_294 : decode cX8_digest 294 = .ok (.if_icmp .ge 39, 3) := by decide +kernel
theorem dX8_digest_297 : decode cX8_digest 297 = .ok (.ldc2_w 179, 3) := by decide +kernel
theorem dX8_digest_300 : decode cX8_digest 300 = .ok (.lload_n 1, 1) := by decide +kernel
theorem dX8_digest_301 : decode cX8_digest 301 = .ok (.lmul, 1) := by decide +kernel
theorem dX8_digest_302 : decode cX8_digest 302 = .ok (.aload_n 0, 1) := by decide +kernel
theorem dX8_digest_303 : decode cX8_digest 303 = .ok (.getfield 7, 3) := by decide +kernel
theorem dX8_digest_306 : decode cX8_digest 306 = .ok (.bipush 25, 2) := by decide +kernel
theorem dX8_digest_308 : decode cX8_digest 308 = .ok (.iload_n 3, 1) := by decide +kernel
theorem dX8_digest_309 : decode cX8_digest 309 = .ok (.iadd, 1) := by decide +kernel
theorem dX8_digest_310 : decode cX8_digest 310 = .ok (.iaload, 1) := by decide +kernel
theorem dX8_digest_311 : decode cX8_digest 311 = .ok (.i2l, 1) := by decide +kernel
theorem dX8_digest_312 : decode cX8_digest 312 = .ok (.ladd, 1) := by decide +kernel
theorem dX8_digest_313 : decode cX8_digest 313 = .ok (.lstore_n 1, 1) := by decide +kernel
theorem dX8_digest_314 : decode cX8_digest 314 = .ok (.ldc2_w 179, 3) := by decide +kernel
theorem dX8_digest_317 : decode cX8_digest 317 = .ok (.lload_n 1, 1) := by decide +kernel
theorem dX8_digest_318 : decode cX8_digest 318 = .ok (.lmul, 1) := by decide +kernel
theorem dX8_digest_319 : decode cX8_digest 319 = .ok (.aload_n 0, 1) := by decide +kernel
theorem dX8_digest_320 : decode cX8_digest 320 = .ok (.iload_n 3, 1) := by decide +kernel
theorem dX8_digest_321 : decode cX8_digest 321 = .ok (.invokevirtual 171, 3) := by decide +kernel
theorem dX8_digest_324 : decode cX8_digest 324 = .ok (.i2l, 1) := by decide +kernel
theorem dX8_digest_325 : decode cX8_digest 325 = .ok (.ladd, 1) := by decide +kernel
theorem dX8_digest_326 : decode cX8_digest 326 = .ok (.lstore_n 1, 1) := by decide +kernel
theorem dX8_digest_327 : decode cX8_digest 327 = .ok (.iinc 3 1, 3) := by decide +kernel
theorem dX8_digest_330 : decode cX8_digest 330 = .ok (.goto (-40), 3) := by decide +kernel
theorem dX8_digest_333 : decode cX8_digest 333 = .ok (.lload_n 1, 1) := by decide +kernel
theorem dX8_digest_334 : decode cX8_digest 334 = .ok (.lreturn, 1) := by decide +kernel
