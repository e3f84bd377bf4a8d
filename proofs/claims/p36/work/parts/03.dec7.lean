theorem dX0_init_0 : decode cX0_init 0 = .ok (.aload_n 0, 1) := by decide +kernel
theorem dX0_init_1 : decode cX0_init 1 = .ok (.invokespecial 3, 3) := by decide +kernel
theorem dX0_init_4 : decode cX0_init 4 = .ok (.aload_n 0, 1) := by decide +kernel
theorem dX0_init_5 : decode cX0_init 5 = .ok (.sipush (-999), 3) := by decide +kernel
theorem dX0_init_8 : decode cX0_init 8 = .ok (.putfield 9, 3) := by decide +kernel
theorem dX0_init_11 : decode cX0_init 11 = .ok (.aload_n 0, 1) := by decide +kernel
theorem dX0_init_12 : decode cX0_init 12 = .ok (.iconst 0, 1) := by decide +kernel
theorem dX0_init_13 : decode cX0_init 13 = .ok (.putfield 15, 3) := by decide +kernel
theorem dX0_init_16 : decode cX0_init 16 = .ok (.aload_n 0, 1) := by decide +kernel
theorem dX0_init_17 : decode cX0_init 17 = .ok (.iconst 0, 1) := by decide +kernel
theorem dX0_init_18 : decode cX0_init 18 = .ok (.putfield 18, 3) := by decide +kernel
theorem dX0_init_21 : decode cX0_init 21 = .ok (.aload_n 0, 1) := by decide +kernel
theorem dX0_init_22 : decode cX0_init 22 = .ok (.iconst 0, 1) := by decide +kernel
theorem dX0_init_23 : decode cX0_init 23 = .ok (.putfield 21, 3) := by decide +kernel
theorem dX0_init_26 : decode cX0_init 26 = .ok (.aload_n 0, 1) := by decide +kernel
theorem dX0_init_27 : decode cX0_init 27 = .ok (.sipush 144, 3) := by decide +kernel
theorem dX0_init_30 : decode cX0_init 30 = .ok (.newarray .int, 2) := by decide +kernel
theorem dX0_init_32 : decode cX0_init 32 = .ok (.putfield 24, 3) := by decide +kernel
theorem dX0_init_35 : decode cX0_init 35 = .ok (.aload_n 0, 1) := by decide +kernel
theorem dX0_init_36 : decode cX0_init 36 = .ok (.sipush 144, 3) := by decide +kernel
theorem dX0_init_39 : decode cX0_init 39 = .ok (.newarray .int, 2) := by decide +kernel
theorem dX0_init_41 : decode cX0_init 41 = .ok (.putfield 28, 3) := by decide +kernel
theorem dX0_init_44 : decode cX0_init 44 = .ok (.return_, 1) := by decide +kernel
theorem dX0_copyFrom_0 : decode cX0_copyFrom 0 = .ok (.aload_n 0, 1) := by decide +kernel
theorem dX0_copyFrom_1 : decode cX0_copyFrom 1 = .ok (.aload_n 1, 1) := by decide +kernel
theorem dX0_copyFrom_2 : decode cX0_copyFrom 2 = .ok (.getfield 9, 3) := by decide +kernel
theorem dX0_copyFrom_5 : decode cX0_copyFrom 5 = .ok (.putfield 9, 3) := by decide +kernel
theorem dX0_copyFrom_8 : decode cX0_copyFrom 8 = .ok (.aload_n 0, 1) := by decide +kernel
theorem dX0_copyFrom_9 : decode cX0_copyFrom 9 = .ok (.aload_n 1, 1) := by decide +kernel
theorem dX0_copyFrom_10 : decode cX0_copyFrom 10 = .ok (.getfield 15, 3) := by decide +kernel
theorem dX0_copyFrom_13 : decode cX0_copyFrom 13 = .ok (.putfield 15, 3) := by decide +kernel
theorem dX0_copyFrom_16 : decode cX0_copyFrom 16 = .ok (.aload_n 0, 1) := by decide +kernel
theorem dX0_copyFrom_17 : decode cX0_copyFrom 17 = .ok (.aload_n 1, 1) := by decide +kernel
theorem dX0_copyFrom_18 : decode cX0_copyFrom 18 = .ok (.getfield 18, 3) := by decide +kernel
theorem dX0_copyFrom_21 : decode cX0_copyFrom 21 = .ok (.putfield 18, 3) := by decide +kernel
theorem dX0_copyFrom_24 : decode cX0_copyFrom 24 = .ok (.aload_n 0, 1) := by decide +kernel
theorem dX0_copyFrom_25 : decode cX0_copyFrom 25 = .ok (.aload_n 1, 1) := by decide +kernel
theorem dX0_copyFrom_26 : decode cX0_copyFrom 26 = .ok (.getfield 21, 3) := by decide +kernel
theorem dX0_copyFrom_29 : decode cX0_copyFrom 29 = .ok (.putfield 21, 3) := by decide +kernel
theorem dX0_copyFrom_32 : decode cX0_copyFrom 32 = .ok (.aload_n 1, 1) := by decide +kernel
theorem dX0_copyFrom_33 : decode cX0_copyFrom 33 = .ok (.getfield 24, 3) := by decide +kernel
theorem dX0_copyFrom_36 : decode cX0_copyFrom 36 = .ok (.aload_n 0, 1) := by decide +kernel
theorem dX0_copyFrom_37 : decode cX0_copyFrom 37 = .ok (.getfield 24, 3) := by decide +kernel
theorem dX0_copyFrom_40 : decode cX0_copyFrom 40 = .ok (.invokestatic 31, 3) := by decide +kernel
theorem dX0_copyFrom_43 : decode cX0_copyFrom 43 = .ok (.aload_n 1, 1) := by decide +kernel
theorem dX0_copyFrom_44 : decode cX0_copyFrom 44 = .ok (.getfield 28, 3) := by decide +kernel
theorem dX0_copyFrom_47 : decode cX0_copyFrom 47 = .ok (.aload_n 0, 1) := by decide +kernel
theorem dX0_copyFrom_48 : decode cX0_copyFrom 48 = .ok (.getfield 28, 3) := by decide +kernel
theorem dX0_copyFrom_51 : decode cX0_copyFrom 51 = .ok (.invokestatic 31, 3) := by decide +kernel
theorem dX0_copyFrom_54 : decode cX0_copyFrom 54 = .ok (.return_, 1) := by decide +kernel
theorem dX0_clear_0 : decode cX0_clear 0 = .ok (.aload_n 0, 1) := by decide +kernel
theorem dX0_clear_1 : decode cX0_clear 1 = .ok (.sipush (-999), 3) := by decide +kernel
theorem dX0_clear_4 : decode cX0_clear 4 = .ok (.putfield 9, 3) := by decide +kernel
theorem dX0_clear_7 : decode cX0_clear 7 = .ok (.aload_n 0, 1) := by decide +kernel
theorem dX0_clear_8 : decode cX0_clear 8 = .ok (.iconst 0, 1) := by decide +kernel
theorem dX0_clear_9 : decode cX0_clear 9 = .ok (.putfield 15, 3) := by decide +kernel
theorem dX0_clear_12 : decode cX0_clear 12 = .ok (.aload_n 0, 1) := by decide +kernel
theorem dX0_clear_13 : decode cX0_clear 13 = .ok (.iconst 0, 1) := by decide +kernel
theorem dX0_clear_14 : decode cX0_clear 14 = .ok (.putfield 18, 3) := by decide +kernel
theorem dX0_clear_17 : decode cX0_clear 17 = .ok (.aload_n 0, 1) := by decide +kernel
theorem dX0_clear_18 : decode cX0_clear 18 = .ok (.iconst 0, 1) := by decide +kernel
theorem dX0_clear_19 : decode cX0_clear 19 = .ok (.putfield 21, 3) := by decide +kernel
theorem dX0_clear_22 : decode cX0_clear 22 = .ok (.iconst 0, 1) := by decide +kernel
theorem dX0_clear_23 : decode cX0_clear 23 = .ok (.istore_n 1, 1) := by decide +kernel
theorem dX0_clear_24 : decode cX0_clear 24 = .ok (.iload_n 1, 1) := by decide +kernel
theorem dX0_clear_25 : decode cX0_clear 25 = .ok (.sipush 144, 3) := by decide +kernel
theorem dX0_clear_28 : decode cX0_clear 28 = .ok (.if_icmp .ge 27, 3) := by decide +kernel
theorem dX0_clear_31 : decode cX0_clear 31 = .ok (.aload_n 0, 1) := by decide +kernel
theorem dX0_clear_32 : decode cX0_clear 32 = .ok (.getfield 24, 3) := by decide +kernel
theorem dX0_clear_35 : decode cX0_clear 35 = .ok (.iload_n 1, 1) := by decide +kernel
theorem dX0_clear_36 : decode cX0_clear 36 = .ok (.iconst 0, 1) := by decide +kernel
theorem dX0_clear_37 : decode cX0_clear 37 = .ok (.invokestatic 35, 3) := by decide +kernel
theorem dX0_clear_40 : decode cX0_clear 40 = .ok (.aload_n 0, 1) := by decide +kernel
theorem dX0_clear_41 : decode cX0_clear 41 = .ok (.getfield 28, 3) := by decide +kernel
theorem dX0_clear_44 : decode cX0_clear 44 = .ok (.iload_n 1, 1) := by decide +kernel
theorem dX0_clear_45 : decode cX0_clear 45 = .ok (.iconst 0, 1) := by decide +kernel
theorem dX0_clear_46 : decode cX0_clear 46 = .ok (.invokestatic 35, 3) := by decide +kernel
theorem dX0_clear_49 : decode cX0_clear 49 = .ok (.iinc 1 1, 3) := by decide +kernel
theorem dX0_clear_52 : decode cX0_clear 52 = .ok (.goto (-28), 3) := by decide +kernel
theorem dX0_clear_55 : decode cX0_clear 55 = .ok (.return_, 1) := by decide +kernel
theorem dX1_init_0 : decode cX1_init 0 = .ok (.aload_n 0, 1) := by decide +kernel
theorem dX1_init_1 : decode cX1_init 1 = .ok (.invokespecial 3, 3) := by decide +kernel
theorem dX1_init_4 : decode cX1_init 4 = .ok (.aload_n 0, 1) := by decide +kernel
theorem dX1_init_5 : decode cX1_init 5 = .ok (.bipush 12, 2) := by decide +kernel
theorem dX1_init_7 : decode cX1_init 7 = .ok (.newarray .int, 2) := by decide +kernel
theorem dX1_init_9 : decode cX1_init 9 = .ok (.putfield 9, 3) := by decide +kernel
theorem dX1_init_12 : decode cX1_init 12 = .ok (.aload_n 0, 1) := by decide +kernel
theorem dX1_init_13 : decode cX1_init 13 = .ok (.sipush 144, 3) := by decide +kernel
theorem dX1_init_16 : decode cX1_init 16 = .ok (.newarray .int, 2) := by decide +kernel
theorem dX1_init_18 : decode cX1_init 18 = .ok (.putfield 15, 3) := by decide +kernel
theorem dX1_init_21 : decode cX1_init 21 = .ok (.return_, 1) := by decide +kernel
theorem dX1_solve_0 : decode cX1_solve 0 = .ok (.aload_n 1, 1) := by decide +kernel
theorem dX1_solve_1 : decode cX1_solve 1 = .ok (.getfield 18, 3) := by decide +kernel
theorem dX1_solve_4 : decode cX1_solve 4 = .ok (.aload_n 0, 1) := by decide +kernel
theorem dX1_solve_5 : decode cX1_solve 5 = .ok (.getfield 9, 3) := by decide +kernel
theorem dX1_solve_8 : decode cX1_solve 8 = .ok (.invokestatic 21, 3) := by decide +kernel
theorem dX1_solve_11 : decode cX1_solve 11 = .ok (.aload_n 1, 1) := by decide +kernel
theorem dX1_solve_12 : decode cX1_solve 12 = .ok (.getfield 25, 3) := by decide +kernel
theorem dX1_solve_15 : decode cX1_solve 15 = .ok (.aload_n 1, 1) := by decide +kernel
theorem dX1_solve_16 : decode cX1_solve 16 = .ok (.getfield 29, 3) := by decide +kernel
theorem dX1_solve_19 : decode cX1_solve 19 = .ok (.iadd, 1) := by decide +kernel
theorem dX1_solve_20 : decode cX1_solve 20 = .ok (.istore_n 2, 1) := by decide +kernel
theorem dX1_solve_21 : decode cX1_solve 21 = .ok (.iconst 1, 1) := by decide +kernel
theorem dX1_solve_22 : decode cX1_solve 22 = .ok (.istore_n 3, 1) := by decide +kernel
theorem dX1_solve_23 : decode cX1_solve 23 = .ok (.iload_n 3, 1) := by decide +kernel
theorem dX1_solve_24 : decode cX1_solve 24 = .ok (.bipush 12, 2) := by decide +kernel
theorem dX1_solve_26 : decode cX1_solve 26 = .ok (.if_icmp .gt 64, 3) := by decide +kernel
theorem dX1_solve_29 : decode cX1_solve 29 = .ok (.iconst 0, 1) := by decide +kernel
theorem dX1_solve_30 : decode cX1_solve 30 = .ok (.istore 4, 2) := by decide +kernel
theorem dX1_solve_32 : decode cX1_solve 32 = .ok (.iload 4, 2) := by decide +kernel
theorem dX1_solve_34 : decode cX1_solve 34 = .ok (.bipush 12, 2) := by decide +kernel
theorem dX1_solve_36 : decode cX1_solve 36 = .ok (.if_icmp .ge 48, 3) := by decide +kernel
theorem dX1_solve_39 : decode cX1_solve 39 = .ok (.iload 4, 2) := by decide +kernel
theorem dX1_solve_41 : decode cX1_solve 41 = .ok (.iload_n 3, 1) := by decide +kernel
theorem dX1_solve_42 : decode cX1_solve 42 = .ok (.iadd, 1) := by decide +kernel
theorem dX1_solve_43 : decode cX1_solve 43 = .ok (.iload_n 2, 1) := by decide +kernel
theorem dX1_solve_44 : decode cX1_solve 44 = .ok (.if_icmp .gt 40, 3) := by decide +kernel
theorem dX1_solve_47 : decode cX1_solve 47 = .ok (.aload_n 0, 1) := by decide +kernel
theorem dX1_solve_48 : decode cX1_solve 48 = .ok (.iload 4, 2) := by decide +kernel
theorem dX1_solve_50 : decode cX1_solve 50 = .ok (.iload_n 3, 1) := by decide +kernel
theorem dX1_solve_51 : decode cX1_solve 51 = .ok (.invokevirtual 32, 3) := by decide +kernel
theorem dX1_solve_54 : decode cX1_solve 54 = .ok (.istore 5, 2) := by decide +kernel
theorem dX1_solve_56 : decode cX1_solve 56 = .ok (.aload_n 0, 1) := by decide +kernel
theorem dX1_solve_57 : decode cX1_solve 57 = .ok (.getfield 15, 3) := by decide +kernel
theorem dX1_solve_60 : decode cX1_solve 60 = .ok (.iload 4, 2) := by decide +kernel
theorem dX1_solve_62 : decode cX1_solve 62 = .ok (.iload_n 3, 1) := by decide +kernel
theorem dX1_solve_63 : decode cX1_solve 63 = .ok (.invokestatic 36, 3) := by decide +kernel
theorem dX1_solve_66 : decode cX1_solve 66 = .ok (.aload_n 0, 1) := by decide +kernel
theorem dX1_solve_67 : decode cX1_solve 67 = .ok (.iload 4, 2) := by decide +kernel
theorem dX1_solve_69 : decode cX1_solve 69 = .ok (.iload_n 3, 1) := by decide +kernel
theorem dX1_solve_70 : decode cX1_solve 70 = .ok (.iload 5, 2) := by decide +kernel
theorem dX1_solve_72 : decode cX1_solve 72 = .ok (.invokevirtual 39, 3) := by decide +kernel
theorem dX1_solve_75 : decode cX1_solve 75 = .ok (.invokestatic 43, 3) := by decide +kernel
theorem dX1_solve_78 : decode cX1_solve 78 = .ok (.iinc 4 1, 3) := by decide +kernel
theorem dX1_solve_81 : decode cX1_solve 81 = .ok (.goto (-49), 3) := by decide +kernel
theorem dX1_solve_84 : decode cX1_solve 84 = .ok (.iinc 3 1, 3) := by decide +kernel
theorem dX1_solve_87 : decode cX1_solve 87 = .ok (.goto (-64), 3) := by decide +kernel
theorem dX1_solve_90 : decode cX1_solve 90 = .ok (.return_, 1) := by decide +kernel
theorem dX1_valueAt_0 : decode cX1_valueAt 0 = .ok (.iload_n 2, 1) := by decide +kernel
theorem dX1_valueAt_1 : decode cX1_valueAt 1 = .ok (.ifCond .le 18, 3) := by decide +kernel
theorem dX1_valueAt_4 : decode cX1_valueAt 4 = .ok (.aload_n 0, 1) := by decide +kernel
theorem dX1_valueAt_5 : decode cX1_valueAt 5 = .ok (.getfield 15, 3) := by decide +kernel
theorem dX1_valueAt_8 : decode cX1_valueAt 8 = .ok (.iload_n 1, 1) := by decide +kernel
theorem dX1_valueAt_9 : decode cX1_valueAt 9 = .ok (.iload_n 2, 1) := by decide +kernel
theorem dX1_valueAt_10 : decode cX1_valueAt 10 = .ok (.invokestatic 36, 3) := by decide +kernel
theorem dX1_valueAt_13 : decode cX1_valueAt 13 = .ok (.invokestatic 47, 3) := by decide +kernel
theorem dX1_valueAt_16 : decode cX1_valueAt 16 = .ok (.goto 4, 3) := by decide +kernel
theorem dX1_valueAt_19 : decode cX1_valueAt 19 = .ok (.iconst 0, 1) := by decide +kernel
theorem dX1_valueAt_20 : decode cX1_valueAt 20 = .ok (.ireturn, 1) := by decide +kernel
theorem dX1_resultAt_0 : decode cX1_resultAt 0 = .ok (.iload_n 3, 1) := by decide +kernel
theorem dX1_resultAt_1 : decode cX1_resultAt 1 = .ok (.invokestatic 51, 3) := by decide +kernel
theorem dX1_resultAt_4 : decode cX1_resultAt 4 = .ok (.ifCond .eq 11, 3) := by decide +kernel
theorem dX1_resultAt_7 : decode cX1_resultAt 7 = .ok (.iload_n 3, 1) := by decide +kernel
theorem dX1_resultAt_8 : decode cX1_resultAt 8 = .ok (.iload_n 2, 1) := by decide +kernel
theorem dX1_resultAt_9 : decode cX1_resultAt 9 = .ok (.invokestatic 55, 3) := by decide +kernel
theorem dX1_resultAt_12 : decode cX1_resultAt 12 = .ok (.ifCond .ne 7, 3) := by decide +kernel
theorem dX1_resultAt_15 : decode cX1_resultAt 15 = .ok (.sipush (-999), 3) := by decide +kernel
theorem dX1_resultAt_18 : decode cX1_resultAt 18 = .ok (.ireturn, 1) := by decide +kernel
theorem dX1_resultAt_19 : decode cX1_resultAt 19 = .ok (.aload_n 0, 1) := by decide +kernel
theorem dX1_resultAt_20 : decode cX1_resultAt 20 = .ok (.iload_n 1, 1) := by decide +kernel
theorem dX1_resultAt_21 : decode cX1_resultAt 21 = .ok (.iload_n 3, 1) := by decide +kernel
theorem dX1_resultAt_22 : decode cX1_resultAt 22 = .ok (.invokestatic 59, 3) := by decide +kernel
theorem dX1_resultAt_25 : decode cX1_resultAt 25 = .ok (.iload_n 2, 1) := by decide +kernel
theorem dX1_resultAt_26 : decode cX1_resultAt 26 = .ok (.iload_n 3, 1) := by decide +kernel
theorem dX1_resultAt_27 : decode cX1_resultAt 27 = .ok (.invokestatic 62, 3) := by decide +kernel
theorem dX1_resultAt_30 : decode cX1_resultAt 30 = .ok (.invokevirtual 65, 3) := by decide +kernel
theorem dX1_resultAt_33 : decode cX1_resultAt 33 = .ok (.istore 4, 2) := by decide +kernel
theorem dX1_resultAt_35 : decode cX1_resultAt 35 = .ok (.aload_n 0, 1) := by decide +kernel
theorem dX1_resultAt_36 : decode cX1_resultAt 36 = .ok (.getfield 9, 3) := by decide +kernel
theorem dX1_resultAt_39 : decode cX1_resultAt 39 = .ok (.iload_n 1, 1) := by decide +kernel
theorem dX1_resultAt_40 : decode cX1_resultAt 40 = .ok (.iload_n 2, 1) := by decide +kernel
theorem dX1_resultAt_41 : decode cX1_resultAt 41 = .ok (.iload_n 3, 1) := by decide +kernel
theorem dX1_resultAt_42 : decode cX1_resultAt 42 = .ok (.invokestatic 68, 3) := by decide +kernel
theorem dX1_resultAt_45 : decode cX1_resultAt 45 = .ok (.iload 4, 2) := by decide +kernel
theorem dX1_resultAt_47 : decode cX1_resultAt 47 = .ok (.isub, 1) := by decide +kernel
theorem dX1_resultAt_48 : decode cX1_resultAt 48 = .ok (.ireturn, 1) := by decide +kernel
theorem dX1_bestMoveAt_0 : decode cX1_bestMoveAt 0 = .ok (.sipush (-999), 3) := by decide +kernel
theorem dX1_bestMoveAt_3 : decode cX1_bestMoveAt 3 = .ok (.istore_n 3, 1) := by decide +kernel
theorem dX1_bestMoveAt_4 : decode cX1_bestMoveAt 4 = .ok (.sipush (-999), 3) := by decide +kernel
theorem dX1_bestMoveAt_7 : decode cX1_bestMoveAt 7 = .ok (.istore 4, 2) := by decide +kernel
theorem dX1_bestMoveAt_9 : decode cX1_bestMoveAt 9 = .ok (.iconst 0, 1) := by decide +kernel
theorem dX1_bestMoveAt_10 : decode cX1_bestMoveAt 10 = .ok (.istore 5, 2) := by decide +kernel
theorem dX1_bestMoveAt_12 : decode cX1_bestMoveAt 12 = .ok (.iload 5, 2) := by decide +kernel
theorem dX1_bestMoveAt_14 : decode cX1_bestMoveAt 14 = .ok (.iconst 4, 1) := by decide +kernel
theorem dX1_bestMoveAt_15 : decode cX1_bestMoveAt 15 = .ok (.if_icmp .ge 33, 3) := by decide +kernel
theorem dX1_bestMoveAt_18 : decode cX1_bestMoveAt 18 = .ok (.aload_n 0, 1) := by decide +kernel
theorem dX1_bestMoveAt_19 : decode cX1_bestMoveAt 19 = .ok (.iload_n 1, 1) := by decide +kernel
theorem dX1_bestMoveAt_20 : decode cX1_bestMoveAt 20 = .ok (.iload_n 2, 1) := by decide +kernel
theorem dX1_bestMoveAt_21 : decode cX1_bestMoveAt 21 = .ok (.iload 5, 2) := by decide +kernel
theorem dX1_bestMoveAt_23 : decode cX1_bestMoveAt 23 = .ok (.invokevirtual 39, 3) := by decide +kernel
theorem dX1_bestMoveAt_26 : decode cX1_bestMoveAt 26 = .ok (.istore 6, 2) := by decide +kernel
theorem dX1_bestMoveAt_28 : decode cX1_bestMoveAt 28 = .ok (.iload 6, 2) := by decide +kernel
theorem dX1_bestMoveAt_30 : decode cX1_bestMoveAt 30 = .ok (.iload 4, 2) := by decide +kernel
theorem dX1_bestMoveAt_32 : decode cX1_bestMoveAt 32 = .ok (.if_icmp .le 10, 3) := by decide +kernel
theorem dX1_bestMoveAt_35 : decode cX1_bestMoveAt 35 = .ok (.iload 6, 2) := by decide +kernel
theorem dX1_bestMoveAt_37 : decode cX1_bestMoveAt 37 = .ok (.istore 4, 2) := by decide +kernel
theorem dX1_bestMoveAt_39 : decode cX1_bestMoveAt 39 = .ok (.iload 5, 2) := by decide +kernel
theorem dX1_bestMoveAt_41 : decode cX1_bestMoveAt 41 = .ok (.istore_n 3, 1) := by decide +kernel
theorem dX1_bestMoveAt_42 : decode cX1_bestMoveAt 42 = .ok (.iinc 5 1, 3) := by decide +kernel
theorem dX1_bestMoveAt_45 : decode cX1_bestMoveAt 45 = .ok (.goto (-33), 3) := by decide +kernel
theorem dX1_bestMoveAt_48 : decode cX1_bestMoveAt 48 = .ok (.iload_n 3, 1) := by decide +kernel
theorem dX1_bestMoveAt_49 : decode cX1_bestMoveAt 49 = .ok (.ireturn, 1) := by decide +kernel
theorem dX2_init_0 : decode cX2_init 0 = .ok (.aload_n 0, 1) := by decide +kernel
theorem dX2_init_1 : decode cX2_init 1 = .ok (.invokespecial 3, 3) := by decide +kernel
theorem dX2_init_4 : decode cX2_init 4 = .ok (.aload_n 0, 1) := by decide +kernel
theorem dX2_init_5 : decode cX2_init 5 = .ok (.bipush 12, 2) := by decide +kernel
theorem dX2_init_7 : decode cX2_init 7 = .ok (.newarray .int, 2) := by decide +kernel
theorem dX2_init_9 : decode cX2_init 9 = .ok (.putfield 9, 3) := by decide +kernel
theorem dX2_init_12 : decode cX2_init 12 = .ok (.aload_n 0, 1) := by decide +kernel
theorem dX2_init_13 : decode cX2_init 13 = .ok (.iconst 0, 1) := by decide +kernel
theorem dX2_init_14 : decode cX2_init 14 = .ok (.putfield 15, 3) := by decide +kernel
theorem dX2_init_17 : decode cX2_init 17 = .ok (.aload_n 0, 1) := by decide +kernel
theorem dX2_init_18 : decode cX2_init 18 = .ok (.iconst 0, 1) := by decide +kernel
theorem dX2_init_19 : decode cX2_init 19 = .ok (.putfield 19, 3) := by decide +kernel
theorem dX2_init_22 : decode cX2_init 22 = .ok (.aload_n 0, 1) := by decide +kernel
theorem dX2_init_23 : decode cX2_init 23 = .ok (.iconst 0, 1) := by decide +kernel
theorem dX2_init_24 : decode cX2_init 24 = .ok (.putfield 22, 3) := by decide +kernel
theorem dX2_init_27 : decode cX2_init 27 = .ok (.aload_n 0, 1) := by decide +kernel
theorem dX2_init_28 : decode cX2_init 28 = .ok (.iconst 0, 1) := by decide +kernel
theorem dX2_init_29 : decode cX2_init 29 = .ok (.putfield 25, 3) := by decide +kernel
theorem dX2_init_32 : decode cX2_init 32 = .ok (.aload_n 0, 1) := by decide +kernel
theorem dX2_init_33 : decode cX2_init 33 = .ok (.iconst 0, 1) := by decide +kernel
theorem dX2_init_34 : decode cX2_init 34 = .ok (.putfield 28, 3) := by decide +kernel
theorem dX2_init_37 : decode cX2_init 37 = .ok (.return_, 1) := by decide +kernel
theorem dX2_copyFrom_0 : decode cX2_copyFrom 0 = .ok (.aload_n 1, 1) := by decide +kernel
theorem dX2_copyFrom_1 : decode cX2_copyFrom 1 = .ok (.getfield 9, 3) := by decide +kernel
theorem dX2_copyFrom_4 : decode cX2_copyFrom 4 = .ok (.aload_n 0, 1) := by decide +kernel
theorem dX2_copyFrom_5 : decode cX2_copyFrom 5 = .ok (.getfield 9, 3) := by decide +kernel
theorem dX2_copyFrom_8 : decode cX2_copyFrom 8 = .ok (.invokestatic 31, 3) := by decide +kernel
theorem dX2_copyFrom_11 : decode cX2_copyFrom 11 = .ok (.aload_n 0, 1) := by decide +kernel
theorem dX2_copyFrom_12 : decode cX2_copyFrom 12 = .ok (.aload_n 1, 1) := by decide +kernel
theorem dX2_copyFrom_13 : decode cX2_copyFrom 13 = .ok (.getfield 15, 3) := by decide +kernel
theorem dX2_copyFrom_16 : decode cX2_copyFrom 16 = .ok (.putfield 15, 3) := by decide +kernel
theorem dX2_copyFrom_19 : decode cX2_copyFrom 19 = .ok (.aload_n 0, 1) := by decide +kernel
theorem dX2_copyFrom_20 : decode cX2_copyFrom 20 = .ok (.aload_n 1, 1) := by decide +kernel
theorem dX2_copyFrom_21 : decode cX2_copyFrom 21 = .ok (.getfield 19, 3) := by decide +kernel
theorem dX2_copyFrom_24 : decode cX2_copyFrom 24 = .ok (.putfield 19, 3) := by decide +kernel
theorem dX2_copyFrom_27 : decode cX2_copyFrom 27 = .ok (.aload_n 0, 1) := by decide +kernel
theorem dX2_copyFrom_28 : decode cX2_copyFrom 28 = .ok (.aload_n 1, 1) := by decide +kernel
theorem dX2_copyFrom_29 : decode cX2_copyFrom 29 = .ok (.getfield 22, 3) := by decide +kernel
theorem dX2_copyFrom_32 : decode cX2_copyFrom 32 = .ok (.putfield 22, 3) := by decide +kernel
theorem dX2_copyFrom_35 : decode cX2_copyFrom 35 = .ok (.aload_n 0, 1) := by decide +kernel
theorem dX2_copyFrom_36 : decode cX2_copyFrom 36 = .ok (.aload_n 1, 1) := by decide +kernel
theorem dX2_copyFrom_37 : decode cX2_copyFrom 37 = .ok (.getfield 25, 3) := by decide +kernel
theorem dX2_copyFrom_40 : decode cX2_copyFrom 40 = .ok (.putfield 25, 3) := by decide +kernel
theorem dX2_copyFrom_43 : decode cX2_copyFrom 43 = .ok (.aload_n 0, 1) := by decide +kernel
theorem dX2_copyFrom_44 : decode cX2_copyFrom 44 = .ok (.aload_n 1, 1) := by decide +kernel
theorem dX2_copyFrom_45 : decode cX2_copyFrom 45 = .ok (.getfield 28, 3) := by decide +kernel
theorem dX2_copyFrom_48 : decode cX2_copyFrom 48 = .ok (.putfield 28, 3) := by decide +kernel
theorem dX2_copyFrom_51 : decode cX2_copyFrom 51 = .ok (.return_, 1) := by decide +kernel
theorem dX2_begin_0 : decode cX2_begin 0 = .ok (.aload_n 1, 1) := by decide +kernel
theorem dX2_begin_1 : decode cX2_begin 1 = .ok (.aload_n 0, 1) := by decide +kernel
theorem dX2_begin_2 : decode cX2_begin 2 = .ok (.getfield 9, 3) := by decide +kernel
theorem dX2_begin_5 : decode cX2_begin 5 = .ok (.invokestatic 31, 3) := by decide +kernel
theorem dX2_begin_8 : decode cX2_begin 8 = .ok (.aload_n 0, 1) := by decide +kernel
theorem dX2_begin_9 : decode cX2_begin 9 = .ok (.iconst 0, 1) := by decide +kernel
theorem dX2_begin_10 : decode cX2_begin 10 = .ok (.putfield 15, 3) := by decide +kernel
theorem dX2_begin_13 : decode cX2_begin 13 = .ok (.aload_n 0, 1) := by decide +kernel
theorem dX2_begin_14 : decode cX2_begin 14 = .ok (.iload_n 2, 1) := by decide +kernel
theorem dX2_begin_15 : decode cX2_begin 15 = .ok (.putfield 19, 3) := by decide +kernel
theorem dX2_begin_18 : decode cX2_begin 18 = .ok (.aload_n 0, 1) := by decide +kernel
theorem dX2_begin_19 : decode cX2_begin 19 = .ok (.iconst 0, 1) := by decide +kernel
theorem dX2_begin_20 : decode cX2_begin 20 = .ok (.putfield 22, 3) := by decide +kernel
theorem dX2_begin_23 : decode cX2_begin 23 = .ok (.aload_n 0, 1) := by decide +kernel
theorem dX2_begin_24 : decode cX2_begin 24 = .ok (.iconst 0, 1) := by decide +kernel
theorem dX2_begin_25 : decode cX2_begin 25 = .ok (.putfield 25, 3) := by decide +kernel
theorem dX2_begin_28 : decode cX2_begin 28 = .ok (.aload_n 0, 1) := by decide +kernel
theorem dX2_begin_29 : decode cX2_begin 29 = .ok (.iconst 0, 1) := by decide +kernel
theorem dX2_begin_30 : decode cX2_begin 30 = .ok (.putfield 28, 3) := by decide +kernel
theorem dX2_begin_33 : decode cX2_begin 33 = .ok (.return_, 1) := by decide +kernel
theorem dX2_make_0 : decode cX2_make 0 = .ok (.aload_n 0, 1) := by decide +kernel
theorem dX2_make_1 : decode cX2_make 1 = .ok (.getfield 9, 3) := by decide +kernel
theorem dX2_make_4 : decode cX2_make 4 = .ok (.aload_n 0, 1) := by decide +kernel
theorem dX2_make_5 : decode cX2_make 5 = .ok (.getfield 15, 3) := by decide +kernel
theorem dX2_make_8 : decode cX2_make 8 = .ok (.aload_n 0, 1) := by decide +kernel
theorem dX2_make_9 : decode cX2_make 9 = .ok (.getfield 19, 3) := by decide +kernel
theorem dX2_make_12 : decode cX2_make 12 = .ok (.iload_n 1, 1) := by decide +kernel
theorem dX2_make_13 : decode cX2_make 13 = .ok (.invokestatic 35, 3) := by decide +kernel
theorem dX2_make_16 : decode cX2_make 16 = .ok (.istore_n 2, 1) := by decide +kernel
theorem dX2_make_17 : decode cX2_make 17 = .ok (.aload_n 0, 1) := by decide +kernel
theorem dX2_make_18 : decode cX2_make 18 = .ok (.getfield 22, 3) := by decide +kernel
theorem dX2_make_21 : decode cX2_make 21 = .ok (.ifCond .ne 16, 3) := by decide +kernel
theorem dX2_make_24 : decode cX2_make 24 = .ok (.aload_n 0, 1) := by decide +kernel
theorem dX2_make_25 : decode cX2_make 25 = .ok (.dup, 1) := by decide +kernel
theorem dX2_make_26 : decode cX2_make 26 = .ok (.getfield 25, 3) := by decide +kernel
theorem dX2_make_29 : decode cX2_make 29 = .ok (.iload_n 2, 1) := by decide +kernel
theorem dX2_make_30 : decode cX2_make 30 = .ok (.iadd, 1) := by decide +kernel
theorem dX2_make_31 : decode cX2_make 31 = .ok (.putfield 25, 3) := by decide +kernel
theorem dX2_make_34 : decode cX2_make 34 = .ok (.goto 13, 3) := by decide +kernel
theorem dX2_make_37 : decode cX2_make 37 = .ok (.aload_n 0, 1) := by decide +kernel
theorem dX2_make_38 : decode cX2_make 38 = .ok (.dup, 1) := by decide +kernel
theorem dX2_make_39 : decode cX2_make 39 = .ok (.getfield 28, 3) := by decide +kernel
theorem dX2_make_42 : decode cX2_make 42 = .ok (.iload_n 2, 1) := by decide +kernel
theorem dX2_make_43 : decode cX2_make 43 = .ok (.iadd, 1) := by decide +kernel
theorem dX2_make_44 : decode cX2_make 44 = .ok (.putfield 28, 3) := by decide +kernel
theorem dX2_make_47 : decode cX2_make 47 = .ok (.aload_n 0, 1) := by decide +kernel
theorem dX2_make_48 : decode cX2_make 48 = .ok (.aload_n 0, 1) := by decide +kernel
theorem dX2_make_49 : decode cX2_make 49 = .ok (.getfield 15, 3) := by decide +kernel
theorem dX2_make_52 : decode cX2_make 52 = .ok (.iload_n 1, 1) := by decide +kernel
theorem dX2_make_53 : decode cX2_make 53 = .ok (.invokestatic 39, 3) := by decide +kernel
theorem dX2_make_56 : decode cX2_make 56 = .ok (.putfield 15, 3) := by decide +kernel
theorem dX2_make_59 : decode cX2_make 59 = .ok (.aload_n 0, 1) := by decide +kernel
theorem dX2_make_60 : decode cX2_make 60 = .ok (.aload_n 0, 1) := by decide +kernel
theorem dX2_make_61 : decode cX2_make 61 = .ok (.getfield 19, 3) := by decide +kernel
theorem dX2_make_64 : decode cX2_make 64 = .ok (.iload_n 1, 1) := by decide +kernel
theorem dX2_make_65 : decode cX2_make 65 = .ok (.invokestatic 43, 3) := by decide +kernel
theorem dX2_make_68 : decode cX2_make 68 = .ok (.putfield 19, 3) := by decide +kernel
theorem dX2_make_71 : decode cX2_make 71 = .ok (.aload_n 0, 1) := by decide +kernel
theorem dX2_make_72 : decode cX2_make 72 = .ok (.iconst 1, 1) := by decide +kernel
theorem dX2_make_73 : decode cX2_make 73 = .ok (.aload_n 0, 1) := by decide +kernel
theorem dX2_make_74 : decode cX2_make 74 = .ok (.getfield 22, 3) := by decide +kernel
theorem dX2_make_77 : decode cX2_make 77 = .ok (.isub, 1) := by decide +kernel
theorem dX2_make_78 : decode cX2_make 78 = .ok (.putfield 22, 3) := by decide +kernel
theorem dX2_make_81 : decode cX2_make 81 = .ok (.iload_n 2, 1) := by decide +kernel
theorem dX2_make_82 : decode cX2_make 82 = .ok (.ireturn, 1) := by decide +kernel
theorem dX3_init_0 : decode cX3_init 0 = .ok (.aload_n 0, 1) := by decide +kernel
theorem dX3_init_1 : decode cX3_init 1 = .ok (.invokespecial 3, 3) := by decide +kernel
theorem dX3_init_4 : decode cX3_init 4 = .ok (.aload_n 0, 1) := by decide +kernel
theorem dX3_init_5 : decode cX3_init 5 = .ok (.bipush 6, 2) := by decide +kernel
theorem dX3_init_7 : decode cX3_init 7 = .ok (.anewarray 9, 3) := by decide +kernel
theorem dX3_init_10 : decode cX3_init 10 = .ok (.putfield 11, 3) := by decide +kernel
theorem dX3_init_13 : decode cX3_init 13 = .ok (.aload_n 0, 1) := by decide +kernel
theorem dX3_init_14 : decode cX3_init 14 = .ok (.iconst 0, 1) := by decide +kernel
theorem dX3_init_15 : decode cX3_init 15 = .ok (.putfield 17, 3) := by decide +kernel
theorem dX3_init_18 : decode cX3_init 18 = .ok (.aload_n 0, 1) := by decide +kernel
theorem dX3_init_19 : decode cX3_init 19 = .ok (.iconst 0, 1) := by decide +kernel
theorem dX3_init_20 : decode cX3_init 20 = .ok (.putfield 21, 3) := by decide +kernel
theorem dX3_init_23 : decode cX3_init 23 = .ok (.iconst 0, 1) := by decide +kernel
theorem dX3_init_24 : decode cX3_init 24 = .ok (.istore_n 1, 1) := by decide +kernel
theorem dX3_init_25 : decode cX3_init 25 = .ok (.iload_n 1, 1) := by decide +kernel
theorem dX3_init_26 : decode cX3_init 26 = .ok (.bipush 6, 2) := by decide +kernel
theorem dX3_init_28 : decode cX3_init 28 = .ok (.if_icmp .ge 31, 3) := by decide +kernel
theorem dX3_init_31 : decode cX3_init 31 = .ok (.iload_n 1, 1) := by decide +kernel
theorem dX3_init_32 : decode cX3_init 32 = .ok (.aload_n 0, 1) := by decide +kernel
theorem dX3_init_33 : decode cX3_init 33 = .ok (.getfield 11, 3) := by decide +kernel
theorem dX3_init_36 : decode cX3_init 36 = .ok (.arraylength, 1) := by decide +kernel
theorem dX3_init_37 : decode cX3_init 37 = .ok (.if_icmp .ge 22, 3) := by decide +kernel
theorem dX3_init_40 : decode cX3_init 40 = .ok (.aload_n 0, 1) := by decide +kernel
theorem dX3_init_41 : decode cX3_init 41 = .ok (.getfield 11, 3) := by decide +kernel
theorem dX3_init_44 : decode cX3_init 44 = .ok (.iload_n 1, 1) := by decide +kernel
theorem dX3_init_45 : decode cX3_init 45 = .ok (.new 9, 3) := by decide +kernel
theorem dX3_init_48 : decode cX3_init 48 = .ok (.dup, 1) := by decide +kernel
theorem dX3_init_49 : decode cX3_init 49 = .ok (.invokespecial 24, 3) := by decide +kernel
theorem dX3_init_52 : decode cX3_init 52 = .ok (.aastore, 1) := by decide +kernel
theorem dX3_init_53 : decode cX3_init 53 = .ok (.iinc 1 1, 3) := by decide +kernel
theorem dX3_init_56 : decode cX3_init 56 = .ok (.goto (-31), 3) := by decide +kernel
theorem dX3_init_59 : decode cX3_init 59 = .ok (.return_, 1) := by decide +kernel
theorem dX3_save_0 : decode cX3_save 0 = .ok (.aload_n 0, 1) := by decide +kernel
theorem dX3_save_1 : decode cX3_save 1 = .ok (.aload_n 0, 1) := by decide +kernel
theorem dX3_save_2 : decode cX3_save 2 = .ok (.getfield 17, 3) := by decide +kernel
theorem dX3_save_5 : decode cX3_save 5 = .ok (.aload_n 0, 1) := by decide +kernel
theorem dX3_save_6 : decode cX3_save 6 = .ok (.getfield 21, 3) := by decide +kernel
theorem dX3_save_9 : decode cX3_save 9 = .ok (.iadd, 1) := by decide +kernel
theorem dX3_save_10 : decode cX3_save 10 = .ok (.invokevirtual 25, 3) := by decide +kernel
theorem dX3_save_13 : decode cX3_save 13 = .ok (.astore_n 2, 1) := by decide +kernel
theorem dX3_save_14 : decode cX3_save 14 = .ok (.aload_n 2, 1) := by decide +kernel
theorem dX3_save_15 : decode cX3_save 15 = .ok (.ifnull 8, 3) := by decide +kernel
theorem dX3_save_18 : decode cX3_save 18 = .ok (.aload_n 2, 1) := by decide +kernel
theorem dX3_save_19 : decode cX3_save 19 = .ok (.aload_n 1, 1) := by decide +kernel
theorem dX3_save_20 : decode cX3_save 20 = .ok (.invokevirtual 29, 3) := by decide +kernel
theorem dX3_save_23 : decode cX3_save 23 = .ok (.aload_n 0, 1) := by decide +kernel
theorem dX3_save_24 : decode cX3_save 24 = .ok (.getfield 21, 3) := by decide +kernel
theorem dX3_save_27 : decode cX3_save 27 = .ok (.bipush 6, 2) := by decide +kernel
theorem dX3_save_29 : decode cX3_save 29 = .ok (.if_icmp .ge 16, 3) := by decide +kernel
theorem dX3_save_32 : decode cX3_save 32 = .ok (.aload_n 0, 1) := by decide +kernel
theorem dX3_save_33 : decode cX3_save 33 = .ok (.dup, 1) := by decide +kernel
theorem dX3_save_34 : decode cX3_save 34 = .ok (.getfield 21, 3) := by decide +kernel
theorem dX3_save_37 : decode cX3_save 37 = .ok (.iconst 1, 1) := by decide +kernel
theorem dX3_save_38 : decode cX3_save 38 = .ok (.iadd, 1) := by decide +kernel
theorem dX3_save_39 : decode cX3_save 39 = .ok (.putfield 21, 3) := by decide +kernel
theorem dX3_save_42 : decode cX3_save 42 = .ok (.goto 28, 3) := by decide +kernel
theorem dX3_save_45 : decode cX3_save 45 = .ok (.aload_n 0, 1) := by decide +kernel
theorem dX3_save_46 : decode cX3_save 46 = .ok (.aload_n 0, 1) := by decide +kernel
theorem dX3_save_47 : decode cX3_save 47 = .ok (.getfield 17, 3) := by decide +kernel
theorem dX3_save_50 : decode cX3_save 50 = .ok (.iconst 1, 1) := by decide +kernel
theorem dX3_save_51 : decode cX3_save 51 = .ok (.iadd, 1) := by decide +kernel
theorem dX3_save_52 : decode cX3_save 52 = .ok (.bipush 6, 2) := by decide +kernel
theorem dX3_save_54 : decode cX3_save 54 = .ok (.if_icmp .ge 12, 3) := by decide +kernel
theorem dX3_save_57 : decode cX3_save 57 = .ok (.aload_n 0, 1) := by decide +kernel
theorem dX3_save_58 : decode cX3_save 58 = .ok (.getfield 17, 3) := by decide +kernel
theorem dX3_save_61 : decode cX3_save 61 = .ok (.iconst 1, 1) := by decide +kernel
theorem dX3_save_62 : decode cX3_save 62 = .ok (.iadd, 1) := by decide +kernel
theorem dX3_save_63 : decode cX3_save 63 = .ok (.goto 4, 3) := by decide +kernel
theorem dX3_save_66 : decode cX3_save 66 = .ok (.iconst 0, 1) := by decide +kernel
theorem dX3_save_67 : decode cX3_save 67 = .ok (.putfield 17, 3) := by decide +kernel
theorem dX3_save_70 : decode cX3_save 70 = .ok (.return_, 1) := by decide +kernel
theorem dX3_restore_0 : decode cX3_restore 0 = .ok (.aload_n 0, 1) := by decide +kernel
theorem dX3_restore_1 : decode cX3_restore 1 = .ok (.getfield 21, 3) := by decide +kernel
theorem dX3_restore_4 : decode cX3_restore 4 = .ok (.ifCond .gt 4, 3) := by decide +kernel
theorem dX3_restore_7 : decode cX3_restore 7 = .ok (.return_, 1) := by decide +kernel
theorem dX3_restore_8 : decode cX3_restore 8 = .ok (.aload_n 0, 1) := by decide +kernel
theorem dX3_restore_9 : decode cX3_restore 9 = .ok (.dup, 1) := by decide +kernel
theorem dX3_restore_10 : decode cX3_restore 10 = .ok (.getfield 21, 3) := by decide +kernel
theorem dX3_restore_13 : decode cX3_restore 13 = .ok (.iconst 1, 1) := by decide +kernel
theorem dX3_restore_14 : decode cX3_restore 14 = .ok (.isub, 1) := by decide +kernel
theorem dX3_restore_15 : decode cX3_restore 15 = .ok (.putfield 21, 3) := by decide +kernel
theorem dX3_restore_18 : decode cX3_restore 18 = .ok (.aload_n 0, 1) := by decide +kernel
theorem dX3_restore_19 : decode cX3_restore 19 = .ok (.aload_n 0, 1) := by decide +kernel
theorem dX3_restore_20 : decode cX3_restore 20 = .ok (.getfield 17, 3) := by decide +kernel
theorem dX3_restore_23 : decode cX3_restore 23 = .ok (.aload_n 0, 1) := by decide +kernel
theorem dX3_restore_24 : decode cX3_restore 24 = .ok (.getfield 21, 3) := by decide +kernel
theorem dX3_restore_27 : decode cX3_restore 27 = .ok (.iadd, 1) := by decide +kernel
theorem dX3_restore_28 : decode cX3_restore 28 = .ok (.invokevirtual 25, 3) := by decide +kernel
theorem dX3_restore_31 : decode cX3_restore 31 = .ok (.astore_n 2, 1) := by decide +kernel
theorem dX3_restore_32 : decode cX3_restore 32 = .ok (.aload_n 2, 1) := by decide +kernel
theorem dX3_restore_33 : decode cX3_restore 33 = .ok (.ifnull 8, 3) := by decide +kernel
theorem dX3_restore_36 : decode cX3_restore 36 = .ok (.aload_n 1, 1) := by decide +kernel
theorem dX3_restore_37 : decode cX3_restore 37 = .ok (.aload_n 2, 1) := by decide +kernel
theorem dX3_restore_38 : decode cX3_restore 38 = .ok (.invokevirtual 29, 3) := by decide +kernel
theorem dX3_restore_41 : decode cX3_restore 41 = .ok (.return_, 1) := by decide +kernel
theorem dX3_stateAt_0 : decode cX3_stateAt 0 = .ok (.iload_n 1, 1) := by decide +kernel
theorem dX3_stateAt_1 : decode cX3_stateAt 1 = .ok (.bipush 6, 2) := by decide +kernel
theorem dX3_stateAt_3 : decode cX3_stateAt 3 = .ok (.if_icmp .ge 7, 3) := by decide +kernel
theorem dX3_stateAt_6 : decode cX3_stateAt 6 = .ok (.iload_n 1, 1) := by decide +kernel
theorem dX3_stateAt_7 : decode cX3_stateAt 7 = .ok (.goto 7, 3) := by decide +kernel
theorem dX3_stateAt_10 : decode cX3_stateAt 10 = .ok (.iload_n 1, 1) := by decide +kernel
theorem dX3_stateAt_11 : decode cX3_stateAt 11 = .ok (.bipush 6, 2) := by decide +kernel
theorem dX3_stateAt_13 : decode cX3_stateAt 13 = .ok (.isub, 1) := by decide +kernel
theorem dX3_stateAt_14 : decode cX3_stateAt 14 = .ok (.istore_n 2, 1) := by decide +kernel
theorem dX3_stateAt_15 : decode cX3_stateAt 15 = .ok (.iload_n 2, 1) := by decide +kernel
theorem dX3_stateAt_16 : decode cX3_stateAt 16 = .ok (.ifCond .lt 21, 3) := by decide +kernel
theorem dX3_stateAt_19 : decode cX3_stateAt 19 = .ok (.iload_n 2, 1) := by decide +kernel
theorem dX3_stateAt_20 : decode cX3_stateAt 20 = .ok (.aload_n 0, 1) := by decide +kernel
theorem dX3_stateAt_21 : decode cX3_stateAt 21 = .ok (.getfield 11, 3) := by decide +kernel
theorem dX3_stateAt_24 : decode cX3_stateAt 24 = .ok (.arraylength, 1) := by decide +kernel
theorem dX3_stateAt_25 : decode cX3_stateAt 25 = .ok (.if_icmp .ge 12, 3) := by decide +kernel
theorem dX3_stateAt_28 : decode cX3_stateAt 28 = .ok (.aload_n 0, 1) := by decide +kernel
theorem dX3_stateAt_29 : decode cX3_stateAt 29 = .ok (.getfield 11, 3) := by decide +kernel
theorem dX3_stateAt_32 : decode cX3_stateAt 32 = .ok (.iload_n 2, 1) := by decide +kernel
theorem dX3_stateAt_33 : decode cX3_stateAt 33 = .ok (.aaload, 1) := by decide +kernel
theorem dX3_stateAt_34 : decode cX3_stateAt 34 = .ok (.goto 4, 3) := by decide +kernel
theorem dX3_stateAt_37 : decode cX3_stateAt 37 = .ok (.aconst_null, 1) := by decide +kernel
theorem dX3_stateAt_38 : decode cX3_stateAt 38 = .ok (.areturn, 1) := by decide +kernel
theorem dX4_init_0 : decode cX4_init 0 = .ok (.aload_n 0, 1) := by decide +kernel
theorem dX4_init_1 : decode cX4_init 1 = .ok (.invokespecial 3, 3) := by decide +kernel
theorem dX4_init_4 : decode cX4_init 4 = .ok (.aload_n 0, 1) := by decide +kernel
theorem dX4_init_5 : decode cX4_init 5 = .ok (.bipush 60, 2) := by decide +kernel
theorem dX4_init_7 : decode cX4_init 7 = .ok (.newarray .int, 2) := by decide +kernel
theorem dX4_init_9 : decode cX4_init 9 = .ok (.putfield 9, 3) := by decide +kernel
theorem dX4_init_12 : decode cX4_init 12 = .ok (.aload_n 0, 1) := by decide +kernel
theorem dX4_init_13 : decode cX4_init 13 = .ok (.iconst 0, 1) := by decide +kernel
theorem dX4_init_14 : decode cX4_init 14 = .ok (.putfield 15, 3) := by decide +kernel
theorem dX4_init_17 : decode cX4_init 17 = .ok (.aload_n 0, 1) := by decide +kernel
theorem dX4_init_18 : decode cX4_init 18 = .ok (.bipush 12, 2) := by decide +kernel
theorem dX4_init_20 : decode cX4_init 20 = .ok (.newarray .int, 2) := by decide +kernel
theorem dX4_init_22 : decode cX4_init 22 = .ok (.putfield 19, 3) := by decide +kernel
theorem dX4_init_25 : decode cX4_init 25 = .ok (.aload_n 0, 1) := by decide +kernel
theorem dX4_init_26 : decode cX4_init 26 = .ok (.iconst 0, 1) := by decide +kernel
theorem dX4_init_27 : decode cX4_init 27 = .ok (.putfield 22, 3) := by decide +kernel
theorem dX4_init_30 : decode cX4_init 30 = .ok (.aload_n 0, 1) := by decide +kernel
theorem dX4_init_31 : decode cX4_init 31 = .ok (.iconst 0, 1) := by decide +kernel
theorem dX4_init_32 : decode cX4_init 32 = .ok (.putfield 25, 3) := by decide +kernel
theorem dX4_init_35 : decode cX4_init 35 = .ok (.return_, 1) := by decide +kernel
theorem dX4_isRow_0 : decode cX4_isRow 0 = .ok (.aload_n 0, 1) := by decide +kernel
theorem dX4_isRow_1 : decode cX4_isRow 1 = .ok (.invokevirtual 28, 3) := by decide +kernel
theorem dX4_isRow_4 : decode cX4_isRow 4 = .ok (.aload_n 0, 1) := by decide +kernel
theorem dX4_isRow_5 : decode cX4_isRow 5 = .ok (.getfield 15, 3) := by decide +kernel
theorem dX4_isRow_8 : decode cX4_isRow 8 = .ok (.if_icmp .ne 14, 3) := by decide +kernel
theorem dX4_isRow_11 : decode cX4_isRow 11 = .ok (.aload_n 0, 1) := by decide +kernel
theorem dX4_isRow_12 : decode cX4_isRow 12 = .ok (.getfield 25, 3) := by decide +kernel
theorem dX4_isRow_15 : decode cX4_isRow 15 = .ok (.ifCond .le 7, 3) := by decide +kernel
theorem dX4_isRow_18 : decode cX4_isRow 18 = .ok (.iconst 1, 1) := by decide +kernel
theorem dX4_isRow_19 : decode cX4_isRow 19 = .ok (.goto 4, 3) := by decide +kernel
theorem dX4_isRow_22 : decode cX4_isRow 22 = .ok (.iconst 0, 1) := by decide +kernel
theorem dX4_isRow_23 : decode cX4_isRow 23 = .ok (.ireturn, 1) := by decide +kernel
theorem dX4_read_0 : decode cX4_read 0 = .ok (.aload_n 0, 1) := by decide +kernel
theorem dX4_read_1 : decode cX4_read 1 = .ok (.iconst 1, 1) := by decide +kernel
theorem dX4_read_2 : decode cX4_read 2 = .ok (.putfield 22, 3) := by decide +kernel
theorem dX4_read_5 : decode cX4_read 5 = .ok (.aload_n 0, 1) := by decide +kernel
theorem dX4_read_6 : decode cX4_read 6 = .ok (.iconst 0, 1) := by decide +kernel
theorem dX4_read_7 : decode cX4_read 7 = .ok (.putfield 25, 3) := by decide +kernel
theorem dX4_read_10 : decode cX4_read 10 = .ok (.iconst 0, 1) := by decide +kernel
theorem dX4_read_11 : decode cX4_read 11 = .ok (.istore_n 1, 1) := by decide +kernel
theorem dX4_read_12 : decode cX4_read 12 = .ok (.iload_n 1, 1) := by decide +kernel
theorem dX4_read_13 : decode cX4_read 13 = .ok (.aload_n 0, 1) := by decide +kernel
theorem dX4_read_14 : decode cX4_read 14 = .ok (.getfield 15, 3) := by decide +kernel
theorem dX4_read_17 : decode cX4_read 17 = .ok (.if_icmp .ge 26, 3) := by decide +kernel
theorem dX4_read_20 : decode cX4_read 20 = .ok (.aload_n 0, 1) := by decide +kernel
theorem dX4_read_21 : decode cX4_read 21 = .ok (.aload_n 0, 1) := by decide +kernel
theorem dX4_read_22 : decode cX4_read 22 = .ok (.getfield 9, 3) := by decide +kernel
theorem dX4_read_25 : decode cX4_read 25 = .ok (.iload_n 1, 1) := by decide +kernel
theorem dX4_read_26 : decode cX4_read 26 = .ok (.invokestatic 32, 3) := by decide +kernel
theorem dX4_read_29 : decode cX4_read 29 = .ok (.invokevirtual 36, 3) := by decide +kernel
theorem dX4_read_32 : decode cX4_read 32 = .ok (.ifCond .ne 5, 3) := by decide +kernel
theorem dX4_read_35 : decode cX4_read 35 = .ok (.iload_n 1, 1) := by decide +kernel
theorem dX4_read_36 : decode cX4_read 36 = .ok (.ireturn, 1) := by decide +kernel
theorem dX4_read_37 : decode cX4_read 37 = .ok (.iinc 1 1, 3) := by decide +kernel
theorem dX4_read_40 : decode cX4_read 40 = .ok (.goto (-28), 3) := by decide +kernel
theorem dX4_read_43 : decode cX4_read 43 = .ok (.aload_n 0, 1) := by decide +kernel
theorem dX4_read_44 : decode cX4_read 44 = .ok (.getfield 15, 3) := by decide +kernel
theorem dX4_read_47 : decode cX4_read 47 = .ok (.ireturn, 1) := by decide +kernel
theorem dX4_accepts_0 : decode cX4_accepts 0 = .ok (.iload_n 1, 1) := by decide +kernel
theorem dX4_accepts_1 : decode cX4_accepts 1 = .ok (.bipush 44, 2) := by decide +kernel
theorem dX4_accepts_3 : decode cX4_accepts 3 = .ok (.if_icmp .ne 8, 3) := by decide +kernel
theorem dX4_accepts_6 : decode cX4_accepts 6 = .ok (.aload_n 0, 1) := by decide +kernel
theorem dX4_accepts_7 : decode cX4_accepts 7 = .ok (.invokevirtual 40, 3) := by decide +kernel
theorem dX4_accepts_10 : decode cX4_accepts 10 = .ok (.ireturn, 1) := by decide +kernel
theorem dX4_accepts_11 : decode cX4_accepts 11 = .ok (.iload_n 1, 1) := by decide +kernel
theorem dX4_accepts_12 : decode cX4_accepts 12 = .ok (.bipush 48, 2) := by decide +kernel
theorem dX4_accepts_14 : decode cX4_accepts 14 = .ok (.if_icmp .lt 9, 3) := by decide +kernel
theorem dX4_accepts_17 : decode cX4_accepts 17 = .ok (.iload_n 1, 1) := by decide +kernel
theorem dX4_accepts_18 : decode cX4_accepts 18 = .ok (.bipush 57, 2) := by decide +kernel
theorem dX4_accepts_20 : decode cX4_accepts 20 = .ok (.if_icmp .le 5, 3) := by decide +kernel
theorem dX4_accepts_23 : decode cX4_accepts 23 = .ok (.iconst 0, 1) := by decide +kernel
theorem dX4_accepts_24 : decode cX4_accepts 24 = .ok (.ireturn, 1) := by decide +kernel
theorem dX4_accepts_25 : decode cX4_accepts 25 = .ok (.aload_n 0, 1) := by decide +kernel
theorem dX4_accepts_26 : decode cX4_accepts 26 = .ok (.getfield 25, 3) := by decide +kernel
theorem dX4_accepts_29 : decode cX4_accepts 29 = .ok (.bipush 10, 2) := by decide +kernel
theorem dX4_accepts_31 : decode cX4_accepts 31 = .ok (.imul, 1) := by decide +kernel
theorem dX4_accepts_32 : decode cX4_accepts 32 = .ok (.iload_n 1, 1) := by decide +kernel
theorem dX4_accepts_33 : decode cX4_accepts 33 = .ok (.iadd, 1) := by decide +kernel
theorem dX4_accepts_34 : decode cX4_accepts 34 = .ok (.bipush 48, 2) := by decide +kernel
theorem dX4_accepts_36 : decode cX4_accepts 36 = .ok (.isub, 1) := by decide +kernel
theorem dX4_accepts_37 : decode cX4_accepts 37 = .ok (.istore_n 2, 1) := by decide +kernel
theorem dX4_accepts_38 : decode cX4_accepts 38 = .ok (.iload_n 2, 1) := by decide +kernel
theorem dX4_accepts_39 : decode cX4_accepts 39 = .ok (.iconst 1, 1) := by decide +kernel
theorem dX4_accepts_40 : decode cX4_accepts 40 = .ok (.if_icmp .lt 9, 3) := by decide +kernel
theorem dX4_accepts_43 : decode cX4_accepts 43 = .ok (.iload_n 2, 1) := by decide +kernel
theorem dX4_accepts_44 : decode cX4_accepts 44 = .ok (.bipush 20, 2) := by decide +kernel
theorem dX4_accepts_46 : decode cX4_accepts 46 = .ok (.if_icmp .le 5, 3) := by decide +kernel
theorem dX4_accepts_49 : decode cX4_accepts 49 = .ok (.iconst 0, 1) := by decide +kernel
theorem dX4_accepts_50 : decode cX4_accepts 50 = .ok (.ireturn, 1) := by decide +kernel
theorem dX4_accepts_51 : decode cX4_accepts 51 = .ok (.aload_n 0, 1) := by decide +kernel
theorem dX4_accepts_52 : decode cX4_accepts 52 = .ok (.iload_n 2, 1) := by decide +kernel
theorem dX4_accepts_53 : decode cX4_accepts 53 = .ok (.putfield 25, 3) := by decide +kernel
theorem dX4_accepts_56 : decode cX4_accepts 56 = .ok (.aload_n 0, 1) := by decide +kernel
theorem dX4_accepts_57 : decode cX4_accepts 57 = .ok (.getfield 19, 3) := by decide +kernel
theorem dX4_accepts_60 : decode cX4_accepts 60 = .ok (.aload_n 0, 1) := by decide +kernel
theorem dX4_accepts_61 : decode cX4_accepts 61 = .ok (.getfield 22, 3) := by decide +kernel
theorem dX4_accepts_64 : decode cX4_accepts 64 = .ok (.iconst 1, 1) := by decide +kernel
theorem dX4_accepts_65 : decode cX4_accepts 65 = .ok (.isub, 1) := by decide +kernel
theorem dX4_accepts_66 : decode cX4_accepts 66 = .ok (.aload_n 0, 1) := by decide +kernel
theorem dX4_accepts_67 : decode cX4_accepts 67 = .ok (.getfield 25, 3) := by decide +kernel
theorem dX4_accepts_70 : decode cX4_accepts 70 = .ok (.invokestatic 44, 3) := by decide +kernel
theorem dX4_accepts_73 : decode cX4_accepts 73 = .ok (.iconst 1, 1) := by decide +kernel
theorem dX4_accepts_74 : decode cX4_accepts 74 = .ok (.ireturn, 1) := by decide +kernel
theorem dX4_acceptsComma_0 : decode cX4_acceptsComma 0 = .ok (.aload_n 0, 1) := by decide +kernel
theorem dX4_acceptsComma_1 : decode cX4_acceptsComma 1 = .ok (.getfield 25, 3) := by decide +kernel
theorem dX4_acceptsComma_4 : decode cX4_acceptsComma 4 = .ok (.ifCond .eq 12, 3) := by decide +kernel
theorem dX4_acceptsComma_7 : decode cX4_acceptsComma 7 = .ok (.aload_n 0, 1) := by decide +kernel
theorem dX4_acceptsComma_8 : decode cX4_acceptsComma 8 = .ok (.getfield 22, 3) := by decide +kernel
theorem dX4_acceptsComma_11 : decode cX4_acceptsComma 11 = .ok (.bipush 12, 2) := by decide +kernel
theorem dX4_acceptsComma_13 : decode cX4_acceptsComma 13 = .ok (.if_icmp .lt 5, 3) := by decide +kernel
theorem dX4_acceptsComma_16 : decode cX4_acceptsComma 16 = .ok (.iconst 0, 1) := by decide +kernel
theorem dX4_acceptsComma_17 : decode cX4_acceptsComma 17 = .ok (.ireturn, 1) := by decide +kernel
theorem dX4_acceptsComma_18 : decode cX4_acceptsComma 18 = .ok (.aload_n 0, 1) := by decide +kernel
theorem dX4_acceptsComma_19 : decode cX4_acceptsComma 19 = .ok (.dup, 1) := by decide +kernel
theorem dX4_acceptsComma_20 : decode cX4_acceptsComma 20 = .ok (.getfield 22, 3) := by decide +kernel
theorem dX4_acceptsComma_23 : decode cX4_acceptsComma 23 = .ok (.iconst 1, 1) := by decide +kernel
theorem dX4_acceptsComma_24 : decode cX4_acceptsComma 24 = .ok (.iadd, 1) := by decide +kernel
theorem dX4_acceptsComma_25 : decode cX4_acceptsComma 25 = .ok (.putfield 22, 3) := by decide +kernel
theorem dX4_acceptsComma_28 : decode cX4_acceptsComma 28 = .ok (.aload_n 0, 1) := by decide +kernel
theorem dX4_acceptsComma_29 : decode cX4_acceptsComma 29 = .ok (.iconst 0, 1) := by decide +kernel
theorem dX4_acceptsComma_30 : decode cX4_acceptsComma 30 = .ok (.putfield 25, 3) := by decide +kernel
theorem dX4_acceptsComma_33 : decode cX4_acceptsComma 33 = .ok (.iconst 1, 1) := by decide +kernel
theorem dX4_acceptsComma_34 : decode cX4_acceptsComma 34 = .ok (.ireturn, 1) := by decide +kernel
theorem dX5_init_0 : decode cX5_init 0 = .ok (.aload_n 0, 1) := by decide +kernel
theorem dX5_init_1 : decode cX5_init 1 = .ok (.invokespecial 3, 3) := by decide +kernel
theorem dX5_init_4 : decode cX5_init 4 = .ok (.aload_n 0, 1) := by decide +kernel
theorem dX5_init_5 : decode cX5_init 5 = .ok (.new 9, 3) := by decide +kernel
theorem dX5_init_8 : decode cX5_init 8 = .ok (.dup, 1) := by decide +kernel
theorem dX5_init_9 : decode cX5_init 9 = .ok (.invokespecial 11, 3) := by decide +kernel
theorem dX5_init_12 : decode cX5_init 12 = .ok (.putfield 12, 3) := by decide +kernel
theorem dX5_init_15 : decode cX5_init 15 = .ok (.aload_n 0, 1) := by decide +kernel
theorem dX5_init_16 : decode cX5_init 16 = .ok (.bipush 12, 2) := by decide +kernel
theorem dX5_init_18 : decode cX5_init 18 = .ok (.newarray .int, 2) := by decide +kernel
theorem dX5_init_20 : decode cX5_init 20 = .ok (.putfield 18, 3) := by decide +kernel
theorem dX5_init_23 : decode cX5_init 23 = .ok (.aload_n 0, 1) := by decide +kernel
theorem dX5_init_24 : decode cX5_init 24 = .ok (.sipush 144, 3) := by decide +kernel
theorem dX5_init_27 : decode cX5_init 27 = .ok (.newarray .int, 2) := by decide +kernel
theorem dX5_init_29 : decode cX5_init 29 = .ok (.putfield 22, 3) := by decide +kernel
theorem dX5_init_32 : decode cX5_init 32 = .ok (.aload_n 0, 1) := by decide +kernel
theorem dX5_init_33 : decode cX5_init 33 = .ok (.iconst 0, 1) := by decide +kernel
theorem dX5_init_34 : decode cX5_init 34 = .ok (.putfield 25, 3) := by decide +kernel
theorem dX5_init_37 : decode cX5_init 37 = .ok (.aload_n 0, 1) := by decide +kernel
theorem dX5_init_38 : decode cX5_init 38 = .ok (.iconst 0, 1) := by decide +kernel
theorem dX5_init_39 : decode cX5_init 39 = .ok (.putfield 29, 3) := by decide +kernel
theorem dX5_init_42 : decode cX5_init 42 = .ok (.aload_n 0, 1) := by decide +kernel
theorem dX5_init_43 : decode cX5_init 43 = .ok (.iconst 0, 1) := by decide +kernel
theorem dX5_init_44 : decode cX5_init 44 = .ok (.putfield 32, 3) := by decide +kernel
theorem dX5_init_47 : decode cX5_init 47 = .ok (.aload_n 0, 1) := by decide +kernel
theorem dX5_init_48 : decode cX5_init 48 = .ok (.iconst 0, 1) := by decide +kernel
theorem dX5_init_49 : decode cX5_init 49 = .ok (.putfield 36, 3) := by decide +kernel
theorem dX5_init_52 : decode cX5_init 52 = .ok (.return_, 1) := by decide +kernel
theorem dX5_run_0 : decode cX5_run 0 = .ok (.aload_n 1, 1) := by decide +kernel
theorem dX5_run_1 : decode cX5_run 1 = .ok (.getfield 39, 3) := by decide +kernel
theorem dX5_run_4 : decode cX5_run 4 = .ok (.getfield 45, 3) := by decide +kernel
theorem dX5_run_7 : decode cX5_run 7 = .ok (.aload_n 0, 1) := by decide +kernel
theorem dX5_run_8 : decode cX5_run 8 = .ok (.getfield 18, 3) := by decide +kernel
theorem dX5_run_11 : decode cX5_run 11 = .ok (.invokestatic 48, 3) := by decide +kernel
theorem dX5_run_14 : decode cX5_run 14 = .ok (.aload_n 0, 1) := by decide +kernel
theorem dX5_run_15 : decode cX5_run 15 = .ok (.iload_n 2, 1) := by decide +kernel
theorem dX5_run_16 : decode cX5_run 16 = .ok (.putfield 25, 3) := by decide +kernel
theorem dX5_run_19 : decode cX5_run 19 = .ok (.aload_n 0, 1) := by decide +kernel
theorem dX5_run_20 : decode cX5_run 20 = .ok (.aload_n 1, 1) := by decide +kernel
theorem dX5_run_21 : decode cX5_run 21 = .ok (.getfield 52, 3) := by decide +kernel
theorem dX5_run_24 : decode cX5_run 24 = .ok (.putfield 29, 3) := by decide +kernel
theorem dX5_run_27 : decode cX5_run 27 = .ok (.aload_n 0, 1) := by decide +kernel
theorem dX5_run_28 : decode cX5_run 28 = .ok (.aload_n 1, 1) := by decide +kernel
theorem dX5_run_29 : decode cX5_run 29 = .ok (.getfield 55, 3) := by decide +kernel
theorem dX5_run_32 : decode cX5_run 32 = .ok (.putfield 32, 3) := by decide +kernel
theorem dX5_run_35 : decode cX5_run 35 = .ok (.aload_n 0, 1) := by decide +kernel
theorem dX5_run_36 : decode cX5_run 36 = .ok (.getfield 12, 3) := by decide +kernel
theorem dX5_run_39 : decode cX5_run 39 = .ok (.invokevirtual 58, 3) := by decide +kernel
theorem dX5_run_42 : decode cX5_run 42 = .ok (.aload_n 0, 1) := by decide +kernel
theorem dX5_run_43 : decode cX5_run 43 = .ok (.iconst 0, 1) := by decide +kernel
theorem dX5_run_44 : decode cX5_run 44 = .ok (.putfield 36, 3) := by decide +kernel
theorem dX5_run_47 : decode cX5_run 47 = .ok (.aload_n 0, 1) := by decide +kernel
theorem dX5_run_48 : decode cX5_run 48 = .ok (.aload_n 1, 1) := by decide +kernel
theorem dX5_run_49 : decode cX5_run 49 = .ok (.getfield 39, 3) := by decide +kernel
theorem dX5_run_52 : decode cX5_run 52 = .ok (.getfield 61, 3) := by decide +kernel
theorem dX5_run_55 : decode cX5_run 55 = .ok (.aload_n 1, 1) := by decide +kernel
theorem dX5_run_56 : decode cX5_run 56 = .ok (.getfield 39, 3) := by decide +kernel
theorem dX5_run_59 : decode cX5_run 59 = .ok (.getfield 64, 3) := by decide +kernel
theorem dX5_run_62 : decode cX5_run 62 = .ok (.iload_n 3, 1) := by decide +kernel
theorem dX5_run_63 : decode cX5_run 63 = .ok (.iload 4, 2) := by decide +kernel
theorem dX5_run_65 : decode cX5_run 65 = .ok (.iload 5, 2) := by decide +kernel
theorem dX5_run_67 : decode cX5_run 67 = .ok (.invokevirtual 67, 3) := by decide +kernel
theorem dX5_run_70 : decode cX5_run 70 = .ok (.istore 6, 2) := by decide +kernel
theorem dX5_run_72 : decode cX5_run 72 = .ok (.aload_n 0, 1) := by decide +kernel
theorem dX5_run_73 : decode cX5_run 73 = .ok (.getfield 12, 3) := by decide +kernel
theorem dX5_run_76 : decode cX5_run 76 = .ok (.aload_n 0, 1) := by decide +kernel
theorem dX5_run_77 : decode cX5_run 77 = .ok (.getfield 36, 3) := by decide +kernel
theorem dX5_run_80 : decode cX5_run 80 = .ok (.ifCond .eq 9, 3) := by decide +kernel
theorem dX5_run_83 : decode cX5_run 83 = .ok (.sipush (-999), 3) := by decide +kernel
theorem dX5_run_86 : decode cX5_run 86 = .ok (.goto 5, 3) := by decide +kernel
theorem dX5_run_89 : decode cX5_run 89 = .ok (.iload 6, 2) := by decide +kernel
theorem dX5_run_91 : decode cX5_run 91 = .ok (.putfield 71, 3) := by decide +kernel
theorem dX5_run_94 : decode cX5_run 94 = .ok (.return_, 1) := by decide +kernel
theorem dX5_explore_0 : decode cX5_explore 0 = .ok (.aload_n 0, 1) := by decide +kernel
theorem dX5_explore_1 : decode cX5_explore 1 = .ok (.getfield 12, 3) := by decide +kernel
theorem dX5_explore_4 : decode cX5_explore 4 = .ok (.dup, 1) := by decide +kernel
theorem dX5_explore_5 : decode cX5_explore 5 = .ok (.getfield 74, 3) := by decide +kernel
theorem dX5_explore_8 : decode cX5_explore 8 = .ok (.iconst 1, 1) := by decide +kernel
theorem dX5_explore_9 : decode cX5_explore 9 = .ok (.iadd, 1) := by decide +kernel
theorem dX5_explore_10 : decode cX5_explore 10 = .ok (.putfield 74, 3) := by decide +kernel
theorem dX5_explore_13 : decode cX5_explore 13 = .ok (.aload_n 0, 1) := by decide +kernel
theorem dX5_explore_14 : decode cX5_explore 14 = .ok (.getfield 12, 3) := by decide +kernel
theorem dX5_explore_17 : decode cX5_explore 17 = .ok (.getfield 74, 3) := by decide +kernel
theorem dX5_explore_20 : decode cX5_explore 20 = .ok (.aload_n 0, 1) := by decide +kernel
theorem dX5_explore_21 : decode cX5_explore 21 = .ok (.getfield 29, 3) := by decide +kernel
theorem dX5_explore_24 : decode cX5_explore 24 = .ok (.if_icmp .le 10, 3) := by decide +kernel
theorem dX5_explore_27 : decode cX5_explore 27 = .ok (.aload_n 0, 1) := by decide +kernel
theorem dX5_explore_28 : decode cX5_explore 28 = .ok (.iconst 1, 1) := by decide +kernel
theorem dX5_explore_29 : decode cX5_explore 29 = .ok (.putfield 36, 3) := by decide +kernel
theorem dX5_explore_32 : decode cX5_explore 32 = .ok (.iconst 0, 1) := by decide +kernel
theorem dX5_explore_33 : decode cX5_explore 33 = .ok (.ireturn, 1) := by decide +kernel
theorem dX5_explore_34 : decode cX5_explore 34 = .ok (.iload_n 2, 1) := by decide +kernel
theorem dX5_explore_35 : decode cX5_explore 35 = .ok (.ifCond .le 7, 3) := by decide +kernel
theorem dX5_explore_38 : decode cX5_explore 38 = .ok (.iload_n 3, 1) := by decide +kernel
theorem dX5_explore_39 : decode cX5_explore 39 = .ok (.ifCond .gt 5, 3) := by decide +kernel
theorem dX5_explore_42 : decode cX5_explore 42 = .ok (.iconst 0, 1) := by decide +kernel
theorem dX5_explore_43 : decode cX5_explore 43 = .ok (.ireturn, 1) := by decide +kernel
theorem dX5_explore_44 : decode cX5_explore 44 = .ok (.iload_n 1, 1) := by decide +kernel
theorem dX5_explore_45 : decode cX5_explore 45 = .ok (.iload_n 2, 1) := by decide +kernel
theorem dX5_explore_46 : decode cX5_explore 46 = .ok (.invokestatic 77, 3) := by decide +kernel
theorem dX5_explore_49 : decode cX5_explore 49 = .ok (.istore 6, 2) := by decide +kernel
theorem dX5_explore_51 : decode cX5_explore 51 = .ok (.aload_n 0, 1) := by decide +kernel
theorem dX5_explore_52 : decode cX5_explore 52 = .ok (.getfield 32, 3) := by decide +kernel
theorem dX5_explore_55 : decode cX5_explore 55 = .ok (.ifCond .eq 43, 3) := by decide +kernel
theorem dX5_explore_58 : decode cX5_explore 58 = .ok (.aload_n 0, 1) := by decide +kernel
theorem dX5_explore_59 : decode cX5_explore 59 = .ok (.iload 6, 2) := by decide +kernel
theorem dX5_explore_61 : decode cX5_explore 61 = .ok (.iload_n 3, 1) := by decide +kernel
theorem dX5_explore_62 : decode cX5_explore 62 = .ok (.iload 4, 2) := by decide +kernel
theorem dX5_explore_64 : decode cX5_explore 64 = .ok (.iload 5, 2) := by decide +kernel
theorem dX5_explore_66 : decode cX5_explore 66 = .ok (.invokevirtual 81, 3) := by decide +kernel
theorem dX5_explore_69 : decode cX5_explore 69 = .ok (.ifCond .eq 29, 3) := by decide +kernel
theorem dX5_explore_72 : decode cX5_explore 72 = .ok (.aload_n 0, 1) := by decide +kernel
theorem dX5_explore_73 : decode cX5_explore 73 = .ok (.getfield 12, 3) := by decide +kernel
theorem dX5_explore_76 : decode cX5_explore 76 = .ok (.dup, 1) := by decide +kernel
theorem dX5_explore_77 : decode cX5_explore 77 = .ok (.getfield 85, 3) := by decide +kernel
theorem dX5_explore_80 : decode cX5_explore 80 = .ok (.iconst 1, 1) := by decide +kernel
theorem dX5_explore_81 : decode cX5_explore 81 = .ok (.iadd, 1) := by decide +kernel
theorem dX5_explore_82 : decode cX5_explore 82 = .ok (.putfield 85, 3) := by decide +kernel
theorem dX5_explore_85 : decode cX5_explore 85 = .ok (.aload_n 0, 1) := by decide +kernel
theorem dX5_explore_86 : decode cX5_explore 86 = .ok (.getfield 12, 3) := by decide +kernel
theorem dX5_explore_89 : decode cX5_explore 89 = .ok (.getfield 88, 3) := by decide +kernel
theorem dX5_explore_92 : decode cX5_explore 92 = .ok (.iload 6, 2) := by decide +kernel
theorem dX5_explore_94 : decode cX5_explore 94 = .ok (.invokestatic 91, 3) := by decide +kernel
theorem dX5_explore_97 : decode cX5_explore 97 = .ok (.ireturn, 1) := by decide +kernel
theorem dX5_explore_98 : decode cX5_explore 98 = .ok (.aload_n 0, 1) := by decide +kernel
theorem dX5_explore_99 : decode cX5_explore 99 = .ok (.iload_n 1, 1) := by decide +kernel
theorem dX5_explore_100 : decode cX5_explore 100 = .ok (.iload_n 2, 1) := by decide +kernel
theorem dX5_explore_101 : decode cX5_explore 101 = .ok (.iload_n 3, 1) := by decide +kernel
theorem dX5_explore_102 : decode cX5_explore 102 = .ok (.iload 4, 2) := by decide +kernel
theorem dX5_explore_104 : decode cX5_explore 104 = .ok (.iload 5, 2) := by decide +kernel
theorem dX5_explore_106 : decode cX5_explore 106 = .ok (.invokevirtual 95, 3) := by decide +kernel
theorem dX5_explore_109 : decode cX5_explore 109 = .ok (.istore 7, 2) := by decide +kernel
theorem dX5_explore_111 : decode cX5_explore 111 = .ok (.aload_n 0, 1) := by decide +kernel
theorem dX5_explore_112 : decode cX5_explore 112 = .ok (.getfield 32, 3) := by decide +kernel
theorem dX5_explore_115 : decode cX5_explore 115 = .ok (.ifCond .eq 69, 3) := by decide +kernel
theorem dX5_explore_118 : decode cX5_explore 118 = .ok (.aload_n 0, 1) := by decide +kernel
theorem dX5_explore_119 : decode cX5_explore 119 = .ok (.getfield 36, 3) := by decide +kernel
theorem dX5_explore_122 : decode cX5_explore 122 = .ok (.ifCond .ne 62, 3) := by decide +kernel
theorem dX5_explore_125 : decode cX5_explore 125 = .ok (.aload_n 0, 1) := by decide +kernel
theorem dX5_explore_126 : decode cX5_explore 126 = .ok (.getfield 12, 3) := by decide +kernel
theorem dX5_explore_129 : decode cX5_explore 129 = .ok (.getfield 98, 3) := by decide +kernel
theorem dX5_explore_132 : decode cX5_explore 132 = .ok (.iload 6, 2) := by decide +kernel
theorem dX5_explore_134 : decode cX5_explore 134 = .ok (.iload 7, 2) := by decide +kernel
theorem dX5_explore_136 : decode cX5_explore 136 = .ok (.iload 5, 2) := by decide +kernel
theorem dX5_explore_138 : decode cX5_explore 138 = .ok (.if_icmp .lt 7, 3) := by decide +kernel
theorem dX5_explore_141 : decode cX5_explore 141 = .ok (.iconst 2, 1) := by decide +kernel
theorem dX5_explore_142 : decode cX5_explore 142 = .ok (.goto 15, 3) := by decide +kernel
theorem dX5_explore_145 : decode cX5_explore 145 = .ok (.iload 7, 2) := by decide +kernel
theorem dX5_explore_147 : decode cX5_explore 147 = .ok (.iload 4, 2) := by decide +kernel
theorem dX5_explore_149 : decode cX5_explore 149 = .ok (.if_icmp .gt 7, 3) := by decide +kernel
theorem dX5_explore_152 : decode cX5_explore 152 = .ok (.iconst 3, 1) := by decide +kernel
theorem dX5_explore_153 : decode cX5_explore 153 = .ok (.goto 4, 3) := by decide +kernel
theorem dX5_explore_156 : decode cX5_explore 156 = .ok (.iconst 1, 1) := by decide +kernel
theorem dX5_explore_157 : decode cX5_explore 157 = .ok (.invokestatic 101, 3) := by decide +kernel
theorem dX5_explore_160 : decode cX5_explore 160 = .ok (.aload_n 0, 1) := by decide +kernel
theorem dX5_explore_161 : decode cX5_explore 161 = .ok (.getfield 12, 3) := by decide +kernel
theorem dX5_explore_164 : decode cX5_explore 164 = .ok (.getfield 88, 3) := by decide +kernel
theorem dX5_explore_167 : decode cX5_explore 167 = .ok (.iload 6, 2) := by decide +kernel
theorem dX5_explore_169 : decode cX5_explore 169 = .ok (.iload 7, 2) := by decide +kernel
theorem dX5_explore_171 : decode cX5_explore 171 = .ok (.invokestatic 101, 3) := by decide +kernel
theorem dX5_explore_174 : decode cX5_explore 174 = .ok (.aload_n 0, 1) := by decide +kernel
theorem dX5_explore_175 : decode cX5_explore 175 = .ok (.getfield 22, 3) := by decide +kernel
theorem dX5_explore_178 : decode cX5_explore 178 = .ok (.iload 6, 2) := by decide +kernel
theorem dX5_explore_180 : decode cX5_explore 180 = .ok (.iload_n 3, 1) := by decide +kernel
theorem dX5_explore_181 : decode cX5_explore 181 = .ok (.invokestatic 101, 3) := by decide +kernel
theorem dX5_explore_184 : decode cX5_explore 184 = .ok (.iload 7, 2) := by decide +kernel
theorem dX5_explore_186 : decode cX5_explore 186 = .ok (.ireturn, 1) := by decide +kernel
theorem dX5_isAnswer_0 : decode cX5_isAnswer 0 = .ok (.aload_n 0, 1) := by decide +kernel
theorem dX5_isAnswer_1 : decode cX5_isAnswer 1 = .ok (.getfield 22, 3) := by decide +kernel
theorem dX5_isAnswer_4 : decode cX5_isAnswer 4 = .ok (.iload_n 1, 1) := by decide +kernel
theorem dX5_isAnswer_5 : decode cX5_isAnswer 5 = .ok (.invokestatic 91, 3) := by decide +kernel
theorem dX5_isAnswer_8 : decode cX5_isAnswer 8 = .ok (.iload_n 2, 1) := by decide +kernel
theorem dX5_isAnswer_9 : decode cX5_isAnswer 9 = .ok (.if_icmp .eq 5, 3) := by decide +kernel
theorem dX5_isAnswer_12 : decode cX5_isAnswer 12 = .ok (.iconst 0, 1) := by decide +kernel
theorem dX5_isAnswer_13 : decode cX5_isAnswer 13 = .ok (.ireturn, 1) := by decide +kernel
theorem dX5_isAnswer_14 : decode cX5_isAnswer 14 = .ok (.aload_n 0, 1) := by decide +kernel
theorem dX5_isAnswer_15 : decode cX5_isAnswer 15 = .ok (.getfield 12, 3) := by decide +kernel
theorem dX5_isAnswer_18 : decode cX5_isAnswer 18 = .ok (.getfield 88, 3) := by decide +kernel
theorem dX5_isAnswer_21 : decode cX5_isAnswer 21 = .ok (.iload_n 1, 1) := by decide +kernel
theorem dX5_isAnswer_22 : decode cX5_isAnswer 22 = .ok (.invokestatic 91, 3) := by decide +kernel
theorem dX5_isAnswer_25 : decode cX5_isAnswer 25 = .ok (.istore 5, 2) := by decide +kernel
theorem dX5_isAnswer_27 : decode cX5_isAnswer 27 = .ok (.aload_n 0, 1) := by decide +kernel
theorem dX5_isAnswer_28 : decode cX5_isAnswer 28 = .ok (.getfield 12, 3) := by decide +kernel
theorem dX5_isAnswer_31 : decode cX5_isAnswer 31 = .ok (.getfield 98, 3) := by decide +kernel
theorem dX5_isAnswer_34 : decode cX5_isAnswer 34 = .ok (.iload_n 1, 1) := by decide +kernel
theorem dX5_isAnswer_35 : decode cX5_isAnswer 35 = .ok (.invokestatic 91, 3) := by decide +kernel
theorem dX5_isAnswer_38 : decode cX5_isAnswer 38 = .ok (.tableswitch 53 1 3 #[26, 28, 41], 26) := by decide +kernel
theorem dX5_isAnswer_64 : decode cX5_isAnswer 64 = .ok (.iconst 1, 1) := by decide +kernel
theorem dX5_isAnswer_65 : decode cX5_isAnswer 65 = .ok (.ireturn, 1) := by decide +kernel
theorem dX5_isAnswer_66 : decode cX5_isAnswer 66 = .ok (.iload 5, 2) := by decide +kernel
theorem dX5_isAnswer_68 : decode cX5_isAnswer 68 = .ok (.iload 4, 2) := by decide +kernel
theorem dX5_isAnswer_70 : decode cX5_isAnswer 70 = .ok (.if_icmp .lt 7, 3) := by decide +kernel
theorem dX5_isAnswer_73 : decode cX5_isAnswer 73 = .ok (.iconst 1, 1) := by decide +kernel
theorem dX5_isAnswer_74 : decode cX5_isAnswer 74 = .ok (.goto 4, 3) := by decide +kernel
theorem dX5_isAnswer_77 : decode cX5_isAnswer 77 = .ok (.iconst 0, 1) := by decide +kernel
theorem dX5_isAnswer_78 : decode cX5_isAnswer 78 = .ok (.ireturn, 1) := by decide +kernel
theorem dX5_isAnswer_79 : decode cX5_isAnswer 79 = .ok (.iload 5, 2) := by decide +kernel
theorem dX5_isAnswer_81 : decode cX5_isAnswer 81 = .ok (.iload_n 3, 1) := by decide +kernel
theorem dX5_isAnswer_82 : decode cX5_isAnswer 82 = .ok (.if_icmp .gt 7, 3) := by decide +kernel
theorem dX5_isAnswer_85 : decode cX5_isAnswer 85 = .ok (.iconst 1, 1) := by decide +kernel
theorem dX5_isAnswer_86 : decode cX5_isAnswer 86 = .ok (.goto 4, 3) := by decide +kernel
theorem dX5_isAnswer_89 : decode cX5_isAnswer 89 = .ok (.iconst 0, 1) := by decide +kernel
theorem dX5_isAnswer_90 : decode cX5_isAnswer 90 = .ok (.ireturn, 1) := by decide +kernel
theorem dX5_isAnswer_91 : decode cX5_isAnswer 91 = .ok (.iconst 0, 1) := by decide +kernel
theorem dX5_isAnswer_92 : decode cX5_isAnswer 92 = .ok (.ireturn, 1) := by decide +kernel
theorem dX5_tryMoves_0 : decode cX5_tryMoves 0 = .ok (.ldc 107, 2) := by decide +kernel
theorem dX5_tryMoves_2 : decode cX5_tryMoves 2 = .ok (.istore 6, 2) := by decide +kernel
theorem dX5_tryMoves_4 : decode cX5_tryMoves 4 = .ok (.iconst 0, 1) := by decide +kernel
theorem dX5_tryMoves_5 : decode cX5_tryMoves 5 = .ok (.istore 7, 2) := by decide +kernel
theorem dX5_tryMoves_7 : decode cX5_tryMoves 7 = .ok (.iload 7, 2) := by decide +kernel
theorem dX5_tryMoves_9 : decode cX5_tryMoves 9 = .ok (.iconst 4, 1) := by decide +kernel
theorem dX5_tryMoves_10 : decode cX5_tryMoves 10 = .ok (.if_icmp .ge 129, 3) := by decide +kernel
theorem dX5_tryMoves_13 : decode cX5_tryMoves 13 = .ok (.aload_n 0, 1) := by decide +kernel
theorem dX5_tryMoves_14 : decode cX5_tryMoves 14 = .ok (.getfield 25, 3) := by decide +kernel
theorem dX5_tryMoves_17 : decode cX5_tryMoves 17 = .ok (.iload 7, 2) := by decide +kernel
theorem dX5_tryMoves_19 : decode cX5_tryMoves 19 = .ok (.invokestatic 108, 3) := by decide +kernel
theorem dX5_tryMoves_22 : decode cX5_tryMoves 22 = .ok (.istore 8, 2) := by decide +kernel
theorem dX5_tryMoves_24 : decode cX5_tryMoves 24 = .ok (.iload 8, 2) := by decide +kernel
theorem dX5_tryMoves_26 : decode cX5_tryMoves 26 = .ok (.iload_n 2, 1) := by decide +kernel
theorem dX5_tryMoves_27 : decode cX5_tryMoves 27 = .ok (.invokestatic 111, 3) := by decide +kernel
theorem dX5_tryMoves_30 : decode cX5_tryMoves 30 = .ok (.ifCond .ne 6, 3) := by decide +kernel
theorem dX5_tryMoves_33 : decode cX5_tryMoves 33 = .ok (.goto 100, 3) := by decide +kernel
theorem dX5_tryMoves_36 : decode cX5_tryMoves 36 = .ok (.aload_n 0, 1) := by decide +kernel
theorem dX5_tryMoves_37 : decode cX5_tryMoves 37 = .ok (.getfield 18, 3) := by decide +kernel
theorem dX5_tryMoves_40 : decode cX5_tryMoves 40 = .ok (.iload_n 1, 1) := by decide +kernel
theorem dX5_tryMoves_41 : decode cX5_tryMoves 41 = .ok (.iload_n 2, 1) := by decide +kernel
theorem dX5_tryMoves_42 : decode cX5_tryMoves 42 = .ok (.iload 8, 2) := by decide +kernel
theorem dX5_tryMoves_44 : decode cX5_tryMoves 44 = .ok (.invokestatic 115, 3) := by decide +kernel
theorem dX5_tryMoves_47 : decode cX5_tryMoves 47 = .ok (.istore 9, 2) := by decide +kernel
theorem dX5_tryMoves_49 : decode cX5_tryMoves 49 = .ok (.iload 4, 2) := by decide +kernel
theorem dX5_tryMoves_51 : decode cX5_tryMoves 51 = .ok (.iload 6, 2) := by decide +kernel
theorem dX5_tryMoves_53 : decode cX5_tryMoves 53 = .ok (.invokestatic 119, 3) := by decide +kernel
theorem dX5_tryMoves_56 : decode cX5_tryMoves 56 = .ok (.istore 10, 2) := by decide +kernel
theorem dX5_tryMoves_58 : decode cX5_tryMoves 58 = .ok (.aload_n 0, 1) := by decide +kernel
theorem dX5_tryMoves_59 : decode cX5_tryMoves 59 = .ok (.iload_n 1, 1) := by decide +kernel
theorem dX5_tryMoves_60 : decode cX5_tryMoves 60 = .ok (.iload 8, 2) := by decide +kernel
theorem dX5_tryMoves_62 : decode cX5_tryMoves 62 = .ok (.invokestatic 124, 3) := by decide +kernel
theorem dX5_tryMoves_65 : decode cX5_tryMoves 65 = .ok (.iload_n 2, 1) := by decide +kernel
theorem dX5_tryMoves_66 : decode cX5_tryMoves 66 = .ok (.iload 8, 2) := by decide +kernel
theorem dX5_tryMoves_68 : decode cX5_tryMoves 68 = .ok (.invokestatic 127, 3) := by decide +kernel
theorem dX5_tryMoves_71 : decode cX5_tryMoves 71 = .ok (.iload_n 3, 1) := by decide +kernel
theorem dX5_tryMoves_72 : decode cX5_tryMoves 72 = .ok (.iconst 1, 1) := by decide +kernel
theorem dX5_tryMoves_73 : decode cX5_tryMoves 73 = .ok (.isub, 1) := by decide +kernel
theorem dX5_tryMoves_74 : decode cX5_tryMoves 74 = .ok (.iload 9, 2) := by decide +kernel
theorem dX5_tryMoves_76 : decode cX5_tryMoves 76 = .ok (.iload 5, 2) := by decide +kernel
theorem dX5_tryMoves_78 : decode cX5_tryMoves 78 = .ok (.isub, 1) := by decide +kernel
theorem dX5_tryMoves_79 : decode cX5_tryMoves 79 = .ok (.iload 9, 2) := by decide +kernel
theorem dX5_tryMoves_81 : decode cX5_tryMoves 81 = .ok (.iload 10, 2) := by decide +kernel
theorem dX5_tryMoves_83 : decode cX5_tryMoves 83 = .ok (.isub, 1) := by decide +kernel
theorem dX5_tryMoves_84 : decode cX5_tryMoves 84 = .ok (.invokevirtual 67, 3) := by decide +kernel
theorem dX5_tryMoves_87 : decode cX5_tryMoves 87 = .ok (.istore 11, 2) := by decide +kernel
theorem dX5_tryMoves_89 : decode cX5_tryMoves 89 = .ok (.aload_n 0, 1) := by decide +kernel
theorem dX5_tryMoves_90 : decode cX5_tryMoves 90 = .ok (.getfield 36, 3) := by decide +kernel
theorem dX5_tryMoves_93 : decode cX5_tryMoves 93 = .ok (.ifCond .eq 5, 3) := by decide +kernel
theorem dX5_tryMoves_96 : decode cX5_tryMoves 96 = .ok (.iconst 0, 1) := by decide +kernel
theorem dX5_tryMoves_97 : decode cX5_tryMoves 97 = .ok (.ireturn, 1) := by decide +kernel
theorem dX5_tryMoves_98 : decode cX5_tryMoves 98 = .ok (.iload 6, 2) := by decide +kernel
theorem dX5_tryMoves_100 : decode cX5_tryMoves 100 = .ok (.iload 9, 2) := by decide +kernel
theorem dX5_tryMoves_102 : decode cX5_tryMoves 102 = .ok (.iload 11, 2) := by decide +kernel
theorem dX5_tryMoves_104 : decode cX5_tryMoves 104 = .ok (.isub, 1) := by decide +kernel
theorem dX5_tryMoves_105 : decode cX5_tryMoves 105 = .ok (.invokestatic 119, 3) := by decide +kernel
theorem dX5_tryMoves_108 : decode cX5_tryMoves 108 = .ok (.istore 6, 2) := by decide +kernel
theorem dX5_tryMoves_110 : decode cX5_tryMoves 110 = .ok (.iload 6, 2) := by decide +kernel
theorem dX5_tryMoves_112 : decode cX5_tryMoves 112 = .ok (.iload 5, 2) := by decide +kernel
theorem dX5_tryMoves_114 : decode cX5_tryMoves 114 = .ok (.if_icmp .lt 19, 3) := by decide +kernel
theorem dX5_tryMoves_117 : decode cX5_tryMoves 117 = .ok (.aload_n 0, 1) := by decide +kernel
theorem dX5_tryMoves_118 : decode cX5_tryMoves 118 = .ok (.getfield 12, 3) := by decide +kernel
theorem dX5_tryMoves_121 : decode cX5_tryMoves 121 = .ok (.dup, 1) := by decide +kernel
theorem dX5_tryMoves_122 : decode cX5_tryMoves 122 = .ok (.getfield 130, 3) := by decide +kernel
theorem dX5_tryMoves_125 : decode cX5_tryMoves 125 = .ok (.iconst 1, 1) := by decide +kernel
theorem dX5_tryMoves_126 : decode cX5_tryMoves 126 = .ok (.iadd, 1) := by decide +kernel
theorem dX5_tryMoves_127 : decode cX5_tryMoves 127 = .ok (.putfield 130, 3) := by decide +kernel
theorem dX5_tryMoves_130 : decode cX5_tryMoves 130 = .ok (.goto 9, 3) := by decide +kernel
theorem dX5_tryMoves_133 : decode cX5_tryMoves 133 = .ok (.iinc 7 1, 3) := by decide +kernel
theorem dX5_tryMoves_136 : decode cX5_tryMoves 136 = .ok (.goto (-129), 3) := by decide +kernel
theorem dX5_tryMoves_139 : decode cX5_tryMoves 139 = .ok (.iload 6, 2) := by decide +kernel
theorem dX5_tryMoves_141 : decode cX5_tryMoves 141 = .ok (.ireturn, 1) := by decide +kernel
theorem dX6_init_0 : decode cX6_init 0 = .ok (.aload_n 0, 1) := by decide +kernel
theorem dX6_init_1 : decode cX6_init 1 = .ok (.invokespecial 3, 3) := by decide +kernel
theorem dX6_init_4 : decode cX6_init 4 = .ok (.aload_n 0, 1) := by decide +kernel
theorem dX6_init_5 : decode cX6_init 5 = .ok (.new 9, 3) := by decide +kernel
theorem dX6_init_8 : decode cX6_init 8 = .ok (.dup, 1) := by decide +kernel
theorem dX6_init_9 : decode cX6_init 9 = .ok (.invokespecial 11, 3) := by decide +kernel
theorem dX6_init_12 : decode cX6_init 12 = .ok (.putfield 12, 3) := by decide +kernel
theorem dX6_init_15 : decode cX6_init 15 = .ok (.aload_n 0, 1) := by decide +kernel
theorem dX6_init_16 : decode cX6_init 16 = .ok (.new 18, 3) := by decide +kernel
theorem dX6_init_19 : decode cX6_init 19 = .ok (.dup, 1) := by decide +kernel
theorem dX6_init_20 : decode cX6_init 20 = .ok (.invokespecial 20, 3) := by decide +kernel
theorem dX6_init_23 : decode cX6_init 23 = .ok (.putfield 21, 3) := by decide +kernel
theorem dX6_init_26 : decode cX6_init 26 = .ok (.aload_n 0, 1) := by decide +kernel
theorem dX6_init_27 : decode cX6_init 27 = .ok (.iconst 0, 1) := by decide +kernel
theorem dX6_init_28 : decode cX6_init 28 = .ok (.putfield 25, 3) := by decide +kernel
theorem dX6_init_31 : decode cX6_init 31 = .ok (.aload_n 0, 1) := by decide +kernel
theorem dX6_init_32 : decode cX6_init 32 = .ok (.sipush 5000, 3) := by decide +kernel
theorem dX6_init_35 : decode cX6_init 35 = .ok (.putfield 29, 3) := by decide +kernel
theorem dX6_init_38 : decode cX6_init 38 = .ok (.aload_n 0, 1) := by decide +kernel
theorem dX6_init_39 : decode cX6_init 39 = .ok (.iconst 1, 1) := by decide +kernel
theorem dX6_init_40 : decode cX6_init 40 = .ok (.putfield 32, 3) := by decide +kernel
theorem dX6_init_43 : decode cX6_init 43 = .ok (.return_, 1) := by decide +kernel
theorem dX6_copyFrom_0 : decode cX6_copyFrom 0 = .ok (.aload_n 0, 1) := by decide +kernel
theorem dX6_copyFrom_1 : decode cX6_copyFrom 1 = .ok (.getfield 12, 3) := by decide +kernel
theorem dX6_copyFrom_4 : decode cX6_copyFrom 4 = .ok (.aload_n 1, 1) := by decide +kernel
theorem dX6_copyFrom_5 : decode cX6_copyFrom 5 = .ok (.getfield 12, 3) := by decide +kernel
theorem dX6_copyFrom_8 : decode cX6_copyFrom 8 = .ok (.invokevirtual 36, 3) := by decide +kernel
theorem dX6_copyFrom_11 : decode cX6_copyFrom 11 = .ok (.aload_n 0, 1) := by decide +kernel
theorem dX6_copyFrom_12 : decode cX6_copyFrom 12 = .ok (.getfield 21, 3) := by decide +kernel
theorem dX6_copyFrom_15 : decode cX6_copyFrom 15 = .ok (.aload_n 1, 1) := by decide +kernel
theorem dX6_copyFrom_16 : decode cX6_copyFrom 16 = .ok (.getfield 21, 3) := by decide +kernel
theorem dX6_copyFrom_19 : decode cX6_copyFrom 19 = .ok (.invokevirtual 40, 3) := by decide +kernel
theorem dX6_copyFrom_22 : decode cX6_copyFrom 22 = .ok (.aload_n 0, 1) := by decide +kernel
theorem dX6_copyFrom_23 : decode cX6_copyFrom 23 = .ok (.aload_n 1, 1) := by decide +kernel
theorem dX6_copyFrom_24 : decode cX6_copyFrom 24 = .ok (.getfield 25, 3) := by decide +kernel
theorem dX6_copyFrom_27 : decode cX6_copyFrom 27 = .ok (.putfield 25, 3) := by decide +kernel
theorem dX6_copyFrom_30 : decode cX6_copyFrom 30 = .ok (.aload_n 0, 1) := by decide +kernel
theorem dX6_copyFrom_31 : decode cX6_copyFrom 31 = .ok (.aload_n 1, 1) := by decide +kernel
theorem dX6_copyFrom_32 : decode cX6_copyFrom 32 = .ok (.getfield 29, 3) := by decide +kernel
theorem dX6_copyFrom_35 : decode cX6_copyFrom 35 = .ok (.putfield 29, 3) := by decide +kernel
theorem dX6_copyFrom_38 : decode cX6_copyFrom 38 = .ok (.aload_n 0, 1) := by decide +kernel
theorem dX6_copyFrom_39 : decode cX6_copyFrom 39 = .ok (.aload_n 1, 1) := by decide +kernel
theorem dX6_copyFrom_40 : decode cX6_copyFrom 40 = .ok (.getfield 32, 3) := by decide +kernel
theorem dX6_copyFrom_43 : decode cX6_copyFrom 43 = .ok (.putfield 32, 3) := by decide +kernel
theorem dX6_copyFrom_46 : decode cX6_copyFrom 46 = .ok (.return_, 1) := by decide +kernel
theorem dX7_init_0 : decode cX7_init 0 = .ok (.aload_n 0, 1) := by decide +kernel
theorem dX7_init_1 : decode cX7_init 1 = .ok (.invokespecial 1, 3) := by decide +kernel
theorem dX7_init_4 : decode cX7_init 4 = .ok (.aload_n 0, 1) := by decide +kernel
theorem dX7_init_5 : decode cX7_init 5 = .ok (.new 7, 3) := by decide +kernel
theorem dX7_init_8 : decode cX7_init 8 = .ok (.dup, 1) := by decide +kernel
theorem dX7_init_9 : decode cX7_init 9 = .ok (.invokespecial 9, 3) := by decide +kernel
theorem dX7_init_12 : decode cX7_init 12 = .ok (.putfield 10, 3) := by decide +kernel
theorem dX7_init_15 : decode cX7_init 15 = .ok (.aload_n 0, 1) := by decide +kernel
theorem dX7_init_16 : decode cX7_init 16 = .ok (.new 16, 3) := by decide +kernel
theorem dX7_init_19 : decode cX7_init 19 = .ok (.dup, 1) := by decide +kernel
theorem dX7_init_20 : decode cX7_init 20 = .ok (.invokespecial 18, 3) := by decide +kernel
theorem dX7_init_23 : decode cX7_init 23 = .ok (.putfield 19, 3) := by decide +kernel
theorem dX7_init_26 : decode cX7_init 26 = .ok (.aload_n 0, 1) := by decide +kernel
theorem dX7_init_27 : decode cX7_init 27 = .ok (.new 23, 3) := by decide +kernel
theorem dX7_init_30 : decode cX7_init 30 = .ok (.dup, 1) := by decide +kernel
theorem dX7_init_31 : decode cX7_init 31 = .ok (.invokespecial 25, 3) := by decide +kernel
theorem dX7_init_34 : decode cX7_init 34 = .ok (.putfield 26, 3) := by decide +kernel
theorem dX7_init_37 : decode cX7_init 37 = .ok (.aload_n 0, 1) := by decide +kernel
theorem dX7_init_38 : decode cX7_init 38 = .ok (.new 30, 3) := by decide +kernel
theorem dX7_init_41 : decode cX7_init 41 = .ok (.dup, 1) := by decide +kernel
theorem dX7_init_42 : decode cX7_init 42 = .ok (.invokespecial 32, 3) := by decide +kernel
theorem dX7_init_45 : decode cX7_init 45 = .ok (.putfield 33, 3) := by decide +kernel
theorem dX7_init_48 : decode cX7_init 48 = .ok (.aload_n 0, 1) := by decide +kernel
theorem dX7_init_49 : decode cX7_init 49 = .ok (.new 37, 3) := by decide +kernel
theorem dX7_init_52 : decode cX7_init 52 = .ok (.dup, 1) := by decide +kernel
theorem dX7_init_53 : decode cX7_init 53 = .ok (.invokespecial 39, 3) := by decide +kernel
theorem dX7_init_56 : decode cX7_init 56 = .ok (.putfield 40, 3) := by decide +kernel
theorem dX7_init_59 : decode cX7_init 59 = .ok (.return_, 1) := by decide +kernel
theorem dX7_load_0 : decode cX7_load 0 = .ok (.aload_n 0, 1) := by decide +kernel
theorem dX7_load_1 : decode cX7_load 1 = .ok (.getfield 26, 3) := by decide +kernel
theorem dX7_load_4 : decode cX7_load 4 = .ok (.invokevirtual 44, 3) := by decide +kernel
theorem dX7_load_7 : decode cX7_load 7 = .ok (.ifCond .ne 13, 3) := by decide +kernel
theorem dX7_load_10 : decode cX7_load 10 = .ok (.new 48, 3) := by decide +kernel
theorem dX7_load_13 : decode cX7_load 13 = .ok (.dup, 1) := by decide +kernel
theorem dX7_load_14 : decode cX7_load 14 = .ok (.ldc 50, 2) := by decide +kernel
theorem dX7_load_16 : decode cX7_load 16 = .ok (.invokespecial 52, 3) := by decide +kernel
theorem dX7_load_19 : decode cX7_load 19 = .ok (.athrow, 1) := by decide +kernel
theorem dX7_load_20 : decode cX7_load 20 = .ok (.aload_n 0, 1) := by decide +kernel
theorem dX7_load_21 : decode cX7_load 21 = .ok (.getfield 19, 3) := by decide +kernel
theorem dX7_load_24 : decode cX7_load 24 = .ok (.aload_n 0, 1) := by decide +kernel
theorem dX7_load_25 : decode cX7_load 25 = .ok (.getfield 10, 3) := by decide +kernel
theorem dX7_load_28 : decode cX7_load 28 = .ok (.invokevirtual 55, 3) := by decide +kernel
theorem dX7_load_31 : decode cX7_load 31 = .ok (.aload_n 0, 1) := by decide +kernel
theorem dX7_load_32 : decode cX7_load 32 = .ok (.getfield 10, 3) := by decide +kernel
theorem dX7_load_35 : decode cX7_load 35 = .ok (.getfield 59, 3) := by decide +kernel
theorem dX7_load_38 : decode cX7_load 38 = .ok (.aload_n 0, 1) := by decide +kernel
theorem dX7_load_39 : decode cX7_load 39 = .ok (.getfield 26, 3) := by decide +kernel
theorem dX7_load_42 : decode cX7_load 42 = .ok (.getfield 63, 3) := by decide +kernel
theorem dX7_load_45 : decode cX7_load 45 = .ok (.aload_n 0, 1) := by decide +kernel
theorem dX7_load_46 : decode cX7_load 46 = .ok (.getfield 26, 3) := by decide +kernel
theorem dX7_load_49 : decode cX7_load 49 = .ok (.getfield 67, 3) := by decide +kernel
theorem dX7_load_52 : decode cX7_load 52 = .ok (.invokevirtual 71, 3) := by decide +kernel
theorem dX7_load_55 : decode cX7_load 55 = .ok (.aload_n 0, 1) := by decide +kernel
theorem dX7_load_56 : decode cX7_load 56 = .ok (.getfield 33, 3) := by decide +kernel
theorem dX7_load_59 : decode cX7_load 59 = .ok (.aload_n 0, 1) := by decide +kernel
theorem dX7_load_60 : decode cX7_load 60 = .ok (.getfield 10, 3) := by decide +kernel
theorem dX7_load_63 : decode cX7_load 63 = .ok (.getfield 59, 3) := by decide +kernel
theorem dX7_load_66 : decode cX7_load 66 = .ok (.invokevirtual 77, 3) := by decide +kernel
theorem dX7_load_69 : decode cX7_load 69 = .ok (.aload_n 0, 1) := by decide +kernel
theorem dX7_load_70 : decode cX7_load 70 = .ok (.getfield 26, 3) := by decide +kernel
theorem dX7_load_73 : decode cX7_load 73 = .ok (.iconst 0, 1) := by decide +kernel
theorem dX7_load_74 : decode cX7_load 74 = .ok (.putfield 81, 3) := by decide +kernel
theorem dX7_load_77 : decode cX7_load 77 = .ok (.aload_n 0, 1) := by decide +kernel
theorem dX7_load_78 : decode cX7_load 78 = .ok (.getfield 10, 3) := by decide +kernel
theorem dX7_load_81 : decode cX7_load 81 = .ok (.getfield 59, 3) := by decide +kernel
theorem dX7_load_84 : decode cX7_load 84 = .ok (.getfield 84, 3) := by decide +kernel
theorem dX7_load_87 : decode cX7_load 87 = .ok (.ireturn, 1) := by decide +kernel
theorem dX7_play_0 : decode cX7_play 0 = .ok (.iload_n 1, 1) := by decide +kernel
theorem dX7_play_1 : decode cX7_play 1 = .ok (.invokestatic 87, 3) := by decide +kernel
theorem dX7_play_4 : decode cX7_play 4 = .ok (.ifCond .ne 13, 3) := by decide +kernel
theorem dX7_play_7 : decode cX7_play 7 = .ok (.new 91, 3) := by decide +kernel
theorem dX7_play_10 : decode cX7_play 10 = .ok (.dup, 1) := by decide +kernel
theorem dX7_play_11 : decode cX7_play 11 = .ok (.ldc 93, 2) := by decide +kernel
theorem dX7_play_13 : decode cX7_play 13 = .ok (.invokespecial 95, 3) := by decide +kernel
theorem dX7_play_16 : decode cX7_play 16 = .ok (.athrow, 1) := by decide +kernel
theorem dX7_play_17 : decode cX7_play 17 = .ok (.iload_n 1, 1) := by decide +kernel
theorem dX7_play_18 : decode cX7_play 18 = .ok (.aload_n 0, 1) := by decide +kernel
theorem dX7_play_19 : decode cX7_play 19 = .ok (.getfield 10, 3) := by decide +kernel
theorem dX7_play_22 : decode cX7_play 22 = .ok (.getfield 59, 3) := by decide +kernel
theorem dX7_play_25 : decode cX7_play 25 = .ok (.getfield 84, 3) := by decide +kernel
theorem dX7_play_28 : decode cX7_play 28 = .ok (.invokestatic 96, 3) := by decide +kernel
theorem dX7_play_31 : decode cX7_play 31 = .ok (.ifCond .ne 13, 3) := by decide +kernel
theorem dX7_play_34 : decode cX7_play 34 = .ok (.new 100, 3) := by decide +kernel
theorem dX7_play_37 : decode cX7_play 37 = .ok (.dup, 1) := by decide +kernel
theorem dX7_play_38 : decode cX7_play 38 = .ok (.ldc 102, 2) := by decide +kernel
theorem dX7_play_40 : decode cX7_play 40 = .ok (.invokespecial 104, 3) := by decide +kernel
theorem dX7_play_43 : decode cX7_play 43 = .ok (.athrow, 1) := by decide +kernel
theorem dX7_play_44 : decode cX7_play 44 = .ok (.aload_n 0, 1) := by decide +kernel
theorem dX7_play_45 : decode cX7_play 45 = .ok (.getfield 19, 3) := by decide +kernel
theorem dX7_play_48 : decode cX7_play 48 = .ok (.aload_n 0, 1) := by decide +kernel
theorem dX7_play_49 : decode cX7_play 49 = .ok (.getfield 10, 3) := by decide +kernel
theorem dX7_play_52 : decode cX7_play 52 = .ok (.invokevirtual 55, 3) := by decide +kernel
theorem dX7_play_55 : decode cX7_play 55 = .ok (.aload_n 0, 1) := by decide +kernel
theorem dX7_play_56 : decode cX7_play 56 = .ok (.getfield 10, 3) := by decide +kernel
theorem dX7_play_59 : decode cX7_play 59 = .ok (.getfield 59, 3) := by decide +kernel
theorem dX7_play_62 : decode cX7_play 62 = .ok (.iload_n 1, 1) := by decide +kernel
theorem dX7_play_63 : decode cX7_play 63 = .ok (.invokevirtual 105, 3) := by decide +kernel
theorem dX7_play_66 : decode cX7_play 66 = .ok (.ireturn, 1) := by decide +kernel
theorem dX7_playBest_0 : decode cX7_playBest 0 = .ok (.iload_n 1, 1) := by decide +kernel
theorem dX7_playBest_1 : decode cX7_playBest 1 = .ok (.iconst 1, 1) := by decide +kernel
theorem dX7_playBest_2 : decode cX7_playBest 2 = .ok (.if_icmp .lt 9, 3) := by decide +kernel
theorem dX7_playBest_5 : decode cX7_playBest 5 = .ok (.iload_n 1, 1) := by decide +kernel
theorem dX7_playBest_6 : decode cX7_playBest 6 = .ok (.bipush 12, 2) := by decide +kernel
theorem dX7_playBest_8 : decode cX7_playBest 8 = .ok (.if_icmp .le 13, 3) := by decide +kernel
theorem dX7_playBest_11 : decode cX7_playBest 11 = .ok (.new 48, 3) := by decide +kernel
theorem dX7_playBest_14 : decode cX7_playBest 14 = .ok (.dup, 1) := by decide +kernel
theorem dX7_playBest_15 : decode cX7_playBest 15 = .ok (.ldc 109, 2) := by decide +kernel
theorem dX7_playBest_17 : decode cX7_playBest 17 = .ok (.invokespecial 52, 3) := by decide +kernel
theorem dX7_playBest_20 : decode cX7_playBest 20 = .ok (.athrow, 1) := by decide +kernel
theorem dX7_playBest_21 : decode cX7_playBest 21 = .ok (.aload_n 0, 1) := by decide +kernel
theorem dX7_playBest_22 : decode cX7_playBest 22 = .ok (.getfield 19, 3) := by decide +kernel
theorem dX7_playBest_25 : decode cX7_playBest 25 = .ok (.aload_n 0, 1) := by decide +kernel
theorem dX7_playBest_26 : decode cX7_playBest 26 = .ok (.getfield 10, 3) := by decide +kernel
theorem dX7_playBest_29 : decode cX7_playBest 29 = .ok (.invokevirtual 55, 3) := by decide +kernel
theorem dX7_playBest_32 : decode cX7_playBest 32 = .ok (.iconst 0, 1) := by decide +kernel
theorem dX7_playBest_33 : decode cX7_playBest 33 = .ok (.istore_n 2, 1) := by decide +kernel
theorem dX7_playBest_34 : decode cX7_playBest 34 = .ok (.iload_n 2, 1) := by decide +kernel
theorem dX7_playBest_35 : decode cX7_playBest 35 = .ok (.iload_n 1, 1) := by decide +kernel
theorem dX7_playBest_36 : decode cX7_playBest 36 = .ok (.if_icmp .ge 37, 3) := by decide +kernel
theorem dX7_playBest_39 : decode cX7_playBest 39 = .ok (.aload_n 0, 1) := by decide +kernel
theorem dX7_playBest_40 : decode cX7_playBest 40 = .ok (.getfield 10, 3) := by decide +kernel
theorem dX7_playBest_43 : decode cX7_playBest 43 = .ok (.getfield 59, 3) := by decide +kernel
theorem dX7_playBest_46 : decode cX7_playBest 46 = .ok (.getfield 84, 3) := by decide +kernel
theorem dX7_playBest_49 : decode cX7_playBest 49 = .ok (.ifCond .le 24, 3) := by decide +kernel
theorem dX7_playBest_52 : decode cX7_playBest 52 = .ok (.aload_n 0, 1) := by decide +kernel
theorem dX7_playBest_53 : decode cX7_playBest 53 = .ok (.getfield 10, 3) := by decide +kernel
theorem dX7_playBest_56 : decode cX7_playBest 56 = .ok (.getfield 59, 3) := by decide +kernel
theorem dX7_playBest_59 : decode cX7_playBest 59 = .ok (.aload_n 0, 1) := by decide +kernel
theorem dX7_playBest_60 : decode cX7_playBest 60 = .ok (.invokevirtual 111, 3) := by decide +kernel
theorem dX7_playBest_63 : decode cX7_playBest 63 = .ok (.invokevirtual 105, 3) := by decide +kernel
theorem dX7_playBest_66 : decode cX7_playBest 66 = .ok (.pop, 1) := by decide +kernel
theorem dX7_playBest_67 : decode cX7_playBest 67 = .ok (.iinc 2 1, 3) := by decide +kernel
theorem dX7_playBest_70 : decode cX7_playBest 70 = .ok (.goto (-36), 3) := by decide +kernel
theorem dX7_playBest_73 : decode cX7_playBest 73 = .ok (.iload_n 2, 1) := by decide +kernel
theorem dX7_playBest_74 : decode cX7_playBest 74 = .ok (.ireturn, 1) := by decide +kernel
theorem dX7_turn_0 : decode cX7_turn 0 = .ok (.aload_n 0, 1) := by decide +kernel
theorem dX7_turn_1 : decode cX7_turn 1 = .ok (.getfield 10, 3) := by decide +kernel
theorem dX7_turn_4 : decode cX7_turn 4 = .ok (.getfield 59, 3) := by decide +kernel
theorem dX7_turn_7 : decode cX7_turn 7 = .ok (.getfield 115, 3) := by decide +kernel
theorem dX7_turn_10 : decode cX7_turn 10 = .ok (.ireturn, 1) := by decide +kernel
theorem dX7_left_0 : decode cX7_left 0 = .ok (.aload_n 0, 1) := by decide +kernel
theorem dX7_left_1 : decode cX7_left 1 = .ok (.getfield 10, 3) := by decide +kernel
theorem dX7_left_4 : decode cX7_left 4 = .ok (.getfield 59, 3) := by decide +kernel
theorem dX7_left_7 : decode cX7_left 7 = .ok (.getfield 84, 3) := by decide +kernel
theorem dX7_left_10 : decode cX7_left 10 = .ok (.ireturn, 1) := by decide +kernel
theorem dX7_pile_0 : decode cX7_pile 0 = .ok (.iload_n 1, 1) := by decide +kernel
theorem dX7_pile_1 : decode cX7_pile 1 = .ok (.ifCond .lt 17, 3) := by decide +kernel
theorem dX7_pile_4 : decode cX7_pile 4 = .ok (.iload_n 1, 1) := by decide +kernel
theorem dX7_pile_5 : decode cX7_pile 5 = .ok (.aload_n 0, 1) := by decide +kernel
theorem dX7_pile_6 : decode cX7_pile 6 = .ok (.getfield 10, 3) := by decide +kernel
theorem dX7_pile_9 : decode cX7_pile 9 = .ok (.getfield 59, 3) := by decide +kernel
theorem dX7_pile_12 : decode cX7_pile 12 = .ok (.getfield 84, 3) := by decide +kernel
theorem dX7_pile_15 : decode cX7_pile 15 = .ok (.if_icmp .lt 13, 3) := by decide +kernel
theorem dX7_pile_18 : decode cX7_pile 18 = .ok (.new 91, 3) := by decide +kernel
theorem dX7_pile_21 : decode cX7_pile 21 = .ok (.dup, 1) := by decide +kernel
theorem dX7_pile_22 : decode cX7_pile 22 = .ok (.ldc 118, 2) := by decide +kernel
theorem dX7_pile_24 : decode cX7_pile 24 = .ok (.invokespecial 95, 3) := by decide +kernel
theorem dX7_pile_27 : decode cX7_pile 27 = .ok (.athrow, 1) := by decide +kernel
theorem dX7_pile_28 : decode cX7_pile 28 = .ok (.aload_n 0, 1) := by decide +kernel
theorem dX7_pile_29 : decode cX7_pile 29 = .ok (.getfield 10, 3) := by decide +kernel
theorem dX7_pile_32 : decode cX7_pile 32 = .ok (.getfield 59, 3) := by decide +kernel
theorem dX7_pile_35 : decode cX7_pile 35 = .ok (.getfield 120, 3) := by decide +kernel
theorem dX7_pile_38 : decode cX7_pile 38 = .ok (.aload_n 0, 1) := by decide +kernel
theorem dX7_pile_39 : decode cX7_pile 39 = .ok (.getfield 10, 3) := by decide +kernel
theorem dX7_pile_42 : decode cX7_pile 42 = .ok (.getfield 59, 3) := by decide +kernel
theorem dX7_pile_45 : decode cX7_pile 45 = .ok (.getfield 123, 3) := by decide +kernel
theorem dX7_pile_48 : decode cX7_pile 48 = .ok (.iload_n 1, 1) := by decide +kernel
theorem dX7_pile_49 : decode cX7_pile 49 = .ok (.iadd, 1) := by decide +kernel
theorem dX7_pile_50 : decode cX7_pile 50 = .ok (.invokestatic 126, 3) := by decide +kernel
theorem dX7_pile_53 : decode cX7_pile 53 = .ok (.ireturn, 1) := by decide +kernel
theorem dX7_coins_0 : decode cX7_coins 0 = .ok (.iload_n 1, 1) := by decide +kernel
theorem dX7_coins_1 : decode cX7_coins 1 = .ok (.ifCond .lt 8, 3) := by decide +kernel
theorem dX7_coins_4 : decode cX7_coins 4 = .ok (.iload_n 1, 1) := by decide +kernel
theorem dX7_coins_5 : decode cX7_coins 5 = .ok (.iconst 1, 1) := by decide +kernel
theorem dX7_coins_6 : decode cX7_coins 6 = .ok (.if_icmp .le 13, 3) := by decide +kernel
theorem dX7_coins_9 : decode cX7_coins 9 = .ok (.new 91, 3) := by decide +kernel
theorem dX7_coins_12 : decode cX7_coins 12 = .ok (.dup, 1) := by decide +kernel
theorem dX7_coins_13 : decode cX7_coins 13 = .ok (.ldc 130, 2) := by decide +kernel
theorem dX7_coins_15 : decode cX7_coins 15 = .ok (.invokespecial 95, 3) := by decide +kernel
theorem dX7_coins_18 : decode cX7_coins 18 = .ok (.athrow, 1) := by decide +kernel
theorem dX7_coins_19 : decode cX7_coins 19 = .ok (.iload_n 1, 1) := by decide +kernel
theorem dX7_coins_20 : decode cX7_coins 20 = .ok (.ifCond .ne 16, 3) := by decide +kernel
theorem dX7_coins_23 : decode cX7_coins 23 = .ok (.aload_n 0, 1) := by decide +kernel
theorem dX7_coins_24 : decode cX7_coins 24 = .ok (.getfield 10, 3) := by decide +kernel
theorem dX7_coins_27 : decode cX7_coins 27 = .ok (.getfield 59, 3) := by decide +kernel
theorem dX7_coins_30 : decode cX7_coins 30 = .ok (.getfield 132, 3) := by decide +kernel
theorem dX7_coins_33 : decode cX7_coins 33 = .ok (.goto 13, 3) := by decide +kernel
theorem dX7_coins_36 : decode cX7_coins 36 = .ok (.aload_n 0, 1) := by decide +kernel
theorem dX7_coins_37 : decode cX7_coins 37 = .ok (.getfield 10, 3) := by decide +kernel
theorem dX7_coins_40 : decode cX7_coins 40 = .ok (.getfield 59, 3) := by decide +kernel
theorem dX7_coins_43 : decode cX7_coins 43 = .ok (.getfield 135, 3) := by decide +kernel
theorem dX7_coins_46 : decode cX7_coins 46 = .ok (.ireturn, 1) := by decide +kernel
theorem dX7_value_0 : decode cX7_value 0 = .ok (.aload_n 0, 1) := by decide +kernel
theorem dX7_value_1 : decode cX7_value 1 = .ok (.getfield 33, 3) := by decide +kernel
theorem dX7_value_4 : decode cX7_value 4 = .ok (.aload_n 0, 1) := by decide +kernel
theorem dX7_value_5 : decode cX7_value 5 = .ok (.getfield 10, 3) := by decide +kernel
theorem dX7_value_8 : decode cX7_value 8 = .ok (.getfield 59, 3) := by decide +kernel
theorem dX7_value_11 : decode cX7_value 11 = .ok (.getfield 123, 3) := by decide +kernel
theorem dX7_value_14 : decode cX7_value 14 = .ok (.aload_n 0, 1) := by decide +kernel
theorem dX7_value_15 : decode cX7_value 15 = .ok (.getfield 10, 3) := by decide +kernel
theorem dX7_value_18 : decode cX7_value 18 = .ok (.getfield 59, 3) := by decide +kernel
theorem dX7_value_21 : decode cX7_value 21 = .ok (.getfield 84, 3) := by decide +kernel
theorem dX7_value_24 : decode cX7_value 24 = .ok (.invokevirtual 138, 3) := by decide +kernel
theorem dX7_value_27 : decode cX7_value 27 = .ok (.ireturn, 1) := by decide +kernel
theorem dX7_resultOf_0 : decode cX7_resultOf 0 = .ok (.iload_n 1, 1) := by decide +kernel
theorem dX7_resultOf_1 : decode cX7_resultOf 1 = .ok (.invokestatic 87, 3) := by decide +kernel
theorem dX7_resultOf_4 : decode cX7_resultOf 4 = .ok (.ifCond .ne 13, 3) := by decide +kernel
theorem dX7_resultOf_7 : decode cX7_resultOf 7 = .ok (.new 91, 3) := by decide +kernel
theorem dX7_resultOf_10 : decode cX7_resultOf 10 = .ok (.dup, 1) := by decide +kernel
theorem dX7_resultOf_11 : decode cX7_resultOf 11 = .ok (.ldc 93, 2) := by decide +kernel
theorem dX7_resultOf_13 : decode cX7_resultOf 13 = .ok (.invokespecial 95, 3) := by decide +kernel
theorem dX7_resultOf_16 : decode cX7_resultOf 16 = .ok (.athrow, 1) := by decide +kernel
theorem dX7_resultOf_17 : decode cX7_resultOf 17 = .ok (.aload_n 0, 1) := by decide +kernel
theorem dX7_resultOf_18 : decode cX7_resultOf 18 = .ok (.getfield 33, 3) := by decide +kernel
theorem dX7_resultOf_21 : decode cX7_resultOf 21 = .ok (.aload_n 0, 1) := by decide +kernel
theorem dX7_resultOf_22 : decode cX7_resultOf 22 = .ok (.getfield 10, 3) := by decide +kernel
theorem dX7_resultOf_25 : decode cX7_resultOf 25 = .ok (.getfield 59, 3) := by decide +kernel
theorem dX7_resultOf_28 : decode cX7_resultOf 28 = .ok (.getfield 123, 3) := by decide +kernel
theorem dX7_resultOf_31 : decode cX7_resultOf 31 = .ok (.aload_n 0, 1) := by decide +kernel
theorem dX7_resultOf_32 : decode cX7_resultOf 32 = .ok (.getfield 10, 3) := by decide +kernel
theorem dX7_resultOf_35 : decode cX7_resultOf 35 = .ok (.getfield 59, 3) := by decide +kernel
theorem dX7_resultOf_38 : decode cX7_resultOf 38 = .ok (.getfield 84, 3) := by decide +kernel
theorem dX7_resultOf_41 : decode cX7_resultOf 41 = .ok (.iload_n 1, 1) := by decide +kernel
theorem dX7_resultOf_42 : decode cX7_resultOf 42 = .ok (.invokevirtual 142, 3) := by decide +kernel
theorem dX7_resultOf_45 : decode cX7_resultOf 45 = .ok (.ireturn, 1) := by decide +kernel
theorem dX7_bestMove_0 : decode cX7_bestMove 0 = .ok (.aload_n 0, 1) := by decide +kernel
theorem dX7_bestMove_1 : decode cX7_bestMove 1 = .ok (.getfield 33, 3) := by decide +kernel
theorem dX7_bestMove_4 : decode cX7_bestMove 4 = .ok (.aload_n 0, 1) := by decide +kernel
theorem dX7_bestMove_5 : decode cX7_bestMove 5 = .ok (.getfield 10, 3) := by decide +kernel
theorem dX7_bestMove_8 : decode cX7_bestMove 8 = .ok (.getfield 59, 3) := by decide +kernel
theorem dX7_bestMove_11 : decode cX7_bestMove 11 = .ok (.getfield 123, 3) := by decide +kernel
theorem dX7_bestMove_14 : decode cX7_bestMove 14 = .ok (.aload_n 0, 1) := by decide +kernel
theorem dX7_bestMove_15 : decode cX7_bestMove 15 = .ok (.getfield 10, 3) := by decide +kernel
theorem dX7_bestMove_18 : decode cX7_bestMove 18 = .ok (.getfield 59, 3) := by decide +kernel
theorem dX7_bestMove_21 : decode cX7_bestMove 21 = .ok (.getfield 84, 3) := by decide +kernel
theorem dX7_bestMove_24 : decode cX7_bestMove 24 = .ok (.invokevirtual 146, 3) := by decide +kernel
theorem dX7_bestMove_27 : decode cX7_bestMove 27 = .ok (.ireturn, 1) := by decide +kernel
theorem dX7_line_0 : decode cX7_line 0 = .ok (.iload_n 1, 1) := by decide +kernel
theorem dX7_line_1 : decode cX7_line 1 = .ok (.ifCond .ge 13, 3) := by decide +kernel
theorem dX7_line_4 : decode cX7_line 4 = .ok (.new 91, 3) := by decide +kernel
theorem dX7_line_7 : decode cX7_line 7 = .ok (.dup, 1) := by decide +kernel
theorem dX7_line_8 : decode cX7_line 8 = .ok (.ldc 149, 2) := by decide +kernel
theorem dX7_line_10 : decode cX7_line 10 = .ok (.invokespecial 95, 3) := by decide +kernel
theorem dX7_line_13 : decode cX7_line 13 = .ok (.athrow, 1) := by decide +kernel
theorem dX7_line_14 : decode cX7_line 14 = .ok (.aload_n 0, 1) := by decide +kernel
theorem dX7_line_15 : decode cX7_line 15 = .ok (.getfield 10, 3) := by decide +kernel
theorem dX7_line_18 : decode cX7_line 18 = .ok (.getfield 59, 3) := by decide +kernel
theorem dX7_line_21 : decode cX7_line 21 = .ok (.getfield 123, 3) := by decide +kernel
theorem dX7_line_24 : decode cX7_line 24 = .ok (.istore_n 2, 1) := by decide +kernel
theorem dX7_line_25 : decode cX7_line 25 = .ok (.aload_n 0, 1) := by decide +kernel
theorem dX7_line_26 : decode cX7_line 26 = .ok (.getfield 10, 3) := by decide +kernel
theorem dX7_line_29 : decode cX7_line 29 = .ok (.getfield 59, 3) := by decide +kernel
theorem dX7_line_32 : decode cX7_line 32 = .ok (.getfield 84, 3) := by decide +kernel
theorem dX7_line_35 : decode cX7_line 35 = .ok (.istore_n 3, 1) := by decide +kernel
theorem dX7_line_36 : decode cX7_line 36 = .ok (.iconst 0, 1) := by decide +kernel
theorem dX7_line_37 : decode cX7_line 37 = .ok (.istore 4, 2) := by decide +kernel
theorem dX7_line_39 : decode cX7_line 39 = .ok (.iload 4, 2) := by decide +kernel
theorem dX7_line_41 : decode cX7_line 41 = .ok (.bipush 12, 2) := by decide +kernel
theorem dX7_line_43 : decode cX7_line 43 = .ok (.if_icmp .ge 47, 3) := by decide +kernel
theorem dX7_line_46 : decode cX7_line 46 = .ok (.iload_n 3, 1) := by decide +kernel
theorem dX7_line_47 : decode cX7_line 47 = .ok (.ifCond .le 43, 3) := by decide +kernel
theorem dX7_line_50 : decode cX7_line 50 = .ok (.aload_n 0, 1) := by decide +kernel
theorem dX7_line_51 : decode cX7_line 51 = .ok (.getfield 33, 3) := by decide +kernel
theorem dX7_line_54 : decode cX7_line 54 = .ok (.iload_n 2, 1) := by decide +kernel
theorem dX7_line_55 : decode cX7_line 55 = .ok (.iload_n 3, 1) := by decide +kernel
theorem dX7_line_56 : decode cX7_line 56 = .ok (.invokevirtual 146, 3) := by decide +kernel
theorem dX7_line_59 : decode cX7_line 59 = .ok (.istore 5, 2) := by decide +kernel
theorem dX7_line_61 : decode cX7_line 61 = .ok (.iload 4, 2) := by decide +kernel
theorem dX7_line_63 : decode cX7_line 63 = .ok (.iload_n 1, 1) := by decide +kernel
theorem dX7_line_64 : decode cX7_line 64 = .ok (.if_icmp .ne 6, 3) := by decide +kernel
theorem dX7_line_67 : decode cX7_line 67 = .ok (.iload 5, 2) := by decide +kernel
theorem dX7_line_69 : decode cX7_line 69 = .ok (.ireturn, 1) := by decide +kernel
theorem dX7_line_70 : decode cX7_line 70 = .ok (.iload_n 2, 1) := by decide +kernel
theorem dX7_line_71 : decode cX7_line 71 = .ok (.iload 5, 2) := by decide +kernel
theorem dX7_line_73 : decode cX7_line 73 = .ok (.invokestatic 151, 3) := by decide +kernel
theorem dX7_line_76 : decode cX7_line 76 = .ok (.istore_n 2, 1) := by decide +kernel
theorem dX7_line_77 : decode cX7_line 77 = .ok (.iload_n 3, 1) := by decide +kernel
theorem dX7_line_78 : decode cX7_line 78 = .ok (.iload 5, 2) := by decide +kernel
theorem dX7_line_80 : decode cX7_line 80 = .ok (.invokestatic 154, 3) := by decide +kernel
theorem dX7_line_83 : decode cX7_line 83 = .ok (.istore_n 3, 1) := by decide +kernel
theorem dX7_line_84 : decode cX7_line 84 = .ok (.iinc 4 1, 3) := by decide +kernel
theorem dX7_line_87 : decode cX7_line 87 = .ok (.goto (-48), 3) := by decide +kernel
theorem dX7_line_90 : decode cX7_line 90 = .ok (.sipush (-999), 3) := by decide +kernel
theorem dX7_line_93 : decode cX7_line 93 = .ok (.ireturn, 1) := by decide +kernel
theorem dX7_margin_0 : decode cX7_margin 0 = .ok (.aload_n 0, 1) := by decide +kernel
theorem dX7_margin_1 : decode cX7_margin 1 = .ok (.invokevirtual 111, 3) := by decide +kernel
theorem dX7_margin_4 : decode cX7_margin 4 = .ok (.istore_n 1, 1) := by decide +kernel
theorem dX7_margin_5 : decode cX7_margin 5 = .ok (.sipush (-999), 3) := by decide +kernel
theorem dX7_margin_8 : decode cX7_margin 8 = .ok (.istore_n 2, 1) := by decide +kernel
theorem dX7_margin_9 : decode cX7_margin 9 = .ok (.iconst 0, 1) := by decide +kernel
theorem dX7_margin_10 : decode cX7_margin 10 = .ok (.istore_n 3, 1) := by decide +kernel
theorem dX7_margin_11 : decode cX7_margin 11 = .ok (.iload_n 3, 1) := by decide +kernel
theorem dX7_margin_12 : decode cX7_margin 12 = .ok (.iconst 4, 1) := by decide +kernel
theorem dX7_margin_13 : decode cX7_margin 13 = .ok (.if_icmp .ge 64, 3) := by decide +kernel
theorem dX7_margin_16 : decode cX7_margin 16 = .ok (.iload_n 3, 1) := by decide +kernel
theorem dX7_margin_17 : decode cX7_margin 17 = .ok (.iload_n 1, 1) := by decide +kernel
theorem dX7_margin_18 : decode cX7_margin 18 = .ok (.if_icmp .eq 53, 3) := by decide +kernel
theorem dX7_margin_21 : decode cX7_margin 21 = .ok (.iload_n 3, 1) := by decide +kernel
theorem dX7_margin_22 : decode cX7_margin 22 = .ok (.aload_n 0, 1) := by decide +kernel
theorem dX7_margin_23 : decode cX7_margin 23 = .ok (.getfield 10, 3) := by decide +kernel
theorem dX7_margin_26 : decode cX7_margin 26 = .ok (.getfield 59, 3) := by decide +kernel
theorem dX7_margin_29 : decode cX7_margin 29 = .ok (.getfield 84, 3) := by decide +kernel
theorem dX7_margin_32 : decode cX7_margin 32 = .ok (.invokestatic 96, 3) := by decide +kernel
theorem dX7_margin_35 : decode cX7_margin 35 = .ok (.ifCond .eq 36, 3) := by decide +kernel
theorem dX7_margin_38 : decode cX7_margin 38 = .ok (.iload_n 2, 1) := by decide +kernel
theorem dX7_margin_39 : decode cX7_margin 39 = .ok (.aload_n 0, 1) := by decide +kernel
theorem dX7_margin_40 : decode cX7_margin 40 = .ok (.getfield 33, 3) := by decide +kernel
theorem dX7_margin_43 : decode cX7_margin 43 = .ok (.aload_n 0, 1) := by decide +kernel
theorem dX7_margin_44 : decode cX7_margin 44 = .ok (.getfield 10, 3) := by decide +kernel
theorem dX7_margin_47 : decode cX7_margin 47 = .ok (.getfield 59, 3) := by decide +kernel
theorem dX7_margin_50 : decode cX7_margin 50 = .ok (.getfield 123, 3) := by decide +kernel
theorem dX7_margin_53 : decode cX7_margin 53 = .ok (.aload_n 0, 1) := by decide +kernel
theorem dX7_margin_54 : decode cX7_margin 54 = .ok (.getfield 10, 3) := by decide +kernel
theorem dX7_margin_57 : decode cX7_margin 57 = .ok (.getfield 59, 3) := by decide +kernel
theorem dX7_margin_60 : decode cX7_margin 60 = .ok (.getfield 84, 3) := by decide +kernel
theorem dX7_margin_63 : decode cX7_margin 63 = .ok (.iload_n 3, 1) := by decide +kernel
theorem dX7_margin_64 : decode cX7_margin 64 = .ok (.invokevirtual 142, 3) := by decide +kernel
theorem dX7_margin_67 : decode cX7_margin 67 = .ok (.invokestatic 157, 3) := by decide +kernel
theorem dX7_margin_70 : decode cX7_margin 70 = .ok (.istore_n 2, 1) := by decide +kernel
theorem dX7_margin_71 : decode cX7_margin 71 = .ok (.iinc 3 1, 3) := by decide +kernel
theorem dX7_margin_74 : decode cX7_margin 74 = .ok (.goto (-63), 3) := by decide +kernel
theorem dX7_margin_77 : decode cX7_margin 77 = .ok (.iload_n 2, 1) := by decide +kernel
theorem dX7_margin_78 : decode cX7_margin 78 = .ok (.sipush (-999), 3) := by decide +kernel
theorem dX7_margin_81 : decode cX7_margin 81 = .ok (.if_icmp .ne 9, 3) := by decide +kernel
theorem dX7_margin_84 : decode cX7_margin 84 = .ok (.sipush (-999), 3) := by decide +kernel
theorem dX7_margin_87 : decode cX7_margin 87 = .ok (.goto 9, 3) := by decide +kernel
theorem dX7_margin_90 : decode cX7_margin 90 = .ok (.aload_n 0, 1) := by decide +kernel
theorem dX7_margin_91 : decode cX7_margin 91 = .ok (.invokevirtual 162, 3) := by decide +kernel
theorem dX7_margin_94 : decode cX7_margin 94 = .ok (.iload_n 2, 1) := by decide +kernel
theorem dX7_margin_95 : decode cX7_margin 95 = .ok (.isub, 1) := by decide +kernel
theorem dX7_margin_96 : decode cX7_margin 96 = .ok (.ireturn, 1) := by decide +kernel
theorem dX7_search_0 : decode cX7_search 0 = .ok (.iload_n 1, 1) := by decide +kernel
theorem dX7_search_1 : decode cX7_search 1 = .ok (.ifCond .lt 9, 3) := by decide +kernel
theorem dX7_search_4 : decode cX7_search 4 = .ok (.iload_n 1, 1) := by decide +kernel
theorem dX7_search_5 : decode cX7_search 5 = .ok (.bipush 12, 2) := by decide +kernel
theorem dX7_search_7 : decode cX7_search 7 = .ok (.if_icmp .le 13, 3) := by decide +kernel
theorem dX7_search_10 : decode cX7_search 10 = .ok (.new 48, 3) := by decide +kernel
theorem dX7_search_13 : decode cX7_search 13 = .ok (.dup, 1) := by decide +kernel
theorem dX7_search_14 : decode cX7_search 14 = .ok (.ldc 165, 2) := by decide +kernel
theorem dX7_search_16 : decode cX7_search 16 = .ok (.invokespecial 52, 3) := by decide +kernel
theorem dX7_search_19 : decode cX7_search 19 = .ok (.athrow, 1) := by decide +kernel
theorem dX7_search_20 : decode cX7_search 20 = .ok (.iload_n 2, 1) := by decide +kernel
theorem dX7_search_21 : decode cX7_search 21 = .ok (.sipush (-240), 3) := by decide +kernel
theorem dX7_search_24 : decode cX7_search 24 = .ok (.if_icmp .lt 10, 3) := by decide +kernel
theorem dX7_search_27 : decode cX7_search 27 = .ok (.iload_n 2, 1) := by decide +kernel
theorem dX7_search_28 : decode cX7_search 28 = .ok (.sipush 241, 3) := by decide +kernel
theorem dX7_search_31 : decode cX7_search 31 = .ok (.if_icmp .lt 13, 3) := by decide +kernel
theorem dX7_search_34 : decode cX7_search 34 = .ok (.new 48, 3) := by decide +kernel
theorem dX7_search_37 : decode cX7_search 37 = .ok (.dup, 1) := by decide +kernel
theorem dX7_search_38 : decode cX7_search 38 = .ok (.ldc 167, 2) := by decide +kernel
theorem dX7_search_40 : decode cX7_search 40 = .ok (.invokespecial 52, 3) := by decide +kernel
theorem dX7_search_43 : decode cX7_search 43 = .ok (.athrow, 1) := by decide +kernel
theorem dX7_search_44 : decode cX7_search 44 = .ok (.iload_n 3, 1) := by decide +kernel
theorem dX7_search_45 : decode cX7_search 45 = .ok (.iload_n 2, 1) := by decide +kernel
theorem dX7_search_46 : decode cX7_search 46 = .ok (.if_icmp .le 10, 3) := by decide +kernel
theorem dX7_search_49 : decode cX7_search 49 = .ok (.iload_n 3, 1) := by decide +kernel
theorem dX7_search_50 : decode cX7_search 50 = .ok (.sipush 241, 3) := by decide +kernel
theorem dX7_search_53 : decode cX7_search 53 = .ok (.if_icmp .le 13, 3) := by decide +kernel
theorem dX7_search_56 : decode cX7_search 56 = .ok (.new 48, 3) := by decide +kernel
theorem dX7_search_59 : decode cX7_search 59 = .ok (.dup, 1) := by decide +kernel
theorem dX7_search_60 : decode cX7_search 60 = .ok (.ldc 169, 2) := by decide +kernel
theorem dX7_search_62 : decode cX7_search 62 = .ok (.invokespecial 52, 3) := by decide +kernel
theorem dX7_search_65 : decode cX7_search 65 = .ok (.athrow, 1) := by decide +kernel
theorem dX7_search_66 : decode cX7_search 66 = .ok (.aload_n 0, 1) := by decide +kernel
theorem dX7_search_67 : decode cX7_search 67 = .ok (.getfield 19, 3) := by decide +kernel
theorem dX7_search_70 : decode cX7_search 70 = .ok (.aload_n 0, 1) := by decide +kernel
theorem dX7_search_71 : decode cX7_search 71 = .ok (.getfield 10, 3) := by decide +kernel
theorem dX7_search_74 : decode cX7_search 74 = .ok (.invokevirtual 55, 3) := by decide +kernel
theorem dX7_search_77 : decode cX7_search 77 = .ok (.aload_n 0, 1) := by decide +kernel
theorem dX7_search_78 : decode cX7_search 78 = .ok (.getfield 40, 3) := by decide +kernel
theorem dX7_search_81 : decode cX7_search 81 = .ok (.aload_n 0, 1) := by decide +kernel
theorem dX7_search_82 : decode cX7_search 82 = .ok (.getfield 10, 3) := by decide +kernel
theorem dX7_search_85 : decode cX7_search 85 = .ok (.aload_n 0, 1) := by decide +kernel
theorem dX7_search_86 : decode cX7_search 86 = .ok (.getfield 10, 3) := by decide +kernel
theorem dX7_search_89 : decode cX7_search 89 = .ok (.getfield 171, 3) := by decide +kernel
theorem dX7_search_92 : decode cX7_search 92 = .ok (.iload_n 1, 1) := by decide +kernel
theorem dX7_search_93 : decode cX7_search 93 = .ok (.iload_n 2, 1) := by decide +kernel
theorem dX7_search_94 : decode cX7_search 94 = .ok (.iload_n 3, 1) := by decide +kernel
theorem dX7_search_95 : decode cX7_search 95 = .ok (.invokevirtual 174, 3) := by decide +kernel
theorem dX7_search_98 : decode cX7_search 98 = .ok (.aload_n 0, 1) := by decide +kernel
theorem dX7_search_99 : decode cX7_search 99 = .ok (.getfield 10, 3) := by decide +kernel
theorem dX7_search_102 : decode cX7_search 102 = .ok (.getfield 178, 3) := by decide +kernel
theorem dX7_search_105 : decode cX7_search 105 = .ok (.aload_n 0, 1) := by decide +kernel
theorem dX7_search_106 : decode cX7_search 106 = .ok (.getfield 40, 3) := by decide +kernel
theorem dX7_search_109 : decode cX7_search 109 = .ok (.getfield 182, 3) := by decide +kernel
theorem dX7_search_112 : decode cX7_search 112 = .ok (.invokevirtual 183, 3) := by decide +kernel
theorem dX7_search_115 : decode cX7_search 115 = .ok (.aload_n 0, 1) := by decide +kernel
theorem dX7_search_116 : decode cX7_search 116 = .ok (.getfield 10, 3) := by decide +kernel
theorem dX7_search_119 : decode cX7_search 119 = .ok (.getfield 178, 3) := by decide +kernel
theorem dX7_search_122 : decode cX7_search 122 = .ok (.getfield 189, 3) := by decide +kernel
theorem dX7_search_125 : decode cX7_search 125 = .ok (.ireturn, 1) := by decide +kernel
theorem dX7_result_0 : decode cX7_result 0 = .ok (.aload_n 0, 1) := by decide +kernel
theorem dX7_result_1 : decode cX7_result 1 = .ok (.getfield 10, 3) := by decide +kernel
theorem dX7_result_4 : decode cX7_result 4 = .ok (.getfield 178, 3) := by decide +kernel
theorem dX7_result_7 : decode cX7_result 7 = .ok (.getfield 189, 3) := by decide +kernel
theorem dX7_result_10 : decode cX7_result 10 = .ok (.ireturn, 1) := by decide +kernel
theorem dX7_nodes_0 : decode cX7_nodes 0 = .ok (.aload_n 0, 1) := by decide +kernel
theorem dX7_nodes_1 : decode cX7_nodes 1 = .ok (.getfield 10, 3) := by decide +kernel
theorem dX7_nodes_4 : decode cX7_nodes 4 = .ok (.getfield 178, 3) := by decide +kernel
theorem dX7_nodes_7 : decode cX7_nodes 7 = .ok (.getfield 192, 3) := by decide +kernel
theorem dX7_nodes_10 : decode cX7_nodes 10 = .ok (.ireturn, 1) := by decide +kernel
theorem dX7_cuts_0 : decode cX7_cuts 0 = .ok (.aload_n 0, 1) := by decide +kernel
theorem dX7_cuts_1 : decode cX7_cuts 1 = .ok (.getfield 10, 3) := by decide +kernel
theorem dX7_cuts_4 : decode cX7_cuts 4 = .ok (.getfield 178, 3) := by decide +kernel
theorem dX7_cuts_7 : decode cX7_cuts 7 = .ok (.getfield 195, 3) := by decide +kernel
theorem dX7_cuts_10 : decode cX7_cuts 10 = .ok (.ireturn, 1) := by decide +kernel
theorem dX7_hits_0 : decode cX7_hits 0 = .ok (.aload_n 0, 1) := by decide +kernel
theorem dX7_hits_1 : decode cX7_hits 1 = .ok (.getfield 10, 3) := by decide +kernel
theorem dX7_hits_4 : decode cX7_hits 4 = .ok (.getfield 178, 3) := by decide +kernel
theorem dX7_hits_7 : decode cX7_hits 7 = .ok (.getfield 198, 3) := by decide +kernel
theorem dX7_hits_10 : decode cX7_hits 10 = .ok (.ireturn, 1) := by decide +kernel
theorem dX7_entries_0 : decode cX7_entries 0 = .ok (.iconst 0, 1) := by decide +kernel
theorem dX7_entries_1 : decode cX7_entries 1 = .ok (.istore_n 1, 1) := by decide +kernel
theorem dX7_entries_2 : decode cX7_entries 2 = .ok (.iconst 0, 1) := by decide +kernel
theorem dX7_entries_3 : decode cX7_entries 3 = .ok (.istore_n 2, 1) := by decide +kernel
theorem dX7_entries_4 : decode cX7_entries 4 = .ok (.iload_n 2, 1) := by decide +kernel
theorem dX7_entries_5 : decode cX7_entries 5 = .ok (.sipush 144, 3) := by decide +kernel
theorem dX7_entries_8 : decode cX7_entries 8 = .ok (.if_icmp .ge 29, 3) := by decide +kernel
theorem dX7_entries_11 : decode cX7_entries 11 = .ok (.aload_n 0, 1) := by decide +kernel
theorem dX7_entries_12 : decode cX7_entries 12 = .ok (.getfield 10, 3) := by decide +kernel
theorem dX7_entries_15 : decode cX7_entries 15 = .ok (.getfield 178, 3) := by decide +kernel
theorem dX7_entries_18 : decode cX7_entries 18 = .ok (.getfield 201, 3) := by decide +kernel
theorem dX7_entries_21 : decode cX7_entries 21 = .ok (.iload_n 2, 1) := by decide +kernel
theorem dX7_entries_22 : decode cX7_entries 22 = .ok (.invokestatic 126, 3) := by decide +kernel
theorem dX7_entries_25 : decode cX7_entries 25 = .ok (.ifCond .eq 6, 3) := by decide +kernel
theorem dX7_entries_28 : decode cX7_entries 28 = .ok (.iinc 1 1, 3) := by decide +kernel
theorem dX7_entries_31 : decode cX7_entries 31 = .ok (.iinc 2 1, 3) := by decide +kernel
theorem dX7_entries_34 : decode cX7_entries 34 = .ok (.goto (-30), 3) := by decide +kernel
theorem dX7_entries_37 : decode cX7_entries 37 = .ok (.iload_n 1, 1) := by decide +kernel
theorem dX7_entries_38 : decode cX7_entries 38 = .ok (.ireturn, 1) := by decide +kernel
theorem dX7_entryKind_0 : decode cX7_entryKind 0 = .ok (.iload_n 1, 1) := by decide +kernel
theorem dX7_entryKind_1 : decode cX7_entryKind 1 = .ok (.iload_n 2, 1) := by decide +kernel
theorem dX7_entryKind_2 : decode cX7_entryKind 2 = .ok (.invokestatic 204, 3) := by decide +kernel
theorem dX7_entryKind_5 : decode cX7_entryKind 5 = .ok (.ifCond .ne 13, 3) := by decide +kernel
theorem dX7_entryKind_8 : decode cX7_entryKind 8 = .ok (.new 91, 3) := by decide +kernel
theorem dX7_entryKind_11 : decode cX7_entryKind 11 = .ok (.dup, 1) := by decide +kernel
theorem dX7_entryKind_12 : decode cX7_entryKind 12 = .ok (.ldc 207, 2) := by decide +kernel
theorem dX7_entryKind_14 : decode cX7_entryKind 14 = .ok (.invokespecial 95, 3) := by decide +kernel
theorem dX7_entryKind_17 : decode cX7_entryKind 17 = .ok (.athrow, 1) := by decide +kernel
theorem dX7_entryKind_18 : decode cX7_entryKind 18 = .ok (.aload_n 0, 1) := by decide +kernel
theorem dX7_entryKind_19 : decode cX7_entryKind 19 = .ok (.getfield 10, 3) := by decide +kernel
theorem dX7_entryKind_22 : decode cX7_entryKind 22 = .ok (.getfield 178, 3) := by decide +kernel
theorem dX7_entryKind_25 : decode cX7_entryKind 25 = .ok (.getfield 201, 3) := by decide +kernel
theorem dX7_entryKind_28 : decode cX7_entryKind 28 = .ok (.iload_n 1, 1) := by decide +kernel
theorem dX7_entryKind_29 : decode cX7_entryKind 29 = .ok (.iload_n 2, 1) := by decide +kernel
theorem dX7_entryKind_30 : decode cX7_entryKind 30 = .ok (.invokestatic 209, 3) := by decide +kernel
theorem dX7_entryKind_33 : decode cX7_entryKind 33 = .ok (.invokestatic 126, 3) := by decide +kernel
theorem dX7_entryKind_36 : decode cX7_entryKind 36 = .ok (.ireturn, 1) := by decide +kernel
theorem dX7_entryValue_0 : decode cX7_entryValue 0 = .ok (.iload_n 1, 1) := by decide +kernel
theorem dX7_entryValue_1 : decode cX7_entryValue 1 = .ok (.iload_n 2, 1) := by decide +kernel
theorem dX7_entryValue_2 : decode cX7_entryValue 2 = .ok (.invokestatic 204, 3) := by decide +kernel
theorem dX7_entryValue_5 : decode cX7_entryValue 5 = .ok (.ifCond .ne 13, 3) := by decide +kernel
theorem dX7_entryValue_8 : decode cX7_entryValue 8 = .ok (.new 91, 3) := by decide +kernel
theorem dX7_entryValue_11 : decode cX7_entryValue 11 = .ok (.dup, 1) := by decide +kernel
theorem dX7_entryValue_12 : decode cX7_entryValue 12 = .ok (.ldc 207, 2) := by decide +kernel
theorem dX7_entryValue_14 : decode cX7_entryValue 14 = .ok (.invokespecial 95, 3) := by decide +kernel
theorem dX7_entryValue_17 : decode cX7_entryValue 17 = .ok (.athrow, 1) := by decide +kernel
theorem dX7_entryValue_18 : decode cX7_entryValue 18 = .ok (.iload_n 1, 1) := by decide +kernel
theorem dX7_entryValue_19 : decode cX7_entryValue 19 = .ok (.iload_n 2, 1) := by decide +kernel
theorem dX7_entryValue_20 : decode cX7_entryValue 20 = .ok (.invokestatic 209, 3) := by decide +kernel
theorem dX7_entryValue_23 : decode cX7_entryValue 23 = .ok (.istore_n 3, 1) := by decide +kernel
theorem dX7_entryValue_24 : decode cX7_entryValue 24 = .ok (.aload_n 0, 1) := by decide +kernel
theorem dX7_entryValue_25 : decode cX7_entryValue 25 = .ok (.getfield 10, 3) := by decide +kernel
theorem dX7_entryValue_28 : decode cX7_entryValue 28 = .ok (.getfield 178, 3) := by decide +kernel
theorem dX7_entryValue_31 : decode cX7_entryValue 31 = .ok (.getfield 201, 3) := by decide +kernel
theorem dX7_entryValue_34 : decode cX7_entryValue 34 = .ok (.iload_n 3, 1) := by decide +kernel
theorem dX7_entryValue_35 : decode cX7_entryValue 35 = .ok (.invokestatic 126, 3) := by decide +kernel
theorem dX7_entryValue_38 : decode cX7_entryValue 38 = .ok (.ifCond .ne 9, 3) := by decide +kernel
theorem dX7_entryValue_41 : decode cX7_entryValue 41 = .ok (.sipush (-999), 3) := by decide +kernel
theorem dX7_entryValue_44 : decode cX7_entryValue 44 = .ok (.goto 17, 3) := by decide +kernel
theorem dX7_entryValue_47 : decode cX7_entryValue 47 = .ok (.aload_n 0, 1) := by decide +kernel
theorem dX7_entryValue_48 : decode cX7_entryValue 48 = .ok (.getfield 10, 3) := by decide +kernel
theorem dX7_entryValue_51 : decode cX7_entryValue 51 = .ok (.getfield 178, 3) := by decide +kernel
theorem dX7_entryValue_54 : decode cX7_entryValue 54 = .ok (.getfield 212, 3) := by decide +kernel
theorem dX7_entryValue_57 : decode cX7_entryValue 57 = .ok (.iload_n 3, 1) := by decide +kernel
theorem dX7_entryValue_58 : decode cX7_entryValue 58 = .ok (.invokestatic 126, 3) := by decide +kernel
theorem dX7_entryValue_61 : decode cX7_entryValue 61 = .ok (.ireturn, 1) := by decide +kernel
theorem dX7_hitShare_0 : decode cX7_hitShare 0 = .ok (.aload_n 0, 1) := by decide +kernel
theorem dX7_hitShare_1 : decode cX7_hitShare 1 = .ok (.getfield 10, 3) := by decide +kernel
theorem dX7_hitShare_4 : decode cX7_hitShare 4 = .ok (.getfield 178, 3) := by decide +kernel
theorem dX7_hitShare_7 : decode cX7_hitShare 7 = .ok (.getfield 192, 3) := by decide +kernel
theorem dX7_hitShare_10 : decode cX7_hitShare 10 = .ok (.istore_n 1, 1) := by decide +kernel
theorem dX7_hitShare_11 : decode cX7_hitShare 11 = .ok (.iload_n 1, 1) := by decide +kernel
theorem dX7_hitShare_12 : decode cX7_hitShare 12 = .ok (.ifCond .le 20, 3) := by decide +kernel
theorem dX7_hitShare_15 : decode cX7_hitShare 15 = .ok (.aload_n 0, 1) := by decide +kernel
theorem dX7_hitShare_16 : decode cX7_hitShare 16 = .ok (.getfield 10, 3) := by decide +kernel
theorem dX7_hitShare_19 : decode cX7_hitShare 19 = .ok (.getfield 178, 3) := by decide +kernel
theorem dX7_hitShare_22 : decode cX7_hitShare 22 = .ok (.getfield 198, 3) := by decide +kernel
theorem dX7_hitShare_25 : decode cX7_hitShare 25 = .ok (.i2d, 1) := by decide +kernel
theorem dX7_hitShare_26 : decode cX7_hitShare 26 = .ok (.iload_n 1, 1) := by decide +kernel
theorem dX7_hitShare_27 : decode cX7_hitShare 27 = .ok (.i2d, 1) := by decide +kernel
theorem dX7_hitShare_28 : decode cX7_hitShare 28 = .ok (.ddiv, 1) := by decide +kernel
theorem dX7_hitShare_29 : decode cX7_hitShare 29 = .ok (.goto 4, 3) := by decide +kernel
theorem dX7_hitShare_32 : decode cX7_hitShare 32 = .ok (.dconst 0, 1) := by decide +kernel
theorem dX7_hitShare_33 : decode cX7_hitShare 33 = .ok (.dreturn, 1) := by decide +kernel
theorem dX7_setOrder_0 : decode cX7_setOrder 0 = .ok (.iload_n 1, 1) := by decide +kernel
theorem dX7_setOrder_1 : decode cX7_setOrder 1 = .ok (.invokestatic 215, 3) := by decide +kernel
theorem dX7_setOrder_4 : decode cX7_setOrder 4 = .ok (.ifCond .ne 13, 3) := by decide +kernel
theorem dX7_setOrder_7 : decode cX7_setOrder 7 = .ok (.new 48, 3) := by decide +kernel
theorem dX7_setOrder_10 : decode cX7_setOrder 10 = .ok (.dup, 1) := by decide +kernel
theorem dX7_setOrder_11 : decode cX7_setOrder 11 = .ok (.ldc 218, 2) := by decide +kernel
theorem dX7_setOrder_13 : decode cX7_setOrder 13 = .ok (.invokespecial 52, 3) := by decide +kernel
theorem dX7_setOrder_16 : decode cX7_setOrder 16 = .ok (.athrow, 1) := by decide +kernel
theorem dX7_setOrder_17 : decode cX7_setOrder 17 = .ok (.aload_n 0, 1) := by decide +kernel
theorem dX7_setOrder_18 : decode cX7_setOrder 18 = .ok (.getfield 19, 3) := by decide +kernel
theorem dX7_setOrder_21 : decode cX7_setOrder 21 = .ok (.aload_n 0, 1) := by decide +kernel
theorem dX7_setOrder_22 : decode cX7_setOrder 22 = .ok (.getfield 10, 3) := by decide +kernel
theorem dX7_setOrder_25 : decode cX7_setOrder 25 = .ok (.invokevirtual 55, 3) := by decide +kernel
theorem dX7_setOrder_28 : decode cX7_setOrder 28 = .ok (.aload_n 0, 1) := by decide +kernel
theorem dX7_setOrder_29 : decode cX7_setOrder 29 = .ok (.getfield 10, 3) := by decide +kernel
theorem dX7_setOrder_32 : decode cX7_setOrder 32 = .ok (.getfield 171, 3) := by decide +kernel
theorem dX7_setOrder_35 : decode cX7_setOrder 35 = .ok (.istore_n 2, 1) := by decide +kernel
theorem dX7_setOrder_36 : decode cX7_setOrder 36 = .ok (.aload_n 0, 1) := by decide +kernel
theorem dX7_setOrder_37 : decode cX7_setOrder 37 = .ok (.getfield 10, 3) := by decide +kernel
theorem dX7_setOrder_40 : decode cX7_setOrder 40 = .ok (.iload_n 1, 1) := by decide +kernel
theorem dX7_setOrder_41 : decode cX7_setOrder 41 = .ok (.putfield 171, 3) := by decide +kernel
theorem dX7_setOrder_44 : decode cX7_setOrder 44 = .ok (.iload_n 2, 1) := by decide +kernel
theorem dX7_setOrder_45 : decode cX7_setOrder 45 = .ok (.ireturn, 1) := by decide +kernel
theorem dX7_order_0 : decode cX7_order 0 = .ok (.iload_n 1, 1) := by decide +kernel
theorem dX7_order_1 : decode cX7_order 1 = .ok (.ifCond .lt 8, 3) := by decide +kernel
theorem dX7_order_4 : decode cX7_order 4 = .ok (.iload_n 1, 1) := by decide +kernel
theorem dX7_order_5 : decode cX7_order 5 = .ok (.iconst 4, 1) := by decide +kernel
theorem dX7_order_6 : decode cX7_order 6 = .ok (.if_icmp .lt 13, 3) := by decide +kernel
theorem dX7_order_9 : decode cX7_order 9 = .ok (.new 91, 3) := by decide +kernel
theorem dX7_order_12 : decode cX7_order 12 = .ok (.dup, 1) := by decide +kernel
theorem dX7_order_13 : decode cX7_order 13 = .ok (.ldc 220, 2) := by decide +kernel
theorem dX7_order_15 : decode cX7_order 15 = .ok (.invokespecial 95, 3) := by decide +kernel
theorem dX7_order_18 : decode cX7_order 18 = .ok (.athrow, 1) := by decide +kernel
theorem dX7_order_19 : decode cX7_order 19 = .ok (.aload_n 0, 1) := by decide +kernel
theorem dX7_order_20 : decode cX7_order 20 = .ok (.getfield 10, 3) := by decide +kernel
theorem dX7_order_23 : decode cX7_order 23 = .ok (.getfield 171, 3) := by decide +kernel
theorem dX7_order_26 : decode cX7_order 26 = .ok (.iload_n 1, 1) := by decide +kernel
theorem dX7_order_27 : decode cX7_order 27 = .ok (.invokestatic 222, 3) := by decide +kernel
theorem dX7_order_30 : decode cX7_order 30 = .ok (.ireturn, 1) := by decide +kernel
theorem dX7_setLimit_0 : decode cX7_setLimit 0 = .ok (.iload_n 1, 1) := by decide +kernel
theorem dX7_setLimit_1 : decode cX7_setLimit 1 = .ok (.iconst 1, 1) := by decide +kernel
theorem dX7_setLimit_2 : decode cX7_setLimit 2 = .ok (.if_icmp .lt 10, 3) := by decide +kernel
theorem dX7_setLimit_5 : decode cX7_setLimit 5 = .ok (.iload_n 1, 1) := by decide +kernel
theorem dX7_setLimit_6 : decode cX7_setLimit 6 = .ok (.sipush 5000, 3) := by decide +kernel
theorem dX7_setLimit_9 : decode cX7_setLimit 9 = .ok (.if_icmp .le 13, 3) := by decide +kernel
theorem dX7_setLimit_12 : decode cX7_setLimit 12 = .ok (.new 48, 3) := by decide +kernel
theorem dX7_setLimit_15 : decode cX7_setLimit 15 = .ok (.dup, 1) := by decide +kernel
theorem dX7_setLimit_16 : decode cX7_setLimit 16 = .ok (.ldc 225, 2) := by decide +kernel
theorem dX7_setLimit_18 : decode cX7_setLimit 18 = .ok (.invokespecial 52, 3) := by decide +kernel
theorem dX7_setLimit_21 : decode cX7_setLimit 21 = .ok (.athrow, 1) := by decide +kernel
theorem dX7_setLimit_22 : decode cX7_setLimit 22 = .ok (.aload_n 0, 1) := by decide +kernel
theorem dX7_setLimit_23 : decode cX7_setLimit 23 = .ok (.getfield 19, 3) := by decide +kernel
theorem dX7_setLimit_26 : decode cX7_setLimit 26 = .ok (.aload_n 0, 1) := by decide +kernel
theorem dX7_setLimit_27 : decode cX7_setLimit 27 = .ok (.getfield 10, 3) := by decide +kernel
theorem dX7_setLimit_30 : decode cX7_setLimit 30 = .ok (.invokevirtual 55, 3) := by decide +kernel
theorem dX7_setLimit_33 : decode cX7_setLimit 33 = .ok (.aload_n 0, 1) := by decide +kernel
theorem dX7_setLimit_34 : decode cX7_setLimit 34 = .ok (.getfield 10, 3) := by decide +kernel
theorem dX7_setLimit_37 : decode cX7_setLimit 37 = .ok (.getfield 227, 3) := by decide +kernel
theorem dX7_setLimit_40 : decode cX7_setLimit 40 = .ok (.istore_n 2, 1) := by decide +kernel
theorem dX7_setLimit_41 : decode cX7_setLimit 41 = .ok (.aload_n 0, 1) := by decide +kernel
theorem dX7_setLimit_42 : decode cX7_setLimit 42 = .ok (.getfield 10, 3) := by decide +kernel
theorem dX7_setLimit_45 : decode cX7_setLimit 45 = .ok (.iload_n 1, 1) := by decide +kernel
theorem dX7_setLimit_46 : decode cX7_setLimit 46 = .ok (.putfield 227, 3) := by decide +kernel
theorem dX7_setLimit_49 : decode cX7_setLimit 49 = .ok (.iload_n 2, 1) := by decide +kernel
theorem dX7_setLimit_50 : decode cX7_setLimit 50 = .ok (.ireturn, 1) := by decide +kernel
theorem dX7_useTable_0 : decode cX7_useTable 0 = .ok (.aload_n 0, 1) := by decide +kernel
theorem dX7_useTable_1 : decode cX7_useTable 1 = .ok (.getfield 19, 3) := by decide +kernel
theorem dX7_useTable_4 : decode cX7_useTable 4 = .ok (.aload_n 0, 1) := by decide +kernel
theorem dX7_useTable_5 : decode cX7_useTable 5 = .ok (.getfield 10, 3) := by decide +kernel
theorem dX7_useTable_8 : decode cX7_useTable 8 = .ok (.invokevirtual 55, 3) := by decide +kernel
theorem dX7_useTable_11 : decode cX7_useTable 11 = .ok (.aload_n 0, 1) := by decide +kernel
theorem dX7_useTable_12 : decode cX7_useTable 12 = .ok (.getfield 10, 3) := by decide +kernel
theorem dX7_useTable_15 : decode cX7_useTable 15 = .ok (.getfield 230, 3) := by decide +kernel
theorem dX7_useTable_18 : decode cX7_useTable 18 = .ok (.istore_n 2, 1) := by decide +kernel
theorem dX7_useTable_19 : decode cX7_useTable 19 = .ok (.aload_n 0, 1) := by decide +kernel
theorem dX7_useTable_20 : decode cX7_useTable 20 = .ok (.getfield 10, 3) := by decide +kernel
theorem dX7_useTable_23 : decode cX7_useTable 23 = .ok (.iload_n 1, 1) := by decide +kernel
theorem dX7_useTable_24 : decode cX7_useTable 24 = .ok (.putfield 230, 3) := by decide +kernel
theorem dX7_useTable_27 : decode cX7_useTable 27 = .ok (.iload_n 2, 1) := by decide +kernel
theorem dX7_useTable_28 : decode cX7_useTable 28 = .ok (.ireturn, 1) := by decide +kernel
theorem dX7_nodesWith_0 : decode cX7_nodesWith 0 = .ok (.iload_n 1, 1) := by decide +kernel
theorem dX7_nodesWith_1 : decode cX7_nodesWith 1 = .ok (.invokestatic 215, 3) := by decide +kernel
theorem dX7_nodesWith_4 : decode cX7_nodesWith 4 = .ok (.ifCond .ne 13, 3) := by decide +kernel
theorem dX7_nodesWith_7 : decode cX7_nodesWith 7 = .ok (.new 48, 3) := by decide +kernel
theorem dX7_nodesWith_10 : decode cX7_nodesWith 10 = .ok (.dup, 1) := by decide +kernel
theorem dX7_nodesWith_11 : decode cX7_nodesWith 11 = .ok (.ldc 218, 2) := by decide +kernel
theorem dX7_nodesWith_13 : decode cX7_nodesWith 13 = .ok (.invokespecial 52, 3) := by decide +kernel
theorem dX7_nodesWith_16 : decode cX7_nodesWith 16 = .ok (.athrow, 1) := by decide +kernel
theorem dX7_nodesWith_17 : decode cX7_nodesWith 17 = .ok (.aload_n 0, 1) := by decide +kernel
theorem dX7_nodesWith_18 : decode cX7_nodesWith 18 = .ok (.iload_n 1, 1) := by decide +kernel
theorem dX7_nodesWith_19 : decode cX7_nodesWith 19 = .ok (.invokevirtual 234, 3) := by decide +kernel
theorem dX7_nodesWith_22 : decode cX7_nodesWith 22 = .ok (.ireturn, 1) := by decide +kernel
theorem dX7_bestOrder_0 : decode cX7_bestOrder 0 = .ok (.iconst 0, 1) := by decide +kernel
theorem dX7_bestOrder_1 : decode cX7_bestOrder 1 = .ok (.istore_n 1, 1) := by decide +kernel
theorem dX7_bestOrder_2 : decode cX7_bestOrder 2 = .ok (.aload_n 0, 1) := by decide +kernel
theorem dX7_bestOrder_3 : decode cX7_bestOrder 3 = .ok (.iconst 0, 1) := by decide +kernel
theorem dX7_bestOrder_4 : decode cX7_bestOrder 4 = .ok (.invokevirtual 234, 3) := by decide +kernel
theorem dX7_bestOrder_7 : decode cX7_bestOrder 7 = .ok (.istore_n 2, 1) := by decide +kernel
theorem dX7_bestOrder_8 : decode cX7_bestOrder 8 = .ok (.iconst 1, 1) := by decide +kernel
theorem dX7_bestOrder_9 : decode cX7_bestOrder 9 = .ok (.istore_n 3, 1) := by decide +kernel
theorem dX7_bestOrder_10 : decode cX7_bestOrder 10 = .ok (.iload_n 3, 1) := by decide +kernel
theorem dX7_bestOrder_11 : decode cX7_bestOrder 11 = .ok (.bipush 24, 2) := by decide +kernel
theorem dX7_bestOrder_13 : decode cX7_bestOrder 13 = .ok (.if_icmp .ge 27, 3) := by decide +kernel
theorem dX7_bestOrder_16 : decode cX7_bestOrder 16 = .ok (.aload_n 0, 1) := by decide +kernel
theorem dX7_bestOrder_17 : decode cX7_bestOrder 17 = .ok (.iload_n 3, 1) := by decide +kernel
theorem dX7_bestOrder_18 : decode cX7_bestOrder 18 = .ok (.invokevirtual 234, 3) := by decide +kernel
theorem dX7_bestOrder_21 : decode cX7_bestOrder 21 = .ok (.istore 4, 2) := by decide +kernel
theorem dX7_bestOrder_23 : decode cX7_bestOrder 23 = .ok (.iload 4, 2) := by decide +kernel
theorem dX7_bestOrder_25 : decode cX7_bestOrder 25 = .ok (.iload_n 2, 1) := by decide +kernel
theorem dX7_bestOrder_26 : decode cX7_bestOrder 26 = .ok (.if_icmp .ge 8, 3) := by decide +kernel
theorem dX7_bestOrder_29 : decode cX7_bestOrder 29 = .ok (.iload 4, 2) := by decide +kernel
theorem dX7_bestOrder_31 : decode cX7_bestOrder 31 = .ok (.istore_n 2, 1) := by decide +kernel
theorem dX7_bestOrder_32 : decode cX7_bestOrder 32 = .ok (.iload_n 3, 1) := by decide +kernel
theorem dX7_bestOrder_33 : decode cX7_bestOrder 33 = .ok (.istore_n 1, 1) := by decide +kernel
theorem dX7_bestOrder_34 : decode cX7_bestOrder 34 = .ok (.iinc 3 1, 3) := by decide +kernel
theorem dX7_bestOrder_37 : decode cX7_bestOrder 37 = .ok (.goto (-27), 3) := by decide +kernel
theorem dX7_bestOrder_40 : decode cX7_bestOrder 40 = .ok (.iload_n 1, 1) := by decide +kernel
theorem dX7_bestOrder_41 : decode cX7_bestOrder 41 = .ok (.ireturn, 1) := by decide +kernel
theorem dX7_forecast_0 : decode cX7_forecast 0 = .ok (.aload_n 0, 1) := by decide +kernel
theorem dX7_forecast_1 : decode cX7_forecast 1 = .ok (.getfield 40, 3) := by decide +kernel
theorem dX7_forecast_4 : decode cX7_forecast 4 = .ok (.aload_n 0, 1) := by decide +kernel
theorem dX7_forecast_5 : decode cX7_forecast 5 = .ok (.getfield 10, 3) := by decide +kernel
theorem dX7_forecast_8 : decode cX7_forecast 8 = .ok (.iload_n 1, 1) := by decide +kernel
theorem dX7_forecast_9 : decode cX7_forecast 9 = .ok (.bipush 12, 2) := by decide +kernel
theorem dX7_forecast_11 : decode cX7_forecast 11 = .ok (.sipush (-240), 3) := by decide +kernel
theorem dX7_forecast_14 : decode cX7_forecast 14 = .ok (.sipush 241, 3) := by decide +kernel
theorem dX7_forecast_17 : decode cX7_forecast 17 = .ok (.invokevirtual 174, 3) := by decide +kernel
theorem dX7_forecast_20 : decode cX7_forecast 20 = .ok (.aload_n 0, 1) := by decide +kernel
theorem dX7_forecast_21 : decode cX7_forecast 21 = .ok (.getfield 40, 3) := by decide +kernel
theorem dX7_forecast_24 : decode cX7_forecast 24 = .ok (.getfield 182, 3) := by decide +kernel
theorem dX7_forecast_27 : decode cX7_forecast 27 = .ok (.getfield 192, 3) := by decide +kernel
theorem dX7_forecast_30 : decode cX7_forecast 30 = .ok (.ireturn, 1) := by decide +kernel
theorem dX7_append_0 : decode cX7_append 0 = .ok (.iload_n 1, 1) := by decide +kernel
theorem dX7_append_1 : decode cX7_append 1 = .ok (.bipush 33, 2) := by decide +kernel
theorem dX7_append_3 : decode cX7_append 3 = .ok (.if_icmp .lt 9, 3) := by decide +kernel
theorem dX7_append_6 : decode cX7_append 6 = .ok (.iload_n 1, 1) := by decide +kernel
theorem dX7_append_7 : decode cX7_append 7 = .ok (.bipush 126, 2) := by decide +kernel
theorem dX7_append_9 : decode cX7_append 9 = .ok (.if_icmp .le 13, 3) := by decide +kernel
theorem dX7_append_12 : decode cX7_append 12 = .ok (.new 48, 3) := by decide +kernel
theorem dX7_append_15 : decode cX7_append 15 = .ok (.dup, 1) := by decide +kernel
theorem dX7_append_16 : decode cX7_append 16 = .ok (.ldc 237, 2) := by decide +kernel
theorem dX7_append_18 : decode cX7_append 18 = .ok (.invokespecial 52, 3) := by decide +kernel
theorem dX7_append_21 : decode cX7_append 21 = .ok (.athrow, 1) := by decide +kernel
theorem dX7_append_22 : decode cX7_append 22 = .ok (.aload_n 0, 1) := by decide +kernel
theorem dX7_append_23 : decode cX7_append 23 = .ok (.getfield 26, 3) := by decide +kernel
theorem dX7_append_26 : decode cX7_append 26 = .ok (.getfield 81, 3) := by decide +kernel
theorem dX7_append_29 : decode cX7_append 29 = .ok (.bipush 60, 2) := by decide +kernel
theorem dX7_append_31 : decode cX7_append 31 = .ok (.if_icmp .lt 13, 3) := by decide +kernel
theorem dX7_append_34 : decode cX7_append 34 = .ok (.new 100, 3) := by decide +kernel
theorem dX7_append_37 : decode cX7_append 37 = .ok (.dup, 1) := by decide +kernel
theorem dX7_append_38 : decode cX7_append 38 = .ok (.ldc 239, 2) := by decide +kernel
theorem dX7_append_40 : decode cX7_append 40 = .ok (.invokespecial 104, 3) := by decide +kernel
theorem dX7_append_43 : decode cX7_append 43 = .ok (.athrow, 1) := by decide +kernel
theorem dX7_append_44 : decode cX7_append 44 = .ok (.aload_n 0, 1) := by decide +kernel
theorem dX7_append_45 : decode cX7_append 45 = .ok (.getfield 26, 3) := by decide +kernel
theorem dX7_append_48 : decode cX7_append 48 = .ok (.getfield 241, 3) := by decide +kernel
theorem dX7_append_51 : decode cX7_append 51 = .ok (.aload_n 0, 1) := by decide +kernel
theorem dX7_append_52 : decode cX7_append 52 = .ok (.getfield 26, 3) := by decide +kernel
theorem dX7_append_55 : decode cX7_append 55 = .ok (.getfield 81, 3) := by decide +kernel
theorem dX7_append_58 : decode cX7_append 58 = .ok (.iload_n 1, 1) := by decide +kernel
theorem dX7_append_59 : decode cX7_append 59 = .ok (.invokestatic 244, 3) := by decide +kernel
theorem dX7_append_62 : decode cX7_append 62 = .ok (.aload_n 0, 1) := by decide +kernel
theorem dX7_append_63 : decode cX7_append 63 = .ok (.getfield 26, 3) := by decide +kernel
theorem dX7_append_66 : decode cX7_append 66 = .ok (.dup, 1) := by decide +kernel
theorem dX7_append_67 : decode cX7_append 67 = .ok (.getfield 81, 3) := by decide +kernel
theorem dX7_append_70 : decode cX7_append 70 = .ok (.iconst 1, 1) := by decide +kernel
theorem dX7_append_71 : decode cX7_append 71 = .ok (.iadd, 1) := by decide +kernel
theorem dX7_append_72 : decode cX7_append 72 = .ok (.putfield 81, 3) := by decide +kernel
theorem dX7_append_75 : decode cX7_append 75 = .ok (.aload_n 0, 1) := by decide +kernel
theorem dX7_append_76 : decode cX7_append 76 = .ok (.getfield 26, 3) := by decide +kernel
theorem dX7_append_79 : decode cX7_append 79 = .ok (.getfield 81, 3) := by decide +kernel
theorem dX7_append_82 : decode cX7_append 82 = .ok (.ireturn, 1) := by decide +kernel
theorem dX7_clearText_0 : decode cX7_clearText 0 = .ok (.aload_n 0, 1) := by decide +kernel
theorem dX7_clearText_1 : decode cX7_clearText 1 = .ok (.getfield 26, 3) := by decide +kernel
theorem dX7_clearText_4 : decode cX7_clearText 4 = .ok (.getfield 81, 3) := by decide +kernel
theorem dX7_clearText_7 : decode cX7_clearText 7 = .ok (.istore_n 1, 1) := by decide +kernel
theorem dX7_clearText_8 : decode cX7_clearText 8 = .ok (.aload_n 0, 1) := by decide +kernel
theorem dX7_clearText_9 : decode cX7_clearText 9 = .ok (.getfield 26, 3) := by decide +kernel
theorem dX7_clearText_12 : decode cX7_clearText 12 = .ok (.iconst 0, 1) := by decide +kernel
theorem dX7_clearText_13 : decode cX7_clearText 13 = .ok (.putfield 81, 3) := by decide +kernel
theorem dX7_clearText_16 : decode cX7_clearText 16 = .ok (.iload_n 1, 1) := by decide +kernel
theorem dX7_clearText_17 : decode cX7_clearText 17 = .ok (.ireturn, 1) := by decide +kernel
theorem dX7_firstError_0 : decode cX7_firstError 0 = .ok (.aload_n 0, 1) := by decide +kernel
theorem dX7_firstError_1 : decode cX7_firstError 1 = .ok (.getfield 26, 3) := by decide +kernel
theorem dX7_firstError_4 : decode cX7_firstError 4 = .ok (.invokevirtual 248, 3) := by decide +kernel
theorem dX7_firstError_7 : decode cX7_firstError 7 = .ok (.ireturn, 1) := by decide +kernel
theorem dX7_undo_0 : decode cX7_undo 0 = .ok (.aload_n 0, 1) := by decide +kernel
theorem dX7_undo_1 : decode cX7_undo 1 = .ok (.getfield 19, 3) := by decide +kernel
theorem dX7_undo_4 : decode cX7_undo 4 = .ok (.getfield 251, 3) := by decide +kernel
theorem dX7_undo_7 : decode cX7_undo 7 = .ok (.ifCond .ne 13, 3) := by decide +kernel
theorem dX7_undo_10 : decode cX7_undo 10 = .ok (.new 100, 3) := by decide +kernel
theorem dX7_undo_13 : decode cX7_undo 13 = .ok (.dup, 1) := by decide +kernel
theorem dX7_undo_14 : decode cX7_undo 14 = .ok (.ldc 252, 2) := by decide +kernel
theorem dX7_undo_16 : decode cX7_undo 16 = .ok (.invokespecial 104, 3) := by decide +kernel
theorem dX7_undo_19 : decode cX7_undo 19 = .ok (.athrow, 1) := by decide +kernel
theorem dX7_undo_20 : decode cX7_undo 20 = .ok (.aload_n 0, 1) := by decide +kernel
theorem dX7_undo_21 : decode cX7_undo 21 = .ok (.getfield 19, 3) := by decide +kernel
theorem dX7_undo_24 : decode cX7_undo 24 = .ok (.aload_n 0, 1) := by decide +kernel
theorem dX7_undo_25 : decode cX7_undo 25 = .ok (.getfield 10, 3) := by decide +kernel
theorem dX7_undo_28 : decode cX7_undo 28 = .ok (.invokevirtual 254, 3) := by decide +kernel
theorem dX7_undo_31 : decode cX7_undo 31 = .ok (.aload_n 0, 1) := by decide +kernel
theorem dX7_undo_32 : decode cX7_undo 32 = .ok (.getfield 33, 3) := by decide +kernel
theorem dX7_undo_35 : decode cX7_undo 35 = .ok (.aload_n 0, 1) := by decide +kernel
theorem dX7_undo_36 : decode cX7_undo 36 = .ok (.getfield 10, 3) := by decide +kernel
theorem dX7_undo_39 : decode cX7_undo 39 = .ok (.getfield 59, 3) := by decide +kernel
theorem dX7_undo_42 : decode cX7_undo 42 = .ok (.invokevirtual 77, 3) := by decide +kernel
theorem dX7_undo_45 : decode cX7_undo 45 = .ok (.aload_n 0, 1) := by decide +kernel
theorem dX7_undo_46 : decode cX7_undo 46 = .ok (.getfield 19, 3) := by decide +kernel
theorem dX7_undo_49 : decode cX7_undo 49 = .ok (.getfield 251, 3) := by decide +kernel
theorem dX7_undo_52 : decode cX7_undo 52 = .ok (.ireturn, 1) := by decide +kernel
theorem dX7_savedStates_0 : decode cX7_savedStates 0 = .ok (.aload_n 0, 1) := by decide +kernel
theorem dX7_savedStates_1 : decode cX7_savedStates 1 = .ok (.getfield 19, 3) := by decide +kernel
theorem dX7_savedStates_4 : decode cX7_savedStates 4 = .ok (.getfield 251, 3) := by decide +kernel
theorem dX7_savedStates_7 : decode cX7_savedStates 7 = .ok (.ireturn, 1) := by decide +kernel
theorem dX7_digest_0 : decode cX7_digest 0 = .ok (.ldc2_w 257, 3) := by decide +kernel
theorem dX7_digest_3 : decode cX7_digest 3 = .ok (.lstore_n 1, 1) := by decide +kernel
theorem dX7_digest_4 : decode cX7_digest 4 = .ok (.lload_n 1, 1) := by decide +kernel
theorem dX7_digest_5 : decode cX7_digest 5 = .ok (.aload_n 0, 1) := by decide +kernel
theorem dX7_digest_6 : decode cX7_digest 6 = .ok (.invokevirtual 259, 3) := by decide +kernel
theorem dX7_digest_9 : decode cX7_digest 9 = .ok (.invokestatic 261, 3) := by decide +kernel
theorem dX7_digest_12 : decode cX7_digest 12 = .ok (.lstore_n 1, 1) := by decide +kernel
theorem dX7_digest_13 : decode cX7_digest 13 = .ok (.lload_n 1, 1) := by decide +kernel
theorem dX7_digest_14 : decode cX7_digest 14 = .ok (.aload_n 0, 1) := by decide +kernel
theorem dX7_digest_15 : decode cX7_digest 15 = .ok (.invokevirtual 265, 3) := by decide +kernel
theorem dX7_digest_18 : decode cX7_digest 18 = .ok (.invokestatic 261, 3) := by decide +kernel
theorem dX7_digest_21 : decode cX7_digest 21 = .ok (.lstore_n 1, 1) := by decide +kernel
theorem dX7_digest_22 : decode cX7_digest 22 = .ok (.lload_n 1, 1) := by decide +kernel
theorem dX7_digest_23 : decode cX7_digest 23 = .ok (.aload_n 0, 1) := by decide +kernel
theorem dX7_digest_24 : decode cX7_digest 24 = .ok (.getfield 10, 3) := by decide +kernel
theorem dX7_digest_27 : decode cX7_digest 27 = .ok (.getfield 59, 3) := by decide +kernel
theorem dX7_digest_30 : decode cX7_digest 30 = .ok (.getfield 132, 3) := by decide +kernel
theorem dX7_digest_33 : decode cX7_digest 33 = .ok (.invokestatic 261, 3) := by decide +kernel
theorem dX7_digest_36 : decode cX7_digest 36 = .ok (.lstore_n 1, 1) := by decide +kernel
theorem dX7_digest_37 : decode cX7_digest 37 = .ok (.lload_n 1, 1) := by decide +kernel
theorem dX7_digest_38 : decode cX7_digest 38 = .ok (.aload_n 0, 1) := by decide +kernel
theorem dX7_digest_39 : decode cX7_digest 39 = .ok (.getfield 10, 3) := by decide +kernel
theorem dX7_digest_42 : decode cX7_digest 42 = .ok (.getfield 59, 3) := by decide +kernel
theorem dX7_digest_45 : decode cX7_digest 45 = .ok (.getfield 135, 3) := by decide +kernel
theorem dX7_digest_48 : decode cX7_digest 48 = .ok (.invokestatic 261, 3) := by decide +kernel
theorem dX7_digest_51 : decode cX7_digest 51 = .ok (.lstore_n 1, 1) := by decide +kernel
theorem dX7_digest_52 : decode cX7_digest 52 = .ok (.lload_n 1, 1) := by decide +kernel
theorem dX7_digest_53 : decode cX7_digest 53 = .ok (.aload_n 0, 1) := by decide +kernel
theorem dX7_digest_54 : decode cX7_digest 54 = .ok (.invokevirtual 162, 3) := by decide +kernel
theorem dX7_digest_57 : decode cX7_digest 57 = .ok (.invokestatic 261, 3) := by decide +kernel
theorem dX7_digest_60 : decode cX7_digest 60 = .ok (.lstore_n 1, 1) := by decide +kernel
theorem dX7_digest_61 : decode cX7_digest 61 = .ok (.lload_n 1, 1) := by decide +kernel
theorem dX7_digest_62 : decode cX7_digest 62 = .ok (.aload_n 0, 1) := by decide +kernel
theorem dX7_digest_63 : decode cX7_digest 63 = .ok (.invokevirtual 267, 3) := by decide +kernel
theorem dX7_digest_66 : decode cX7_digest 66 = .ok (.invokestatic 261, 3) := by decide +kernel
theorem dX7_digest_69 : decode cX7_digest 69 = .ok (.lstore_n 1, 1) := by decide +kernel
theorem dX7_digest_70 : decode cX7_digest 70 = .ok (.lload_n 1, 1) := by decide +kernel
theorem dX7_digest_71 : decode cX7_digest 71 = .ok (.aload_n 0, 1) := by decide +kernel
theorem dX7_digest_72 : decode cX7_digest 72 = .ok (.invokevirtual 270, 3) := by decide +kernel
theorem dX7_digest_75 : decode cX7_digest 75 = .ok (.invokestatic 261, 3) := by decide +kernel
theorem dX7_digest_78 : decode cX7_digest 78 = .ok (.lstore_n 1, 1) := by decide +kernel
theorem dX7_digest_79 : decode cX7_digest 79 = .ok (.lload_n 1, 1) := by decide +kernel
theorem dX7_digest_80 : decode cX7_digest 80 = .ok (.aload_n 0, 1) := by decide +kernel
theorem dX7_digest_81 : decode cX7_digest 81 = .ok (.invokevirtual 273, 3) := by decide +kernel
theorem dX7_digest_84 : decode cX7_digest 84 = .ok (.invokestatic 261, 3) := by decide +kernel
theorem dX7_digest_87 : decode cX7_digest 87 = .ok (.lstore_n 1, 1) := by decide +kernel
theorem dX7_digest_88 : decode cX7_digest 88 = .ok (.lload_n 1, 1) := by decide +kernel
theorem dX7_digest_89 : decode cX7_digest 89 = .ok (.aload_n 0, 1) := by decide +kernel
theorem dX7_digest_90 : decode cX7_digest 90 = .ok (.invokevirtual 276, 3) := by decide +kernel
theorem dX7_digest_93 : decode cX7_digest 93 = .ok (.invokestatic 261, 3) := by decide +kernel
theorem dX7_digest_96 : decode cX7_digest 96 = .ok (.lstore_n 1, 1) := by decide +kernel
theorem dX7_digest_97 : decode cX7_digest 97 = .ok (.lload_n 1, 1) := by decide +kernel
theorem dX7_digest_98 : decode cX7_digest 98 = .ok (.aload_n 0, 1) := by decide +kernel
theorem dX7_digest_99 : decode cX7_digest 99 = .ok (.invokevirtual 279, 3) := by decide +kernel
theorem dX7_digest_102 : decode cX7_digest 102 = .ok (.invokestatic 261, 3) := by decide +kernel
theorem dX7_digest_105 : decode cX7_digest 105 = .ok (.lstore_n 1, 1) := by decide +kernel
theorem dX7_digest_106 : decode cX7_digest 106 = .ok (.lload_n 1, 1) := by decide +kernel
theorem dX7_digest_107 : decode cX7_digest 107 = .ok (.aload_n 0, 1) := by decide +kernel
theorem dX7_digest_108 : decode cX7_digest 108 = .ok (.invokevirtual 282, 3) := by decide +kernel
theorem dX7_digest_111 : decode cX7_digest 111 = .ok (.invokestatic 261, 3) := by decide +kernel
theorem dX7_digest_114 : decode cX7_digest 114 = .ok (.lstore_n 1, 1) := by decide +kernel
theorem dX7_digest_115 : decode cX7_digest 115 = .ok (.aload_n 0, 1) := by decide +kernel
theorem dX7_digest_116 : decode cX7_digest 116 = .ok (.lload_n 1, 1) := by decide +kernel
theorem dX7_digest_117 : decode cX7_digest 117 = .ok (.invokevirtual 285, 3) := by decide +kernel
theorem dX7_digest_120 : decode cX7_digest 120 = .ok (.lstore_n 1, 1) := by decide +kernel
theorem dX7_digest_121 : decode cX7_digest 121 = .ok (.aload_n 0, 1) := by decide +kernel
theorem dX7_digest_122 : decode cX7_digest 122 = .ok (.lload_n 1, 1) := by decide +kernel
theorem dX7_digest_123 : decode cX7_digest 123 = .ok (.invokevirtual 289, 3) := by decide +kernel
theorem dX7_digest_126 : decode cX7_digest 126 = .ok (.lstore_n 1, 1) := by decide +kernel
theorem dX7_digest_127 : decode cX7_digest 127 = .ok (.iconst 0, 1) := by decide +kernel
theorem dX7_digest_128 : decode cX7_digest 128 = .ok (.istore_n 3, 1) := by decide +kernel
theorem dX7_digest_129 : decode cX7_digest 129 = .ok (.iload_n 3, 1) := by decide +kernel
theorem dX7_digest_130 : decode cX7_digest 130 = .ok (.iconst 4, 1) := by decide +kernel
theorem dX7_digest_131 : decode cX7_digest 131 = .ok (.if_icmp .ge 25, 3) := by decide +kernel
theorem dX7_digest_134 : decode cX7_digest 134 = .ok (.lload_n 1, 1) := by decide +kernel
theorem dX7_digest_135 : decode cX7_digest 135 = .ok (.aload_n 0, 1) := by decide +kernel
theorem dX7_digest_136 : decode cX7_digest 136 = .ok (.getfield 10, 3) := by decide +kernel
theorem dX7_digest_139 : decode cX7_digest 139 = .ok (.getfield 171, 3) := by decide +kernel
theorem dX7_digest_142 : decode cX7_digest 142 = .ok (.iload_n 3, 1) := by decide +kernel
theorem dX7_digest_143 : decode cX7_digest 143 = .ok (.invokestatic 222, 3) := by decide +kernel
theorem dX7_digest_146 : decode cX7_digest 146 = .ok (.invokestatic 261, 3) := by decide +kernel
theorem dX7_digest_149 : decode cX7_digest 149 = .ok (.lstore_n 1, 1) := by decide +kernel
theorem dX7_digest_150 : decode cX7_digest 150 = .ok (.iinc 3 1, 3) := by decide +kernel
theorem dX7_digest_153 : decode cX7_digest 153 = .ok (.goto (-24), 3) := by decide +kernel
theorem dX7_digest_156 : decode cX7_digest 156 = .ok (.aload_n 0, 1) := by decide +kernel
theorem dX7_digest_157 : decode cX7_digest 157 = .ok (.lload_n 1, 1) := by decide +kernel
theorem dX7_digest_158 : decode cX7_digest 158 = .ok (.invokevirtual 292, 3) := by decide +kernel
theorem dX7_digest_161 : decode cX7_digest 161 = .ok (.lreturn, 1) := by decide +kernel
theorem dX7_mixPiles_0 : decode cX7_mixPiles 0 = .ok (.lload_n 1, 1) := by decide +kernel
theorem dX7_mixPiles_1 : decode cX7_mixPiles 1 = .ok (.lstore_n 3, 1) := by decide +kernel
theorem dX7_mixPiles_2 : decode cX7_mixPiles 2 = .ok (.iconst 0, 1) := by decide +kernel
theorem dX7_mixPiles_3 : decode cX7_mixPiles 3 = .ok (.istore 5, 2) := by decide +kernel
theorem dX7_mixPiles_5 : decode cX7_mixPiles 5 = .ok (.iload 5, 2) := by decide +kernel
theorem dX7_mixPiles_7 : decode cX7_mixPiles 7 = .ok (.aload_n 0, 1) := by decide +kernel
theorem dX7_mixPiles_8 : decode cX7_mixPiles 8 = .ok (.getfield 10, 3) := by decide +kernel
theorem dX7_mixPiles_11 : decode cX7_mixPiles 11 = .ok (.getfield 59, 3) := by decide +kernel
theorem dX7_mixPiles_14 : decode cX7_mixPiles 14 = .ok (.getfield 84, 3) := by decide +kernel
theorem dX7_mixPiles_17 : decode cX7_mixPiles 17 = .ok (.if_icmp .ge 40, 3) := by decide +kernel
theorem dX7_mixPiles_20 : decode cX7_mixPiles 20 = .ok (.lload_n 3, 1) := by decide +kernel
theorem dX7_mixPiles_21 : decode cX7_mixPiles 21 = .ok (.aload_n 0, 1) := by decide +kernel
theorem dX7_mixPiles_22 : decode cX7_mixPiles 22 = .ok (.getfield 10, 3) := by decide +kernel
theorem dX7_mixPiles_25 : decode cX7_mixPiles 25 = .ok (.getfield 59, 3) := by decide +kernel
theorem dX7_mixPiles_28 : decode cX7_mixPiles 28 = .ok (.getfield 120, 3) := by decide +kernel
theorem dX7_mixPiles_31 : decode cX7_mixPiles 31 = .ok (.aload_n 0, 1) := by decide +kernel
theorem dX7_mixPiles_32 : decode cX7_mixPiles 32 = .ok (.getfield 10, 3) := by decide +kernel
theorem dX7_mixPiles_35 : decode cX7_mixPiles 35 = .ok (.getfield 59, 3) := by decide +kernel
theorem dX7_mixPiles_38 : decode cX7_mixPiles 38 = .ok (.getfield 123, 3) := by decide +kernel
theorem dX7_mixPiles_41 : decode cX7_mixPiles 41 = .ok (.iload 5, 2) := by decide +kernel
theorem dX7_mixPiles_43 : decode cX7_mixPiles 43 = .ok (.iadd, 1) := by decide +kernel
theorem dX7_mixPiles_44 : decode cX7_mixPiles 44 = .ok (.invokestatic 126, 3) := by decide +kernel
theorem dX7_mixPiles_47 : decode cX7_mixPiles 47 = .ok (.invokestatic 261, 3) := by decide +kernel
theorem dX7_mixPiles_50 : decode cX7_mixPiles 50 = .ok (.lstore_n 3, 1) := by decide +kernel
theorem dX7_mixPiles_51 : decode cX7_mixPiles 51 = .ok (.iinc 5 1, 3) := by decide +kernel
theorem dX7_mixPiles_54 : decode cX7_mixPiles 54 = .ok (.goto (-49), 3) := by decide +kernel
theorem dX7_mixPiles_57 : decode cX7_mixPiles 57 = .ok (.lload_n 3, 1) := by decide +kernel
theorem dX7_mixPiles_58 : decode cX7_mixPiles 58 = .ok (.lreturn, 1) := by decide +kernel
theorem dX7_mixLine_0 : decode cX7_mixLine 0 = .ok (.lload_n 1, 1) := by decide +kernel
theorem dX7_mixLine_1 : decode cX7_mixLine 1 = .ok (.lstore_n 3, 1) := by decide +kernel
theorem dX7_mixLine_2 : decode cX7_mixLine 2 = .ok (.aload_n 0, 1) := by decide +kernel
theorem dX7_mixLine_3 : decode cX7_mixLine 3 = .ok (.getfield 10, 3) := by decide +kernel
theorem dX7_mixLine_6 : decode cX7_mixLine 6 = .ok (.getfield 59, 3) := by decide +kernel
theorem dX7_mixLine_9 : decode cX7_mixLine 9 = .ok (.getfield 123, 3) := by decide +kernel
theorem dX7_mixLine_12 : decode cX7_mixLine 12 = .ok (.istore 5, 2) := by decide +kernel
theorem dX7_mixLine_14 : decode cX7_mixLine 14 = .ok (.aload_n 0, 1) := by decide +kernel
theorem dX7_mixLine_15 : decode cX7_mixLine 15 = .ok (.getfield 10, 3) := by decide +kernel
theorem dX7_mixLine_18 : decode cX7_mixLine 18 = .ok (.getfield 59, 3) := by decide +kernel
theorem dX7_mixLine_21 : decode cX7_mixLine 21 = .ok (.getfield 84, 3) := by decide +kernel
theorem dX7_mixLine_24 : decode cX7_mixLine 24 = .ok (.istore 6, 2) := by decide +kernel
theorem dX7_mixLine_26 : decode cX7_mixLine 26 = .ok (.iconst 0, 1) := by decide +kernel
theorem dX7_mixLine_27 : decode cX7_mixLine 27 = .ok (.istore 7, 2) := by decide +kernel
theorem dX7_mixLine_29 : decode cX7_mixLine 29 = .ok (.iload 7, 2) := by decide +kernel
theorem dX7_mixLine_31 : decode cX7_mixLine 31 = .ok (.bipush 12, 2) := by decide +kernel
theorem dX7_mixLine_33 : decode cX7_mixLine 33 = .ok (.if_icmp .ge 52, 3) := by decide +kernel
theorem dX7_mixLine_36 : decode cX7_mixLine 36 = .ok (.iload 6, 2) := by decide +kernel
theorem dX7_mixLine_38 : decode cX7_mixLine 38 = .ok (.ifCond .le 47, 3) := by decide +kernel
theorem dX7_mixLine_41 : decode cX7_mixLine 41 = .ok (.aload_n 0, 1) := by decide +kernel
theorem dX7_mixLine_42 : decode cX7_mixLine 42 = .ok (.getfield 33, 3) := by decide +kernel
theorem dX7_mixLine_45 : decode cX7_mixLine 45 = .ok (.iload 5, 2) := by decide +kernel
theorem dX7_mixLine_47 : decode cX7_mixLine 47 = .ok (.iload 6, 2) := by decide +kernel
theorem dX7_mixLine_49 : decode cX7_mixLine 49 = .ok (.invokevirtual 146, 3) := by decide +kernel
theorem dX7_mixLine_52 : decode cX7_mixLine 52 = .ok (.istore 8, 2) := by decide +kernel
theorem dX7_mixLine_54 : decode cX7_mixLine 54 = .ok (.lload_n 3, 1) := by decide +kernel
theorem dX7_mixLine_55 : decode cX7_mixLine 55 = .ok (.iload 8, 2) := by decide +kernel
theorem dX7_mixLine_57 : decode cX7_mixLine 57 = .ok (.invokestatic 261, 3) := by decide +kernel
theorem dX7_mixLine_60 : decode cX7_mixLine 60 = .ok (.lstore_n 3, 1) := by decide +kernel
theorem dX7_mixLine_61 : decode cX7_mixLine 61 = .ok (.iload 5, 2) := by decide +kernel
theorem dX7_mixLine_63 : decode cX7_mixLine 63 = .ok (.iload 8, 2) := by decide +kernel
theorem dX7_mixLine_65 : decode cX7_mixLine 65 = .ok (.invokestatic 151, 3) := by decide +kernel
theorem dX7_mixLine_68 : decode cX7_mixLine 68 = .ok (.istore 5, 2) := by decide +kernel
theorem dX7_mixLine_70 : decode cX7_mixLine 70 = .ok (.iload 6, 2) := by decide +kernel
theorem dX7_mixLine_72 : decode cX7_mixLine 72 = .ok (.iload 8, 2) := by decide +kernel
theorem dX7_mixLine_74 : decode cX7_mixLine 74 = .ok (.invokestatic 154, 3) := by decide +kernel
theorem dX7_mixLine_77 : decode cX7_mixLine 77 = .ok (.istore 6, 2) := by decide +kernel
theorem dX7_mixLine_79 : decode cX7_mixLine 79 = .ok (.iinc 7 1, 3) := by decide +kernel
theorem dX7_mixLine_82 : decode cX7_mixLine 82 = .ok (.goto (-53), 3) := by decide +kernel
theorem dX7_mixLine_85 : decode cX7_mixLine 85 = .ok (.lload_n 3, 1) := by decide +kernel
theorem dX7_mixLine_86 : decode cX7_mixLine 86 = .ok (.lreturn, 1) := by decide +kernel
theorem dX7_mixTable_0 : decode cX7_mixTable 0 = .ok (.lload_n 1, 1) := by decide +kernel
theorem dX7_mixTable_1 : decode cX7_mixTable 1 = .ok (.lstore_n 3, 1) := by decide +kernel
theorem dX7_mixTable_2 : decode cX7_mixTable 2 = .ok (.iconst 0, 1) := by decide +kernel
theorem dX7_mixTable_3 : decode cX7_mixTable 3 = .ok (.istore 5, 2) := by decide +kernel
theorem dX7_mixTable_5 : decode cX7_mixTable 5 = .ok (.iload 5, 2) := by decide +kernel
theorem dX7_mixTable_7 : decode cX7_mixTable 7 = .ok (.sipush 144, 3) := by decide +kernel
theorem dX7_mixTable_10 : decode cX7_mixTable 10 = .ok (.if_icmp .ge 64, 3) := by decide +kernel
theorem dX7_mixTable_13 : decode cX7_mixTable 13 = .ok (.aload_n 0, 1) := by decide +kernel
theorem dX7_mixTable_14 : decode cX7_mixTable 14 = .ok (.getfield 10, 3) := by decide +kernel
theorem dX7_mixTable_17 : decode cX7_mixTable 17 = .ok (.getfield 178, 3) := by decide +kernel
theorem dX7_mixTable_20 : decode cX7_mixTable 20 = .ok (.getfield 201, 3) := by decide +kernel
theorem dX7_mixTable_23 : decode cX7_mixTable 23 = .ok (.iload 5, 2) := by decide +kernel
theorem dX7_mixTable_25 : decode cX7_mixTable 25 = .ok (.invokestatic 126, 3) := by decide +kernel
theorem dX7_mixTable_28 : decode cX7_mixTable 28 = .ok (.istore 6, 2) := by decide +kernel
theorem dX7_mixTable_30 : decode cX7_mixTable 30 = .ok (.lload_n 3, 1) := by decide +kernel
theorem dX7_mixTable_31 : decode cX7_mixTable 31 = .ok (.iload 6, 2) := by decide +kernel
theorem dX7_mixTable_33 : decode cX7_mixTable 33 = .ok (.invokestatic 261, 3) := by decide +kernel
theorem dX7_mixTable_36 : decode cX7_mixTable 36 = .ok (.lstore_n 3, 1) := by decide +kernel
theorem dX7_mixTable_37 : decode cX7_mixTable 37 = .ok (.lload_n 3, 1) := by decide +kernel
theorem dX7_mixTable_38 : decode cX7_mixTable 38 = .ok (.iload 6, 2) := by decide +kernel
theorem dX7_mixTable_40 : decode cX7_mixTable 40 = .ok (.ifCond .ne 9, 3) := by decide +kernel
theorem dX7_mixTable_43 : decode cX7_mixTable 43 = .ok (.sipush (-999), 3) := by decide +kernel
theorem dX7_mixTable_46 : decode cX7_mixTable 46 = .ok (.goto 18, 3) := by decide +kernel
theorem dX7_mixTable_49 : decode cX7_mixTable 49 = .ok (.aload_n 0, 1) := by decide +kernel
theorem dX7_mixTable_50 : decode cX7_mixTable 50 = .ok (.getfield 10, 3) := by decide +kernel
theorem dX7_mixTable_53 : decode cX7_mixTable 53 = .ok (.getfield 178, 3) := by decide +kernel
theorem dX7_mixTable_56 : decode cX7_mixTable 56 = .ok (.getfield 212, 3) := by decide +kernel
theorem dX7_mixTable_59 : decode cX7_mixTable 59 = .ok (.iload 5, 2) := by decide +kernel
theorem dX7_mixTable_61 : decode cX7_mixTable 61 = .ok (.invokestatic 126, 3) := by decide +kernel
theorem dX7_mixTable_64 : decode cX7_mixTable 64 = .ok (.invokestatic 261, 3) := by decide +kernel
theorem dX7_mixTable_67 : decode cX7_mixTable 67 = .ok (.lstore_n 3, 1) := by decide +kernel
theorem dX7_mixTable_68 : decode cX7_mixTable 68 = .ok (.iinc 5 1, 3) := by decide +kernel
theorem dX7_mixTable_71 : decode cX7_mixTable 71 = .ok (.goto (-66), 3) := by decide +kernel
theorem dX7_mixTable_74 : decode cX7_mixTable 74 = .ok (.lload_n 3, 1) := by decide +kernel
theorem dX7_mixTable_75 : decode cX7_mixTable 75 = .ok (.lreturn, 1) := by decide +kernel
theorem dX7_mix_0 : decode cX7_mix 0 = .ok (.ldc2_w 295, 3) := by decide +kernel
theorem dX7_mix_3 : decode cX7_mix 3 = .ok (.lload_n 0, 1) := by decide +kernel
theorem dX7_mix_4 : decode cX7_mix 4 = .ok (.lmul, 1) := by decide +kernel
theorem dX7_mix_5 : decode cX7_mix 5 = .ok (.iload_n 2, 1) := by decide +kernel
theorem dX7_mix_6 : decode cX7_mix 6 = .ok (.i2l, 1) := by decide +kernel
theorem dX7_mix_7 : decode cX7_mix 7 = .ok (.ladd, 1) := by decide +kernel
theorem dX7_mix_8 : decode cX7_mix 8 = .ok (.lreturn, 1) := by decide +kernel
theorem dX7_at_0 : decode cX7_at 0 = .ok (.iload_n 1, 1) := by decide +kernel
theorem dX7_at_1 : decode cX7_at 1 = .ok (.ifCond .lt 15, 3) := by decide +kernel
theorem dX7_at_4 : decode cX7_at 4 = .ok (.iload_n 1, 1) := by decide +kernel
theorem dX7_at_5 : decode cX7_at 5 = .ok (.aload_n 0, 1) := by decide +kernel
theorem dX7_at_6 : decode cX7_at 6 = .ok (.arraylength, 1) := by decide +kernel
theorem dX7_at_7 : decode cX7_at 7 = .ok (.if_icmp .ge 9, 3) := by decide +kernel
theorem dX7_at_10 : decode cX7_at 10 = .ok (.aload_n 0, 1) := by decide +kernel
theorem dX7_at_11 : decode cX7_at 11 = .ok (.iload_n 1, 1) := by decide +kernel
theorem dX7_at_12 : decode cX7_at 12 = .ok (.iaload, 1) := by decide +kernel
theorem dX7_at_13 : decode cX7_at 13 = .ok (.goto 4, 3) := by decide +kernel
theorem dX7_at_16 : decode cX7_at 16 = .ok (.iconst 0, 1) := by decide +kernel
theorem dX7_at_17 : decode cX7_at 17 = .ok (.ireturn, 1) := by decide +kernel
theorem dX7_put_0 : decode cX7_put 0 = .ok (.iload_n 1, 1) := by decide +kernel
theorem dX7_put_1 : decode cX7_put 1 = .ok (.ifCond .lt 13, 3) := by decide +kernel
theorem dX7_put_4 : decode cX7_put 4 = .ok (.iload_n 1, 1) := by decide +kernel
theorem dX7_put_5 : decode cX7_put 5 = .ok (.aload_n 0, 1) := by decide +kernel
theorem dX7_put_6 : decode cX7_put 6 = .ok (.arraylength, 1) := by decide +kernel
theorem dX7_put_7 : decode cX7_put 7 = .ok (.if_icmp .ge 7, 3) := by decide +kernel
theorem dX7_put_10 : decode cX7_put 10 = .ok (.aload_n 0, 1) := by decide +kernel
theorem dX7_put_11 : decode cX7_put 11 = .ok (.iload_n 1, 1) := by decide +kernel
theorem dX7_put_12 : decode cX7_put 12 = .ok (.iload_n 2, 1) := by decide +kernel
theorem dX7_put_13 : decode cX7_put 13 = .ok (.iastore, 1) := by decide +kernel
theorem dX7_put_14 : decode cX7_put 14 = .ok (.return_, 1) := by decide +kernel
theorem dX7_copy_0 : decode cX7_copy 0 = .ok (.iconst 0, 1) := by decide +kernel
theorem dX7_copy_1 : decode cX7_copy 1 = .ok (.istore_n 2, 1) := by decide +kernel
theorem dX7_copy_2 : decode cX7_copy 2 = .ok (.iload_n 2, 1) := by decide +kernel
theorem dX7_copy_3 : decode cX7_copy 3 = .ok (.aload_n 0, 1) := by decide +kernel
theorem dX7_copy_4 : decode cX7_copy 4 = .ok (.arraylength, 1) := by decide +kernel
theorem dX7_copy_5 : decode cX7_copy 5 = .ok (.if_icmp .ge 21, 3) := by decide +kernel
theorem dX7_copy_8 : decode cX7_copy 8 = .ok (.iload_n 2, 1) := by decide +kernel
theorem dX7_copy_9 : decode cX7_copy 9 = .ok (.aload_n 1, 1) := by decide +kernel
theorem dX7_copy_10 : decode cX7_copy 10 = .ok (.arraylength, 1) := by decide +kernel
theorem dX7_copy_11 : decode cX7_copy 11 = .ok (.if_icmp .ge 15, 3) := by decide +kernel
theorem dX7_copy_14 : decode cX7_copy 14 = .ok (.aload_n 1, 1) := by decide +kernel
theorem dX7_copy_15 : decode cX7_copy 15 = .ok (.iload_n 2, 1) := by decide +kernel
theorem dX7_copy_16 : decode cX7_copy 16 = .ok (.aload_n 0, 1) := by decide +kernel
theorem dX7_copy_17 : decode cX7_copy 17 = .ok (.iload_n 2, 1) := by decide +kernel
theorem dX7_copy_18 : decode cX7_copy 18 = .ok (.iaload, 1) := by decide +kernel
theorem dX7_copy_19 : decode cX7_copy 19 = .ok (.iastore, 1) := by decide +kernel
theorem dX7_copy_20 : decode cX7_copy 20 = .ok (.iinc 2 1, 3) := by decide +kernel
theorem dX7_copy_23 : decode cX7_copy 23 = .ok (.goto (-21), 3) := by decide +kernel
theorem dX7_copy_26 : decode cX7_copy 26 = .ok (.return_, 1) := by decide +kernel
theorem dX7_isPosition_0 : decode cX7_isPosition 0 = .ok (.iload_n 0, 1) := by decide +kernel
theorem dX7_isPosition_1 : decode cX7_isPosition 1 = .ok (.ifCond .lt 24, 3) := by decide +kernel
theorem dX7_isPosition_4 : decode cX7_isPosition 4 = .ok (.iload_n 0, 1) := by decide +kernel
theorem dX7_isPosition_5 : decode cX7_isPosition 5 = .ok (.bipush 12, 2) := by decide +kernel
theorem dX7_isPosition_7 : decode cX7_isPosition 7 = .ok (.if_icmp .ge 18, 3) := by decide +kernel
theorem dX7_isPosition_10 : decode cX7_isPosition 10 = .ok (.iload_n 1, 1) := by decide +kernel
theorem dX7_isPosition_11 : decode cX7_isPosition 11 = .ok (.iconst 1, 1) := by decide +kernel
theorem dX7_isPosition_12 : decode cX7_isPosition 12 = .ok (.if_icmp .lt 13, 3) := by decide +kernel
theorem dX7_isPosition_15 : decode cX7_isPosition 15 = .ok (.iload_n 1, 1) := by decide +kernel
theorem dX7_isPosition_16 : decode cX7_isPosition 16 = .ok (.bipush 12, 2) := by decide +kernel
theorem dX7_isPosition_18 : decode cX7_isPosition 18 = .ok (.if_icmp .gt 7, 3) := by decide +kernel
theorem dX7_isPosition_21 : decode cX7_isPosition 21 = .ok (.iconst 1, 1) := by decide +kernel
theorem dX7_isPosition_22 : decode cX7_isPosition 22 = .ok (.goto 4, 3) := by decide +kernel
theorem dX7_isPosition_25 : decode cX7_isPosition 25 = .ok (.iconst 0, 1) := by decide +kernel
theorem dX7_isPosition_26 : decode cX7_isPosition 26 = .ok (.ireturn, 1) := by decide +kernel
theorem dX7_cell_0 : decode cX7_cell 0 = .ok (.iload_n 0, 1) := by decide +kernel
theorem dX7_cell_1 : decode cX7_cell 1 = .ok (.iload_n 1, 1) := by decide +kernel
theorem dX7_cell_2 : decode cX7_cell 2 = .ok (.invokestatic 204, 3) := by decide +kernel
theorem dX7_cell_5 : decode cX7_cell 5 = .ok (.ifCond .eq 14, 3) := by decide +kernel
theorem dX7_cell_8 : decode cX7_cell 8 = .ok (.iload_n 0, 1) := by decide +kernel
theorem dX7_cell_9 : decode cX7_cell 9 = .ok (.bipush 12, 2) := by decide +kernel
theorem dX7_cell_11 : decode cX7_cell 11 = .ok (.imul, 1) := by decide +kernel
theorem dX7_cell_12 : decode cX7_cell 12 = .ok (.iload_n 1, 1) := by decide +kernel
theorem dX7_cell_13 : decode cX7_cell 13 = .ok (.iadd, 1) := by decide +kernel
theorem dX7_cell_14 : decode cX7_cell 14 = .ok (.iconst 1, 1) := by decide +kernel
theorem dX7_cell_15 : decode cX7_cell 15 = .ok (.isub, 1) := by decide +kernel
theorem dX7_cell_16 : decode cX7_cell 16 = .ok (.goto 4, 3) := by decide +kernel
theorem dX7_cell_19 : decode cX7_cell 19 = .ok (.iconst (-1), 1) := by decide +kernel
theorem dX7_cell_20 : decode cX7_cell 20 = .ok (.ireturn, 1) := by decide +kernel
theorem dX7_isMove_0 : decode cX7_isMove 0 = .ok (.iload_n 0, 1) := by decide +kernel
theorem dX7_isMove_1 : decode cX7_isMove 1 = .ok (.ifCond .lt 12, 3) := by decide +kernel
theorem dX7_isMove_4 : decode cX7_isMove 4 = .ok (.iload_n 0, 1) := by decide +kernel
theorem dX7_isMove_5 : decode cX7_isMove 5 = .ok (.iconst 4, 1) := by decide +kernel
theorem dX7_isMove_6 : decode cX7_isMove 6 = .ok (.if_icmp .ge 7, 3) := by decide +kernel
theorem dX7_isMove_9 : decode cX7_isMove 9 = .ok (.iconst 1, 1) := by decide +kernel
theorem dX7_isMove_10 : decode cX7_isMove 10 = .ok (.goto 4, 3) := by decide +kernel
theorem dX7_isMove_13 : decode cX7_isMove 13 = .ok (.iconst 0, 1) := by decide +kernel
theorem dX7_isMove_14 : decode cX7_isMove 14 = .ok (.ireturn, 1) := by decide +kernel
theorem dX7_pilesOf_0 : decode cX7_pilesOf 0 = .ok (.iload_n 0, 1) := by decide +kernel
theorem dX7_pilesOf_1 : decode cX7_pilesOf 1 = .ok (.ifCond .eq 8, 3) := by decide +kernel
theorem dX7_pilesOf_4 : decode cX7_pilesOf 4 = .ok (.iload_n 0, 1) := by decide +kernel
theorem dX7_pilesOf_5 : decode cX7_pilesOf 5 = .ok (.iconst 2, 1) := by decide +kernel
theorem dX7_pilesOf_6 : decode cX7_pilesOf 6 = .ok (.if_icmp .ne 7, 3) := by decide +kernel
theorem dX7_pilesOf_9 : decode cX7_pilesOf 9 = .ok (.iconst 1, 1) := by decide +kernel
theorem dX7_pilesOf_10 : decode cX7_pilesOf 10 = .ok (.goto 4, 3) := by decide +kernel
theorem dX7_pilesOf_13 : decode cX7_pilesOf 13 = .ok (.iconst 2, 1) := by decide +kernel
theorem dX7_pilesOf_14 : decode cX7_pilesOf 14 = .ok (.ireturn, 1) := by decide +kernel
theorem dX7_isPossible_0 : decode cX7_isPossible 0 = .ok (.iload_n 0, 1) := by decide +kernel
theorem dX7_isPossible_1 : decode cX7_isPossible 1 = .ok (.invokestatic 297, 3) := by decide +kernel
theorem dX7_isPossible_4 : decode cX7_isPossible 4 = .ok (.iload_n 1, 1) := by decide +kernel
theorem dX7_isPossible_5 : decode cX7_isPossible 5 = .ok (.if_icmp .gt 7, 3) := by decide +kernel
theorem dX7_isPossible_8 : decode cX7_isPossible 8 = .ok (.iconst 1, 1) := by decide +kernel
theorem dX7_isPossible_9 : decode cX7_isPossible 9 = .ok (.goto 4, 3) := by decide +kernel
theorem dX7_isPossible_12 : decode cX7_isPossible 12 = .ok (.iconst 0, 1) := by decide +kernel
theorem dX7_isPossible_13 : decode cX7_isPossible 13 = .ok (.ireturn, 1) := by decide +kernel
theorem dX7_firstAfter_0 : decode cX7_firstAfter 0 = .ok (.iload_n 1, 1) := by decide +kernel
theorem dX7_firstAfter_1 : decode cX7_firstAfter 1 = .ok (.iconst 2, 1) := by decide +kernel
theorem dX7_firstAfter_2 : decode cX7_firstAfter 2 = .ok (.if_icmp .ge 12, 3) := by decide +kernel
theorem dX7_firstAfter_5 : decode cX7_firstAfter 5 = .ok (.iload_n 0, 1) := by decide +kernel
theorem dX7_firstAfter_6 : decode cX7_firstAfter 6 = .ok (.iload_n 1, 1) := by decide +kernel
theorem dX7_firstAfter_7 : decode cX7_firstAfter 7 = .ok (.invokestatic 297, 3) := by decide +kernel
theorem dX7_firstAfter_10 : decode cX7_firstAfter 10 = .ok (.iadd, 1) := by decide +kernel
theorem dX7_firstAfter_11 : decode cX7_firstAfter 11 = .ok (.goto 4, 3) := by decide +kernel
theorem dX7_firstAfter_14 : decode cX7_firstAfter 14 = .ok (.iload_n 0, 1) := by decide +kernel
theorem dX7_firstAfter_15 : decode cX7_firstAfter 15 = .ok (.ireturn, 1) := by decide +kernel
theorem dX7_leftAfter_0 : decode cX7_leftAfter 0 = .ok (.iload_n 0, 1) := by decide +kernel
theorem dX7_leftAfter_1 : decode cX7_leftAfter 1 = .ok (.iload_n 1, 1) := by decide +kernel
theorem dX7_leftAfter_2 : decode cX7_leftAfter 2 = .ok (.invokestatic 297, 3) := by decide +kernel
theorem dX7_leftAfter_5 : decode cX7_leftAfter 5 = .ok (.isub, 1) := by decide +kernel
theorem dX7_leftAfter_6 : decode cX7_leftAfter 6 = .ok (.ireturn, 1) := by decide +kernel
theorem dX7_gainOf_0 : decode cX7_gainOf 0 = .ok (.iload_n 1, 1) := by decide +kernel
theorem dX7_gainOf_1 : decode cX7_gainOf 1 = .ok (.iload_n 2, 1) := by decide +kernel
theorem dX7_gainOf_2 : decode cX7_gainOf 2 = .ok (.iadd, 1) := by decide +kernel
theorem dX7_gainOf_3 : decode cX7_gainOf 3 = .ok (.iconst 1, 1) := by decide +kernel
theorem dX7_gainOf_4 : decode cX7_gainOf 4 = .ok (.isub, 1) := by decide +kernel
theorem dX7_gainOf_5 : decode cX7_gainOf 5 = .ok (.istore 4, 2) := by decide +kernel
theorem dX7_gainOf_7 : decode cX7_gainOf 7 = .ok (.iload_n 3, 1) := by decide +kernel
theorem dX7_gainOf_8 : decode cX7_gainOf 8 = .ok (.tableswitch 55 0 2 #[28, 34, 48], 28) := by decide +kernel
theorem dX7_gainOf_36 : decode cX7_gainOf 36 = .ok (.aload_n 0, 1) := by decide +kernel
theorem dX7_gainOf_37 : decode cX7_gainOf 37 = .ok (.iload_n 1, 1) := by decide +kernel
theorem dX7_gainOf_38 : decode cX7_gainOf 38 = .ok (.invokestatic 126, 3) := by decide +kernel
theorem dX7_gainOf_41 : decode cX7_gainOf 41 = .ok (.ireturn, 1) := by decide +kernel
theorem dX7_gainOf_42 : decode cX7_gainOf 42 = .ok (.aload_n 0, 1) := by decide +kernel
theorem dX7_gainOf_43 : decode cX7_gainOf 43 = .ok (.iload_n 1, 1) := by decide +kernel
theorem dX7_gainOf_44 : decode cX7_gainOf 44 = .ok (.invokestatic 126, 3) := by decide +kernel
theorem dX7_gainOf_47 : decode cX7_gainOf 47 = .ok (.aload_n 0, 1) := by decide +kernel
theorem dX7_gainOf_48 : decode cX7_gainOf 48 = .ok (.iload_n 1, 1) := by decide +kernel
theorem dX7_gainOf_49 : decode cX7_gainOf 49 = .ok (.iconst 1, 1) := by decide +kernel
theorem dX7_gainOf_50 : decode cX7_gainOf 50 = .ok (.iadd, 1) := by decide +kernel
theorem dX7_gainOf_51 : decode cX7_gainOf 51 = .ok (.invokestatic 126, 3) := by decide +kernel
theorem dX7_gainOf_54 : decode cX7_gainOf 54 = .ok (.iadd, 1) := by decide +kernel
theorem dX7_gainOf_55 : decode cX7_gainOf 55 = .ok (.ireturn, 1) := by decide +kernel
theorem dX7_gainOf_56 : decode cX7_gainOf 56 = .ok (.aload_n 0, 1) := by decide +kernel
theorem dX7_gainOf_57 : decode cX7_gainOf 57 = .ok (.iload 4, 2) := by decide +kernel
theorem dX7_gainOf_59 : decode cX7_gainOf 59 = .ok (.invokestatic 126, 3) := by decide +kernel
theorem dX7_gainOf_62 : decode cX7_gainOf 62 = .ok (.ireturn, 1) := by decide +kernel
theorem dX7_gainOf_63 : decode cX7_gainOf 63 = .ok (.aload_n 0, 1) := by decide +kernel
theorem dX7_gainOf_64 : decode cX7_gainOf 64 = .ok (.iload 4, 2) := by decide +kernel
theorem dX7_gainOf_66 : decode cX7_gainOf 66 = .ok (.invokestatic 126, 3) := by decide +kernel
theorem dX7_gainOf_69 : decode cX7_gainOf 69 = .ok (.aload_n 0, 1) := by decide +kernel
theorem dX7_gainOf_70 : decode cX7_gainOf 70 = .ok (.iload 4, 2) := by decide +kernel
theorem dX7_gainOf_72 : decode cX7_gainOf 72 = .ok (.iconst 1, 1) := by decide +kernel
theorem dX7_gainOf_73 : decode cX7_gainOf 73 = .ok (.isub, 1) := by decide +kernel
theorem dX7_gainOf_74 : decode cX7_gainOf 74 = .ok (.invokestatic 126, 3) := by decide +kernel
theorem dX7_gainOf_77 : decode cX7_gainOf 77 = .ok (.iadd, 1) := by decide +kernel
theorem dX7_gainOf_78 : decode cX7_gainOf 78 = .ok (.ireturn, 1) := by decide +kernel
theorem dX7_isOrder_0 : decode cX7_isOrder 0 = .ok (.iload_n 0, 1) := by decide +kernel
theorem dX7_isOrder_1 : decode cX7_isOrder 1 = .ok (.ifCond .lt 13, 3) := by decide +kernel
theorem dX7_isOrder_4 : decode cX7_isOrder 4 = .ok (.iload_n 0, 1) := by decide +kernel
theorem dX7_isOrder_5 : decode cX7_isOrder 5 = .ok (.bipush 24, 2) := by decide +kernel
theorem dX7_isOrder_7 : decode cX7_isOrder 7 = .ok (.if_icmp .ge 7, 3) := by decide +kernel
theorem dX7_isOrder_10 : decode cX7_isOrder 10 = .ok (.iconst 1, 1) := by decide +kernel
theorem dX7_isOrder_11 : decode cX7_isOrder 11 = .ok (.goto 4, 3) := by decide +kernel
theorem dX7_isOrder_14 : decode cX7_isOrder 14 = .ok (.iconst 0, 1) := by decide +kernel
theorem dX7_isOrder_15 : decode cX7_isOrder 15 = .ok (.ireturn, 1) := by decide +kernel
theorem dX7_moveOfOrder_0 : decode cX7_moveOfOrder 0 = .ok (.getstatic 300, 3) := by decide +kernel
theorem dX7_moveOfOrder_3 : decode cX7_moveOfOrder 3 = .ok (.iload_n 0, 1) := by decide +kernel
theorem dX7_moveOfOrder_4 : decode cX7_moveOfOrder 4 = .ok (.iconst 4, 1) := by decide +kernel
theorem dX7_moveOfOrder_5 : decode cX7_moveOfOrder 5 = .ok (.imul, 1) := by decide +kernel
theorem dX7_moveOfOrder_6 : decode cX7_moveOfOrder 6 = .ok (.iload_n 1, 1) := by decide +kernel
theorem dX7_moveOfOrder_7 : decode cX7_moveOfOrder 7 = .ok (.iadd, 1) := by decide +kernel
theorem dX7_moveOfOrder_8 : decode cX7_moveOfOrder 8 = .ok (.invokestatic 126, 3) := by decide +kernel
theorem dX7_moveOfOrder_11 : decode cX7_moveOfOrder 11 = .ok (.ireturn, 1) := by decide +kernel
theorem dJ9_max_7cf53_0 : decode cJ9_max_7cf53 0 = .ok (.iload_n 0, 1) := by decide +kernel
theorem dJ9_max_7cf53_1 : decode cJ9_max_7cf53 1 = .ok (.iload_n 1, 1) := by decide +kernel
theorem dJ9_max_7cf53_2 : decode cJ9_max_7cf53 2 = .ok (.if_icmp .lt 7, 3) := by decide +kernel
theorem dJ9_max_7cf53_5 : decode cJ9_max_7cf53 5 = .ok (.iload_n 0, 1) := by decide +kernel
theorem dJ9_max_7cf53_6 : decode cJ9_max_7cf53 6 = .ok (.goto 4, 3) := by decide +kernel
theorem dJ9_max_7cf53_9 : decode cJ9_max_7cf53 9 = .ok (.iload_n 1, 1) := by decide +kernel
theorem dJ9_max_7cf53_10 : decode cJ9_max_7cf53 10 = .ok (.ireturn, 1) := by decide +kernel
