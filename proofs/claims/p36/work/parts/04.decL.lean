theorem dL_cell_0 : decode cL_cell 0 = .ok (.iload_n 1, 1) := by decide +kernel
theorem dL_cell_1 : decode cL_cell 1 = .ok (.aload_n 0, 1) := by decide +kernel
theorem dL_cell_2 : decode cL_cell 2 = .ok (.arraylength, 1) := by decide +kernel
theorem dL_cell_3 : decode cL_cell 3 = .ok (.if_icmp .ge 9, 3) := by decide +kernel
theorem dL_cell_6 : decode cL_cell 6 = .ok (.aload_n 0, 1) := by decide +kernel
theorem dL_cell_7 : decode cL_cell 7 = .ok (.iload_n 1, 1) := by decide +kernel
theorem dL_cell_8 : decode cL_cell 8 = .ok (.iaload, 1) := by decide +kernel
theorem dL_cell_9 : decode cL_cell 9 = .ok (.goto 13, 3) := by decide +kernel
theorem dL_cell_12 : decode cL_cell 12 = .ok (.ldc 7, 2) := by decide +kernel
theorem dL_cell_14 : decode cL_cell 14 = .ok (.iload_n 1, 1) := by decide +kernel
theorem dL_cell_15 : decode cL_cell 15 = .ok (.bipush 31, 2) := by decide +kernel
theorem dL_cell_17 : decode cL_cell 17 = .ok (.iadd, 1) := by decide +kernel
theorem dL_cell_18 : decode cL_cell 18 = .ok (.imul, 1) := by decide +kernel
theorem dL_cell_19 : decode cL_cell 19 = .ok (.bipush 67, 2) := by decide +kernel
theorem dL_cell_21 : decode cL_cell 21 = .ok (.iadd, 1) := by decide +kernel
theorem dL_cell_22 : decode cL_cell 22 = .ok (.ldc 8, 2) := by decide +kernel
theorem dL_cell_24 : decode cL_cell 24 = .ok (.iand, 1) := by decide +kernel
theorem dL_cell_25 : decode cL_cell 25 = .ok (.ireturn, 1) := by decide +kernel
theorem dL_load_0 : decode cL_load 0 = .ok (.aload_n 0, 1) := by decide +kernel
theorem dL_load_1 : decode cL_load 1 = .ok (.invokevirtual 9, 3) := by decide +kernel
theorem dL_load_4 : decode cL_load 4 = .ok (.ireturn, 1) := by decide +kernel
theorem dL_load_5 : decode cL_load 5 = .ok (.astore_n 1, 1) := by decide +kernel
theorem dL_load_6 : decode cL_load 6 = .ok (.bipush (-2), 2) := by decide +kernel
theorem dL_load_8 : decode cL_load 8 = .ok (.ireturn, 1) := by decide +kernel
theorem dL_play_0 : decode cL_play 0 = .ok (.aload_n 0, 1) := by decide +kernel
theorem dL_play_1 : decode cL_play 1 = .ok (.iload_n 1, 1) := by decide +kernel
theorem dL_play_2 : decode cL_play 2 = .ok (.invokevirtual 17, 3) := by decide +kernel
theorem dL_play_5 : decode cL_play 5 = .ok (.ireturn, 1) := by decide +kernel
theorem dL_play_6 : decode cL_play 6 = .ok (.astore_n 2, 1) := by decide +kernel
theorem dL_play_7 : decode cL_play 7 = .ok (.bipush (-3), 2) := by decide +kernel
theorem dL_play_9 : decode cL_play 9 = .ok (.ireturn, 1) := by decide +kernel
theorem dL_play_10 : decode cL_play 10 = .ok (.astore_n 2, 1) := by decide +kernel
theorem dL_play_11 : decode cL_play 11 = .ok (.bipush (-2), 2) := by decide +kernel
theorem dL_play_13 : decode cL_play 13 = .ok (.ireturn, 1) := by decide +kernel
theorem dL_playBest_0 : decode cL_playBest 0 = .ok (.aload_n 0, 1) := by decide +kernel
theorem dL_playBest_1 : decode cL_playBest 1 = .ok (.iload_n 1, 1) := by decide +kernel
theorem dL_playBest_2 : decode cL_playBest 2 = .ok (.invokevirtual 25, 3) := by decide +kernel
theorem dL_playBest_5 : decode cL_playBest 5 = .ok (.ireturn, 1) := by decide +kernel
theorem dL_playBest_6 : decode cL_playBest 6 = .ok (.astore_n 2, 1) := by decide +kernel
theorem dL_playBest_7 : decode cL_playBest 7 = .ok (.bipush (-2), 2) := by decide +kernel
theorem dL_playBest_9 : decode cL_playBest 9 = .ok (.ireturn, 1) := by decide +kernel
theorem dL_pile_0 : decode cL_pile 0 = .ok (.aload_n 0, 1) := by decide +kernel
theorem dL_pile_1 : decode cL_pile 1 = .ok (.iload_n 1, 1) := by decide +kernel
theorem dL_pile_2 : decode cL_pile 2 = .ok (.invokevirtual 28, 3) := by decide +kernel
theorem dL_pile_5 : decode cL_pile 5 = .ok (.ireturn, 1) := by decide +kernel
theorem dL_pile_6 : decode cL_pile 6 = .ok (.astore_n 2, 1) := by decide +kernel
theorem dL_pile_7 : decode cL_pile 7 = .ok (.bipush (-2), 2) := by decide +kernel
theorem dL_pile_9 : decode cL_pile 9 = .ok (.ireturn, 1) := by decide +kernel
theorem dL_coins_0 : decode cL_coins 0 = .ok (.aload_n 0, 1) := by decide +kernel
theorem dL_coins_1 : decode cL_coins 1 = .ok (.iload_n 1, 1) := by decide +kernel
theorem dL_coins_2 : decode cL_coins 2 = .ok (.invokevirtual 31, 3) := by decide +kernel
theorem dL_coins_5 : decode cL_coins 5 = .ok (.ireturn, 1) := by decide +kernel
theorem dL_coins_6 : decode cL_coins 6 = .ok (.astore_n 2, 1) := by decide +kernel
theorem dL_coins_7 : decode cL_coins 7 = .ok (.bipush (-2), 2) := by decide +kernel
theorem dL_coins_9 : decode cL_coins 9 = .ok (.ireturn, 1) := by decide +kernel
theorem dL_resultOf_0 : decode cL_resultOf 0 = .ok (.aload_n 0, 1) := by decide +kernel
theorem dL_resultOf_1 : decode cL_resultOf 1 = .ok (.iload_n 1, 1) := by decide +kernel
theorem dL_resultOf_2 : decode cL_resultOf 2 = .ok (.invokevirtual 34, 3) := by decide +kernel
theorem dL_resultOf_5 : decode cL_resultOf 5 = .ok (.ireturn, 1) := by decide +kernel
theorem dL_resultOf_6 : decode cL_resultOf 6 = .ok (.astore_n 2, 1) := by decide +kernel
theorem dL_resultOf_7 : decode cL_resultOf 7 = .ok (.sipush (-1000), 3) := by decide +kernel
theorem dL_resultOf_10 : decode cL_resultOf 10 = .ok (.ireturn, 1) := by decide +kernel
theorem dL_line_0 : decode cL_line 0 = .ok (.aload_n 0, 1) := by decide +kernel
theorem dL_line_1 : decode cL_line 1 = .ok (.iload_n 1, 1) := by decide +kernel
theorem dL_line_2 : decode cL_line 2 = .ok (.invokevirtual 37, 3) := by decide +kernel
theorem dL_line_5 : decode cL_line 5 = .ok (.ireturn, 1) := by decide +kernel
theorem dL_line_6 : decode cL_line 6 = .ok (.astore_n 2, 1) := by decide +kernel
theorem dL_line_7 : decode cL_line 7 = .ok (.sipush (-1000), 3) := by decide +kernel
theorem dL_line_10 : decode cL_line 10 = .ok (.ireturn, 1) := by decide +kernel
theorem dL_append_0 : decode cL_append 0 = .ok (.aload_n 0, 1) := by decide +kernel
theorem dL_append_1 : decode cL_append 1 = .ok (.iload_n 1, 1) := by decide +kernel
theorem dL_append_2 : decode cL_append 2 = .ok (.invokevirtual 40, 3) := by decide +kernel
theorem dL_append_5 : decode cL_append 5 = .ok (.ireturn, 1) := by decide +kernel
theorem dL_append_6 : decode cL_append 6 = .ok (.astore_n 2, 1) := by decide +kernel
theorem dL_append_7 : decode cL_append 7 = .ok (.bipush (-2), 2) := by decide +kernel
theorem dL_append_9 : decode cL_append 9 = .ok (.ireturn, 1) := by decide +kernel
theorem dL_append_10 : decode cL_append 10 = .ok (.astore_n 2, 1) := by decide +kernel
theorem dL_append_11 : decode cL_append 11 = .ok (.bipush (-3), 2) := by decide +kernel
theorem dL_append_13 : decode cL_append 13 = .ok (.ireturn, 1) := by decide +kernel
theorem dL_undo_0 : decode cL_undo 0 = .ok (.aload_n 0, 1) := by decide +kernel
theorem dL_undo_1 : decode cL_undo 1 = .ok (.invokevirtual 43, 3) := by decide +kernel
theorem dL_undo_4 : decode cL_undo 4 = .ok (.ireturn, 1) := by decide +kernel
theorem dL_undo_5 : decode cL_undo 5 = .ok (.astore_n 1, 1) := by decide +kernel
theorem dL_undo_6 : decode cL_undo 6 = .ok (.bipush (-2), 2) := by decide +kernel
theorem dL_undo_8 : decode cL_undo 8 = .ok (.ireturn, 1) := by decide +kernel
theorem dL_typed_0 : decode cL_typed 0 = .ok (.aload_n 0, 1) := by decide +kernel
theorem dL_typed_1 : decode cL_typed 1 = .ok (.invokevirtual 46, 3) := by decide +kernel
theorem dL_typed_4 : decode cL_typed 4 = .ok (.ifCond .ge 8, 3) := by decide +kernel
theorem dL_typed_7 : decode cL_typed 7 = .ok (.bipush (-9), 2) := by decide +kernel
theorem dL_typed_9 : decode cL_typed 9 = .ok (.goto 4, 3) := by decide +kernel
theorem dL_typed_12 : decode cL_typed 12 = .ok (.iconst 0, 1) := by decide +kernel
theorem dL_typed_13 : decode cL_typed 13 = .ok (.istore 4, 2) := by decide +kernel
theorem dL_typed_15 : decode cL_typed 15 = .ok (.iconst 0, 1) := by decide +kernel
theorem dL_typed_16 : decode cL_typed 16 = .ok (.istore 5, 2) := by decide +kernel
theorem dL_typed_18 : decode cL_typed 18 = .ok (.iload 5, 2) := by decide +kernel
theorem dL_typed_20 : decode cL_typed 20 = .ok (.iload_n 3, 1) := by decide +kernel
theorem dL_typed_21 : decode cL_typed 21 = .ok (.if_icmp .ge 81, 3) := by decide +kernel
theorem dL_typed_24 : decode cL_typed 24 = .ok (.iconst 1, 1) := by decide +kernel
theorem dL_typed_25 : decode cL_typed 25 = .ok (.aload_n 1, 1) := by decide +kernel
theorem dL_typed_26 : decode cL_typed 26 = .ok (.iload_n 2, 1) := by decide +kernel
theorem dL_typed_27 : decode cL_typed 27 = .ok (.iload 5, 2) := by decide +kernel
theorem dL_typed_29 : decode cL_typed 29 = .ok (.iadd, 1) := by decide +kernel
theorem dL_typed_30 : decode cL_typed 30 = .ok (.invokestatic 49, 3) := by decide +kernel
theorem dL_typed_33 : decode cL_typed 33 = .ok (.bipush 20, 2) := by decide +kernel
theorem dL_typed_35 : decode cL_typed 35 = .ok (.irem, 1) := by decide +kernel
theorem dL_typed_36 : decode cL_typed 36 = .ok (.iadd, 1) := by decide +kernel
theorem dL_typed_37 : decode cL_typed 37 = .ok (.istore 6, 2) := by decide +kernel
theorem dL_typed_39 : decode cL_typed 39 = .ok (.iload 5, 2) := by decide +kernel
theorem dL_typed_41 : decode cL_typed 41 = .ok (.ifCond .le 12, 3) := by decide +kernel
theorem dL_typed_44 : decode cL_typed 44 = .ok (.aload_n 0, 1) := by decide +kernel
theorem dL_typed_45 : decode cL_typed 45 = .ok (.bipush 44, 2) := by decide +kernel
theorem dL_typed_47 : decode cL_typed 47 = .ok (.invokestatic 55, 3) := by decide +kernel
theorem dL_typed_50 : decode cL_typed 50 = .ok (.goto 4, 3) := by decide +kernel
theorem dL_typed_53 : decode cL_typed 53 = .ok (.iconst 0, 1) := by decide +kernel
theorem dL_typed_54 : decode cL_typed 54 = .ok (.istore 4, 2) := by decide +kernel
theorem dL_typed_56 : decode cL_typed 56 = .ok (.iload 6, 2) := by decide +kernel
theorem dL_typed_58 : decode cL_typed 58 = .ok (.bipush 9, 2) := by decide +kernel
theorem dL_typed_60 : decode cL_typed 60 = .ok (.if_icmp .le 18, 3) := by decide +kernel
theorem dL_typed_63 : decode cL_typed 63 = .ok (.aload_n 0, 1) := by decide +kernel
theorem dL_typed_64 : decode cL_typed 64 = .ok (.bipush 48, 2) := by decide +kernel
theorem dL_typed_66 : decode cL_typed 66 = .ok (.iload 6, 2) := by decide +kernel
theorem dL_typed_68 : decode cL_typed 68 = .ok (.bipush 10, 2) := by decide +kernel
theorem dL_typed_70 : decode cL_typed 70 = .ok (.idiv, 1) := by decide +kernel
theorem dL_typed_71 : decode cL_typed 71 = .ok (.iadd, 1) := by decide +kernel
theorem dL_typed_72 : decode cL_typed 72 = .ok (.invokestatic 55, 3) := by decide +kernel
theorem dL_typed_75 : decode cL_typed 75 = .ok (.goto 5, 3) := by decide +kernel
theorem dL_typed_78 : decode cL_typed 78 = .ok (.iload 4, 2) := by decide +kernel
theorem dL_typed_80 : decode cL_typed 80 = .ok (.istore 4, 2) := by decide +kernel
theorem dL_typed_82 : decode cL_typed 82 = .ok (.aload_n 0, 1) := by decide +kernel
theorem dL_typed_83 : decode cL_typed 83 = .ok (.bipush 48, 2) := by decide +kernel
theorem dL_typed_85 : decode cL_typed 85 = .ok (.iload 6, 2) := by decide +kernel
theorem dL_typed_87 : decode cL_typed 87 = .ok (.bipush 10, 2) := by decide +kernel
theorem dL_typed_89 : decode cL_typed 89 = .ok (.irem, 1) := by decide +kernel
theorem dL_typed_90 : decode cL_typed 90 = .ok (.iadd, 1) := by decide +kernel
theorem dL_typed_91 : decode cL_typed 91 = .ok (.invokestatic 55, 3) := by decide +kernel
theorem dL_typed_94 : decode cL_typed 94 = .ok (.istore 4, 2) := by decide +kernel
theorem dL_typed_96 : decode cL_typed 96 = .ok (.iinc 5 1, 3) := by decide +kernel
theorem dL_typed_99 : decode cL_typed 99 = .ok (.goto (-81), 3) := by decide +kernel
theorem dL_typed_102 : decode cL_typed 102 = .ok (.iload 4, 2) := by decide +kernel
theorem dL_typed_104 : decode cL_typed 104 = .ok (.ireturn, 1) := by decide +kernel
theorem dL_search_0 : decode cL_search 0 = .ok (.aload_n 0, 1) := by decide +kernel
theorem dL_search_1 : decode cL_search 1 = .ok (.iload_n 1, 1) := by decide +kernel
theorem dL_search_2 : decode cL_search 2 = .ok (.iload_n 2, 1) := by decide +kernel
theorem dL_search_3 : decode cL_search 3 = .ok (.iload_n 3, 1) := by decide +kernel
theorem dL_search_4 : decode cL_search 4 = .ok (.invokevirtual 58, 3) := by decide +kernel
theorem dL_search_7 : decode cL_search 7 = .ok (.ireturn, 1) := by decide +kernel
theorem dL_search_8 : decode cL_search 8 = .ok (.astore 4, 2) := by decide +kernel
theorem dL_search_10 : decode cL_search 10 = .ok (.sipush (-1000), 3) := by decide +kernel
theorem dL_search_13 : decode cL_search 13 = .ok (.ireturn, 1) := by decide +kernel
theorem dL_entryKind_0 : decode cL_entryKind 0 = .ok (.aload_n 0, 1) := by decide +kernel
theorem dL_entryKind_1 : decode cL_entryKind 1 = .ok (.iload_n 1, 1) := by decide +kernel
theorem dL_entryKind_2 : decode cL_entryKind 2 = .ok (.iload_n 2, 1) := by decide +kernel
theorem dL_entryKind_3 : decode cL_entryKind 3 = .ok (.invokevirtual 62, 3) := by decide +kernel
theorem dL_entryKind_6 : decode cL_entryKind 6 = .ok (.ireturn, 1) := by decide +kernel
theorem dL_entryKind_7 : decode cL_entryKind 7 = .ok (.astore_n 3, 1) := by decide +kernel
theorem dL_entryKind_8 : decode cL_entryKind 8 = .ok (.bipush (-2), 2) := by decide +kernel
theorem dL_entryKind_10 : decode cL_entryKind 10 = .ok (.ireturn, 1) := by decide +kernel
theorem dL_entryValue_0 : decode cL_entryValue 0 = .ok (.aload_n 0, 1) := by decide +kernel
theorem dL_entryValue_1 : decode cL_entryValue 1 = .ok (.iload_n 1, 1) := by decide +kernel
theorem dL_entryValue_2 : decode cL_entryValue 2 = .ok (.iload_n 2, 1) := by decide +kernel
theorem dL_entryValue_3 : decode cL_entryValue 3 = .ok (.invokevirtual 66, 3) := by decide +kernel
theorem dL_entryValue_6 : decode cL_entryValue 6 = .ok (.ireturn, 1) := by decide +kernel
theorem dL_entryValue_7 : decode cL_entryValue 7 = .ok (.astore_n 3, 1) := by decide +kernel
theorem dL_entryValue_8 : decode cL_entryValue 8 = .ok (.sipush (-1000), 3) := by decide +kernel
theorem dL_entryValue_11 : decode cL_entryValue 11 = .ok (.ireturn, 1) := by decide +kernel
theorem dL_setOrder_0 : decode cL_setOrder 0 = .ok (.aload_n 0, 1) := by decide +kernel
theorem dL_setOrder_1 : decode cL_setOrder 1 = .ok (.iload_n 1, 1) := by decide +kernel
theorem dL_setOrder_2 : decode cL_setOrder 2 = .ok (.invokevirtual 69, 3) := by decide +kernel
theorem dL_setOrder_5 : decode cL_setOrder 5 = .ok (.ireturn, 1) := by decide +kernel
theorem dL_setOrder_6 : decode cL_setOrder 6 = .ok (.astore_n 2, 1) := by decide +kernel
theorem dL_setOrder_7 : decode cL_setOrder 7 = .ok (.bipush (-2), 2) := by decide +kernel
theorem dL_setOrder_9 : decode cL_setOrder 9 = .ok (.ireturn, 1) := by decide +kernel
theorem dL_order_0 : decode cL_order 0 = .ok (.aload_n 0, 1) := by decide +kernel
theorem dL_order_1 : decode cL_order 1 = .ok (.iload_n 1, 1) := by decide +kernel
theorem dL_order_2 : decode cL_order 2 = .ok (.invokevirtual 72, 3) := by decide +kernel
theorem dL_order_5 : decode cL_order 5 = .ok (.ireturn, 1) := by decide +kernel
theorem dL_order_6 : decode cL_order 6 = .ok (.astore_n 2, 1) := by decide +kernel
theorem dL_order_7 : decode cL_order 7 = .ok (.bipush (-2), 2) := by decide +kernel
theorem dL_order_9 : decode cL_order 9 = .ok (.ireturn, 1) := by decide +kernel
theorem dL_setLimit_0 : decode cL_setLimit 0 = .ok (.aload_n 0, 1) := by decide +kernel
theorem dL_setLimit_1 : decode cL_setLimit 1 = .ok (.iload_n 1, 1) := by decide +kernel
theorem dL_setLimit_2 : decode cL_setLimit 2 = .ok (.invokevirtual 75, 3) := by decide +kernel
theorem dL_setLimit_5 : decode cL_setLimit 5 = .ok (.ireturn, 1) := by decide +kernel
theorem dL_setLimit_6 : decode cL_setLimit 6 = .ok (.astore_n 2, 1) := by decide +kernel
theorem dL_setLimit_7 : decode cL_setLimit 7 = .ok (.bipush (-2), 2) := by decide +kernel
theorem dL_setLimit_9 : decode cL_setLimit 9 = .ok (.ireturn, 1) := by decide +kernel
theorem dL_nodesWith_0 : decode cL_nodesWith 0 = .ok (.aload_n 0, 1) := by decide +kernel
theorem dL_nodesWith_1 : decode cL_nodesWith 1 = .ok (.iload_n 1, 1) := by decide +kernel
theorem dL_nodesWith_2 : decode cL_nodesWith 2 = .ok (.invokevirtual 78, 3) := by decide +kernel
theorem dL_nodesWith_5 : decode cL_nodesWith 5 = .ok (.ireturn, 1) := by decide +kernel
theorem dL_nodesWith_6 : decode cL_nodesWith 6 = .ok (.astore_n 2, 1) := by decide +kernel
theorem dL_nodesWith_7 : decode cL_nodesWith 7 = .ok (.bipush (-2), 2) := by decide +kernel
theorem dL_nodesWith_9 : decode cL_nodesWith 9 = .ok (.ireturn, 1) := by decide +kernel
theorem dL_acts_0 : decode cL_acts 0 = .ok (.aload_n 1, 1) := by decide +kernel
theorem dL_acts_1 : decode cL_acts 1 = .ok (.iload_n 2, 1) := by decide +kernel
theorem dL_acts_2 : decode cL_acts 2 = .ok (.invokestatic 49, 3) := by decide +kernel
theorem dL_acts_5 : decode cL_acts 5 = .ok (.istore_n 3, 1) := by decide +kernel
theorem dL_acts_6 : decode cL_acts 6 = .ok (.iload_n 3, 1) := by decide +kernel
theorem dL_acts_7 : decode cL_acts 7 = .ok (.bipush 16, 2) := by decide +kernel
theorem dL_acts_9 : decode cL_acts 9 = .ok (.idiv, 1) := by decide +kernel
theorem dL_acts_10 : decode cL_acts 10 = .ok (.istore 4, 2) := by decide +kernel
theorem dL_acts_12 : decode cL_acts 12 = .ok (.aload_n 0, 1) := by decide +kernel
theorem dL_acts_13 : decode cL_acts 13 = .ok (.invokevirtual 81, 3) := by decide +kernel
theorem dL_acts_16 : decode cL_acts 16 = .ok (.ifCond .ne 7, 3) := by decide +kernel
theorem dL_acts_19 : decode cL_acts 19 = .ok (.iconst 0, 1) := by decide +kernel
theorem dL_acts_20 : decode cL_acts 20 = .ok (.goto 7, 3) := by decide +kernel
theorem dL_acts_23 : decode cL_acts 23 = .ok (.iload_n 3, 1) := by decide +kernel
theorem dL_acts_24 : decode cL_acts 24 = .ok (.bipush 16, 2) := by decide +kernel
theorem dL_acts_26 : decode cL_acts 26 = .ok (.irem, 1) := by decide +kernel
theorem dL_acts_27 : decode cL_acts 27 = .ok (.tableswitch 180 0 9 #[53, 93, 93, 102, 113, 113, 123, 150, 175, 175], 53) := by decide +kernel
theorem dL_acts_80 : decode cL_acts 80 = .ok (.aload_n 0, 1) := by decide +kernel
theorem dL_acts_81 : decode cL_acts 81 = .ok (.aload_n 1, 1) := by decide +kernel
theorem dL_acts_82 : decode cL_acts 82 = .ok (.iload_n 2, 1) := by decide +kernel
theorem dL_acts_83 : decode cL_acts 83 = .ok (.iconst 1, 1) := by decide +kernel
theorem dL_acts_84 : decode cL_acts 84 = .ok (.iload 4, 2) := by decide +kernel
theorem dL_acts_86 : decode cL_acts 86 = .ok (.bipush 12, 2) := by decide +kernel
theorem dL_acts_88 : decode cL_acts 88 = .ok (.irem, 1) := by decide +kernel
theorem dL_acts_89 : decode cL_acts 89 = .ok (.iadd, 1) := by decide +kernel
theorem dL_acts_90 : decode cL_acts 90 = .ok (.invokestatic 84, 3) := by decide +kernel
theorem dL_acts_93 : decode cL_acts 93 = .ok (.istore 5, 2) := by decide +kernel
theorem dL_acts_95 : decode cL_acts 95 = .ok (.iload 5, 2) := by decide +kernel
theorem dL_acts_97 : decode cL_acts 97 = .ok (.iconst 1, 1) := by decide +kernel
theorem dL_acts_98 : decode cL_acts 98 = .ok (.if_icmp .lt 12, 3) := by decide +kernel
theorem dL_acts_101 : decode cL_acts 101 = .ok (.aload_n 0, 1) := by decide +kernel
theorem dL_acts_102 : decode cL_acts 102 = .ok (.invokevirtual 88, 3) := by decide +kernel
theorem dL_acts_105 : decode cL_acts 105 = .ok (.iload 5, 2) := by decide +kernel
theorem dL_acts_107 : decode cL_acts 107 = .ok (.if_icmp .eq 8, 3) := by decide +kernel
theorem dL_acts_110 : decode cL_acts 110 = .ok (.bipush (-9), 2) := by decide +kernel
theorem dL_acts_112 : decode cL_acts 112 = .ok (.goto 7, 3) := by decide +kernel
theorem dL_acts_115 : decode cL_acts 115 = .ok (.aload_n 0, 1) := by decide +kernel
theorem dL_acts_116 : decode cL_acts 116 = .ok (.invokestatic 91, 3) := by decide +kernel
theorem dL_acts_119 : decode cL_acts 119 = .ok (.ireturn, 1) := by decide +kernel
theorem dL_acts_120 : decode cL_acts 120 = .ok (.aload_n 0, 1) := by decide +kernel
theorem dL_acts_121 : decode cL_acts 121 = .ok (.iload 4, 2) := by decide +kernel
theorem dL_acts_123 : decode cL_acts 123 = .ok (.iconst 4, 1) := by decide +kernel
theorem dL_acts_124 : decode cL_acts 124 = .ok (.irem, 1) := by decide +kernel
theorem dL_acts_125 : decode cL_acts 125 = .ok (.invokestatic 94, 3) := by decide +kernel
theorem dL_acts_128 : decode cL_acts 128 = .ok (.ireturn, 1) := by decide +kernel
theorem dL_acts_129 : decode cL_acts 129 = .ok (.aload_n 0, 1) := by decide +kernel
theorem dL_acts_130 : decode cL_acts 130 = .ok (.iconst 1, 1) := by decide +kernel
theorem dL_acts_131 : decode cL_acts 131 = .ok (.iload 4, 2) := by decide +kernel
theorem dL_acts_133 : decode cL_acts 133 = .ok (.iconst 2, 1) := by decide +kernel
theorem dL_acts_134 : decode cL_acts 134 = .ok (.irem, 1) := by decide +kernel
theorem dL_acts_135 : decode cL_acts 135 = .ok (.iadd, 1) := by decide +kernel
theorem dL_acts_136 : decode cL_acts 136 = .ok (.invokestatic 96, 3) := by decide +kernel
theorem dL_acts_139 : decode cL_acts 139 = .ok (.ireturn, 1) := by decide +kernel
theorem dL_acts_140 : decode cL_acts 140 = .ok (.aload_n 0, 1) := by decide +kernel
theorem dL_acts_141 : decode cL_acts 141 = .ok (.iload 4, 2) := by decide +kernel
theorem dL_acts_143 : decode cL_acts 143 = .ok (.bipush 24, 2) := by decide +kernel
theorem dL_acts_145 : decode cL_acts 145 = .ok (.irem, 1) := by decide +kernel
theorem dL_acts_146 : decode cL_acts 146 = .ok (.invokestatic 98, 3) := by decide +kernel
theorem dL_acts_149 : decode cL_acts 149 = .ok (.ireturn, 1) := by decide +kernel
theorem dL_acts_150 : decode cL_acts 150 = .ok (.aload_n 0, 1) := by decide +kernel
theorem dL_acts_151 : decode cL_acts 151 = .ok (.iload 4, 2) := by decide +kernel
theorem dL_acts_153 : decode cL_acts 153 = .ok (.iconst 3, 1) := by decide +kernel
theorem dL_acts_154 : decode cL_acts 154 = .ok (.irem, 1) := by decide +kernel
theorem dL_acts_155 : decode cL_acts 155 = .ok (.ifCond .ne 15, 3) := by decide +kernel
theorem dL_acts_158 : decode cL_acts 158 = .ok (.iconst 1, 1) := by decide +kernel
theorem dL_acts_159 : decode cL_acts 159 = .ok (.iload 4, 2) := by decide +kernel
theorem dL_acts_161 : decode cL_acts 161 = .ok (.iconst 3, 1) := by decide +kernel
theorem dL_acts_162 : decode cL_acts 162 = .ok (.idiv, 1) := by decide +kernel
theorem dL_acts_163 : decode cL_acts 163 = .ok (.bipush 80, 2) := by decide +kernel
theorem dL_acts_165 : decode cL_acts 165 = .ok (.irem, 1) := by decide +kernel
theorem dL_acts_166 : decode cL_acts 166 = .ok (.iadd, 1) := by decide +kernel
theorem dL_acts_167 : decode cL_acts 167 = .ok (.goto 6, 3) := by decide +kernel
theorem dL_acts_170 : decode cL_acts 170 = .ok (.sipush 5000, 3) := by decide +kernel
theorem dL_acts_173 : decode cL_acts 173 = .ok (.invokestatic 100, 3) := by decide +kernel
theorem dL_acts_176 : decode cL_acts 176 = .ok (.ireturn, 1) := by decide +kernel
theorem dL_acts_177 : decode cL_acts 177 = .ok (.aload_n 0, 1) := by decide +kernel
theorem dL_acts_178 : decode cL_acts 178 = .ok (.iload 4, 2) := by decide +kernel
theorem dL_acts_180 : decode cL_acts 180 = .ok (.iconst 3, 1) := by decide +kernel
theorem dL_acts_181 : decode cL_acts 181 = .ok (.irem, 1) := by decide +kernel
theorem dL_acts_182 : decode cL_acts 182 = .ok (.ifCond .le 7, 3) := by decide +kernel
theorem dL_acts_185 : decode cL_acts 185 = .ok (.iconst 1, 1) := by decide +kernel
theorem dL_acts_186 : decode cL_acts 186 = .ok (.goto 4, 3) := by decide +kernel
theorem dL_acts_189 : decode cL_acts 189 = .ok (.iconst 0, 1) := by decide +kernel
theorem dL_acts_190 : decode cL_acts 190 = .ok (.invokevirtual 102, 3) := by decide +kernel
theorem dL_acts_193 : decode cL_acts 193 = .ok (.ifCond .eq 7, 3) := by decide +kernel
theorem dL_acts_196 : decode cL_acts 196 = .ok (.iconst 1, 1) := by decide +kernel
theorem dL_acts_197 : decode cL_acts 197 = .ok (.goto 4, 3) := by decide +kernel
theorem dL_acts_200 : decode cL_acts 200 = .ok (.iconst 0, 1) := by decide +kernel
theorem dL_acts_201 : decode cL_acts 201 = .ok (.ireturn, 1) := by decide +kernel
theorem dL_acts_202 : decode cL_acts 202 = .ok (.aload_n 0, 1) := by decide +kernel
theorem dL_acts_203 : decode cL_acts 203 = .ok (.invokestatic 106, 3) := by decide +kernel
theorem dL_acts_206 : decode cL_acts 206 = .ok (.ireturn, 1) := by decide +kernel
theorem dL_acts_207 : decode cL_acts 207 = .ok (.iload 4, 2) := by decide +kernel
theorem dL_acts_209 : decode cL_acts 209 = .ok (.bipush 16, 2) := by decide +kernel
theorem dL_acts_211 : decode cL_acts 211 = .ok (.idiv, 1) := by decide +kernel
theorem dL_acts_212 : decode cL_acts 212 = .ok (.bipush 91, 2) := by decide +kernel
theorem dL_acts_214 : decode cL_acts 214 = .ok (.irem, 1) := by decide +kernel
theorem dL_acts_215 : decode cL_acts 215 = .ok (.bipush 45, 2) := by decide +kernel
theorem dL_acts_217 : decode cL_acts 217 = .ok (.isub, 1) := by decide +kernel
theorem dL_acts_218 : decode cL_acts 218 = .ok (.istore 6, 2) := by decide +kernel
theorem dL_acts_220 : decode cL_acts 220 = .ok (.aload_n 0, 1) := by decide +kernel
theorem dL_acts_221 : decode cL_acts 221 = .ok (.iload 4, 2) := by decide +kernel
theorem dL_acts_223 : decode cL_acts 223 = .ok (.iconst 3, 1) := by decide +kernel
theorem dL_acts_224 : decode cL_acts 224 = .ok (.irem, 1) := by decide +kernel
theorem dL_acts_225 : decode cL_acts 225 = .ok (.ifCond .le 8, 3) := by decide +kernel
theorem dL_acts_228 : decode cL_acts 228 = .ok (.bipush 12, 2) := by decide +kernel
theorem dL_acts_230 : decode cL_acts 230 = .ok (.goto 8, 3) := by decide +kernel
theorem dL_acts_233 : decode cL_acts 233 = .ok (.iload 4, 2) := by decide +kernel
theorem dL_acts_235 : decode cL_acts 235 = .ok (.bipush 13, 2) := by decide +kernel
theorem dL_acts_237 : decode cL_acts 237 = .ok (.irem, 1) := by decide +kernel
theorem dL_acts_238 : decode cL_acts 238 = .ok (.iload 6, 2) := by decide +kernel
theorem dL_acts_240 : decode cL_acts 240 = .ok (.iload 6, 2) := by decide +kernel
theorem dL_acts_242 : decode cL_acts 242 = .ok (.iconst 1, 1) := by decide +kernel
theorem dL_acts_243 : decode cL_acts 243 = .ok (.iadd, 1) := by decide +kernel
theorem dL_acts_244 : decode cL_acts 244 = .ok (.iload 4, 2) := by decide +kernel
theorem dL_acts_246 : decode cL_acts 246 = .ok (.sipush 2048, 3) := by decide +kernel
theorem dL_acts_249 : decode cL_acts 249 = .ok (.idiv, 1) := by decide +kernel
theorem dL_acts_250 : decode cL_acts 250 = .ok (.bipush 60, 2) := by decide +kernel
theorem dL_acts_252 : decode cL_acts 252 = .ok (.irem, 1) := by decide +kernel
theorem dL_acts_253 : decode cL_acts 253 = .ok (.iadd, 1) := by decide +kernel
theorem dL_acts_254 : decode cL_acts 254 = .ok (.invokestatic 108, 3) := by decide +kernel
theorem dL_acts_257 : decode cL_acts 257 = .ok (.ireturn, 1) := by decide +kernel
theorem dL_hangs_0 : decode cL_hangs 0 = .ok (.aload_n 0, 1) := by decide +kernel
theorem dL_hangs_1 : decode cL_hangs 1 = .ok (.invokevirtual 81, 3) := by decide +kernel
theorem dL_hangs_4 : decode cL_hangs 4 = .ok (.istore_n 1, 1) := by decide +kernel
theorem dL_hangs_5 : decode cL_hangs 5 = .ok (.iload_n 1, 1) := by decide +kernel
theorem dL_hangs_6 : decode cL_hangs 6 = .ok (.ifCond .lt 64, 3) := by decide +kernel
theorem dL_hangs_9 : decode cL_hangs 9 = .ok (.iload_n 1, 1) := by decide +kernel
theorem dL_hangs_10 : decode cL_hangs 10 = .ok (.bipush 12, 2) := by decide +kernel
theorem dL_hangs_12 : decode cL_hangs 12 = .ok (.if_icmp .gt 58, 3) := by decide +kernel
theorem dL_hangs_15 : decode cL_hangs 15 = .ok (.aload_n 0, 1) := by decide +kernel
theorem dL_hangs_16 : decode cL_hangs 16 = .ok (.invokevirtual 111, 3) := by decide +kernel
theorem dL_hangs_19 : decode cL_hangs 19 = .ok (.ifCond .eq 11, 3) := by decide +kernel
theorem dL_hangs_22 : decode cL_hangs 22 = .ok (.aload_n 0, 1) := by decide +kernel
theorem dL_hangs_23 : decode cL_hangs 23 = .ok (.invokevirtual 111, 3) := by decide +kernel
theorem dL_hangs_26 : decode cL_hangs 26 = .ok (.iconst 1, 1) := by decide +kernel
theorem dL_hangs_27 : decode cL_hangs 27 = .ok (.if_icmp .ne 43, 3) := by decide +kernel
theorem dL_hangs_30 : decode cL_hangs 30 = .ok (.aload_n 0, 1) := by decide +kernel
theorem dL_hangs_31 : decode cL_hangs 31 = .ok (.iconst 0, 1) := by decide +kernel
theorem dL_hangs_32 : decode cL_hangs 32 = .ok (.invokestatic 114, 3) := by decide +kernel
theorem dL_hangs_35 : decode cL_hangs 35 = .ok (.ifCond .lt 35, 3) := by decide +kernel
theorem dL_hangs_38 : decode cL_hangs 38 = .ok (.aload_n 0, 1) := by decide +kernel
theorem dL_hangs_39 : decode cL_hangs 39 = .ok (.iconst 1, 1) := by decide +kernel
theorem dL_hangs_40 : decode cL_hangs 40 = .ok (.invokestatic 114, 3) := by decide +kernel
theorem dL_hangs_43 : decode cL_hangs 43 = .ok (.ifCond .lt 27, 3) := by decide +kernel
theorem dL_hangs_46 : decode cL_hangs 46 = .ok (.aload_n 0, 1) := by decide +kernel
theorem dL_hangs_47 : decode cL_hangs 47 = .ok (.iload_n 1, 1) := by decide +kernel
theorem dL_hangs_48 : decode cL_hangs 48 = .ok (.invokestatic 116, 3) := by decide +kernel
theorem dL_hangs_51 : decode cL_hangs 51 = .ok (.bipush (-2), 2) := by decide +kernel
theorem dL_hangs_53 : decode cL_hangs 53 = .ok (.if_icmp .ne 17, 3) := by decide +kernel
theorem dL_hangs_56 : decode cL_hangs 56 = .ok (.aload_n 0, 1) := by decide +kernel
theorem dL_hangs_57 : decode cL_hangs 57 = .ok (.iconst 2, 1) := by decide +kernel
theorem dL_hangs_58 : decode cL_hangs 58 = .ok (.invokestatic 114, 3) := by decide +kernel
theorem dL_hangs_61 : decode cL_hangs 61 = .ok (.bipush (-2), 2) := by decide +kernel
theorem dL_hangs_63 : decode cL_hangs 63 = .ok (.if_icmp .ne 7, 3) := by decide +kernel
theorem dL_hangs_66 : decode cL_hangs 66 = .ok (.iconst 1, 1) := by decide +kernel
theorem dL_hangs_67 : decode cL_hangs 67 = .ok (.goto 4, 3) := by decide +kernel
theorem dL_hangs_70 : decode cL_hangs 70 = .ok (.iconst 0, 1) := by decide +kernel
theorem dL_hangs_71 : decode cL_hangs 71 = .ok (.istore_n 2, 1) := by decide +kernel
theorem dL_hangs_72 : decode cL_hangs 72 = .ok (.iconst 0, 1) := by decide +kernel
theorem dL_hangs_73 : decode cL_hangs 73 = .ok (.istore_n 3, 1) := by decide +kernel
theorem dL_hangs_74 : decode cL_hangs 74 = .ok (.iconst 0, 1) := by decide +kernel
theorem dL_hangs_75 : decode cL_hangs 75 = .ok (.istore 4, 2) := by decide +kernel
theorem dL_hangs_77 : decode cL_hangs 77 = .ok (.iload 4, 2) := by decide +kernel
theorem dL_hangs_79 : decode cL_hangs 79 = .ok (.iload_n 1, 1) := by decide +kernel
theorem dL_hangs_80 : decode cL_hangs 80 = .ok (.if_icmp .ge 48, 3) := by decide +kernel
theorem dL_hangs_83 : decode cL_hangs 83 = .ok (.iload_n 2, 1) := by decide +kernel
theorem dL_hangs_84 : decode cL_hangs 84 = .ok (.ifCond .eq 44, 3) := by decide +kernel
theorem dL_hangs_87 : decode cL_hangs 87 = .ok (.iload_n 3, 1) := by decide +kernel
theorem dL_hangs_88 : decode cL_hangs 88 = .ok (.aload_n 0, 1) := by decide +kernel
theorem dL_hangs_89 : decode cL_hangs 89 = .ok (.iload 4, 2) := by decide +kernel
theorem dL_hangs_91 : decode cL_hangs 91 = .ok (.invokestatic 116, 3) := by decide +kernel
theorem dL_hangs_94 : decode cL_hangs 94 = .ok (.iadd, 1) := by decide +kernel
theorem dL_hangs_95 : decode cL_hangs 95 = .ok (.istore_n 3, 1) := by decide +kernel
theorem dL_hangs_96 : decode cL_hangs 96 = .ok (.aload_n 0, 1) := by decide +kernel
theorem dL_hangs_97 : decode cL_hangs 97 = .ok (.iload 4, 2) := by decide +kernel
theorem dL_hangs_99 : decode cL_hangs 99 = .ok (.invokestatic 116, 3) := by decide +kernel
theorem dL_hangs_102 : decode cL_hangs 102 = .ok (.ifCond .le 18, 3) := by decide +kernel
theorem dL_hangs_105 : decode cL_hangs 105 = .ok (.aload_n 0, 1) := by decide +kernel
theorem dL_hangs_106 : decode cL_hangs 106 = .ok (.iload 4, 2) := by decide +kernel
theorem dL_hangs_108 : decode cL_hangs 108 = .ok (.invokestatic 116, 3) := by decide +kernel
theorem dL_hangs_111 : decode cL_hangs 111 = .ok (.bipush 21, 2) := by decide +kernel
theorem dL_hangs_113 : decode cL_hangs 113 = .ok (.if_icmp .ge 7, 3) := by decide +kernel
theorem dL_hangs_116 : decode cL_hangs 116 = .ok (.iconst 1, 1) := by decide +kernel
theorem dL_hangs_117 : decode cL_hangs 117 = .ok (.goto 4, 3) := by decide +kernel
theorem dL_hangs_120 : decode cL_hangs 120 = .ok (.iconst 0, 1) := by decide +kernel
theorem dL_hangs_121 : decode cL_hangs 121 = .ok (.istore_n 2, 1) := by decide +kernel
theorem dL_hangs_122 : decode cL_hangs 122 = .ok (.iinc 4 1, 3) := by decide +kernel
theorem dL_hangs_125 : decode cL_hangs 125 = .ok (.goto (-48), 3) := by decide +kernel
theorem dL_hangs_128 : decode cL_hangs 128 = .ok (.aload_n 0, 1) := by decide +kernel
theorem dL_hangs_129 : decode cL_hangs 129 = .ok (.invokevirtual 118, 3) := by decide +kernel
theorem dL_hangs_132 : decode cL_hangs 132 = .ok (.istore 4, 2) := by decide +kernel
theorem dL_hangs_134 : decode cL_hangs 134 = .ok (.aload_n 0, 1) := by decide +kernel
theorem dL_hangs_135 : decode cL_hangs 135 = .ok (.invokevirtual 121, 3) := by decide +kernel
theorem dL_hangs_138 : decode cL_hangs 138 = .ok (.istore 5, 2) := by decide +kernel
theorem dL_hangs_140 : decode cL_hangs 140 = .ok (.aload_n 0, 1) := by decide +kernel
theorem dL_hangs_141 : decode cL_hangs 141 = .ok (.invokevirtual 124, 3) := by decide +kernel
theorem dL_hangs_144 : decode cL_hangs 144 = .ok (.istore 6, 2) := by decide +kernel
theorem dL_hangs_146 : decode cL_hangs 146 = .ok (.sipush (-999), 3) := by decide +kernel
theorem dL_hangs_149 : decode cL_hangs 149 = .ok (.istore 7, 2) := by decide +kernel
theorem dL_hangs_151 : decode cL_hangs 151 = .ok (.iconst 0, 1) := by decide +kernel
theorem dL_hangs_152 : decode cL_hangs 152 = .ok (.istore 8, 2) := by decide +kernel
theorem dL_hangs_154 : decode cL_hangs 154 = .ok (.iload 8, 2) := by decide +kernel
theorem dL_hangs_156 : decode cL_hangs 156 = .ok (.iconst 4, 1) := by decide +kernel
theorem dL_hangs_157 : decode cL_hangs 157 = .ok (.if_icmp .ge 136, 3) := by decide +kernel
theorem dL_hangs_160 : decode cL_hangs 160 = .ok (.iload_n 2, 1) := by decide +kernel
theorem dL_hangs_161 : decode cL_hangs 161 = .ok (.ifCond .eq 132, 3) := by decide +kernel
theorem dL_hangs_164 : decode cL_hangs 164 = .ok (.aload_n 0, 1) := by decide +kernel
theorem dL_hangs_165 : decode cL_hangs 165 = .ok (.iload 8, 2) := by decide +kernel
theorem dL_hangs_167 : decode cL_hangs 167 = .ok (.invokestatic 127, 3) := by decide +kernel
theorem dL_hangs_170 : decode cL_hangs 170 = .ok (.istore 9, 2) := by decide +kernel
theorem dL_hangs_172 : decode cL_hangs 172 = .ok (.iload 9, 2) := by decide +kernel
theorem dL_hangs_174 : decode cL_hangs 174 = .ok (.sipush (-999), 3) := by decide +kernel
theorem dL_hangs_177 : decode cL_hangs 177 = .ok (.if_icmp .ne 7, 3) := by decide +kernel
theorem dL_hangs_180 : decode cL_hangs 180 = .ok (.iconst 1, 1) := by decide +kernel
theorem dL_hangs_181 : decode cL_hangs 181 = .ok (.goto 4, 3) := by decide +kernel
theorem dL_hangs_184 : decode cL_hangs 184 = .ok (.iconst 0, 1) := by decide +kernel
theorem dL_hangs_185 : decode cL_hangs 185 = .ok (.iload 8, 2) := by decide +kernel
theorem dL_hangs_187 : decode cL_hangs 187 = .ok (.iconst 2, 1) := by decide +kernel
theorem dL_hangs_188 : decode cL_hangs 188 = .ok (.irem, 1) := by decide +kernel
theorem dL_hangs_189 : decode cL_hangs 189 = .ok (.iconst 1, 1) := by decide +kernel
theorem dL_hangs_190 : decode cL_hangs 190 = .ok (.iadd, 1) := by decide +kernel
theorem dL_hangs_191 : decode cL_hangs 191 = .ok (.iload_n 1, 1) := by decide +kernel
theorem dL_hangs_192 : decode cL_hangs 192 = .ok (.if_icmp .le 7, 3) := by decide +kernel
theorem dL_hangs_195 : decode cL_hangs 195 = .ok (.iconst 1, 1) := by decide +kernel
theorem dL_hangs_196 : decode cL_hangs 196 = .ok (.goto 4, 3) := by decide +kernel
theorem dL_hangs_199 : decode cL_hangs 199 = .ok (.iconst 0, 1) := by decide +kernel
theorem dL_hangs_200 : decode cL_hangs 200 = .ok (.if_icmp .ne 69, 3) := by decide +kernel
theorem dL_hangs_203 : decode cL_hangs 203 = .ok (.iload 9, 2) := by decide +kernel
theorem dL_hangs_205 : decode cL_hangs 205 = .ok (.iload_n 3, 1) := by decide +kernel
theorem dL_hangs_206 : decode cL_hangs 206 = .ok (.if_icmp .gt 63, 3) := by decide +kernel
theorem dL_hangs_209 : decode cL_hangs 209 = .ok (.iload 9, 2) := by decide +kernel
theorem dL_hangs_211 : decode cL_hangs 211 = .ok (.sipush (-999), 3) := by decide +kernel
theorem dL_hangs_214 : decode cL_hangs 214 = .ok (.if_icmp .eq 19, 3) := by decide +kernel
theorem dL_hangs_217 : decode cL_hangs 217 = .ok (.iload 9, 2) := by decide +kernel
theorem dL_hangs_219 : decode cL_hangs 219 = .ok (.iload_n 3, 1) := by decide +kernel
theorem dL_hangs_220 : decode cL_hangs 220 = .ok (.ineg, 1) := by decide +kernel
theorem dL_hangs_221 : decode cL_hangs 221 = .ok (.if_icmp .lt 48, 3) := by decide +kernel
theorem dL_hangs_224 : decode cL_hangs 224 = .ok (.iload_n 3, 1) := by decide +kernel
theorem dL_hangs_225 : decode cL_hangs 225 = .ok (.iload 9, 2) := by decide +kernel
theorem dL_hangs_227 : decode cL_hangs 227 = .ok (.isub, 1) := by decide +kernel
theorem dL_hangs_228 : decode cL_hangs 228 = .ok (.iconst 2, 1) := by decide +kernel
theorem dL_hangs_229 : decode cL_hangs 229 = .ok (.irem, 1) := by decide +kernel
theorem dL_hangs_230 : decode cL_hangs 230 = .ok (.ifCond .ne 39, 3) := by decide +kernel
theorem dL_hangs_233 : decode cL_hangs 233 = .ok (.iload 8, 2) := by decide +kernel
theorem dL_hangs_235 : decode cL_hangs 235 = .ok (.iload 5, 2) := by decide +kernel
theorem dL_hangs_237 : decode cL_hangs 237 = .ok (.if_icmp .eq 28, 3) := by decide +kernel
theorem dL_hangs_240 : decode cL_hangs 240 = .ok (.iload 9, 2) := by decide +kernel
theorem dL_hangs_242 : decode cL_hangs 242 = .ok (.iload 4, 2) := by decide +kernel
theorem dL_hangs_244 : decode cL_hangs 244 = .ok (.if_icmp .gt 17, 3) := by decide +kernel
theorem dL_hangs_247 : decode cL_hangs 247 = .ok (.iload 8, 2) := by decide +kernel
theorem dL_hangs_249 : decode cL_hangs 249 = .ok (.iload 5, 2) := by decide +kernel
theorem dL_hangs_251 : decode cL_hangs 251 = .ok (.if_icmp .gt 14, 3) := by decide +kernel
theorem dL_hangs_254 : decode cL_hangs 254 = .ok (.iload 9, 2) := by decide +kernel
theorem dL_hangs_256 : decode cL_hangs 256 = .ok (.iload 4, 2) := by decide +kernel
theorem dL_hangs_258 : decode cL_hangs 258 = .ok (.if_icmp .lt 7, 3) := by decide +kernel
theorem dL_hangs_261 : decode cL_hangs 261 = .ok (.iload_n 1, 1) := by decide +kernel
theorem dL_hangs_262 : decode cL_hangs 262 = .ok (.ifCond .ne 7, 3) := by decide +kernel
theorem dL_hangs_265 : decode cL_hangs 265 = .ok (.iconst 1, 1) := by decide +kernel
theorem dL_hangs_266 : decode cL_hangs 266 = .ok (.goto 4, 3) := by decide +kernel
theorem dL_hangs_269 : decode cL_hangs 269 = .ok (.iconst 0, 1) := by decide +kernel
theorem dL_hangs_270 : decode cL_hangs 270 = .ok (.istore_n 2, 1) := by decide +kernel
theorem dL_hangs_271 : decode cL_hangs 271 = .ok (.iload 9, 2) := by decide +kernel
theorem dL_hangs_273 : decode cL_hangs 273 = .ok (.iload 7, 2) := by decide +kernel
theorem dL_hangs_275 : decode cL_hangs 275 = .ok (.if_icmp .le 8, 3) := by decide +kernel
theorem dL_hangs_278 : decode cL_hangs 278 = .ok (.iload 9, 2) := by decide +kernel
theorem dL_hangs_280 : decode cL_hangs 280 = .ok (.goto 5, 3) := by decide +kernel
theorem dL_hangs_283 : decode cL_hangs 283 = .ok (.iload 7, 2) := by decide +kernel
theorem dL_hangs_285 : decode cL_hangs 285 = .ok (.istore 7, 2) := by decide +kernel
theorem dL_hangs_287 : decode cL_hangs 287 = .ok (.iinc 8 1, 3) := by decide +kernel
theorem dL_hangs_290 : decode cL_hangs 290 = .ok (.goto (-136), 3) := by decide +kernel
theorem dL_hangs_293 : decode cL_hangs 293 = .ok (.iload_n 2, 1) := by decide +kernel
theorem dL_hangs_294 : decode cL_hangs 294 = .ok (.ifCond .eq 66, 3) := by decide +kernel
theorem dL_hangs_297 : decode cL_hangs 297 = .ok (.iload_n 1, 1) := by decide +kernel
theorem dL_hangs_298 : decode cL_hangs 298 = .ok (.ifCond .ne 35, 3) := by decide +kernel
theorem dL_hangs_301 : decode cL_hangs 301 = .ok (.iload 4, 2) := by decide +kernel
theorem dL_hangs_303 : decode cL_hangs 303 = .ok (.ifCond .ne 57, 3) := by decide +kernel
theorem dL_hangs_306 : decode cL_hangs 306 = .ok (.iload 5, 2) := by decide +kernel
theorem dL_hangs_308 : decode cL_hangs 308 = .ok (.sipush (-999), 3) := by decide +kernel
theorem dL_hangs_311 : decode cL_hangs 311 = .ok (.if_icmp .ne 49, 3) := by decide +kernel
theorem dL_hangs_314 : decode cL_hangs 314 = .ok (.iload 7, 2) := by decide +kernel
theorem dL_hangs_316 : decode cL_hangs 316 = .ok (.sipush (-999), 3) := by decide +kernel
theorem dL_hangs_319 : decode cL_hangs 319 = .ok (.if_icmp .ne 41, 3) := by decide +kernel
theorem dL_hangs_322 : decode cL_hangs 322 = .ok (.iload 6, 2) := by decide +kernel
theorem dL_hangs_324 : decode cL_hangs 324 = .ok (.sipush (-999), 3) := by decide +kernel
theorem dL_hangs_327 : decode cL_hangs 327 = .ok (.if_icmp .ne 33, 3) := by decide +kernel
theorem dL_hangs_330 : decode cL_hangs 330 = .ok (.goto 26, 3) := by decide +kernel
theorem dL_hangs_333 : decode cL_hangs 333 = .ok (.iload 4, 2) := by decide +kernel
theorem dL_hangs_335 : decode cL_hangs 335 = .ok (.iload 7, 2) := by decide +kernel
theorem dL_hangs_337 : decode cL_hangs 337 = .ok (.if_icmp .ne 23, 3) := by decide +kernel
theorem dL_hangs_340 : decode cL_hangs 340 = .ok (.aload_n 0, 1) := by decide +kernel
theorem dL_hangs_341 : decode cL_hangs 341 = .ok (.iload 5, 2) := by decide +kernel
theorem dL_hangs_343 : decode cL_hangs 343 = .ok (.invokestatic 127, 3) := by decide +kernel
theorem dL_hangs_346 : decode cL_hangs 346 = .ok (.iload 4, 2) := by decide +kernel
theorem dL_hangs_348 : decode cL_hangs 348 = .ok (.if_icmp .ne 12, 3) := by decide +kernel
theorem dL_hangs_351 : decode cL_hangs 351 = .ok (.iload 6, 2) := by decide +kernel
theorem dL_hangs_353 : decode cL_hangs 353 = .ok (.ifCond .lt 7, 3) := by decide +kernel
theorem dL_hangs_356 : decode cL_hangs 356 = .ok (.iconst 1, 1) := by decide +kernel
theorem dL_hangs_357 : decode cL_hangs 357 = .ok (.goto 4, 3) := by decide +kernel
theorem dL_hangs_360 : decode cL_hangs 360 = .ok (.iconst 0, 1) := by decide +kernel
theorem dL_hangs_361 : decode cL_hangs 361 = .ok (.istore_n 2, 1) := by decide +kernel
theorem dL_hangs_362 : decode cL_hangs 362 = .ok (.iconst 0, 1) := by decide +kernel
theorem dL_hangs_363 : decode cL_hangs 363 = .ok (.istore 8, 2) := by decide +kernel
theorem dL_hangs_365 : decode cL_hangs 365 = .ok (.iload_n 1, 1) := by decide +kernel
theorem dL_hangs_366 : decode cL_hangs 366 = .ok (.istore 9, 2) := by decide +kernel
theorem dL_hangs_368 : decode cL_hangs 368 = .ok (.iconst 0, 1) := by decide +kernel
theorem dL_hangs_369 : decode cL_hangs 369 = .ok (.istore 10, 2) := by decide +kernel
theorem dL_hangs_371 : decode cL_hangs 371 = .ok (.iconst 1, 1) := by decide +kernel
theorem dL_hangs_372 : decode cL_hangs 372 = .ok (.istore 11, 2) := by decide +kernel
theorem dL_hangs_374 : decode cL_hangs 374 = .ok (.iconst 0, 1) := by decide +kernel
theorem dL_hangs_375 : decode cL_hangs 375 = .ok (.istore 12, 2) := by decide +kernel
theorem dL_hangs_377 : decode cL_hangs 377 = .ok (.iload 12, 2) := by decide +kernel
theorem dL_hangs_379 : decode cL_hangs 379 = .ok (.bipush 13, 2) := by decide +kernel
theorem dL_hangs_381 : decode cL_hangs 381 = .ok (.if_icmp .ge 194, 3) := by decide +kernel
theorem dL_hangs_384 : decode cL_hangs 384 = .ok (.iload_n 2, 1) := by decide +kernel
theorem dL_hangs_385 : decode cL_hangs 385 = .ok (.ifCond .eq 190, 3) := by decide +kernel
theorem dL_hangs_388 : decode cL_hangs 388 = .ok (.aload_n 0, 1) := by decide +kernel
theorem dL_hangs_389 : decode cL_hangs 389 = .ok (.iload 12, 2) := by decide +kernel
theorem dL_hangs_391 : decode cL_hangs 391 = .ok (.invokestatic 129, 3) := by decide +kernel
theorem dL_hangs_394 : decode cL_hangs 394 = .ok (.istore 13, 2) := by decide +kernel
theorem dL_hangs_396 : decode cL_hangs 396 = .ok (.iload 13, 2) := by decide +kernel
theorem dL_hangs_398 : decode cL_hangs 398 = .ok (.sipush (-999), 3) := by decide +kernel
theorem dL_hangs_401 : decode cL_hangs 401 = .ok (.if_icmp .ne 7, 3) := by decide +kernel
theorem dL_hangs_404 : decode cL_hangs 404 = .ok (.iconst 1, 1) := by decide +kernel
theorem dL_hangs_405 : decode cL_hangs 405 = .ok (.goto 4, 3) := by decide +kernel
theorem dL_hangs_408 : decode cL_hangs 408 = .ok (.iconst 0, 1) := by decide +kernel
theorem dL_hangs_409 : decode cL_hangs 409 = .ok (.iload 8, 2) := by decide +kernel
theorem dL_hangs_411 : decode cL_hangs 411 = .ok (.iload 9, 2) := by decide +kernel
theorem dL_hangs_413 : decode cL_hangs 413 = .ok (.if_icmp .lt 7, 3) := by decide +kernel
theorem dL_hangs_416 : decode cL_hangs 416 = .ok (.iconst 1, 1) := by decide +kernel
theorem dL_hangs_417 : decode cL_hangs 417 = .ok (.goto 4, 3) := by decide +kernel
theorem dL_hangs_420 : decode cL_hangs 420 = .ok (.iconst 0, 1) := by decide +kernel
theorem dL_hangs_421 : decode cL_hangs 421 = .ok (.if_icmp .ne 38, 3) := by decide +kernel
theorem dL_hangs_424 : decode cL_hangs 424 = .ok (.iload 13, 2) := by decide +kernel
theorem dL_hangs_426 : decode cL_hangs 426 = .ok (.sipush (-999), 3) := by decide +kernel
theorem dL_hangs_429 : decode cL_hangs 429 = .ok (.if_icmp .eq 26, 3) := by decide +kernel
theorem dL_hangs_432 : decode cL_hangs 432 = .ok (.iload 13, 2) := by decide +kernel
theorem dL_hangs_434 : decode cL_hangs 434 = .ok (.ifCond .lt 25, 3) := by decide +kernel
theorem dL_hangs_437 : decode cL_hangs 437 = .ok (.iload 13, 2) := by decide +kernel
theorem dL_hangs_439 : decode cL_hangs 439 = .ok (.iconst 4, 1) := by decide +kernel
theorem dL_hangs_440 : decode cL_hangs 440 = .ok (.if_icmp .ge 19, 3) := by decide +kernel
theorem dL_hangs_443 : decode cL_hangs 443 = .ok (.iload 13, 2) := by decide +kernel
theorem dL_hangs_445 : decode cL_hangs 445 = .ok (.iconst 2, 1) := by decide +kernel
theorem dL_hangs_446 : decode cL_hangs 446 = .ok (.irem, 1) := by decide +kernel
theorem dL_hangs_447 : decode cL_hangs 447 = .ok (.iload 9, 2) := by decide +kernel
theorem dL_hangs_449 : decode cL_hangs 449 = .ok (.iload 8, 2) := by decide +kernel
theorem dL_hangs_451 : decode cL_hangs 451 = .ok (.isub, 1) := by decide +kernel
theorem dL_hangs_452 : decode cL_hangs 452 = .ok (.if_icmp .ge 7, 3) := by decide +kernel
theorem dL_hangs_455 : decode cL_hangs 455 = .ok (.iconst 1, 1) := by decide +kernel
theorem dL_hangs_456 : decode cL_hangs 456 = .ok (.goto 4, 3) := by decide +kernel
theorem dL_hangs_459 : decode cL_hangs 459 = .ok (.iconst 0, 1) := by decide +kernel
theorem dL_hangs_460 : decode cL_hangs 460 = .ok (.istore_n 2, 1) := by decide +kernel
theorem dL_hangs_461 : decode cL_hangs 461 = .ok (.iconst 0, 1) := by decide +kernel
theorem dL_hangs_462 : decode cL_hangs 462 = .ok (.istore 14, 2) := by decide +kernel
theorem dL_hangs_464 : decode cL_hangs 464 = .ok (.iload_n 2, 1) := by decide +kernel
theorem dL_hangs_465 : decode cL_hangs 465 = .ok (.ifCond .eq 56, 3) := by decide +kernel
theorem dL_hangs_468 : decode cL_hangs 468 = .ok (.iload 13, 2) := by decide +kernel
theorem dL_hangs_470 : decode cL_hangs 470 = .ok (.ifCond .lt 51, 3) := by decide +kernel
theorem dL_hangs_473 : decode cL_hangs 473 = .ok (.iload 14, 2) := by decide +kernel
theorem dL_hangs_475 : decode cL_hangs 475 = .ok (.iload 13, 2) := by decide +kernel
theorem dL_hangs_477 : decode cL_hangs 477 = .ok (.iconst 2, 1) := by decide +kernel
theorem dL_hangs_478 : decode cL_hangs 478 = .ok (.irem, 1) := by decide +kernel
theorem dL_hangs_479 : decode cL_hangs 479 = .ok (.if_icmp .gt 42, 3) := by decide +kernel
theorem dL_hangs_482 : decode cL_hangs 482 = .ok (.iload 10, 2) := by decide +kernel
theorem dL_hangs_484 : decode cL_hangs 484 = .ok (.iload 11, 2) := by decide +kernel
theorem dL_hangs_486 : decode cL_hangs 486 = .ok (.aload_n 0, 1) := by decide +kernel
theorem dL_hangs_487 : decode cL_hangs 487 = .ok (.iload 13, 2) := by decide +kernel
theorem dL_hangs_489 : decode cL_hangs 489 = .ok (.iconst 2, 1) := by decide +kernel
theorem dL_hangs_490 : decode cL_hangs 490 = .ok (.if_icmp .ge 11, 3) := by decide +kernel
theorem dL_hangs_493 : decode cL_hangs 493 = .ok (.iload 8, 2) := by decide +kernel
theorem dL_hangs_495 : decode cL_hangs 495 = .ok (.iload 14, 2) := by decide +kernel
theorem dL_hangs_497 : decode cL_hangs 497 = .ok (.iadd, 1) := by decide +kernel
theorem dL_hangs_498 : decode cL_hangs 498 = .ok (.goto 10, 3) := by decide +kernel
theorem dL_hangs_501 : decode cL_hangs 501 = .ok (.iload 9, 2) := by decide +kernel
theorem dL_hangs_503 : decode cL_hangs 503 = .ok (.iconst 1, 1) := by decide +kernel
theorem dL_hangs_504 : decode cL_hangs 504 = .ok (.isub, 1) := by decide +kernel
theorem dL_hangs_505 : decode cL_hangs 505 = .ok (.iload 14, 2) := by decide +kernel
theorem dL_hangs_507 : decode cL_hangs 507 = .ok (.isub, 1) := by decide +kernel
theorem dL_hangs_508 : decode cL_hangs 508 = .ok (.invokestatic 116, 3) := by decide +kernel
theorem dL_hangs_511 : decode cL_hangs 511 = .ok (.imul, 1) := by decide +kernel
theorem dL_hangs_512 : decode cL_hangs 512 = .ok (.iadd, 1) := by decide +kernel
theorem dL_hangs_513 : decode cL_hangs 513 = .ok (.istore 10, 2) := by decide +kernel
theorem dL_hangs_515 : decode cL_hangs 515 = .ok (.iinc 14 1, 3) := by decide +kernel
theorem dL_hangs_518 : decode cL_hangs 518 = .ok (.goto (-54), 3) := by decide +kernel
theorem dL_hangs_521 : decode cL_hangs 521 = .ok (.iload 8, 2) := by decide +kernel
theorem dL_hangs_523 : decode cL_hangs 523 = .ok (.iload 13, 2) := by decide +kernel
theorem dL_hangs_525 : decode cL_hangs 525 = .ok (.ifCond .lt 9, 3) := by decide +kernel
theorem dL_hangs_528 : decode cL_hangs 528 = .ok (.iload 13, 2) := by decide +kernel
theorem dL_hangs_530 : decode cL_hangs 530 = .ok (.iconst 1, 1) := by decide +kernel
theorem dL_hangs_531 : decode cL_hangs 531 = .ok (.if_icmp .le 7, 3) := by decide +kernel
theorem dL_hangs_534 : decode cL_hangs 534 = .ok (.iconst 0, 1) := by decide +kernel
theorem dL_hangs_535 : decode cL_hangs 535 = .ok (.goto 7, 3) := by decide +kernel
theorem dL_hangs_538 : decode cL_hangs 538 = .ok (.iload 13, 2) := by decide +kernel
theorem dL_hangs_540 : decode cL_hangs 540 = .ok (.iconst 1, 1) := by decide +kernel
theorem dL_hangs_541 : decode cL_hangs 541 = .ok (.iadd, 1) := by decide +kernel
theorem dL_hangs_542 : decode cL_hangs 542 = .ok (.iadd, 1) := by decide +kernel
theorem dL_hangs_543 : decode cL_hangs 543 = .ok (.istore 8, 2) := by decide +kernel
theorem dL_hangs_545 : decode cL_hangs 545 = .ok (.iload 9, 2) := by decide +kernel
theorem dL_hangs_547 : decode cL_hangs 547 = .ok (.iload 13, 2) := by decide +kernel
theorem dL_hangs_549 : decode cL_hangs 549 = .ok (.iconst 2, 1) := by decide +kernel
theorem dL_hangs_550 : decode cL_hangs 550 = .ok (.if_icmp .ge 7, 3) := by decide +kernel
theorem dL_hangs_553 : decode cL_hangs 553 = .ok (.iconst 0, 1) := by decide +kernel
theorem dL_hangs_554 : decode cL_hangs 554 = .ok (.goto 7, 3) := by decide +kernel
theorem dL_hangs_557 : decode cL_hangs 557 = .ok (.iload 13, 2) := by decide +kernel
theorem dL_hangs_559 : decode cL_hangs 559 = .ok (.iconst 1, 1) := by decide +kernel
theorem dL_hangs_560 : decode cL_hangs 560 = .ok (.isub, 1) := by decide +kernel
theorem dL_hangs_561 : decode cL_hangs 561 = .ok (.isub, 1) := by decide +kernel
theorem dL_hangs_562 : decode cL_hangs 562 = .ok (.istore 9, 2) := by decide +kernel
theorem dL_hangs_564 : decode cL_hangs 564 = .ok (.iload 11, 2) := by decide +kernel
theorem dL_hangs_566 : decode cL_hangs 566 = .ok (.ineg, 1) := by decide +kernel
theorem dL_hangs_567 : decode cL_hangs 567 = .ok (.istore 11, 2) := by decide +kernel
theorem dL_hangs_569 : decode cL_hangs 569 = .ok (.iinc 12 1, 3) := by decide +kernel
theorem dL_hangs_572 : decode cL_hangs 572 = .ok (.goto (-195), 3) := by decide +kernel
theorem dL_hangs_575 : decode cL_hangs 575 = .ok (.iconst 0, 1) := by decide +kernel
theorem dL_hangs_576 : decode cL_hangs 576 = .ok (.istore 12, 2) := by decide +kernel
theorem dL_hangs_578 : decode cL_hangs 578 = .ok (.iconst 0, 1) := by decide +kernel
theorem dL_hangs_579 : decode cL_hangs 579 = .ok (.istore 13, 2) := by decide +kernel
theorem dL_hangs_581 : decode cL_hangs 581 = .ok (.iload 13, 2) := by decide +kernel
theorem dL_hangs_583 : decode cL_hangs 583 = .ok (.sipush 144, 3) := by decide +kernel
theorem dL_hangs_586 : decode cL_hangs 586 = .ok (.if_icmp .ge 103, 3) := by decide +kernel
theorem dL_hangs_589 : decode cL_hangs 589 = .ok (.iload_n 2, 1) := by decide +kernel
theorem dL_hangs_590 : decode cL_hangs 590 = .ok (.ifCond .eq 99, 3) := by decide +kernel
theorem dL_hangs_593 : decode cL_hangs 593 = .ok (.aload_n 0, 1) := by decide +kernel
theorem dL_hangs_594 : decode cL_hangs 594 = .ok (.iload 13, 2) := by decide +kernel
theorem dL_hangs_596 : decode cL_hangs 596 = .ok (.bipush 12, 2) := by decide +kernel
theorem dL_hangs_598 : decode cL_hangs 598 = .ok (.idiv, 1) := by decide +kernel
theorem dL_hangs_599 : decode cL_hangs 599 = .ok (.iload 13, 2) := by decide +kernel
theorem dL_hangs_601 : decode cL_hangs 601 = .ok (.bipush 12, 2) := by decide +kernel
theorem dL_hangs_603 : decode cL_hangs 603 = .ok (.irem, 1) := by decide +kernel
theorem dL_hangs_604 : decode cL_hangs 604 = .ok (.iconst 1, 1) := by decide +kernel
theorem dL_hangs_605 : decode cL_hangs 605 = .ok (.iadd, 1) := by decide +kernel
theorem dL_hangs_606 : decode cL_hangs 606 = .ok (.invokestatic 131, 3) := by decide +kernel
theorem dL_hangs_609 : decode cL_hangs 609 = .ok (.istore 14, 2) := by decide +kernel
theorem dL_hangs_611 : decode cL_hangs 611 = .ok (.iload 12, 2) := by decide +kernel
theorem dL_hangs_613 : decode cL_hangs 613 = .ok (.iload 14, 2) := by decide +kernel
theorem dL_hangs_615 : decode cL_hangs 615 = .ok (.ifCond .le 7, 3) := by decide +kernel
theorem dL_hangs_618 : decode cL_hangs 618 = .ok (.iconst 1, 1) := by decide +kernel
theorem dL_hangs_619 : decode cL_hangs 619 = .ok (.goto 4, 3) := by decide +kernel
theorem dL_hangs_622 : decode cL_hangs 622 = .ok (.iconst 0, 1) := by decide +kernel
theorem dL_hangs_623 : decode cL_hangs 623 = .ok (.iadd, 1) := by decide +kernel
theorem dL_hangs_624 : decode cL_hangs 624 = .ok (.istore 12, 2) := by decide +kernel
theorem dL_hangs_626 : decode cL_hangs 626 = .ok (.iload 14, 2) := by decide +kernel
theorem dL_hangs_628 : decode cL_hangs 628 = .ok (.ifCond .lt 53, 3) := by decide +kernel
theorem dL_hangs_631 : decode cL_hangs 631 = .ok (.iload 14, 2) := by decide +kernel
theorem dL_hangs_633 : decode cL_hangs 633 = .ok (.iconst 4, 1) := by decide +kernel
theorem dL_hangs_634 : decode cL_hangs 634 = .ok (.if_icmp .ge 47, 3) := by decide +kernel
theorem dL_hangs_637 : decode cL_hangs 637 = .ok (.iload 14, 2) := by decide +kernel
theorem dL_hangs_639 : decode cL_hangs 639 = .ok (.ifCond .ne 7, 3) := by decide +kernel
theorem dL_hangs_642 : decode cL_hangs 642 = .ok (.iconst 1, 1) := by decide +kernel
theorem dL_hangs_643 : decode cL_hangs 643 = .ok (.goto 4, 3) := by decide +kernel
theorem dL_hangs_646 : decode cL_hangs 646 = .ok (.iconst 0, 1) := by decide +kernel
theorem dL_hangs_647 : decode cL_hangs 647 = .ok (.aload_n 0, 1) := by decide +kernel
theorem dL_hangs_648 : decode cL_hangs 648 = .ok (.iload 13, 2) := by decide +kernel
theorem dL_hangs_650 : decode cL_hangs 650 = .ok (.bipush 12, 2) := by decide +kernel
theorem dL_hangs_652 : decode cL_hangs 652 = .ok (.idiv, 1) := by decide +kernel
theorem dL_hangs_653 : decode cL_hangs 653 = .ok (.iload 13, 2) := by decide +kernel
theorem dL_hangs_655 : decode cL_hangs 655 = .ok (.bipush 12, 2) := by decide +kernel
theorem dL_hangs_657 : decode cL_hangs 657 = .ok (.irem, 1) := by decide +kernel
theorem dL_hangs_658 : decode cL_hangs 658 = .ok (.iconst 1, 1) := by decide +kernel
theorem dL_hangs_659 : decode cL_hangs 659 = .ok (.iadd, 1) := by decide +kernel
theorem dL_hangs_660 : decode cL_hangs 660 = .ok (.invokestatic 134, 3) := by decide +kernel
theorem dL_hangs_663 : decode cL_hangs 663 = .ok (.sipush (-999), 3) := by decide +kernel
theorem dL_hangs_666 : decode cL_hangs 666 = .ok (.if_icmp .ne 7, 3) := by decide +kernel
theorem dL_hangs_669 : decode cL_hangs 669 = .ok (.iconst 1, 1) := by decide +kernel
theorem dL_hangs_670 : decode cL_hangs 670 = .ok (.goto 4, 3) := by decide +kernel
theorem dL_hangs_673 : decode cL_hangs 673 = .ok (.iconst 0, 1) := by decide +kernel
theorem dL_hangs_674 : decode cL_hangs 674 = .ok (.if_icmp .ne 7, 3) := by decide +kernel
theorem dL_hangs_677 : decode cL_hangs 677 = .ok (.iconst 1, 1) := by decide +kernel
theorem dL_hangs_678 : decode cL_hangs 678 = .ok (.goto 4, 3) := by decide +kernel
theorem dL_hangs_681 : decode cL_hangs 681 = .ok (.iconst 0, 1) := by decide +kernel
theorem dL_hangs_682 : decode cL_hangs 682 = .ok (.istore_n 2, 1) := by decide +kernel
theorem dL_hangs_683 : decode cL_hangs 683 = .ok (.iinc 13 1, 3) := by decide +kernel
theorem dL_hangs_686 : decode cL_hangs 686 = .ok (.goto (-105), 3) := by decide +kernel
theorem dL_hangs_689 : decode cL_hangs 689 = .ok (.iconst 0, 1) := by decide +kernel
theorem dL_hangs_690 : decode cL_hangs 690 = .ok (.istore 13, 2) := by decide +kernel
theorem dL_hangs_692 : decode cL_hangs 692 = .ok (.iconst 0, 1) := by decide +kernel
theorem dL_hangs_693 : decode cL_hangs 693 = .ok (.istore 14, 2) := by decide +kernel
theorem dL_hangs_695 : decode cL_hangs 695 = .ok (.iload 14, 2) := by decide +kernel
theorem dL_hangs_697 : decode cL_hangs 697 = .ok (.iconst 4, 1) := by decide +kernel
theorem dL_hangs_698 : decode cL_hangs 698 = .ok (.if_icmp .ge 25, 3) := by decide +kernel
theorem dL_hangs_701 : decode cL_hangs 701 = .ok (.iload 13, 2) := by decide +kernel
theorem dL_hangs_703 : decode cL_hangs 703 = .ok (.iconst 1, 1) := by decide +kernel
theorem dL_hangs_704 : decode cL_hangs 704 = .ok (.aload_n 0, 1) := by decide +kernel
theorem dL_hangs_705 : decode cL_hangs 705 = .ok (.iload 14, 2) := by decide +kernel
theorem dL_hangs_707 : decode cL_hangs 707 = .ok (.invokestatic 136, 3) := by decide +kernel
theorem dL_hangs_710 : decode cL_hangs 710 = .ok (.bipush 31, 2) := by decide +kernel
theorem dL_hangs_712 : decode cL_hangs 712 = .ok (.iand, 1) := by decide +kernel
theorem dL_hangs_713 : decode cL_hangs 713 = .ok (.ishl, 1) := by decide +kernel
theorem dL_hangs_714 : decode cL_hangs 714 = .ok (.ior, 1) := by decide +kernel
theorem dL_hangs_715 : decode cL_hangs 715 = .ok (.istore 13, 2) := by decide +kernel
theorem dL_hangs_717 : decode cL_hangs 717 = .ok (.iinc 14 1, 3) := by decide +kernel
theorem dL_hangs_720 : decode cL_hangs 720 = .ok (.goto (-25), 3) := by decide +kernel
theorem dL_hangs_723 : decode cL_hangs 723 = .ok (.iload_n 2, 1) := by decide +kernel
theorem dL_hangs_724 : decode cL_hangs 724 = .ok (.ifCond .eq 130, 3) := by decide +kernel
theorem dL_hangs_727 : decode cL_hangs 727 = .ok (.iload 10, 2) := by decide +kernel
theorem dL_hangs_729 : decode cL_hangs 729 = .ok (.iload 4, 2) := by decide +kernel
theorem dL_hangs_731 : decode cL_hangs 731 = .ok (.if_icmp .ne 123, 3) := by decide +kernel
theorem dL_hangs_734 : decode cL_hangs 734 = .ok (.iload 12, 2) := by decide +kernel
theorem dL_hangs_736 : decode cL_hangs 736 = .ok (.aload_n 0, 1) := by decide +kernel
theorem dL_hangs_737 : decode cL_hangs 737 = .ok (.invokevirtual 138, 3) := by decide +kernel
theorem dL_hangs_740 : decode cL_hangs 740 = .ok (.if_icmp .ne 114, 3) := by decide +kernel
theorem dL_hangs_743 : decode cL_hangs 743 = .ok (.iload 13, 2) := by decide +kernel
theorem dL_hangs_745 : decode cL_hangs 745 = .ok (.bipush 15, 2) := by decide +kernel
theorem dL_hangs_747 : decode cL_hangs 747 = .ok (.if_icmp .ne 107, 3) := by decide +kernel
theorem dL_hangs_750 : decode cL_hangs 750 = .ok (.aload_n 0, 1) := by decide +kernel
theorem dL_hangs_751 : decode cL_hangs 751 = .ok (.invokevirtual 141, 3) := by decide +kernel
theorem dL_hangs_754 : decode cL_hangs 754 = .ok (.ifCond .lt 100, 3) := by decide +kernel
theorem dL_hangs_757 : decode cL_hangs 757 = .ok (.aload_n 0, 1) := by decide +kernel
theorem dL_hangs_758 : decode cL_hangs 758 = .ok (.invokevirtual 141, 3) := by decide +kernel
theorem dL_hangs_761 : decode cL_hangs 761 = .ok (.sipush 5001, 3) := by decide +kernel
theorem dL_hangs_764 : decode cL_hangs 764 = .ok (.if_icmp .gt 90, 3) := by decide +kernel
theorem dL_hangs_767 : decode cL_hangs 767 = .ok (.aload_n 0, 1) := by decide +kernel
theorem dL_hangs_768 : decode cL_hangs 768 = .ok (.invokevirtual 144, 3) := by decide +kernel
theorem dL_hangs_771 : decode cL_hangs 771 = .ok (.ifCond .lt 83, 3) := by decide +kernel
theorem dL_hangs_774 : decode cL_hangs 774 = .ok (.aload_n 0, 1) := by decide +kernel
theorem dL_hangs_775 : decode cL_hangs 775 = .ok (.invokevirtual 144, 3) := by decide +kernel
theorem dL_hangs_778 : decode cL_hangs 778 = .ok (.aload_n 0, 1) := by decide +kernel
theorem dL_hangs_779 : decode cL_hangs 779 = .ok (.invokevirtual 141, 3) := by decide +kernel
theorem dL_hangs_782 : decode cL_hangs 782 = .ok (.if_icmp .gt 72, 3) := by decide +kernel
theorem dL_hangs_785 : decode cL_hangs 785 = .ok (.aload_n 0, 1) := by decide +kernel
theorem dL_hangs_786 : decode cL_hangs 786 = .ok (.invokevirtual 147, 3) := by decide +kernel
theorem dL_hangs_789 : decode cL_hangs 789 = .ok (.ifCond .lt 65, 3) := by decide +kernel
theorem dL_hangs_792 : decode cL_hangs 792 = .ok (.aload_n 0, 1) := by decide +kernel
theorem dL_hangs_793 : decode cL_hangs 793 = .ok (.invokevirtual 147, 3) := by decide +kernel
theorem dL_hangs_796 : decode cL_hangs 796 = .ok (.aload_n 0, 1) := by decide +kernel
theorem dL_hangs_797 : decode cL_hangs 797 = .ok (.invokevirtual 141, 3) := by decide +kernel
theorem dL_hangs_800 : decode cL_hangs 800 = .ok (.if_icmp .gt 54, 3) := by decide +kernel
theorem dL_hangs_803 : decode cL_hangs 803 = .ok (.aload_n 0, 1) := by decide +kernel
theorem dL_hangs_804 : decode cL_hangs 804 = .ok (.invokevirtual 150, 3) := by decide +kernel
theorem dL_hangs_807 : decode cL_hangs 807 = .ok (.aload_n 0, 1) := by decide +kernel
theorem dL_hangs_808 : decode cL_hangs 808 = .ok (.invokevirtual 141, 3) := by decide +kernel
theorem dL_hangs_811 : decode cL_hangs 811 = .ok (.ifCond .ne 7, 3) := by decide +kernel
theorem dL_hangs_814 : decode cL_hangs 814 = .ok (.dconst 0, 1) := by decide +kernel
theorem dL_hangs_815 : decode cL_hangs 815 = .ok (.goto 14, 3) := by decide +kernel
theorem dL_hangs_818 : decode cL_hangs 818 = .ok (.aload_n 0, 1) := by decide +kernel
theorem dL_hangs_819 : decode cL_hangs 819 = .ok (.invokevirtual 147, 3) := by decide +kernel
theorem dL_hangs_822 : decode cL_hangs 822 = .ok (.i2d, 1) := by decide +kernel
theorem dL_hangs_823 : decode cL_hangs 823 = .ok (.aload_n 0, 1) := by decide +kernel
theorem dL_hangs_824 : decode cL_hangs 824 = .ok (.invokevirtual 141, 3) := by decide +kernel
theorem dL_hangs_827 : decode cL_hangs 827 = .ok (.i2d, 1) := by decide +kernel
theorem dL_hangs_828 : decode cL_hangs 828 = .ok (.ddiv, 1) := by decide +kernel
theorem dL_hangs_829 : decode cL_hangs 829 = .ok (.dcmp .l, 1) := by decide +kernel
theorem dL_hangs_830 : decode cL_hangs 830 = .ok (.ifCond .ne 24, 3) := by decide +kernel
theorem dL_hangs_833 : decode cL_hangs 833 = .ok (.aload_n 0, 1) := by decide +kernel
theorem dL_hangs_834 : decode cL_hangs 834 = .ok (.invokevirtual 141, 3) := by decide +kernel
theorem dL_hangs_837 : decode cL_hangs 837 = .ok (.ifCond .gt 13, 3) := by decide +kernel
theorem dL_hangs_840 : decode cL_hangs 840 = .ok (.aload_n 0, 1) := by decide +kernel
theorem dL_hangs_841 : decode cL_hangs 841 = .ok (.invokevirtual 154, 3) := by decide +kernel
theorem dL_hangs_844 : decode cL_hangs 844 = .ok (.sipush (-999), 3) := by decide +kernel
theorem dL_hangs_847 : decode cL_hangs 847 = .ok (.if_icmp .ne 7, 3) := by decide +kernel
theorem dL_hangs_850 : decode cL_hangs 850 = .ok (.iconst 1, 1) := by decide +kernel
theorem dL_hangs_851 : decode cL_hangs 851 = .ok (.goto 4, 3) := by decide +kernel
theorem dL_hangs_854 : decode cL_hangs 854 = .ok (.iconst 0, 1) := by decide +kernel
theorem dL_hangs_855 : decode cL_hangs 855 = .ok (.ireturn, 1) := by decide +kernel
theorem dL_refuses_0 : decode cL_refuses 0 = .ok (.iload_n 1, 1) := by decide +kernel
theorem dL_refuses_1 : decode cL_refuses 1 = .ok (.iconst 2, 1) := by decide +kernel
theorem dL_refuses_2 : decode cL_refuses 2 = .ok (.irem, 1) := by decide +kernel
theorem dL_refuses_3 : decode cL_refuses 3 = .ok (.ifCond .ne 9, 3) := by decide +kernel
theorem dL_refuses_6 : decode cL_refuses 6 = .ok (.iconst 4, 1) := by decide +kernel
theorem dL_refuses_7 : decode cL_refuses 7 = .ok (.iload_n 1, 1) := by decide +kernel
theorem dL_refuses_8 : decode cL_refuses 8 = .ok (.iadd, 1) := by decide +kernel
theorem dL_refuses_9 : decode cL_refuses 9 = .ok (.goto 6, 3) := by decide +kernel
theorem dL_refuses_12 : decode cL_refuses 12 = .ok (.iconst (-1), 1) := by decide +kernel
theorem dL_refuses_13 : decode cL_refuses 13 = .ok (.iload_n 1, 1) := by decide +kernel
theorem dL_refuses_14 : decode cL_refuses 14 = .ok (.isub, 1) := by decide +kernel
theorem dL_refuses_15 : decode cL_refuses 15 = .ok (.istore_n 2, 1) := by decide +kernel
theorem dL_refuses_16 : decode cL_refuses 16 = .ok (.aload_n 0, 1) := by decide +kernel
theorem dL_refuses_17 : decode cL_refuses 17 = .ok (.invokevirtual 46, 3) := by decide +kernel
theorem dL_refuses_20 : decode cL_refuses 20 = .ok (.istore_n 3, 1) := by decide +kernel
theorem dL_refuses_21 : decode cL_refuses 21 = .ok (.iload_n 3, 1) := by decide +kernel
theorem dL_refuses_22 : decode cL_refuses 22 = .ok (.ifCond .lt 347, 3) := by decide +kernel
theorem dL_refuses_25 : decode cL_refuses 25 = .ok (.aload_n 0, 1) := by decide +kernel
theorem dL_refuses_26 : decode cL_refuses 26 = .ok (.invokestatic 91, 3) := by decide +kernel
theorem dL_refuses_29 : decode cL_refuses 29 = .ok (.bipush (-2), 2) := by decide +kernel
theorem dL_refuses_31 : decode cL_refuses 31 = .ok (.if_icmp .ne 338, 3) := by decide +kernel
theorem dL_refuses_34 : decode cL_refuses 34 = .ok (.aload_n 0, 1) := by decide +kernel
theorem dL_refuses_35 : decode cL_refuses 35 = .ok (.iload_n 2, 1) := by decide +kernel
theorem dL_refuses_36 : decode cL_refuses 36 = .ok (.invokestatic 94, 3) := by decide +kernel
theorem dL_refuses_39 : decode cL_refuses 39 = .ok (.bipush (-3), 2) := by decide +kernel
theorem dL_refuses_41 : decode cL_refuses 41 = .ok (.if_icmp .ne 328, 3) := by decide +kernel
theorem dL_refuses_44 : decode cL_refuses 44 = .ok (.aload_n 0, 1) := by decide +kernel
theorem dL_refuses_45 : decode cL_refuses 45 = .ok (.iconst 0, 1) := by decide +kernel
theorem dL_refuses_46 : decode cL_refuses 46 = .ok (.invokestatic 96, 3) := by decide +kernel
theorem dL_refuses_49 : decode cL_refuses 49 = .ok (.bipush (-2), 2) := by decide +kernel
theorem dL_refuses_51 : decode cL_refuses 51 = .ok (.if_icmp .ne 318, 3) := by decide +kernel
theorem dL_refuses_54 : decode cL_refuses 54 = .ok (.aload_n 0, 1) := by decide +kernel
theorem dL_refuses_55 : decode cL_refuses 55 = .ok (.bipush 13, 2) := by decide +kernel
theorem dL_refuses_57 : decode cL_refuses 57 = .ok (.iload_n 1, 1) := by decide +kernel
theorem dL_refuses_58 : decode cL_refuses 58 = .ok (.iadd, 1) := by decide +kernel
theorem dL_refuses_59 : decode cL_refuses 59 = .ok (.invokestatic 96, 3) := by decide +kernel
theorem dL_refuses_62 : decode cL_refuses 62 = .ok (.bipush (-2), 2) := by decide +kernel
theorem dL_refuses_64 : decode cL_refuses 64 = .ok (.if_icmp .ne 305, 3) := by decide +kernel
theorem dL_refuses_67 : decode cL_refuses 67 = .ok (.aload_n 0, 1) := by decide +kernel
theorem dL_refuses_68 : decode cL_refuses 68 = .ok (.aload_n 0, 1) := by decide +kernel
theorem dL_refuses_69 : decode cL_refuses 69 = .ok (.invokevirtual 81, 3) := by decide +kernel
theorem dL_refuses_72 : decode cL_refuses 72 = .ok (.iload_n 1, 1) := by decide +kernel
theorem dL_refuses_73 : decode cL_refuses 73 = .ok (.iadd, 1) := by decide +kernel
theorem dL_refuses_74 : decode cL_refuses 74 = .ok (.invokestatic 116, 3) := by decide +kernel
theorem dL_refuses_77 : decode cL_refuses 77 = .ok (.bipush (-2), 2) := by decide +kernel
theorem dL_refuses_79 : decode cL_refuses 79 = .ok (.if_icmp .ne 290, 3) := by decide +kernel
theorem dL_refuses_82 : decode cL_refuses 82 = .ok (.aload_n 0, 1) := by decide +kernel
theorem dL_refuses_83 : decode cL_refuses 83 = .ok (.iload_n 2, 1) := by decide +kernel
theorem dL_refuses_84 : decode cL_refuses 84 = .ok (.invokestatic 114, 3) := by decide +kernel
theorem dL_refuses_87 : decode cL_refuses 87 = .ok (.bipush (-2), 2) := by decide +kernel
theorem dL_refuses_89 : decode cL_refuses 89 = .ok (.if_icmp .ne 280, 3) := by decide +kernel
theorem dL_refuses_92 : decode cL_refuses 92 = .ok (.aload_n 0, 1) := by decide +kernel
theorem dL_refuses_93 : decode cL_refuses 93 = .ok (.iload_n 2, 1) := by decide +kernel
theorem dL_refuses_94 : decode cL_refuses 94 = .ok (.invokestatic 127, 3) := by decide +kernel
theorem dL_refuses_97 : decode cL_refuses 97 = .ok (.sipush (-1000), 3) := by decide +kernel
theorem dL_refuses_100 : decode cL_refuses 100 = .ok (.if_icmp .ne 269, 3) := by decide +kernel
theorem dL_refuses_103 : decode cL_refuses 103 = .ok (.aload_n 0, 1) := by decide +kernel
theorem dL_refuses_104 : decode cL_refuses 104 = .ok (.iconst (-1), 1) := by decide +kernel
theorem dL_refuses_105 : decode cL_refuses 105 = .ok (.iload_n 1, 1) := by decide +kernel
theorem dL_refuses_106 : decode cL_refuses 106 = .ok (.isub, 1) := by decide +kernel
theorem dL_refuses_107 : decode cL_refuses 107 = .ok (.invokestatic 129, 3) := by decide +kernel
theorem dL_refuses_110 : decode cL_refuses 110 = .ok (.sipush (-1000), 3) := by decide +kernel
theorem dL_refuses_113 : decode cL_refuses 113 = .ok (.if_icmp .ne 256, 3) := by decide +kernel
theorem dL_refuses_116 : decode cL_refuses 116 = .ok (.aload_n 0, 1) := by decide +kernel
theorem dL_refuses_117 : decode cL_refuses 117 = .ok (.bipush 13, 2) := by decide +kernel
theorem dL_refuses_119 : decode cL_refuses 119 = .ok (.iload_n 1, 1) := by decide +kernel
theorem dL_refuses_120 : decode cL_refuses 120 = .ok (.iadd, 1) := by decide +kernel
theorem dL_refuses_121 : decode cL_refuses 121 = .ok (.iconst 0, 1) := by decide +kernel
theorem dL_refuses_122 : decode cL_refuses 122 = .ok (.iconst 1, 1) := by decide +kernel
theorem dL_refuses_123 : decode cL_refuses 123 = .ok (.invokestatic 108, 3) := by decide +kernel
theorem dL_refuses_126 : decode cL_refuses 126 = .ok (.sipush (-1000), 3) := by decide +kernel
theorem dL_refuses_129 : decode cL_refuses 129 = .ok (.if_icmp .ne 240, 3) := by decide +kernel
theorem dL_refuses_132 : decode cL_refuses 132 = .ok (.aload_n 0, 1) := by decide +kernel
theorem dL_refuses_133 : decode cL_refuses 133 = .ok (.iconst (-1), 1) := by decide +kernel
theorem dL_refuses_134 : decode cL_refuses 134 = .ok (.iload_n 1, 1) := by decide +kernel
theorem dL_refuses_135 : decode cL_refuses 135 = .ok (.isub, 1) := by decide +kernel
theorem dL_refuses_136 : decode cL_refuses 136 = .ok (.iconst 0, 1) := by decide +kernel
theorem dL_refuses_137 : decode cL_refuses 137 = .ok (.iconst 1, 1) := by decide +kernel
theorem dL_refuses_138 : decode cL_refuses 138 = .ok (.invokestatic 108, 3) := by decide +kernel
theorem dL_refuses_141 : decode cL_refuses 141 = .ok (.sipush (-1000), 3) := by decide +kernel
theorem dL_refuses_144 : decode cL_refuses 144 = .ok (.if_icmp .ne 225, 3) := by decide +kernel
theorem dL_refuses_147 : decode cL_refuses 147 = .ok (.aload_n 0, 1) := by decide +kernel
theorem dL_refuses_148 : decode cL_refuses 148 = .ok (.iconst 1, 1) := by decide +kernel
theorem dL_refuses_149 : decode cL_refuses 149 = .ok (.sipush (-241), 3) := by decide +kernel
theorem dL_refuses_152 : decode cL_refuses 152 = .ok (.iload_n 1, 1) := by decide +kernel
theorem dL_refuses_153 : decode cL_refuses 153 = .ok (.isub, 1) := by decide +kernel
theorem dL_refuses_154 : decode cL_refuses 154 = .ok (.iconst 0, 1) := by decide +kernel
theorem dL_refuses_155 : decode cL_refuses 155 = .ok (.invokestatic 108, 3) := by decide +kernel
theorem dL_refuses_158 : decode cL_refuses 158 = .ok (.sipush (-1000), 3) := by decide +kernel
theorem dL_refuses_161 : decode cL_refuses 161 = .ok (.if_icmp .ne 208, 3) := by decide +kernel
theorem dL_refuses_164 : decode cL_refuses 164 = .ok (.aload_n 0, 1) := by decide +kernel
theorem dL_refuses_165 : decode cL_refuses 165 = .ok (.iconst 1, 1) := by decide +kernel
theorem dL_refuses_166 : decode cL_refuses 166 = .ok (.sipush 241, 3) := by decide +kernel
theorem dL_refuses_169 : decode cL_refuses 169 = .ok (.iload_n 1, 1) := by decide +kernel
theorem dL_refuses_170 : decode cL_refuses 170 = .ok (.iadd, 1) := by decide +kernel
theorem dL_refuses_171 : decode cL_refuses 171 = .ok (.sipush 242, 3) := by decide +kernel
theorem dL_refuses_174 : decode cL_refuses 174 = .ok (.invokestatic 108, 3) := by decide +kernel
theorem dL_refuses_177 : decode cL_refuses 177 = .ok (.sipush (-1000), 3) := by decide +kernel
theorem dL_refuses_180 : decode cL_refuses 180 = .ok (.if_icmp .ne 189, 3) := by decide +kernel
theorem dL_refuses_183 : decode cL_refuses 183 = .ok (.aload_n 0, 1) := by decide +kernel
theorem dL_refuses_184 : decode cL_refuses 184 = .ok (.iconst 1, 1) := by decide +kernel
theorem dL_refuses_185 : decode cL_refuses 185 = .ok (.iconst 5, 1) := by decide +kernel
theorem dL_refuses_186 : decode cL_refuses 186 = .ok (.iconst 5, 1) := by decide +kernel
theorem dL_refuses_187 : decode cL_refuses 187 = .ok (.invokestatic 108, 3) := by decide +kernel
theorem dL_refuses_190 : decode cL_refuses 190 = .ok (.sipush (-1000), 3) := by decide +kernel
theorem dL_refuses_193 : decode cL_refuses 193 = .ok (.if_icmp .ne 176, 3) := by decide +kernel
theorem dL_refuses_196 : decode cL_refuses 196 = .ok (.aload_n 0, 1) := by decide +kernel
theorem dL_refuses_197 : decode cL_refuses 197 = .ok (.iconst 1, 1) := by decide +kernel
theorem dL_refuses_198 : decode cL_refuses 198 = .ok (.iconst 0, 1) := by decide +kernel
theorem dL_refuses_199 : decode cL_refuses 199 = .ok (.sipush 242, 3) := by decide +kernel
theorem dL_refuses_202 : decode cL_refuses 202 = .ok (.iload_n 1, 1) := by decide +kernel
theorem dL_refuses_203 : decode cL_refuses 203 = .ok (.iadd, 1) := by decide +kernel
theorem dL_refuses_204 : decode cL_refuses 204 = .ok (.invokestatic 108, 3) := by decide +kernel
theorem dL_refuses_207 : decode cL_refuses 207 = .ok (.sipush (-1000), 3) := by decide +kernel
theorem dL_refuses_210 : decode cL_refuses 210 = .ok (.if_icmp .ne 159, 3) := by decide +kernel
theorem dL_refuses_213 : decode cL_refuses 213 = .ok (.aload_n 0, 1) := by decide +kernel
theorem dL_refuses_214 : decode cL_refuses 214 = .ok (.bipush 12, 2) := by decide +kernel
theorem dL_refuses_216 : decode cL_refuses 216 = .ok (.iload_n 1, 1) := by decide +kernel
theorem dL_refuses_217 : decode cL_refuses 217 = .ok (.iadd, 1) := by decide +kernel
theorem dL_refuses_218 : decode cL_refuses 218 = .ok (.iconst 1, 1) := by decide +kernel
theorem dL_refuses_219 : decode cL_refuses 219 = .ok (.invokestatic 131, 3) := by decide +kernel
theorem dL_refuses_222 : decode cL_refuses 222 = .ok (.bipush (-2), 2) := by decide +kernel
theorem dL_refuses_224 : decode cL_refuses 224 = .ok (.if_icmp .ne 145, 3) := by decide +kernel
theorem dL_refuses_227 : decode cL_refuses 227 = .ok (.aload_n 0, 1) := by decide +kernel
theorem dL_refuses_228 : decode cL_refuses 228 = .ok (.iconst 0, 1) := by decide +kernel
theorem dL_refuses_229 : decode cL_refuses 229 = .ok (.bipush 13, 2) := by decide +kernel
theorem dL_refuses_231 : decode cL_refuses 231 = .ok (.iload_n 1, 1) := by decide +kernel
theorem dL_refuses_232 : decode cL_refuses 232 = .ok (.iadd, 1) := by decide +kernel
theorem dL_refuses_233 : decode cL_refuses 233 = .ok (.invokestatic 131, 3) := by decide +kernel
theorem dL_refuses_236 : decode cL_refuses 236 = .ok (.bipush (-2), 2) := by decide +kernel
theorem dL_refuses_238 : decode cL_refuses 238 = .ok (.if_icmp .ne 131, 3) := by decide +kernel
theorem dL_refuses_241 : decode cL_refuses 241 = .ok (.aload_n 0, 1) := by decide +kernel
theorem dL_refuses_242 : decode cL_refuses 242 = .ok (.iconst (-1), 1) := by decide +kernel
theorem dL_refuses_243 : decode cL_refuses 243 = .ok (.iload_n 1, 1) := by decide +kernel
theorem dL_refuses_244 : decode cL_refuses 244 = .ok (.isub, 1) := by decide +kernel
theorem dL_refuses_245 : decode cL_refuses 245 = .ok (.iconst 1, 1) := by decide +kernel
theorem dL_refuses_246 : decode cL_refuses 246 = .ok (.invokestatic 134, 3) := by decide +kernel
theorem dL_refuses_249 : decode cL_refuses 249 = .ok (.sipush (-1000), 3) := by decide +kernel
theorem dL_refuses_252 : decode cL_refuses 252 = .ok (.if_icmp .ne 117, 3) := by decide +kernel
theorem dL_refuses_255 : decode cL_refuses 255 = .ok (.aload_n 0, 1) := by decide +kernel
theorem dL_refuses_256 : decode cL_refuses 256 = .ok (.iconst 0, 1) := by decide +kernel
theorem dL_refuses_257 : decode cL_refuses 257 = .ok (.iconst 0, 1) := by decide +kernel
theorem dL_refuses_258 : decode cL_refuses 258 = .ok (.invokestatic 134, 3) := by decide +kernel
theorem dL_refuses_261 : decode cL_refuses 261 = .ok (.sipush (-1000), 3) := by decide +kernel
theorem dL_refuses_264 : decode cL_refuses 264 = .ok (.if_icmp .ne 105, 3) := by decide +kernel
theorem dL_refuses_267 : decode cL_refuses 267 = .ok (.aload_n 0, 1) := by decide +kernel
theorem dL_refuses_268 : decode cL_refuses 268 = .ok (.bipush 24, 2) := by decide +kernel
theorem dL_refuses_270 : decode cL_refuses 270 = .ok (.iload_n 1, 1) := by decide +kernel
theorem dL_refuses_271 : decode cL_refuses 271 = .ok (.iadd, 1) := by decide +kernel
theorem dL_refuses_272 : decode cL_refuses 272 = .ok (.invokestatic 98, 3) := by decide +kernel
theorem dL_refuses_275 : decode cL_refuses 275 = .ok (.bipush (-2), 2) := by decide +kernel
theorem dL_refuses_277 : decode cL_refuses 277 = .ok (.if_icmp .ne 92, 3) := by decide +kernel
theorem dL_refuses_280 : decode cL_refuses 280 = .ok (.aload_n 0, 1) := by decide +kernel
theorem dL_refuses_281 : decode cL_refuses 281 = .ok (.iconst (-1), 1) := by decide +kernel
theorem dL_refuses_282 : decode cL_refuses 282 = .ok (.iload_n 1, 1) := by decide +kernel
theorem dL_refuses_283 : decode cL_refuses 283 = .ok (.isub, 1) := by decide +kernel
theorem dL_refuses_284 : decode cL_refuses 284 = .ok (.invokestatic 98, 3) := by decide +kernel
theorem dL_refuses_287 : decode cL_refuses 287 = .ok (.bipush (-2), 2) := by decide +kernel
theorem dL_refuses_289 : decode cL_refuses 289 = .ok (.if_icmp .ne 80, 3) := by decide +kernel
theorem dL_refuses_292 : decode cL_refuses 292 = .ok (.aload_n 0, 1) := by decide +kernel
theorem dL_refuses_293 : decode cL_refuses 293 = .ok (.iload_n 2, 1) := by decide +kernel
theorem dL_refuses_294 : decode cL_refuses 294 = .ok (.invokestatic 136, 3) := by decide +kernel
theorem dL_refuses_297 : decode cL_refuses 297 = .ok (.bipush (-2), 2) := by decide +kernel
theorem dL_refuses_299 : decode cL_refuses 299 = .ok (.if_icmp .ne 70, 3) := by decide +kernel
theorem dL_refuses_302 : decode cL_refuses 302 = .ok (.aload_n 0, 1) := by decide +kernel
theorem dL_refuses_303 : decode cL_refuses 303 = .ok (.iconst 0, 1) := by decide +kernel
theorem dL_refuses_304 : decode cL_refuses 304 = .ok (.invokestatic 100, 3) := by decide +kernel
theorem dL_refuses_307 : decode cL_refuses 307 = .ok (.bipush (-2), 2) := by decide +kernel
theorem dL_refuses_309 : decode cL_refuses 309 = .ok (.if_icmp .ne 60, 3) := by decide +kernel
theorem dL_refuses_312 : decode cL_refuses 312 = .ok (.aload_n 0, 1) := by decide +kernel
theorem dL_refuses_313 : decode cL_refuses 313 = .ok (.sipush 5001, 3) := by decide +kernel
theorem dL_refuses_316 : decode cL_refuses 316 = .ok (.iload_n 1, 1) := by decide +kernel
theorem dL_refuses_317 : decode cL_refuses 317 = .ok (.iadd, 1) := by decide +kernel
theorem dL_refuses_318 : decode cL_refuses 318 = .ok (.invokestatic 100, 3) := by decide +kernel
theorem dL_refuses_321 : decode cL_refuses 321 = .ok (.bipush (-2), 2) := by decide +kernel
theorem dL_refuses_323 : decode cL_refuses 323 = .ok (.if_icmp .ne 46, 3) := by decide +kernel
theorem dL_refuses_326 : decode cL_refuses 326 = .ok (.aload_n 0, 1) := by decide +kernel
theorem dL_refuses_327 : decode cL_refuses 327 = .ok (.bipush 24, 2) := by decide +kernel
theorem dL_refuses_329 : decode cL_refuses 329 = .ok (.iload_n 1, 1) := by decide +kernel
theorem dL_refuses_330 : decode cL_refuses 330 = .ok (.iadd, 1) := by decide +kernel
theorem dL_refuses_331 : decode cL_refuses 331 = .ok (.invokestatic 157, 3) := by decide +kernel
theorem dL_refuses_334 : decode cL_refuses 334 = .ok (.bipush (-2), 2) := by decide +kernel
theorem dL_refuses_336 : decode cL_refuses 336 = .ok (.if_icmp .ne 33, 3) := by decide +kernel
theorem dL_refuses_339 : decode cL_refuses 339 = .ok (.aload_n 0, 1) := by decide +kernel
theorem dL_refuses_340 : decode cL_refuses 340 = .ok (.bipush 32, 2) := by decide +kernel
theorem dL_refuses_342 : decode cL_refuses 342 = .ok (.iload_n 1, 1) := by decide +kernel
theorem dL_refuses_343 : decode cL_refuses 343 = .ok (.isub, 1) := by decide +kernel
theorem dL_refuses_344 : decode cL_refuses 344 = .ok (.invokestatic 55, 3) := by decide +kernel
theorem dL_refuses_347 : decode cL_refuses 347 = .ok (.bipush (-2), 2) := by decide +kernel
theorem dL_refuses_349 : decode cL_refuses 349 = .ok (.if_icmp .ne 20, 3) := by decide +kernel
theorem dL_refuses_352 : decode cL_refuses 352 = .ok (.aload_n 0, 1) := by decide +kernel
theorem dL_refuses_353 : decode cL_refuses 353 = .ok (.bipush 127, 2) := by decide +kernel
theorem dL_refuses_355 : decode cL_refuses 355 = .ok (.iload_n 1, 1) := by decide +kernel
theorem dL_refuses_356 : decode cL_refuses 356 = .ok (.iadd, 1) := by decide +kernel
theorem dL_refuses_357 : decode cL_refuses 357 = .ok (.invokestatic 55, 3) := by decide +kernel
theorem dL_refuses_360 : decode cL_refuses 360 = .ok (.bipush (-2), 2) := by decide +kernel
theorem dL_refuses_362 : decode cL_refuses 362 = .ok (.if_icmp .ne 7, 3) := by decide +kernel
theorem dL_refuses_365 : decode cL_refuses 365 = .ok (.iconst 1, 1) := by decide +kernel
theorem dL_refuses_366 : decode cL_refuses 366 = .ok (.goto 4, 3) := by decide +kernel
theorem dL_refuses_369 : decode cL_refuses 369 = .ok (.iconst 0, 1) := by decide +kernel
theorem dL_refuses_370 : decode cL_refuses 370 = .ok (.istore 4, 2) := by decide +kernel
theorem dL_refuses_372 : decode cL_refuses 372 = .ok (.iload 4, 2) := by decide +kernel
theorem dL_refuses_374 : decode cL_refuses 374 = .ok (.ifCond .eq 41, 3) := by decide +kernel
theorem dL_refuses_377 : decode cL_refuses 377 = .ok (.aload_n 0, 1) := by decide +kernel
theorem dL_refuses_378 : decode cL_refuses 378 = .ok (.bipush 44, 2) := by decide +kernel
theorem dL_refuses_380 : decode cL_refuses 380 = .ok (.invokestatic 55, 3) := by decide +kernel
theorem dL_refuses_383 : decode cL_refuses 383 = .ok (.iconst 1, 1) := by decide +kernel
theorem dL_refuses_384 : decode cL_refuses 384 = .ok (.if_icmp .ne 31, 3) := by decide +kernel
theorem dL_refuses_387 : decode cL_refuses 387 = .ok (.aload_n 0, 1) := by decide +kernel
theorem dL_refuses_388 : decode cL_refuses 388 = .ok (.invokevirtual 88, 3) := by decide +kernel
theorem dL_refuses_391 : decode cL_refuses 391 = .ok (.ifCond .ne 24, 3) := by decide +kernel
theorem dL_refuses_394 : decode cL_refuses 394 = .ok (.aload_n 0, 1) := by decide +kernel
theorem dL_refuses_395 : decode cL_refuses 395 = .ok (.invokestatic 91, 3) := by decide +kernel
theorem dL_refuses_398 : decode cL_refuses 398 = .ok (.bipush (-2), 2) := by decide +kernel
theorem dL_refuses_400 : decode cL_refuses 400 = .ok (.if_icmp .ne 15, 3) := by decide +kernel
theorem dL_refuses_403 : decode cL_refuses 403 = .ok (.aload_n 0, 1) := by decide +kernel
theorem dL_refuses_404 : decode cL_refuses 404 = .ok (.invokevirtual 46, 3) := by decide +kernel
theorem dL_refuses_407 : decode cL_refuses 407 = .ok (.iconst 1, 1) := by decide +kernel
theorem dL_refuses_408 : decode cL_refuses 408 = .ok (.if_icmp .ne 7, 3) := by decide +kernel
theorem dL_refuses_411 : decode cL_refuses 411 = .ok (.iconst 1, 1) := by decide +kernel
theorem dL_refuses_412 : decode cL_refuses 412 = .ok (.goto 4, 3) := by decide +kernel
theorem dL_refuses_415 : decode cL_refuses 415 = .ok (.iconst 0, 1) := by decide +kernel
theorem dL_refuses_416 : decode cL_refuses 416 = .ok (.ireturn, 1) := by decide +kernel
theorem dL_law_0 : decode cL_law 0 = .ok (.new 10, 3) := by decide +kernel
theorem dL_law_3 : decode cL_law 3 = .ok (.dup, 1) := by decide +kernel
theorem dL_law_4 : decode cL_law 4 = .ok (.invokespecial 159, 3) := by decide +kernel
theorem dL_law_7 : decode cL_law 7 = .ok (.astore_n 1, 1) := by decide +kernel
theorem dL_law_8 : decode cL_law 8 = .ok (.new 10, 3) := by decide +kernel
theorem dL_law_11 : decode cL_law 11 = .ok (.dup, 1) := by decide +kernel
theorem dL_law_12 : decode cL_law 12 = .ok (.invokespecial 159, 3) := by decide +kernel
theorem dL_law_15 : decode cL_law 15 = .ok (.astore_n 2, 1) := by decide +kernel
theorem dL_law_16 : decode cL_law 16 = .ok (.aload_n 1, 1) := by decide +kernel
theorem dL_law_17 : decode cL_law 17 = .ok (.invokestatic 106, 3) := by decide +kernel
theorem dL_law_20 : decode cL_law 20 = .ok (.bipush (-2), 2) := by decide +kernel
theorem dL_law_22 : decode cL_law 22 = .ok (.if_icmp .ne 57, 3) := by decide +kernel
theorem dL_law_25 : decode cL_law 25 = .ok (.aload_n 1, 1) := by decide +kernel
theorem dL_law_26 : decode cL_law 26 = .ok (.invokevirtual 88, 3) := by decide +kernel
theorem dL_law_29 : decode cL_law 29 = .ok (.ifCond .ne 50, 3) := by decide +kernel
theorem dL_law_32 : decode cL_law 32 = .ok (.aload_n 1, 1) := by decide +kernel
theorem dL_law_33 : decode cL_law 33 = .ok (.invokevirtual 154, 3) := by decide +kernel
theorem dL_law_36 : decode cL_law 36 = .ok (.sipush (-999), 3) := by decide +kernel
theorem dL_law_39 : decode cL_law 39 = .ok (.if_icmp .ne 40, 3) := by decide +kernel
theorem dL_law_42 : decode cL_law 42 = .ok (.aload_n 1, 1) := by decide +kernel
theorem dL_law_43 : decode cL_law 43 = .ok (.invokevirtual 150, 3) := by decide +kernel
theorem dL_law_46 : decode cL_law 46 = .ok (.dconst 0, 1) := by decide +kernel
theorem dL_law_47 : decode cL_law 47 = .ok (.dcmp .l, 1) := by decide +kernel
theorem dL_law_48 : decode cL_law 48 = .ok (.ifCond .ne 31, 3) := by decide +kernel
theorem dL_law_51 : decode cL_law 51 = .ok (.aload_n 1, 1) := by decide +kernel
theorem dL_law_52 : decode cL_law 52 = .ok (.invokevirtual 160, 3) := by decide +kernel
theorem dL_law_55 : decode cL_law 55 = .ok (.ifCond .ne 24, 3) := by decide +kernel
theorem dL_law_58 : decode cL_law 58 = .ok (.aload_n 1, 1) := by decide +kernel
theorem dL_law_59 : decode cL_law 59 = .ok (.bipush 23, 2) := by decide +kernel
theorem dL_law_61 : decode cL_law 61 = .ok (.invokestatic 157, 3) := by decide +kernel
theorem dL_law_64 : decode cL_law 64 = .ok (.iconst 1, 1) := by decide +kernel
theorem dL_law_65 : decode cL_law 65 = .ok (.if_icmp .ne 14, 3) := by decide +kernel
theorem dL_law_68 : decode cL_law 68 = .ok (.aload_n 1, 1) := by decide +kernel
theorem dL_law_69 : decode cL_law 69 = .ok (.invokestatic 163, 3) := by decide +kernel
theorem dL_law_72 : decode cL_law 72 = .ok (.ifCond .eq 7, 3) := by decide +kernel
theorem dL_law_75 : decode cL_law 75 = .ok (.iconst 1, 1) := by decide +kernel
theorem dL_law_76 : decode cL_law 76 = .ok (.goto 4, 3) := by decide +kernel
theorem dL_law_79 : decode cL_law 79 = .ok (.iconst 0, 1) := by decide +kernel
theorem dL_law_80 : decode cL_law 80 = .ok (.istore_n 3, 1) := by decide +kernel
theorem dL_law_81 : decode cL_law 81 = .ok (.iconst 0, 1) := by decide +kernel
theorem dL_law_82 : decode cL_law 82 = .ok (.istore 4, 2) := by decide +kernel
theorem dL_law_84 : decode cL_law 84 = .ok (.iload 4, 2) := by decide +kernel
theorem dL_law_86 : decode cL_law 86 = .ok (.bipush 34, 2) := by decide +kernel
theorem dL_law_88 : decode cL_law 88 = .ok (.if_icmp .ge 108, 3) := by decide +kernel
theorem dL_law_91 : decode cL_law 91 = .ok (.iload_n 3, 1) := by decide +kernel
theorem dL_law_92 : decode cL_law 92 = .ok (.ifCond .eq 104, 3) := by decide +kernel
theorem dL_law_95 : decode cL_law 95 = .ok (.aload_n 0, 1) := by decide +kernel
theorem dL_law_96 : decode cL_law 96 = .ok (.iload 4, 2) := by decide +kernel
theorem dL_law_98 : decode cL_law 98 = .ok (.invokestatic 49, 3) := by decide +kernel
theorem dL_law_101 : decode cL_law 101 = .ok (.istore 5, 2) := by decide +kernel
theorem dL_law_103 : decode cL_law 103 = .ok (.aload_n 1, 1) := by decide +kernel
theorem dL_law_104 : decode cL_law 104 = .ok (.aload_n 0, 1) := by decide +kernel
theorem dL_law_105 : decode cL_law 105 = .ok (.iload 4, 2) := by decide +kernel
theorem dL_law_107 : decode cL_law 107 = .ok (.invokestatic 167, 3) := by decide +kernel
theorem dL_law_110 : decode cL_law 110 = .ok (.istore 6, 2) := by decide +kernel
theorem dL_law_112 : decode cL_law 112 = .ok (.iload 4, 2) := by decide +kernel
theorem dL_law_114 : decode cL_law 114 = .ok (.iconst 3, 1) := by decide +kernel
theorem dL_law_115 : decode cL_law 115 = .ok (.irem, 1) := by decide +kernel
theorem dL_law_116 : decode cL_law 116 = .ok (.ifCond .gt 15, 3) := by decide +kernel
theorem dL_law_119 : decode cL_law 119 = .ok (.aload_n 2, 1) := by decide +kernel
theorem dL_law_120 : decode cL_law 120 = .ok (.iload 5, 2) := by decide +kernel
theorem dL_law_122 : decode cL_law 122 = .ok (.ldc 171, 2) := by decide +kernel
theorem dL_law_124 : decode cL_law 124 = .ok (.irem, 1) := by decide +kernel
theorem dL_law_125 : decode cL_law 125 = .ok (.invokestatic 172, 3) := by decide +kernel
theorem dL_law_128 : decode cL_law 128 = .ok (.ifCond .eq 60, 3) := by decide +kernel
theorem dL_law_131 : decode cL_law 131 = .ok (.aload_n 2, 1) := by decide +kernel
theorem dL_law_132 : decode cL_law 132 = .ok (.aload_n 0, 1) := by decide +kernel
theorem dL_law_133 : decode cL_law 133 = .ok (.iload 4, 2) := by decide +kernel
theorem dL_law_135 : decode cL_law 135 = .ok (.invokestatic 167, 3) := by decide +kernel
theorem dL_law_138 : decode cL_law 138 = .ok (.iload 6, 2) := by decide +kernel
theorem dL_law_140 : decode cL_law 140 = .ok (.if_icmp .ne 48, 3) := by decide +kernel
theorem dL_law_143 : decode cL_law 143 = .ok (.aload_n 1, 1) := by decide +kernel
theorem dL_law_144 : decode cL_law 144 = .ok (.invokevirtual 176, 3) := by decide +kernel
theorem dL_law_147 : decode cL_law 147 = .ok (.aload_n 2, 1) := by decide +kernel
theorem dL_law_148 : decode cL_law 148 = .ok (.invokevirtual 176, 3) := by decide +kernel
theorem dL_law_151 : decode cL_law 151 = .ok (.if_icmp .ne 37, 3) := by decide +kernel
theorem dL_law_154 : decode cL_law 154 = .ok (.aload_n 1, 1) := by decide +kernel
theorem dL_law_155 : decode cL_law 155 = .ok (.invokevirtual 179, 3) := by decide +kernel
theorem dL_law_158 : decode cL_law 158 = .ok (.aload_n 2, 1) := by decide +kernel
theorem dL_law_159 : decode cL_law 159 = .ok (.invokevirtual 179, 3) := by decide +kernel
theorem dL_law_162 : decode cL_law 162 = .ok (.lcmp, 1) := by decide +kernel
theorem dL_law_163 : decode cL_law 163 = .ok (.ifCond .ne 25, 3) := by decide +kernel
theorem dL_law_166 : decode cL_law 166 = .ok (.iload 4, 2) := by decide +kernel
theorem dL_law_168 : decode cL_law 168 = .ok (.iconst 2, 1) := by decide +kernel
theorem dL_law_169 : decode cL_law 169 = .ok (.irem, 1) := by decide +kernel
theorem dL_law_170 : decode cL_law 170 = .ok (.ifCond .ne 7, 3) := by decide +kernel
theorem dL_law_173 : decode cL_law 173 = .ok (.aload_n 1, 1) := by decide +kernel
theorem dL_law_174 : decode cL_law 174 = .ok (.goto 4, 3) := by decide +kernel
theorem dL_law_177 : decode cL_law 177 = .ok (.aload_n 2, 1) := by decide +kernel
theorem dL_law_178 : decode cL_law 178 = .ok (.invokestatic 163, 3) := by decide +kernel
theorem dL_law_181 : decode cL_law 181 = .ok (.ifCond .eq 7, 3) := by decide +kernel
theorem dL_law_184 : decode cL_law 184 = .ok (.iconst 1, 1) := by decide +kernel
theorem dL_law_185 : decode cL_law 185 = .ok (.goto 4, 3) := by decide +kernel
theorem dL_law_188 : decode cL_law 188 = .ok (.iconst 0, 1) := by decide +kernel
theorem dL_law_189 : decode cL_law 189 = .ok (.istore_n 3, 1) := by decide +kernel
theorem dL_law_190 : decode cL_law 190 = .ok (.iinc 4 1, 3) := by decide +kernel
theorem dL_law_193 : decode cL_law 193 = .ok (.goto (-109), 3) := by decide +kernel
theorem dL_law_196 : decode cL_law 196 = .ok (.aload_n 1, 1) := by decide +kernel
theorem dL_law_197 : decode cL_law 197 = .ok (.invokevirtual 118, 3) := by decide +kernel
theorem dL_law_200 : decode cL_law 200 = .ok (.istore 4, 2) := by decide +kernel
theorem dL_law_202 : decode cL_law 202 = .ok (.aload_n 1, 1) := by decide +kernel
theorem dL_law_203 : decode cL_law 203 = .ok (.iconst 1, 1) := by decide +kernel
theorem dL_law_204 : decode cL_law 204 = .ok (.invokevirtual 102, 3) := by decide +kernel
theorem dL_law_207 : decode cL_law 207 = .ok (.istore 5, 2) := by decide +kernel
theorem dL_law_209 : decode cL_law 209 = .ok (.aload_n 1, 1) := by decide +kernel
theorem dL_law_210 : decode cL_law 210 = .ok (.bipush 12, 2) := by decide +kernel
theorem dL_law_212 : decode cL_law 212 = .ok (.sipush (-240), 3) := by decide +kernel
theorem dL_law_215 : decode cL_law 215 = .ok (.sipush 241, 3) := by decide +kernel
theorem dL_law_218 : decode cL_law 218 = .ok (.invokestatic 108, 3) := by decide +kernel
theorem dL_law_221 : decode cL_law 221 = .ok (.istore 6, 2) := by decide +kernel
theorem dL_law_223 : decode cL_law 223 = .ok (.aload_n 1, 1) := by decide +kernel
theorem dL_law_224 : decode cL_law 224 = .ok (.iconst 0, 1) := by decide +kernel
theorem dL_law_225 : decode cL_law 225 = .ok (.invokevirtual 102, 3) := by decide +kernel
theorem dL_law_228 : decode cL_law 228 = .ok (.istore 7, 2) := by decide +kernel
theorem dL_law_230 : decode cL_law 230 = .ok (.aload_n 1, 1) := by decide +kernel
theorem dL_law_231 : decode cL_law 231 = .ok (.bipush 12, 2) := by decide +kernel
theorem dL_law_233 : decode cL_law 233 = .ok (.sipush (-240), 3) := by decide +kernel
theorem dL_law_236 : decode cL_law 236 = .ok (.sipush 241, 3) := by decide +kernel
theorem dL_law_239 : decode cL_law 239 = .ok (.invokestatic 108, 3) := by decide +kernel
theorem dL_law_242 : decode cL_law 242 = .ok (.istore 8, 2) := by decide +kernel
theorem dL_law_244 : decode cL_law 244 = .ok (.iload_n 3, 1) := by decide +kernel
theorem dL_law_245 : decode cL_law 245 = .ok (.ifCond .eq 88, 3) := by decide +kernel
theorem dL_law_248 : decode cL_law 248 = .ok (.iload 7, 2) := by decide +kernel
theorem dL_law_250 : decode cL_law 250 = .ok (.ifCond .eq 83, 3) := by decide +kernel
theorem dL_law_253 : decode cL_law 253 = .ok (.aload_n 1, 1) := by decide +kernel
theorem dL_law_254 : decode cL_law 254 = .ok (.iload 5, 2) := by decide +kernel
theorem dL_law_256 : decode cL_law 256 = .ok (.invokevirtual 102, 3) := by decide +kernel
theorem dL_law_259 : decode cL_law 259 = .ok (.ifCond .ne 74, 3) := by decide +kernel
theorem dL_law_262 : decode cL_law 262 = .ok (.iload 6, 2) := by decide +kernel
theorem dL_law_264 : decode cL_law 264 = .ok (.iload 4, 2) := by decide +kernel
theorem dL_law_266 : decode cL_law 266 = .ok (.if_icmp .eq 11, 3) := by decide +kernel
theorem dL_law_269 : decode cL_law 269 = .ok (.iload 6, 2) := by decide +kernel
theorem dL_law_271 : decode cL_law 271 = .ok (.sipush (-999), 3) := by decide +kernel
theorem dL_law_274 : decode cL_law 274 = .ok (.if_icmp .ne 59, 3) := by decide +kernel
theorem dL_law_277 : decode cL_law 277 = .ok (.iload 8, 2) := by decide +kernel
theorem dL_law_279 : decode cL_law 279 = .ok (.iload 4, 2) := by decide +kernel
theorem dL_law_281 : decode cL_law 281 = .ok (.if_icmp .eq 11, 3) := by decide +kernel
theorem dL_law_284 : decode cL_law 284 = .ok (.iload 8, 2) := by decide +kernel
theorem dL_law_286 : decode cL_law 286 = .ok (.sipush (-999), 3) := by decide +kernel
theorem dL_law_289 : decode cL_law 289 = .ok (.if_icmp .ne 44, 3) := by decide +kernel
theorem dL_law_292 : decode cL_law 292 = .ok (.iload 8, 2) := by decide +kernel
theorem dL_law_294 : decode cL_law 294 = .ok (.iload 4, 2) := by decide +kernel
theorem dL_law_296 : decode cL_law 296 = .ok (.if_icmp .ne 10, 3) := by decide +kernel
theorem dL_law_299 : decode cL_law 299 = .ok (.iload 6, 2) := by decide +kernel
theorem dL_law_301 : decode cL_law 301 = .ok (.iload 4, 2) := by decide +kernel
theorem dL_law_303 : decode cL_law 303 = .ok (.if_icmp .ne 30, 3) := by decide +kernel
theorem dL_law_306 : decode cL_law 306 = .ok (.aload_n 1, 1) := by decide +kernel
theorem dL_law_307 : decode cL_law 307 = .ok (.invokevirtual 118, 3) := by decide +kernel
theorem dL_law_310 : decode cL_law 310 = .ok (.iload 4, 2) := by decide +kernel
theorem dL_law_312 : decode cL_law 312 = .ok (.if_icmp .ne 21, 3) := by decide +kernel
theorem dL_law_315 : decode cL_law 315 = .ok (.aload_n 1, 1) := by decide +kernel
theorem dL_law_316 : decode cL_law 316 = .ok (.invokestatic 163, 3) := by decide +kernel
theorem dL_law_319 : decode cL_law 319 = .ok (.ifCond .eq 14, 3) := by decide +kernel
theorem dL_law_322 : decode cL_law 322 = .ok (.aload_n 1, 1) := by decide +kernel
theorem dL_law_323 : decode cL_law 323 = .ok (.invokestatic 106, 3) := by decide +kernel
theorem dL_law_326 : decode cL_law 326 = .ok (.ifCond .lt 7, 3) := by decide +kernel
theorem dL_law_329 : decode cL_law 329 = .ok (.iconst 1, 1) := by decide +kernel
theorem dL_law_330 : decode cL_law 330 = .ok (.goto 4, 3) := by decide +kernel
theorem dL_law_333 : decode cL_law 333 = .ok (.iconst 0, 1) := by decide +kernel
theorem dL_law_334 : decode cL_law 334 = .ok (.ireturn, 1) := by decide +kernel
