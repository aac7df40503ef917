theorem dX12_exchange_36 : decode cX12_exchange 36 = .ok (.iaload, 1) := by decide +kernel
theorem dX12_exchange_37 : decode cX12_exchange 37 = .ok (.iastore, 1) := by decide +kernel
theorem dX12_exchange_38 : decode cX12_exchange 38 = .ok (.aload_n 0, 1) := by decide +kernel
theorem dX12_exchange_39 : decode cX12_exchange 39 = .ok (.getfield 28, 3) := by decide +kernel
theorem dX12_exchange_42 : decode cX12_exchange 42 = .ok (.iload 4, 2) := by decide +kernel
theorem dX12_exchange_44 : decode cX12_exchange 44 = .ok (.iload_n 3, 1) := by decide +kernel
theorem dX12_exchange_45 : decode cX12_exchange 45 = .ok (.iadd, 1) := by decide +kernel
theorem dX12_exchange_46 : decode cX12_exchange 46 = .ok (.iload 5, 2) := by decide +kernel
theorem dX12_exchange_48 : decode cX12_exchange 48 = .ok (.iastore, 1) := by decide +kernel
theorem dX12_exchange_49 : decode cX12_exchange 49 = .ok (.return_, 1) := by decide +kernel
theorem dX12_right_0 : decode cX12_right 0 = .ok (.aload_n 0, 1) := by decide +kernel
theorem dX12_right_1 : decode cX12_right 1 = .ok (.iload_n 1, 1) := by decide +kernel
theorem dX12_right_2 : decode cX12_right 2 = .ok (.invokevirtual 152, 3) := by decide +kernel
theorem dX12_right_5 : decode cX12_right 5 = .ok (.ifCond .eq 11, 3) := by decide +kernel
theorem dX12_right_8 : decode cX12_right 8 = .ok (.aload_n 0, 1) := by decide +kernel
theorem dX12_right_9 : decode cX12_right 9 = .ok (.iload_n 2, 1) := by decide +kernel
theorem dX12_right_10 : decode cX12_right 10 = .ok (.invokevirtual 152, 3) := by decide +kernel
theorem dX12_right_13 : decode cX12_right 13 = .ok (.ifCond .ne 5, 3) := by decide +kernel
theorem dX12_right_16 : decode cX12_right 16 = .ok (.iconst (-1), 1) := by decide +kernel
theorem dX12_right_17 : decode cX12_right 17 = .ok (.ireturn, 1) := by decide +kernel
theorem dX12_right_18 : decode cX12_right 18 = .ok (.iload_n 1, 1) := by decide +kernel
theorem dX12_right_19 : decode cX12_right 19 = .ok (.iload_n 2, 1) := by decide +kernel
theorem dX12_right_20 : decode cX12_right 20 = .ok (.if_icmp .ne 6, 3) := by decide +kernel
theorem dX12_right_23 : decode cX12_right 23 = .ok (.bipush (-2), 2) := by decide +kernel
theorem dX12_right_25 : decode cX12_right 25 = .ok (.ireturn, 1) := by decide +kernel
theorem dX12_right_26 : decode cX12_right 26 = .ok (.aload_n 0, 1) := by decide +kernel
theorem dX12_right_27 : decode cX12_right 27 = .ok (.invokevirtual 168, 3) := by decide +kernel
theorem dX12_right_30 : decode cX12_right 30 = .ok (.aload_n 0, 1) := by decide +kernel
theorem dX12_right_31 : decode cX12_right 31 = .ok (.iconst 0, 1) := by decide +kernel
theorem dX12_right_32 : decode cX12_right 32 = .ok (.iload_n 1, 1) := by decide +kernel
theorem dX12_right_33 : decode cX12_right 33 = .ok (.iload_n 2, 1) := by decide +kernel
theorem dX12_right_34 : decode cX12_right 34 = .ok (.invokevirtual 181, 3) := by decide +kernel
theorem dX12_right_37 : decode cX12_right 37 = .ok (.aload_n 0, 1) := by decide +kernel
theorem dX12_right_38 : decode cX12_right 38 = .ok (.iconst 0, 1) := by decide +kernel
theorem dX12_right_39 : decode cX12_right 39 = .ok (.invokevirtual 156, 3) := by decide +kernel
theorem dX12_right_42 : decode cX12_right 42 = .ok (.invokestatic 174, 3) := by decide +kernel
theorem dX12_right_45 : decode cX12_right 45 = .ok (.ireturn, 1) := by decide +kernel
theorem dX12_undo_0 : decode cX12_undo 0 = .ok (.aload_n 0, 1) := by decide +kernel
theorem dX12_undo_1 : decode cX12_undo 1 = .ok (.getfield 126, 3) := by decide +kernel
theorem dX12_undo_4 : decode cX12_undo 4 = .ok (.ifCond .ne 6, 3) := by decide +kernel
theorem dX12_undo_7 : decode cX12_undo 7 = .ok (.bipush (-3), 2) := by decide +kernel
theorem dX12_undo_9 : decode cX12_undo 9 = .ok (.ireturn, 1) := by decide +kernel
theorem dX12_undo_10 : decode cX12_undo 10 = .ok (.aload_n 0, 1) := by decide +kernel
theorem dX12_undo_11 : decode cX12_undo 11 = .ok (.dup, 1) := by decide +kernel
theorem dX12_undo_12 : decode cX12_undo 12 = .ok (.getfield 126, 3) := by decide +kernel
theorem dX12_undo_15 : decode cX12_undo 15 = .ok (.iconst 1, 1) := by decide +kernel
theorem dX12_undo_16 : decode cX12_undo 16 = .ok (.isub, 1) := by decide +kernel
theorem dX12_undo_17 : decode cX12_undo 17 = .ok (.putfield 126, 3) := by decide +kernel
theorem dX12_undo_20 : decode cX12_undo 20 = .ok (.aload_n 0, 1) := by decide +kernel
theorem dX12_undo_21 : decode cX12_undo 21 = .ok (.aload_n 0, 1) := by decide +kernel
theorem dX12_undo_22 : decode cX12_undo 22 = .ok (.getfield 165, 3) := by decide +kernel
theorem dX12_undo_25 : decode cX12_undo 25 = .ok (.bipush 13, 2) := by decide +kernel
theorem dX12_undo_27 : decode cX12_undo 27 = .ok (.iadd, 1) := by decide +kernel
theorem dX12_undo_28 : decode cX12_undo 28 = .ok (.bipush 14, 2) := by decide +kernel
theorem dX12_undo_30 : decode cX12_undo 30 = .ok (.irem, 1) := by decide +kernel
theorem dX12_undo_31 : decode cX12_undo 31 = .ok (.putfield 165, 3) := by decide +kernel
theorem dX12_undo_34 : decode cX12_undo 34 = .ok (.iconst 0, 1) := by decide +kernel
theorem dX12_undo_35 : decode cX12_undo 35 = .ok (.istore_n 1, 1) := by decide +kernel
theorem dX12_undo_36 : decode cX12_undo 36 = .ok (.iload_n 1, 1) := by decide +kernel
theorem dX12_undo_37 : decode cX12_undo 37 = .ok (.bipush 31, 2) := by decide +kernel
theorem dX12_undo_39 : decode cX12_undo 39 = .ok (.if_icmp .ge 29, 3) := by decide +kernel
theorem dX12_undo_42 : decode cX12_undo 42 = .ok (.aload_n 0, 1) := by decide +kernel
theorem dX12_undo_43 : decode cX12_undo 43 = .ok (.getfield 28, 3) := by decide +kernel
theorem dX12_undo_46 : decode cX12_undo 46 = .ok (.iload_n 1, 1) := by decide +kernel
theorem dX12_undo_47 : decode cX12_undo 47 = .ok (.aload_n 0, 1) := by decide +kernel
theorem dX12_undo_48 : decode cX12_undo 48 = .ok (.getfield 47, 3) := by decide +kernel
theorem dX12_undo_51 : decode cX12_undo 51 = .ok (.bipush 31, 2) := by decide +kernel
theorem dX12_undo_53 : decode cX12_undo 53 = .ok (.aload_n 0, 1) := by decide +kernel
theorem dX12_undo_54 : decode cX12_undo 54 = .ok (.getfield 165, 3) := by decide +kernel
theorem dX12_undo_57 : decode cX12_undo 57 = .ok (.imul, 1) := by decide +kernel
theorem dX12_undo_58 : decode cX12_undo 58 = .ok (.iload_n 1, 1) := by decide +kernel
theorem dX12_undo_59 : decode cX12_undo 59 = .ok (.iadd, 1) := by decide +kernel
theorem dX12_undo_60 : decode cX12_undo 60 = .ok (.iaload, 1) := by decide +kernel
theorem dX12_undo_61 : decode cX12_undo 61 = .ok (.iastore, 1) := by decide +kernel
theorem dX12_undo_62 : decode cX12_undo 62 = .ok (.iinc 1 1, 3) := by decide +kernel
theorem dX12_undo_65 : decode cX12_undo 65 = .ok (.goto (-29), 3) := by decide +kernel
theorem dX12_undo_68 : decode cX12_undo 68 = .ok (.aload_n 0, 1) := by decide +kernel
theorem dX12_undo_69 : decode cX12_undo 69 = .ok (.getfield 126, 3) := by decide +kernel
theorem dX12_undo_72 : decode cX12_undo 72 = .ok (.ireturn, 1) := by decide +kernel
theorem dX12_layTrial_0 : decode cX12_layTrial 0 = .ok (.iconst 0, 1) := by decide +kernel
theorem dX12_layTrial_1 : decode cX12_layTrial 1 = .ok (.istore_n 1, 1) := by decide +kernel
theorem dX12_layTrial_2 : decode cX12_layTrial 2 = .ok (.iload_n 1, 1) := by decide +kernel
theorem dX12_layTrial_3 : decode cX12_layTrial 3 = .ok (.bipush 31, 2) := by decide +kernel
theorem dX12_layTrial_5 : decode cX12_layTrial 5 = .ok (.if_icmp .ge 24, 3) := by decide +kernel
theorem dX12_layTrial_8 : decode cX12_layTrial 8 = .ok (.aload_n 0, 1) := by decide +kernel
theorem dX12_layTrial_9 : decode cX12_layTrial 9 = .ok (.getfield 28, 3) := by decide +kernel
theorem dX12_layTrial_12 : decode cX12_layTrial 12 = .ok (.bipush 31, 2) := by decide +kernel
theorem dX12_layTrial_14 : decode cX12_layTrial 14 = .ok (.iload_n 1, 1) := by decide +kernel
theorem dX12_layTrial_15 : decode cX12_layTrial 15 = .ok (.iadd, 1) := by decide +kernel
theorem dX12_layTrial_16 : decode cX12_layTrial 16 = .ok (.aload_n 0, 1) := by decide +kernel
theorem dX12_layTrial_17 : decode cX12_layTrial 17 = .ok (.getfield 28, 3) := by decide +kernel
theorem dX12_layTrial_20 : decode cX12_layTrial 20 = .ok (.iload_n 1, 1) := by decide +kernel
theorem dX12_layTrial_21 : decode cX12_layTrial 21 = .ok (.iaload, 1) := by decide +kernel
theorem dX12_layTrial_22 : decode cX12_layTrial 22 = .ok (.iastore, 1) := by decide +kernel
theorem dX12_layTrial_23 : decode cX12_layTrial 23 = .ok (.iinc 1 1, 3) := by decide +kernel
theorem dX12_layTrial_26 : decode cX12_layTrial 26 = .ok (.goto (-24), 3) := by decide +kernel
theorem dX12_layTrial_29 : decode cX12_layTrial 29 = .ok (.return_, 1) := by decide +kernel
theorem dX12_goOn_0 : decode cX12_goOn 0 = .ok (.iconst 0, 1) := by decide +kernel
theorem dX12_goOn_1 : decode cX12_goOn 1 = .ok (.istore_n 2, 1) := by decide +kernel
theorem dX12_goOn_2 : decode cX12_goOn 2 = .ok (.iload_n 2, 1) := by decide +kernel
theorem dX12_goOn_3 : decode cX12_goOn 3 = .ok (.iload_n 1, 1) := by decide +kernel
theorem dX12_goOn_4 : decode cX12_goOn 4 = .ok (.if_icmp .ge 16, 3) := by decide +kernel
theorem dX12_goOn_7 : decode cX12_goOn 7 = .ok (.aload_n 0, 1) := by decide +kernel
theorem dX12_goOn_8 : decode cX12_goOn 8 = .ok (.iconst 1, 1) := by decide +kernel
theorem dX12_goOn_9 : decode cX12_goOn 9 = .ok (.iconst 1, 1) := by decide +kernel
theorem dX12_goOn_10 : decode cX12_goOn 10 = .ok (.invokevirtual 177, 3) := by decide +kernel
theorem dX12_goOn_13 : decode cX12_goOn 13 = .ok (.pop, 1) := by decide +kernel
theorem dX12_goOn_14 : decode cX12_goOn 14 = .ok (.iinc 2 1, 3) := by decide +kernel
theorem dX12_goOn_17 : decode cX12_goOn 17 = .ok (.goto (-15), 3) := by decide +kernel
theorem dX12_goOn_20 : decode cX12_goOn 20 = .ok (.return_, 1) := by decide +kernel
theorem dX12_later_0 : decode cX12_later 0 = .ok (.aload_n 0, 1) := by decide +kernel
theorem dX12_later_1 : decode cX12_later 1 = .ok (.iload_n 1, 1) := by decide +kernel
theorem dX12_later_2 : decode cX12_later 2 = .ok (.invokevirtual 152, 3) := by decide +kernel
theorem dX12_later_5 : decode cX12_later 5 = .ok (.ifCond .ne 5, 3) := by decide +kernel
theorem dX12_later_8 : decode cX12_later 8 = .ok (.iconst (-1), 1) := by decide +kernel
theorem dX12_later_9 : decode cX12_later 9 = .ok (.ireturn, 1) := by decide +kernel
theorem dX12_later_10 : decode cX12_later 10 = .ok (.iload_n 2, 1) := by decide +kernel
theorem dX12_later_11 : decode cX12_later 11 = .ok (.i2l, 1) := by decide +kernel
theorem dX12_later_12 : decode cX12_later 12 = .ok (.lconst 0, 1) := by decide +kernel
theorem dX12_later_13 : decode cX12_later 13 = .ok (.ldc2_w 184, 3) := by decide +kernel
theorem dX12_later_16 : decode cX12_later 16 = .ok (.invokestatic 71, 3) := by decide +kernel
theorem dX12_later_19 : decode cX12_later 19 = .ok (.ifCond .eq 13, 3) := by decide +kernel
theorem dX12_later_22 : decode cX12_later 22 = .ok (.iload_n 3, 1) := by decide +kernel
theorem dX12_later_23 : decode cX12_later 23 = .ok (.i2l, 1) := by decide +kernel
theorem dX12_later_24 : decode cX12_later 24 = .ok (.lconst 0, 1) := by decide +kernel
theorem dX12_later_25 : decode cX12_later 25 = .ok (.lconst 1, 1) := by decide +kernel
theorem dX12_later_26 : decode cX12_later 26 = .ok (.invokestatic 71, 3) := by decide +kernel
theorem dX12_later_29 : decode cX12_later 29 = .ok (.ifCond .ne 6, 3) := by decide +kernel
theorem dX12_later_32 : decode cX12_later 32 = .ok (.bipush (-2), 2) := by decide +kernel
theorem dX12_later_34 : decode cX12_later 34 = .ok (.ireturn, 1) := by decide +kernel
theorem dX12_later_35 : decode cX12_later 35 = .ok (.aload_n 0, 1) := by decide +kernel
theorem dX12_later_36 : decode cX12_later 36 = .ok (.invokevirtual 186, 3) := by decide +kernel
theorem dX12_later_39 : decode cX12_later 39 = .ok (.aload_n 0, 1) := by decide +kernel
theorem dX12_later_40 : decode cX12_later 40 = .ok (.iload_n 2, 1) := by decide +kernel
theorem dX12_later_41 : decode cX12_later 41 = .ok (.invokevirtual 189, 3) := by decide +kernel
theorem dX12_later_44 : decode cX12_later 44 = .ok (.iload_n 3, 1) := by decide +kernel
theorem dX12_later_45 : decode cX12_later 45 = .ok (.ifCond .ne 15, 3) := by decide +kernel
theorem dX12_later_48 : decode cX12_later 48 = .ok (.aload_n 0, 1) := by decide +kernel
theorem dX12_later_49 : decode cX12_later 49 = .ok (.getfield 28, 3) := by decide +kernel
theorem dX12_later_52 : decode cX12_later 52 = .ok (.bipush 31, 2) := by decide +kernel
theorem dX12_later_54 : decode cX12_later 54 = .ok (.iload_n 1, 1) := by decide +kernel
theorem dX12_later_55 : decode cX12_later 55 = .ok (.iadd, 1) := by decide +kernel
theorem dX12_later_56 : decode cX12_later 56 = .ok (.iaload, 1) := by decide +kernel
theorem dX12_later_57 : decode cX12_later 57 = .ok (.goto 12, 3) := by decide +kernel
theorem dX12_later_60 : decode cX12_later 60 = .ok (.aload_n 0, 1) := by decide +kernel
theorem dX12_later_61 : decode cX12_later 61 = .ok (.getfield 28, 3) := by decide +kernel
theorem dX12_later_64 : decode cX12_later 64 = .ok (.bipush 36, 2) := by decide +kernel
theorem dX12_later_66 : decode cX12_later 66 = .ok (.iload_n 1, 1) := by decide +kernel
theorem dX12_later_67 : decode cX12_later 67 = .ok (.iadd, 1) := by decide +kernel
theorem dX12_later_68 : decode cX12_later 68 = .ok (.iaload, 1) := by decide +kernel
theorem dX12_later_69 : decode cX12_later 69 = .ok (.ireturn, 1) := by decide +kernel
theorem dX12_comes_0 : decode cX12_comes 0 = .ok (.aload_n 0, 1) := by decide +kernel
theorem dX12_comes_1 : decode cX12_comes 1 = .ok (.iload_n 1, 1) := by decide +kernel
theorem dX12_comes_2 : decode cX12_comes 2 = .ok (.invokevirtual 152, 3) := by decide +kernel
theorem dX12_comes_5 : decode cX12_comes 5 = .ok (.ifCond .ne 5, 3) := by decide +kernel
theorem dX12_comes_8 : decode cX12_comes 8 = .ok (.iconst (-1), 1) := by decide +kernel
theorem dX12_comes_9 : decode cX12_comes 9 = .ok (.ireturn, 1) := by decide +kernel
theorem dX12_comes_10 : decode cX12_comes 10 = .ok (.aload_n 0, 1) := by decide +kernel
theorem dX12_comes_11 : decode cX12_comes 11 = .ok (.invokevirtual 186, 3) := by decide +kernel
theorem dX12_comes_14 : decode cX12_comes 14 = .ok (.iconst 0, 1) := by decide +kernel
theorem dX12_comes_15 : decode cX12_comes 15 = .ok (.istore_n 2, 1) := by decide +kernel
theorem dX12_comes_16 : decode cX12_comes 16 = .ok (.iload_n 2, 1) := by decide +kernel
theorem dX12_comes_17 : decode cX12_comes 17 = .ok (.bipush 31, 2) := by decide +kernel
theorem dX12_comes_19 : decode cX12_comes 19 = .ok (.if_icmp .ge 27, 3) := by decide +kernel
theorem dX12_comes_22 : decode cX12_comes 22 = .ok (.aload_n 0, 1) := by decide +kernel
theorem dX12_comes_23 : decode cX12_comes 23 = .ok (.iconst 1, 1) := by decide +kernel
theorem dX12_comes_24 : decode cX12_comes 24 = .ok (.iload_n 1, 1) := by decide +kernel
theorem dX12_comes_25 : decode cX12_comes 25 = .ok (.invokevirtual 146, 3) := by decide +kernel
theorem dX12_comes_28 : decode cX12_comes 28 = .ok (.ifCond .eq 5, 3) := by decide +kernel
theorem dX12_comes_31 : decode cX12_comes 31 = .ok (.iload_n 2, 1) := by decide +kernel
theorem dX12_comes_32 : decode cX12_comes 32 = .ok (.ireturn, 1) := by decide +kernel
theorem dX12_comes_33 : decode cX12_comes 33 = .ok (.aload_n 0, 1) := by decide +kernel
theorem dX12_comes_34 : decode cX12_comes 34 = .ok (.iconst 1, 1) := by decide +kernel
theorem dX12_comes_35 : decode cX12_comes 35 = .ok (.iconst 1, 1) := by decide +kernel
theorem dX12_comes_36 : decode cX12_comes 36 = .ok (.invokevirtual 177, 3) := by decide +kernel
theorem dX12_comes_39 : decode cX12_comes 39 = .ok (.pop, 1) := by decide +kernel
theorem dX12_comes_40 : decode cX12_comes 40 = .ok (.iinc 2 1, 3) := by decide +kernel
theorem dX12_comes_43 : decode cX12_comes 43 = .ok (.goto (-27), 3) := by decide +kernel
theorem dX12_comes_46 : decode cX12_comes 46 = .ok (.bipush (-9), 2) := by decide +kernel
theorem dX12_comes_48 : decode cX12_comes 48 = .ok (.ireturn, 1) := by decide +kernel
theorem dX12_isWellLet_0 : decode cX12_isWellLet 0 = .ok (.aload_n 0, 1) := by decide +kernel
theorem dX12_isWellLet_1 : decode cX12_isWellLet 1 = .ok (.invokevirtual 186, 3) := by decide +kernel
theorem dX12_isWellLet_4 : decode cX12_isWellLet 4 = .ok (.aload_n 0, 1) := by decide +kernel
theorem dX12_isWellLet_5 : decode cX12_isWellLet 5 = .ok (.iload_n 2, 1) := by decide +kernel
theorem dX12_isWellLet_6 : decode cX12_isWellLet 6 = .ok (.invokevirtual 189, 3) := by decide +kernel
theorem dX12_isWellLet_9 : decode cX12_isWellLet 9 = .ok (.aload_n 0, 1) := by decide +kernel
theorem dX12_isWellLet_10 : decode cX12_isWellLet 10 = .ok (.getfield 28, 3) := by decide +kernel
theorem dX12_isWellLet_13 : decode cX12_isWellLet 13 = .ok (.bipush 36, 2) := by decide +kernel
theorem dX12_isWellLet_15 : decode cX12_isWellLet 15 = .ok (.iload_n 1, 1) := by decide +kernel
theorem dX12_isWellLet_16 : decode cX12_isWellLet 16 = .ok (.iadd, 1) := by decide +kernel
theorem dX12_isWellLet_17 : decode cX12_isWellLet 17 = .ok (.iconst 1, 1) := by decide +kernel
theorem dX12_isWellLet_18 : decode cX12_isWellLet 18 = .ok (.iastore, 1) := by decide +kernel
theorem dX12_isWellLet_19 : decode cX12_isWellLet 19 = .ok (.aload_n 0, 1) := by decide +kernel
theorem dX12_isWellLet_20 : decode cX12_isWellLet 20 = .ok (.bipush 20, 2) := by decide +kernel
theorem dX12_isWellLet_22 : decode cX12_isWellLet 22 = .ok (.invokevirtual 189, 3) := by decide +kernel
theorem dX12_isWellLet_25 : decode cX12_isWellLet 25 = .ok (.aload_n 0, 1) := by decide +kernel
theorem dX12_isWellLet_26 : decode cX12_isWellLet 26 = .ok (.getfield 28, 3) := by decide +kernel
theorem dX12_isWellLet_29 : decode cX12_isWellLet 29 = .ok (.bipush 36, 2) := by decide +kernel
theorem dX12_isWellLet_31 : decode cX12_isWellLet 31 = .ok (.iload_n 1, 1) := by decide +kernel
theorem dX12_isWellLet_32 : decode cX12_isWellLet 32 = .ok (.iadd, 1) := by decide +kernel
theorem dX12_isWellLet_33 : decode cX12_isWellLet 33 = .ok (.iaload, 1) := by decide +kernel
theorem dX12_isWellLet_34 : decode cX12_isWellLet 34 = .ok (.iconst 2, 1) := by decide +kernel
theorem dX12_isWellLet_35 : decode cX12_isWellLet 35 = .ok (.if_icmp .ne 30, 3) := by decide +kernel
theorem dX12_isWellLet_38 : decode cX12_isWellLet 38 = .ok (.aload_n 0, 1) := by decide +kernel
theorem dX12_isWellLet_39 : decode cX12_isWellLet 39 = .ok (.getfield 25, 3) := by decide +kernel
theorem dX12_isWellLet_42 : decode cX12_isWellLet 42 = .ok (.aload_n 0, 1) := by decide +kernel
theorem dX12_isWellLet_43 : decode cX12_isWellLet 43 = .ok (.getfield 28, 3) := by decide +kernel
theorem dX12_isWellLet_46 : decode cX12_isWellLet 46 = .ok (.bipush 46, 2) := by decide +kernel
theorem dX12_isWellLet_48 : decode cX12_isWellLet 48 = .ok (.iload_n 1, 1) := by decide +kernel
theorem dX12_isWellLet_49 : decode cX12_isWellLet 49 = .ok (.iadd, 1) := by decide +kernel
theorem dX12_isWellLet_50 : decode cX12_isWellLet 50 = .ok (.iaload, 1) := by decide +kernel
theorem dX12_isWellLet_51 : decode cX12_isWellLet 51 = .ok (.iaload, 1) := by decide +kernel
theorem dX12_isWellLet_52 : decode cX12_isWellLet 52 = .ok (.aload_n 0, 1) := by decide +kernel
theorem dX12_isWellLet_53 : decode cX12_isWellLet 53 = .ok (.getfield 16, 3) := by decide +kernel
theorem dX12_isWellLet_56 : decode cX12_isWellLet 56 = .ok (.iload_n 1, 1) := by decide +kernel
theorem dX12_isWellLet_57 : decode cX12_isWellLet 57 = .ok (.iaload, 1) := by decide +kernel
theorem dX12_isWellLet_58 : decode cX12_isWellLet 58 = .ok (.if_icmp .ne 7, 3) := by decide +kernel
theorem dX12_isWellLet_61 : decode cX12_isWellLet 61 = .ok (.iconst 1, 1) := by decide +kernel
theorem dX12_isWellLet_62 : decode cX12_isWellLet 62 = .ok (.goto 4, 3) := by decide +kernel
theorem dX12_isWellLet_65 : decode cX12_isWellLet 65 = .ok (.iconst 0, 1) := by decide +kernel
theorem dX12_isWellLet_66 : decode cX12_isWellLet 66 = .ok (.ireturn, 1) := by decide +kernel
theorem dX12_best_0 : decode cX12_best 0 = .ok (.aload_n 0, 1) := by decide +kernel
theorem dX12_best_1 : decode cX12_best 1 = .ok (.iload_n 1, 1) := by decide +kernel
theorem dX12_best_2 : decode cX12_best 2 = .ok (.invokevirtual 152, 3) := by decide +kernel
theorem dX12_best_5 : decode cX12_best 5 = .ok (.ifCond .ne 5, 3) := by decide +kernel
theorem dX12_best_8 : decode cX12_best 8 = .ok (.iconst (-1), 1) := by decide +kernel
theorem dX12_best_9 : decode cX12_best 9 = .ok (.ireturn, 1) := by decide +kernel
theorem dX12_best_10 : decode cX12_best 10 = .ok (.aload_n 0, 1) := by decide +kernel
theorem dX12_best_11 : decode cX12_best 11 = .ok (.getfield 28, 3) := by decide +kernel
theorem dX12_best_14 : decode cX12_best 14 = .ok (.iconst 5, 1) := by decide +kernel
theorem dX12_best_15 : decode cX12_best 15 = .ok (.iload_n 1, 1) := by decide +kernel
theorem dX12_best_16 : decode cX12_best 16 = .ok (.iadd, 1) := by decide +kernel
theorem dX12_best_17 : decode cX12_best 17 = .ok (.iaload, 1) := by decide +kernel
theorem dX12_best_18 : decode cX12_best 18 = .ok (.ifCond .eq 6, 3) := by decide +kernel
theorem dX12_best_21 : decode cX12_best 21 = .ok (.bipush (-3), 2) := by decide +kernel
theorem dX12_best_23 : decode cX12_best 23 = .ok (.ireturn, 1) := by decide +kernel
theorem dX12_best_24 : decode cX12_best 24 = .ok (.iconst 0, 1) := by decide +kernel
theorem dX12_best_25 : decode cX12_best 25 = .ok (.istore_n 2, 1) := by decide +kernel
theorem dX12_best_26 : decode cX12_best 26 = .ok (.iload_n 2, 1) := by decide +kernel
theorem dX12_best_27 : decode cX12_best 27 = .ok (.bipush 13, 2) := by decide +kernel
theorem dX12_best_29 : decode cX12_best 29 = .ok (.if_icmp .ge 20, 3) := by decide +kernel
theorem dX12_best_32 : decode cX12_best 32 = .ok (.aload_n 0, 1) := by decide +kernel
theorem dX12_best_33 : decode cX12_best 33 = .ok (.iload_n 1, 1) := by decide +kernel
theorem dX12_best_34 : decode cX12_best 34 = .ok (.iload_n 2, 1) := by decide +kernel
theorem dX12_best_35 : decode cX12_best 35 = .ok (.invokevirtual 192, 3) := by decide +kernel
theorem dX12_best_38 : decode cX12_best 38 = .ok (.ifCond .eq 5, 3) := by decide +kernel
theorem dX12_best_41 : decode cX12_best 41 = .ok (.iload_n 2, 1) := by decide +kernel
theorem dX12_best_42 : decode cX12_best 42 = .ok (.ireturn, 1) := by decide +kernel
theorem dX12_best_43 : decode cX12_best 43 = .ok (.iinc 2 1, 3) := by decide +kernel
theorem dX12_best_46 : decode cX12_best 46 = .ok (.goto (-20), 3) := by decide +kernel
theorem dX12_best_49 : decode cX12_best 49 = .ok (.bipush (-9), 2) := by decide +kernel
theorem dX12_best_51 : decode cX12_best 51 = .ok (.ireturn, 1) := by decide +kernel
theorem dX12_isOrder_0 : decode cX12_isOrder 0 = .ok (.iconst 0, 1) := by decide +kernel
theorem dX12_isOrder_1 : decode cX12_isOrder 1 = .ok (.istore_n 2, 1) := by decide +kernel
theorem dX12_isOrder_2 : decode cX12_isOrder 2 = .ok (.iload_n 1, 1) := by decide +kernel
theorem dX12_isOrder_3 : decode cX12_isOrder 3 = .ok (.istore_n 3, 1) := by decide +kernel
theorem dX12_isOrder_4 : decode cX12_isOrder 4 = .ok (.iconst 0, 1) := by decide +kernel
theorem dX12_isOrder_5 : decode cX12_isOrder 5 = .ok (.istore 4, 2) := by decide +kernel
theorem dX12_isOrder_7 : decode cX12_isOrder 7 = .ok (.iload 4, 2) := by decide +kernel
theorem dX12_isOrder_9 : decode cX12_isOrder 9 = .ok (.aload_n 0, 1) := by decide +kernel
theorem dX12_isOrder_10 : decode cX12_isOrder 10 = .ok (.getfield 120, 3) := by decide +kernel
theorem dX12_isOrder_13 : decode cX12_isOrder 13 = .ok (.if_icmp .ge 35, 3) := by decide +kernel
theorem dX12_isOrder_16 : decode cX12_isOrder 16 = .ok (.aload_n 0, 1) := by decide +kernel
theorem dX12_isOrder_17 : decode cX12_isOrder 17 = .ok (.getfield 53, 3) := by decide +kernel
theorem dX12_isOrder_20 : decode cX12_isOrder 20 = .ok (.iload 4, 2) := by decide +kernel
theorem dX12_isOrder_22 : decode cX12_isOrder 22 = .ok (.iload_n 3, 1) := by decide +kernel
theorem dX12_isOrder_23 : decode cX12_isOrder 23 = .ok (.iconst 5, 1) := by decide +kernel
theorem dX12_isOrder_24 : decode cX12_isOrder 24 = .ok (.irem, 1) := by decide +kernel
theorem dX12_isOrder_25 : decode cX12_isOrder 25 = .ok (.iastore, 1) := by decide +kernel
theorem dX12_isOrder_26 : decode cX12_isOrder 26 = .ok (.iload_n 2, 1) := by decide +kernel
theorem dX12_isOrder_27 : decode cX12_isOrder 27 = .ok (.iconst 1, 1) := by decide +kernel
theorem dX12_isOrder_28 : decode cX12_isOrder 28 = .ok (.aload_n 0, 1) := by decide +kernel
theorem dX12_isOrder_29 : decode cX12_isOrder 29 = .ok (.getfield 53, 3) := by decide +kernel
theorem dX12_isOrder_32 : decode cX12_isOrder 32 = .ok (.iload 4, 2) := by decide +kernel
theorem dX12_isOrder_34 : decode cX12_isOrder 34 = .ok (.iaload, 1) := by decide +kernel
theorem dX12_isOrder_35 : decode cX12_isOrder 35 = .ok (.ishl, 1) := by decide +kernel
theorem dX12_isOrder_36 : decode cX12_isOrder 36 = .ok (.ior, 1) := by decide +kernel
theorem dX12_isOrder_37 : decode cX12_isOrder 37 = .ok (.istore_n 2, 1) := by decide +kernel
theorem dX12_isOrder_38 : decode cX12_isOrder 38 = .ok (.iload_n 3, 1) := by decide +kernel
theorem dX12_isOrder_39 : decode cX12_isOrder 39 = .ok (.iconst 5, 1) := by decide +kernel
theorem dX12_isOrder_40 : decode cX12_isOrder 40 = .ok (.idiv, 1) := by decide +kernel
theorem dX12_isOrder_41 : decode cX12_isOrder 41 = .ok (.istore_n 3, 1) := by decide +kernel
theorem dX12_isOrder_42 : decode cX12_isOrder 42 = .ok (.iinc 4 1, 3) := by decide +kernel
theorem dX12_isOrder_45 : decode cX12_isOrder 45 = .ok (.goto (-38), 3) := by decide +kernel
theorem dX12_isOrder_48 : decode cX12_isOrder 48 = .ok (.iload_n 3, 1) := by decide +kernel
theorem dX12_isOrder_49 : decode cX12_isOrder 49 = .ok (.ifCond .ne 19, 3) := by decide +kernel
theorem dX12_isOrder_52 : decode cX12_isOrder 52 = .ok (.iload_n 2, 1) := by decide +kernel
theorem dX12_isOrder_53 : decode cX12_isOrder 53 = .ok (.iconst 1, 1) := by decide +kernel
theorem dX12_isOrder_54 : decode cX12_isOrder 54 = .ok (.aload_n 0, 1) := by decide +kernel
theorem dX12_isOrder_55 : decode cX12_isOrder 55 = .ok (.getfield 120, 3) := by decide +kernel
theorem dX12_isOrder_58 : decode cX12_isOrder 58 = .ok (.ishl, 1) := by decide +kernel
theorem dX12_isOrder_59 : decode cX12_isOrder 59 = .ok (.iconst 1, 1) := by decide +kernel
theorem dX12_isOrder_60 : decode cX12_isOrder 60 = .ok (.isub, 1) := by decide +kernel
theorem dX12_isOrder_61 : decode cX12_isOrder 61 = .ok (.if_icmp .ne 7, 3) := by decide +kernel
theorem dX12_isOrder_64 : decode cX12_isOrder 64 = .ok (.iconst 1, 1) := by decide +kernel
theorem dX12_isOrder_65 : decode cX12_isOrder 65 = .ok (.goto 4, 3) := by decide +kernel
theorem dX12_isOrder_68 : decode cX12_isOrder 68 = .ok (.iconst 0, 1) := by decide +kernel
theorem dX12_isOrder_69 : decode cX12_isOrder 69 = .ok (.ireturn, 1) := by decide +kernel
theorem dX12_gladBy_0 : decode cX12_gladBy 0 = .ok (.iconst 0, 1) := by decide +kernel
theorem dX12_gladBy_1 : decode cX12_gladBy 1 = .ok (.istore_n 1, 1) := by decide +kernel
theorem dX12_gladBy_2 : decode cX12_gladBy 2 = .ok (.iconst 0, 1) := by decide +kernel
theorem dX12_gladBy_3 : decode cX12_gladBy 3 = .ok (.istore_n 2, 1) := by decide +kernel
theorem dX12_gladBy_4 : decode cX12_gladBy 4 = .ok (.iload_n 2, 1) := by decide +kernel
theorem dX12_gladBy_5 : decode cX12_gladBy 5 = .ok (.aload_n 0, 1) := by decide +kernel
theorem dX12_gladBy_6 : decode cX12_gladBy 6 = .ok (.getfield 120, 3) := by decide +kernel
theorem dX12_gladBy_9 : decode cX12_gladBy 9 = .ok (.if_icmp .ge 37, 3) := by decide +kernel
theorem dX12_gladBy_12 : decode cX12_gladBy 12 = .ok (.iload_n 1, 1) := by decide +kernel
theorem dX12_gladBy_13 : decode cX12_gladBy 13 = .ok (.aload_n 0, 1) := by decide +kernel
theorem dX12_gladBy_14 : decode cX12_gladBy 14 = .ok (.getfield 50, 3) := by decide +kernel
theorem dX12_gladBy_17 : decode cX12_gladBy 17 = .ok (.iload_n 2, 1) := by decide +kernel
theorem dX12_gladBy_18 : decode cX12_gladBy 18 = .ok (.iaload, 1) := by decide +kernel
theorem dX12_gladBy_19 : decode cX12_gladBy 19 = .ok (.aload_n 0, 1) := by decide +kernel
theorem dX12_gladBy_20 : decode cX12_gladBy 20 = .ok (.getfield 16, 3) := by decide +kernel
theorem dX12_gladBy_23 : decode cX12_gladBy 23 = .ok (.aload_n 0, 1) := by decide +kernel
theorem dX12_gladBy_24 : decode cX12_gladBy 24 = .ok (.getfield 53, 3) := by decide +kernel
theorem dX12_gladBy_27 : decode cX12_gladBy 27 = .ok (.iload_n 2, 1) := by decide +kernel
theorem dX12_gladBy_28 : decode cX12_gladBy 28 = .ok (.iaload, 1) := by decide +kernel
theorem dX12_gladBy_29 : decode cX12_gladBy 29 = .ok (.iaload, 1) := by decide +kernel
theorem dX12_gladBy_30 : decode cX12_gladBy 30 = .ok (.if_icmp .ne 7, 3) := by decide +kernel
theorem dX12_gladBy_33 : decode cX12_gladBy 33 = .ok (.iconst 1, 1) := by decide +kernel
theorem dX12_gladBy_34 : decode cX12_gladBy 34 = .ok (.goto 4, 3) := by decide +kernel
theorem dX12_gladBy_37 : decode cX12_gladBy 37 = .ok (.iconst 0, 1) := by decide +kernel
theorem dX12_gladBy_38 : decode cX12_gladBy 38 = .ok (.iadd, 1) := by decide +kernel
theorem dX12_gladBy_39 : decode cX12_gladBy 39 = .ok (.istore_n 1, 1) := by decide +kernel
theorem dX12_gladBy_40 : decode cX12_gladBy 40 = .ok (.iinc 2 1, 3) := by decide +kernel
theorem dX12_gladBy_43 : decode cX12_gladBy 43 = .ok (.goto (-39), 3) := by decide +kernel
theorem dX12_gladBy_46 : decode cX12_gladBy 46 = .ok (.iload_n 1, 1) := by decide +kernel
theorem dX12_gladBy_47 : decode cX12_gladBy 47 = .ok (.ireturn, 1) := by decide +kernel
theorem dX12_exchanges_0 : decode cX12_exchanges 0 = .ok (.iconst 0, 1) := by decide +kernel
theorem dX12_exchanges_1 : decode cX12_exchanges 1 = .ok (.istore_n 1, 1) := by decide +kernel
theorem dX12_exchanges_2 : decode cX12_exchanges 2 = .ok (.iconst 0, 1) := by decide +kernel
theorem dX12_exchanges_3 : decode cX12_exchanges 3 = .ok (.istore_n 2, 1) := by decide +kernel
theorem dX12_exchanges_4 : decode cX12_exchanges 4 = .ok (.iconst 0, 1) := by decide +kernel
theorem dX12_exchanges_5 : decode cX12_exchanges 5 = .ok (.istore_n 3, 1) := by decide +kernel
theorem dX12_exchanges_6 : decode cX12_exchanges 6 = .ok (.iload_n 3, 1) := by decide +kernel
theorem dX12_exchanges_7 : decode cX12_exchanges 7 = .ok (.aload_n 0, 1) := by decide +kernel
theorem dX12_exchanges_8 : decode cX12_exchanges 8 = .ok (.getfield 120, 3) := by decide +kernel
theorem dX12_exchanges_11 : decode cX12_exchanges 11 = .ok (.if_icmp .ge 66, 3) := by decide +kernel
theorem dX12_exchanges_14 : decode cX12_exchanges 14 = .ok (.iload_n 3, 1) := by decide +kernel
theorem dX12_exchanges_15 : decode cX12_exchanges 15 = .ok (.istore 4, 2) := by decide +kernel
theorem dX12_exchanges_17 : decode cX12_exchanges 17 = .ok (.iconst 0, 1) := by decide +kernel
theorem dX12_exchanges_18 : decode cX12_exchanges 18 = .ok (.istore 5, 2) := by decide +kernel
theorem dX12_exchanges_20 : decode cX12_exchanges 20 = .ok (.iload_n 1, 1) := by decide +kernel
theorem dX12_exchanges_21 : decode cX12_exchanges 21 = .ok (.iload 4, 2) := by decide +kernel
theorem dX12_exchanges_23 : decode cX12_exchanges 23 = .ok (.invokestatic 86, 3) := by decide +kernel
theorem dX12_exchanges_26 : decode cX12_exchanges 26 = .ok (.ifCond .ne 29, 3) := by decide +kernel
theorem dX12_exchanges_29 : decode cX12_exchanges 29 = .ok (.iload_n 1, 1) := by decide +kernel
theorem dX12_exchanges_30 : decode cX12_exchanges 30 = .ok (.iconst 1, 1) := by decide +kernel
theorem dX12_exchanges_31 : decode cX12_exchanges 31 = .ok (.iload 4, 2) := by decide +kernel
theorem dX12_exchanges_33 : decode cX12_exchanges 33 = .ok (.ishl, 1) := by decide +kernel
theorem dX12_exchanges_34 : decode cX12_exchanges 34 = .ok (.ior, 1) := by decide +kernel
theorem dX12_exchanges_35 : decode cX12_exchanges 35 = .ok (.istore_n 1, 1) := by decide +kernel
theorem dX12_exchanges_36 : decode cX12_exchanges 36 = .ok (.iinc 5 1, 3) := by decide +kernel
theorem dX12_exchanges_39 : decode cX12_exchanges 39 = .ok (.aload_n 0, 1) := by decide +kernel
theorem dX12_exchanges_40 : decode cX12_exchanges 40 = .ok (.aload_n 0, 1) := by decide +kernel
theorem dX12_exchanges_41 : decode cX12_exchanges 41 = .ok (.getfield 53, 3) := by decide +kernel
theorem dX12_exchanges_44 : decode cX12_exchanges 44 = .ok (.iload 4, 2) := by decide +kernel
theorem dX12_exchanges_46 : decode cX12_exchanges 46 = .ok (.iaload, 1) := by decide +kernel
theorem dX12_exchanges_47 : decode cX12_exchanges 47 = .ok (.invokevirtual 195, 3) := by decide +kernel
theorem dX12_exchanges_50 : decode cX12_exchanges 50 = .ok (.istore 4, 2) := by decide +kernel
theorem dX12_exchanges_52 : decode cX12_exchanges 52 = .ok (.goto (-32), 3) := by decide +kernel
theorem dX12_exchanges_55 : decode cX12_exchanges 55 = .ok (.iload_n 2, 1) := by decide +kernel
theorem dX12_exchanges_56 : decode cX12_exchanges 56 = .ok (.iload 5, 2) := by decide +kernel
theorem dX12_exchanges_58 : decode cX12_exchanges 58 = .ok (.ifCond .le 10, 3) := by decide +kernel
theorem dX12_exchanges_61 : decode cX12_exchanges 61 = .ok (.iload 5, 2) := by decide +kernel
theorem dX12_exchanges_63 : decode cX12_exchanges 63 = .ok (.iconst 1, 1) := by decide +kernel
theorem dX12_exchanges_64 : decode cX12_exchanges 64 = .ok (.isub, 1) := by decide +kernel
theorem dX12_exchanges_65 : decode cX12_exchanges 65 = .ok (.goto 4, 3) := by decide +kernel
theorem dX12_exchanges_68 : decode cX12_exchanges 68 = .ok (.iconst 0, 1) := by decide +kernel
theorem dX12_exchanges_69 : decode cX12_exchanges 69 = .ok (.iadd, 1) := by decide +kernel
theorem dX12_exchanges_70 : decode cX12_exchanges 70 = .ok (.istore_n 2, 1) := by decide +kernel
theorem dX12_exchanges_71 : decode cX12_exchanges 71 = .ok (.iinc 3 1, 3) := by decide +kernel
theorem dX12_exchanges_74 : decode cX12_exchanges 74 = .ok (.goto (-68), 3) := by decide +kernel
theorem dX12_exchanges_77 : decode cX12_exchanges 77 = .ok (.iload_n 2, 1) := by decide +kernel
theorem dX12_exchanges_78 : decode cX12_exchanges 78 = .ok (.ireturn, 1) := by decide +kernel
theorem dX12_balloonTo_0 : decode cX12_balloonTo 0 = .ok (.iconst 0, 1) := by decide +kernel
theorem dX12_balloonTo_1 : decode cX12_balloonTo 1 = .ok (.istore_n 2, 1) := by decide +kernel
theorem dX12_balloonTo_2 : decode cX12_balloonTo 2 = .ok (.iconst 0, 1) := by decide +kernel
theorem dX12_balloonTo_3 : decode cX12_balloonTo 3 = .ok (.istore_n 3, 1) := by decide +kernel
theorem dX12_balloonTo_4 : decode cX12_balloonTo 4 = .ok (.iload_n 3, 1) := by decide +kernel
theorem dX12_balloonTo_5 : decode cX12_balloonTo 5 = .ok (.aload_n 0, 1) := by decide +kernel
theorem dX12_balloonTo_6 : decode cX12_balloonTo 6 = .ok (.getfield 120, 3) := by decide +kernel
theorem dX12_balloonTo_9 : decode cX12_balloonTo 9 = .ok (.if_icmp .ge 28, 3) := by decide +kernel
theorem dX12_balloonTo_12 : decode cX12_balloonTo 12 = .ok (.aload_n 0, 1) := by decide +kernel
theorem dX12_balloonTo_13 : decode cX12_balloonTo 13 = .ok (.getfield 28, 3) := by decide +kernel
theorem dX12_balloonTo_16 : decode cX12_balloonTo 16 = .ok (.bipush 25, 2) := by decide +kernel
theorem dX12_balloonTo_18 : decode cX12_balloonTo 18 = .ok (.iload_n 3, 1) := by decide +kernel
theorem dX12_balloonTo_19 : decode cX12_balloonTo 19 = .ok (.iadd, 1) := by decide +kernel
theorem dX12_balloonTo_20 : decode cX12_balloonTo 20 = .ok (.iaload, 1) := by decide +kernel
theorem dX12_balloonTo_21 : decode cX12_balloonTo 21 = .ok (.iload_n 1, 1) := by decide +kernel
theorem dX12_balloonTo_22 : decode cX12_balloonTo 22 = .ok (.if_icmp .ne 7, 3) := by decide +kernel
theorem dX12_balloonTo_25 : decode cX12_balloonTo 25 = .ok (.iload_n 3, 1) := by decide +kernel
theorem dX12_balloonTo_26 : decode cX12_balloonTo 26 = .ok (.goto 4, 3) := by decide +kernel
theorem dX12_balloonTo_29 : decode cX12_balloonTo 29 = .ok (.iload_n 2, 1) := by decide +kernel
theorem dX12_balloonTo_30 : decode cX12_balloonTo 30 = .ok (.istore_n 2, 1) := by decide +kernel
theorem dX12_balloonTo_31 : decode cX12_balloonTo 31 = .ok (.iinc 3 1, 3) := by decide +kernel
theorem dX12_balloonTo_34 : decode cX12_balloonTo 34 = .ok (.goto (-30), 3) := by decide +kernel
theorem dX12_balloonTo_37 : decode cX12_balloonTo 37 = .ok (.iload_n 2, 1) := by decide +kernel
theorem dX12_balloonTo_38 : decode cX12_balloonTo 38 = .ok (.ireturn, 1) := by decide +kernel
theorem dX12_most_0 : decode cX12_most 0 = .ok (.iload_n 1, 1) := by decide +kernel
theorem dX12_most_1 : decode cX12_most 1 = .ok (.i2l, 1) := by decide +kernel
theorem dX12_most_2 : decode cX12_most 2 = .ok (.lconst 0, 1) := by decide +kernel
theorem dX12_most_3 : decode cX12_most 3 = .ok (.lconst 1, 1) := by decide +kernel
theorem dX12_most_4 : decode cX12_most 4 = .ok (.invokestatic 71, 3) := by decide +kernel
theorem dX12_most_7 : decode cX12_most 7 = .ok (.ifCond .ne 6, 3) := by decide +kernel
theorem dX12_most_10 : decode cX12_most 10 = .ok (.bipush (-2), 2) := by decide +kernel
theorem dX12_most_12 : decode cX12_most 12 = .ok (.ireturn, 1) := by decide +kernel
theorem dX12_most_13 : decode cX12_most 13 = .ok (.aload_n 0, 1) := by decide +kernel
theorem dX12_most_14 : decode cX12_most 14 = .ok (.invokevirtual 186, 3) := by decide +kernel
theorem dX12_most_17 : decode cX12_most 17 = .ok (.aload_n 0, 1) := by decide +kernel
theorem dX12_most_18 : decode cX12_most 18 = .ok (.bipush 30, 2) := by decide +kernel
theorem dX12_most_20 : decode cX12_most 20 = .ok (.invokevirtual 189, 3) := by decide +kernel
theorem dX12_most_23 : decode cX12_most 23 = .ok (.iconst 0, 1) := by decide +kernel
theorem dX12_most_24 : decode cX12_most 24 = .ok (.istore_n 2, 1) := by decide +kernel
theorem dX12_most_25 : decode cX12_most 25 = .ok (.iload_n 2, 1) := by decide +kernel
theorem dX12_most_26 : decode cX12_most 26 = .ok (.aload_n 0, 1) := by decide +kernel
theorem dX12_most_27 : decode cX12_most 27 = .ok (.getfield 120, 3) := by decide +kernel
theorem dX12_most_30 : decode cX12_most 30 = .ok (.if_icmp .ge 21, 3) := by decide +kernel
theorem dX12_most_33 : decode cX12_most 33 = .ok (.aload_n 0, 1) := by decide +kernel
theorem dX12_most_34 : decode cX12_most 34 = .ok (.getfield 50, 3) := by decide +kernel
theorem dX12_most_37 : decode cX12_most 37 = .ok (.iload_n 2, 1) := by decide +kernel
theorem dX12_most_38 : decode cX12_most 38 = .ok (.aload_n 0, 1) := by decide +kernel
theorem dX12_most_39 : decode cX12_most 39 = .ok (.iconst 1, 1) := by decide +kernel
theorem dX12_most_40 : decode cX12_most 40 = .ok (.iload_n 2, 1) := by decide +kernel
theorem dX12_most_41 : decode cX12_most 41 = .ok (.invokevirtual 149, 3) := by decide +kernel
theorem dX12_most_44 : decode cX12_most 44 = .ok (.iastore, 1) := by decide +kernel
theorem dX12_most_45 : decode cX12_most 45 = .ok (.iinc 2 1, 3) := by decide +kernel
theorem dX12_most_48 : decode cX12_most 48 = .ok (.goto (-23), 3) := by decide +kernel
theorem dX12_most_51 : decode cX12_most 51 = .ok (.iconst 0, 1) := by decide +kernel
theorem dX12_most_52 : decode cX12_most 52 = .ok (.istore_n 2, 1) := by decide +kernel
theorem dX12_most_53 : decode cX12_most 53 = .ok (.iconst 0, 1) := by decide +kernel
theorem dX12_most_54 : decode cX12_most 54 = .ok (.istore_n 3, 1) := by decide +kernel
theorem dX12_most_55 : decode cX12_most 55 = .ok (.iconst 0, 1) := by decide +kernel
theorem dX12_most_56 : decode cX12_most 56 = .ok (.istore 4, 2) := by decide +kernel
theorem dX12_most_58 : decode cX12_most 58 = .ok (.iload 4, 2) := by decide +kernel
theorem dX12_most_60 : decode cX12_most 60 = .ok (.sipush 3125, 3) := by decide +kernel
theorem dX12_most_63 : decode cX12_most 63 = .ok (.if_icmp .ge 73, 3) := by decide +kernel
theorem dX12_most_66 : decode cX12_most 66 = .ok (.aload_n 0, 1) := by decide +kernel
theorem dX12_most_67 : decode cX12_most 67 = .ok (.iload 4, 2) := by decide +kernel
theorem dX12_most_69 : decode cX12_most 69 = .ok (.invokevirtual 198, 3) := by decide +kernel
theorem dX12_most_72 : decode cX12_most 72 = .ok (.ifCond .eq 58, 3) := by decide +kernel
theorem dX12_most_75 : decode cX12_most 75 = .ok (.aload_n 0, 1) := by decide +kernel
theorem dX12_most_76 : decode cX12_most 76 = .ok (.invokevirtual 201, 3) := by decide +kernel
theorem dX12_most_79 : decode cX12_most 79 = .ok (.istore 5, 2) := by decide +kernel
theorem dX12_most_81 : decode cX12_most 81 = .ok (.aload_n 0, 1) := by decide +kernel
theorem dX12_most_82 : decode cX12_most 82 = .ok (.invokevirtual 204, 3) := by decide +kernel
theorem dX12_most_85 : decode cX12_most 85 = .ok (.istore 6, 2) := by decide +kernel
theorem dX12_most_87 : decode cX12_most 87 = .ok (.iload 4, 2) := by decide +kernel
theorem dX12_most_89 : decode cX12_most 89 = .ok (.ifCond .eq 21, 3) := by decide +kernel
theorem dX12_most_92 : decode cX12_most 92 = .ok (.iload 5, 2) := by decide +kernel
theorem dX12_most_94 : decode cX12_most 94 = .ok (.iload_n 2, 1) := by decide +kernel
theorem dX12_most_95 : decode cX12_most 95 = .ok (.if_icmp .gt 15, 3) := by decide +kernel
theorem dX12_most_98 : decode cX12_most 98 = .ok (.iload 5, 2) := by decide +kernel
theorem dX12_most_100 : decode cX12_most 100 = .ok (.iload_n 2, 1) := by decide +kernel
theorem dX12_most_101 : decode cX12_most 101 = .ok (.if_icmp .ne 14, 3) := by decide +kernel
theorem dX12_most_104 : decode cX12_most 104 = .ok (.iload 6, 2) := by decide +kernel
theorem dX12_most_106 : decode cX12_most 106 = .ok (.iload_n 3, 1) := by decide +kernel
theorem dX12_most_107 : decode cX12_most 107 = .ok (.if_icmp .ge 8, 3) := by decide +kernel
theorem dX12_most_110 : decode cX12_most 110 = .ok (.iload 6, 2) := by decide +kernel
theorem dX12_most_112 : decode cX12_most 112 = .ok (.goto 4, 3) := by decide +kernel
theorem dX12_most_115 : decode cX12_most 115 = .ok (.iload_n 3, 1) := by decide +kernel
theorem dX12_most_116 : decode cX12_most 116 = .ok (.istore_n 3, 1) := by decide +kernel
theorem dX12_most_117 : decode cX12_most 117 = .ok (.iload 5, 2) := by decide +kernel
theorem dX12_most_119 : decode cX12_most 119 = .ok (.iload_n 2, 1) := by decide +kernel
theorem dX12_most_120 : decode cX12_most 120 = .ok (.if_icmp .le 8, 3) := by decide +kernel
theorem dX12_most_123 : decode cX12_most 123 = .ok (.iload 5, 2) := by decide +kernel
theorem dX12_most_125 : decode cX12_most 125 = .ok (.goto 4, 3) := by decide +kernel
theorem dX12_most_128 : decode cX12_most 128 = .ok (.iload_n 2, 1) := by decide +kernel
theorem dX12_most_129 : decode cX12_most 129 = .ok (.istore_n 2, 1) := by decide +kernel
theorem dX12_most_130 : decode cX12_most 130 = .ok (.iinc 4 1, 3) := by decide +kernel
theorem dX12_most_133 : decode cX12_most 133 = .ok (.goto (-75), 3) := by decide +kernel
theorem dX12_most_136 : decode cX12_most 136 = .ok (.iload_n 1, 1) := by decide +kernel
theorem dX12_most_137 : decode cX12_most 137 = .ok (.ifCond .ne 7, 3) := by decide +kernel
theorem dX12_most_140 : decode cX12_most 140 = .ok (.iload_n 2, 1) := by decide +kernel
theorem dX12_most_141 : decode cX12_most 141 = .ok (.goto 4, 3) := by decide +kernel
theorem dX12_most_144 : decode cX12_most 144 = .ok (.iload_n 3, 1) := by decide +kernel
theorem dX12_most_145 : decode cX12_most 145 = .ok (.ireturn, 1) := by decide +kernel
theorem dX12_tryThing_0 : decode cX12_tryThing 0 = .ok (.iload_n 1, 1) := by decide +kernel
theorem dX12_tryThing_1 : decode cX12_tryThing 1 = .ok (.tableswitch 228 0 4 #[35, 56, 105, 155, 198], 35) := by decide +kernel
theorem dX12_tryThing_36 : decode cX12_tryThing 36 = .ok (.aload_n 0, 1) := by decide +kernel
theorem dX12_tryThing_37 : decode cX12_tryThing 37 = .ok (.iconst 1, 1) := by decide +kernel
theorem dX12_tryThing_38 : decode cX12_tryThing 38 = .ok (.iconst 1, 1) := by decide +kernel
theorem dX12_tryThing_39 : decode cX12_tryThing 39 = .ok (.invokevirtual 177, 3) := by decide +kernel
theorem dX12_tryThing_42 : decode cX12_tryThing 42 = .ok (.pop, 1) := by decide +kernel
theorem dX12_tryThing_43 : decode cX12_tryThing 43 = .ok (.iload_n 2, 1) := by decide +kernel
theorem dX12_tryThing_44 : decode cX12_tryThing 44 = .ok (.ifCond .ne 11, 3) := by decide +kernel
theorem dX12_tryThing_47 : decode cX12_tryThing 47 = .ok (.iload_n 3, 1) := by decide +kernel
theorem dX12_tryThing_48 : decode cX12_tryThing 48 = .ok (.ifCond .ne 7, 3) := by decide +kernel
theorem dX12_tryThing_51 : decode cX12_tryThing 51 = .ok (.iconst 1, 1) := by decide +kernel
theorem dX12_tryThing_52 : decode cX12_tryThing 52 = .ok (.goto 4, 3) := by decide +kernel
theorem dX12_tryThing_55 : decode cX12_tryThing 55 = .ok (.iconst 0, 1) := by decide +kernel
theorem dX12_tryThing_56 : decode cX12_tryThing 56 = .ok (.ireturn, 1) := by decide +kernel
theorem dX12_tryThing_57 : decode cX12_tryThing 57 = .ok (.iload_n 2, 1) := by decide +kernel
theorem dX12_tryThing_58 : decode cX12_tryThing 58 = .ok (.ifCond .ne 27, 3) := by decide +kernel
theorem dX12_tryThing_61 : decode cX12_tryThing 61 = .ok (.aload_n 0, 1) := by decide +kernel
theorem dX12_tryThing_62 : decode cX12_tryThing 62 = .ok (.iload_n 3, 1) := by decide +kernel
theorem dX12_tryThing_63 : decode cX12_tryThing 63 = .ok (.invokevirtual 152, 3) := by decide +kernel
theorem dX12_tryThing_66 : decode cX12_tryThing 66 = .ok (.ifCond .eq 19, 3) := by decide +kernel
theorem dX12_tryThing_69 : decode cX12_tryThing 69 = .ok (.aload_n 0, 1) := by decide +kernel
theorem dX12_tryThing_70 : decode cX12_tryThing 70 = .ok (.getfield 28, 3) := by decide +kernel
theorem dX12_tryThing_73 : decode cX12_tryThing 73 = .ok (.bipush 36, 2) := by decide +kernel
theorem dX12_tryThing_75 : decode cX12_tryThing 75 = .ok (.iload_n 3, 1) := by decide +kernel
theorem dX12_tryThing_76 : decode cX12_tryThing 76 = .ok (.iadd, 1) := by decide +kernel
theorem dX12_tryThing_77 : decode cX12_tryThing 77 = .ok (.iaload, 1) := by decide +kernel
theorem dX12_tryThing_78 : decode cX12_tryThing 78 = .ok (.ifCond .ne 7, 3) := by decide +kernel
theorem dX12_tryThing_81 : decode cX12_tryThing 81 = .ok (.iconst 1, 1) := by decide +kernel
theorem dX12_tryThing_82 : decode cX12_tryThing 82 = .ok (.goto 4, 3) := by decide +kernel
theorem dX12_tryThing_85 : decode cX12_tryThing 85 = .ok (.iconst 0, 1) := by decide +kernel
theorem dX12_tryThing_86 : decode cX12_tryThing 86 = .ok (.istore 4, 2) := by decide +kernel
theorem dX12_tryThing_88 : decode cX12_tryThing 88 = .ok (.iload 4, 2) := by decide +kernel
theorem dX12_tryThing_90 : decode cX12_tryThing 90 = .ok (.ifCond .eq 13, 3) := by decide +kernel
theorem dX12_tryThing_93 : decode cX12_tryThing 93 = .ok (.aload_n 0, 1) := by decide +kernel
theorem dX12_tryThing_94 : decode cX12_tryThing 94 = .ok (.getfield 28, 3) := by decide +kernel
theorem dX12_tryThing_97 : decode cX12_tryThing 97 = .ok (.bipush 36, 2) := by decide +kernel
theorem dX12_tryThing_99 : decode cX12_tryThing 99 = .ok (.iload_n 3, 1) := by decide +kernel
theorem dX12_tryThing_100 : decode cX12_tryThing 100 = .ok (.iadd, 1) := by decide +kernel
theorem dX12_tryThing_101 : decode cX12_tryThing 101 = .ok (.iconst 1, 1) := by decide +kernel
theorem dX12_tryThing_102 : decode cX12_tryThing 102 = .ok (.iastore, 1) := by decide +kernel
theorem dX12_tryThing_103 : decode cX12_tryThing 103 = .ok (.iload 4, 2) := by decide +kernel
theorem dX12_tryThing_105 : decode cX12_tryThing 105 = .ok (.ireturn, 1) := by decide +kernel
theorem dX12_tryThing_106 : decode cX12_tryThing 106 = .ok (.iload_n 2, 1) := by decide +kernel
theorem dX12_tryThing_107 : decode cX12_tryThing 107 = .ok (.ifCond .ne 28, 3) := by decide +kernel
theorem dX12_tryThing_110 : decode cX12_tryThing 110 = .ok (.aload_n 0, 1) := by decide +kernel
theorem dX12_tryThing_111 : decode cX12_tryThing 111 = .ok (.iload_n 3, 1) := by decide +kernel
theorem dX12_tryThing_112 : decode cX12_tryThing 112 = .ok (.invokevirtual 152, 3) := by decide +kernel
theorem dX12_tryThing_115 : decode cX12_tryThing 115 = .ok (.ifCond .eq 20, 3) := by decide +kernel
theorem dX12_tryThing_118 : decode cX12_tryThing 118 = .ok (.aload_n 0, 1) := by decide +kernel
theorem dX12_tryThing_119 : decode cX12_tryThing 119 = .ok (.getfield 28, 3) := by decide +kernel
theorem dX12_tryThing_122 : decode cX12_tryThing 122 = .ok (.bipush 36, 2) := by decide +kernel
theorem dX12_tryThing_124 : decode cX12_tryThing 124 = .ok (.iload_n 3, 1) := by decide +kernel
theorem dX12_tryThing_125 : decode cX12_tryThing 125 = .ok (.iadd, 1) := by decide +kernel
theorem dX12_tryThing_126 : decode cX12_tryThing 126 = .ok (.iaload, 1) := by decide +kernel
theorem dX12_tryThing_127 : decode cX12_tryThing 127 = .ok (.iconst 2, 1) := by decide +kernel
theorem dX12_tryThing_128 : decode cX12_tryThing 128 = .ok (.if_icmp .ne 7, 3) := by decide +kernel
theorem dX12_tryThing_131 : decode cX12_tryThing 131 = .ok (.iconst 1, 1) := by decide +kernel
theorem dX12_tryThing_132 : decode cX12_tryThing 132 = .ok (.goto 4, 3) := by decide +kernel
theorem dX12_tryThing_135 : decode cX12_tryThing 135 = .ok (.iconst 0, 1) := by decide +kernel
theorem dX12_tryThing_136 : decode cX12_tryThing 136 = .ok (.istore 5, 2) := by decide +kernel
theorem dX12_tryThing_138 : decode cX12_tryThing 138 = .ok (.iload 5, 2) := by decide +kernel
theorem dX12_tryThing_140 : decode cX12_tryThing 140 = .ok (.ifCond .eq 13, 3) := by decide +kernel
theorem dX12_tryThing_143 : decode cX12_tryThing 143 = .ok (.aload_n 0, 1) := by decide +kernel
theorem dX12_tryThing_144 : decode cX12_tryThing 144 = .ok (.getfield 28, 3) := by decide +kernel
theorem dX12_tryThing_147 : decode cX12_tryThing 147 = .ok (.bipush 36, 2) := by decide +kernel
theorem dX12_tryThing_149 : decode cX12_tryThing 149 = .ok (.iload_n 3, 1) := by decide +kernel
theorem dX12_tryThing_150 : decode cX12_tryThing 150 = .ok (.iadd, 1) := by decide +kernel
theorem dX12_tryThing_151 : decode cX12_tryThing 151 = .ok (.iconst 1, 1) := by decide +kernel
theorem dX12_tryThing_152 : decode cX12_tryThing 152 = .ok (.iastore, 1) := by decide +kernel
theorem dX12_tryThing_153 : decode cX12_tryThing 153 = .ok (.iload 5, 2) := by decide +kernel
theorem dX12_tryThing_155 : decode cX12_tryThing 155 = .ok (.ireturn, 1) := by decide +kernel
theorem dX12_tryThing_156 : decode cX12_tryThing 156 = .ok (.aload_n 0, 1) := by decide +kernel
theorem dX12_tryThing_157 : decode cX12_tryThing 157 = .ok (.iload_n 2, 1) := by decide +kernel
theorem dX12_tryThing_158 : decode cX12_tryThing 158 = .ok (.invokevirtual 152, 3) := by decide +kernel
theorem dX12_tryThing_161 : decode cX12_tryThing 161 = .ok (.ifCond .eq 20, 3) := by decide +kernel
theorem dX12_tryThing_164 : decode cX12_tryThing 164 = .ok (.aload_n 0, 1) := by decide +kernel
theorem dX12_tryThing_165 : decode cX12_tryThing 165 = .ok (.iload_n 3, 1) := by decide +kernel
theorem dX12_tryThing_166 : decode cX12_tryThing 166 = .ok (.invokevirtual 152, 3) := by decide +kernel
theorem dX12_tryThing_169 : decode cX12_tryThing 169 = .ok (.ifCond .eq 12, 3) := by decide +kernel
theorem dX12_tryThing_172 : decode cX12_tryThing 172 = .ok (.iload_n 2, 1) := by decide +kernel
theorem dX12_tryThing_173 : decode cX12_tryThing 173 = .ok (.iload_n 3, 1) := by decide +kernel
theorem dX12_tryThing_174 : decode cX12_tryThing 174 = .ok (.if_icmp .eq 7, 3) := by decide +kernel
theorem dX12_tryThing_177 : decode cX12_tryThing 177 = .ok (.iconst 1, 1) := by decide +kernel
theorem dX12_tryThing_178 : decode cX12_tryThing 178 = .ok (.goto 4, 3) := by decide +kernel
theorem dX12_tryThing_181 : decode cX12_tryThing 181 = .ok (.iconst 0, 1) := by decide +kernel
theorem dX12_tryThing_182 : decode cX12_tryThing 182 = .ok (.istore 6, 2) := by decide +kernel
theorem dX12_tryThing_184 : decode cX12_tryThing 184 = .ok (.iload 6, 2) := by decide +kernel
theorem dX12_tryThing_186 : decode cX12_tryThing 186 = .ok (.ifCond .eq 10, 3) := by decide +kernel
theorem dX12_tryThing_189 : decode cX12_tryThing 189 = .ok (.aload_n 0, 1) := by decide +kernel
theorem dX12_tryThing_190 : decode cX12_tryThing 190 = .ok (.iconst 1, 1) := by decide +kernel
theorem dX12_tryThing_191 : decode cX12_tryThing 191 = .ok (.iload_n 2, 1) := by decide +kernel
theorem dX12_tryThing_192 : decode cX12_tryThing 192 = .ok (.iload_n 3, 1) := by decide +kernel
theorem dX12_tryThing_193 : decode cX12_tryThing 193 = .ok (.invokevirtual 181, 3) := by decide +kernel
theorem dX12_tryThing_196 : decode cX12_tryThing 196 = .ok (.iload 6, 2) := by decide +kernel
theorem dX12_tryThing_198 : decode cX12_tryThing 198 = .ok (.ireturn, 1) := by decide +kernel
theorem dX12_tryThing_199 : decode cX12_tryThing 199 = .ok (.iload_n 2, 1) := by decide +kernel
theorem dX12_tryThing_200 : decode cX12_tryThing 200 = .ok (.ifCond .ne 27, 3) := by decide +kernel
theorem dX12_tryThing_203 : decode cX12_tryThing 203 = .ok (.aload_n 0, 1) := by decide +kernel
theorem dX12_tryThing_204 : decode cX12_tryThing 204 = .ok (.iload_n 3, 1) := by decide +kernel
theorem dX12_tryThing_205 : decode cX12_tryThing 205 = .ok (.invokevirtual 152, 3) := by decide +kernel
theorem dX12_tryThing_208 : decode cX12_tryThing 208 = .ok (.ifCond .eq 19, 3) := by decide +kernel
theorem dX12_tryThing_211 : decode cX12_tryThing 211 = .ok (.aload_n 0, 1) := by decide +kernel
theorem dX12_tryThing_212 : decode cX12_tryThing 212 = .ok (.iconst 1, 1) := by decide +kernel
theorem dX12_tryThing_213 : decode cX12_tryThing 213 = .ok (.invokevirtual 156, 3) := by decide +kernel
theorem dX12_tryThing_216 : decode cX12_tryThing 216 = .ok (.iload_n 3, 1) := by decide +kernel
theorem dX12_tryThing_217 : decode cX12_tryThing 217 = .ok (.invokestatic 86, 3) := by decide +kernel
theorem dX12_tryThing_220 : decode cX12_tryThing 220 = .ok (.ifCond .eq 7, 3) := by decide +kernel
theorem dX12_tryThing_223 : decode cX12_tryThing 223 = .ok (.iconst 1, 1) := by decide +kernel
theorem dX12_tryThing_224 : decode cX12_tryThing 224 = .ok (.goto 4, 3) := by decide +kernel
theorem dX12_tryThing_227 : decode cX12_tryThing 227 = .ok (.iconst 0, 1) := by decide +kernel
theorem dX12_tryThing_228 : decode cX12_tryThing 228 = .ok (.ireturn, 1) := by decide +kernel
theorem dX12_tryThing_229 : decode cX12_tryThing 229 = .ok (.iconst 0, 1) := by decide +kernel
theorem dX12_tryThing_230 : decode cX12_tryThing 230 = .ok (.ireturn, 1) := by decide +kernel
theorem dX12_thousandTo_0 : decode cX12_thousandTo 0 = .ok (.lconst 1, 1) := by decide +kernel
theorem dX12_thousandTo_1 : decode cX12_thousandTo 1 = .ok (.lstore_n 1, 1) := by decide +kernel
theorem dX12_thousandTo_2 : decode cX12_thousandTo 2 = .ok (.iconst 0, 1) := by decide +kernel
theorem dX12_thousandTo_3 : decode cX12_thousandTo 3 = .ok (.istore_n 3, 1) := by decide +kernel
theorem dX12_thousandTo_4 : decode cX12_thousandTo 4 = .ok (.iload_n 3, 1) := by decide +kernel
theorem dX12_thousandTo_5 : decode cX12_thousandTo 5 = .ok (.iload_n 0, 1) := by decide +kernel
theorem dX12_thousandTo_6 : decode cX12_thousandTo 6 = .ok (.if_icmp .ge 15, 3) := by decide +kernel
theorem dX12_thousandTo_9 : decode cX12_thousandTo 9 = .ok (.lload_n 1, 1) := by decide +kernel
theorem dX12_thousandTo_10 : decode cX12_thousandTo 10 = .ok (.ldc2_w 207, 3) := by decide +kernel
theorem dX12_thousandTo_13 : decode cX12_thousandTo 13 = .ok (.lmul, 1) := by decide +kernel
theorem dX12_thousandTo_14 : decode cX12_thousandTo 14 = .ok (.lstore_n 1, 1) := by decide +kernel
theorem dX12_thousandTo_15 : decode cX12_thousandTo 15 = .ok (.iinc 3 1, 3) := by decide +kernel
theorem dX12_thousandTo_18 : decode cX12_thousandTo 18 = .ok (.goto (-14), 3) := by decide +kernel
theorem dX12_thousandTo_21 : decode cX12_thousandTo 21 = .ok (.lload_n 1, 1) := by decide +kernel
theorem dX12_thousandTo_22 : decode cX12_thousandTo 22 = .ok (.lreturn, 1) := by decide +kernel
theorem dX12_judge_0 : decode cX12_judge 0 = .ok (.iload_n 1, 1) := by decide +kernel
theorem dX12_judge_1 : decode cX12_judge 1 = .ok (.i2l, 1) := by decide +kernel
theorem dX12_judge_2 : decode cX12_judge 2 = .ok (.lconst 1, 1) := by decide +kernel
theorem dX12_judge_3 : decode cX12_judge 3 = .ok (.ldc2_w 209, 3) := by decide +kernel
theorem dX12_judge_6 : decode cX12_judge 6 = .ok (.invokestatic 71, 3) := by decide +kernel
theorem dX12_judge_9 : decode cX12_judge 9 = .ok (.ifCond .eq 17, 3) := by decide +kernel
theorem dX12_judge_12 : decode cX12_judge 12 = .ok (.lload_n 2, 1) := by decide +kernel
theorem dX12_judge_13 : decode cX12_judge 13 = .ok (.lconst 0, 1) := by decide +kernel
theorem dX12_judge_14 : decode cX12_judge 14 = .ok (.iload_n 1, 1) := by decide +kernel
theorem dX12_judge_15 : decode cX12_judge 15 = .ok (.invokestatic 211, 3) := by decide +kernel
theorem dX12_judge_18 : decode cX12_judge 18 = .ok (.lconst 1, 1) := by decide +kernel
theorem dX12_judge_19 : decode cX12_judge 19 = .ok (.lsub, 1) := by decide +kernel
theorem dX12_judge_20 : decode cX12_judge 20 = .ok (.invokestatic 71, 3) := by decide +kernel
theorem dX12_judge_23 : decode cX12_judge 23 = .ok (.ifCond .ne 6, 3) := by decide +kernel
theorem dX12_judge_26 : decode cX12_judge 26 = .ok (.bipush (-2), 2) := by decide +kernel
theorem dX12_judge_28 : decode cX12_judge 28 = .ok (.ireturn, 1) := by decide +kernel
theorem dX12_judge_29 : decode cX12_judge 29 = .ok (.aload_n 0, 1) := by decide +kernel
theorem dX12_judge_30 : decode cX12_judge 30 = .ok (.invokevirtual 186, 3) := by decide +kernel
theorem dX12_judge_33 : decode cX12_judge 33 = .ok (.iconst 0, 1) := by decide +kernel
theorem dX12_judge_34 : decode cX12_judge 34 = .ok (.istore 4, 2) := by decide +kernel
theorem dX12_judge_36 : decode cX12_judge 36 = .ok (.iload 4, 2) := by decide +kernel
theorem dX12_judge_38 : decode cX12_judge 38 = .ok (.iload_n 1, 1) := by decide +kernel
theorem dX12_judge_39 : decode cX12_judge 39 = .ok (.if_icmp .ge 55, 3) := by decide +kernel
theorem dX12_judge_42 : decode cX12_judge 42 = .ok (.lload_n 2, 1) := by decide +kernel
theorem dX12_judge_43 : decode cX12_judge 43 = .ok (.iload_n 1, 1) := by decide +kernel
theorem dX12_judge_44 : decode cX12_judge 44 = .ok (.iconst 1, 1) := by decide +kernel
theorem dX12_judge_45 : decode cX12_judge 45 = .ok (.isub, 1) := by decide +kernel
theorem dX12_judge_46 : decode cX12_judge 46 = .ok (.iload 4, 2) := by decide +kernel
theorem dX12_judge_48 : decode cX12_judge 48 = .ok (.isub, 1) := by decide +kernel
theorem dX12_judge_49 : decode cX12_judge 49 = .ok (.invokestatic 211, 3) := by decide +kernel
theorem dX12_judge_52 : decode cX12_judge 52 = .ok (.ldiv, 1) := by decide +kernel
theorem dX12_judge_53 : decode cX12_judge 53 = .ok (.ldc2_w 207, 3) := by decide +kernel
theorem dX12_judge_56 : decode cX12_judge 56 = .ok (.lrem, 1) := by decide +kernel
theorem dX12_judge_57 : decode cX12_judge 57 = .ok (.l2i, 1) := by decide +kernel
theorem dX12_judge_58 : decode cX12_judge 58 = .ok (.istore 5, 2) := by decide +kernel
theorem dX12_judge_60 : decode cX12_judge 60 = .ok (.aload_n 0, 1) := by decide +kernel
theorem dX12_judge_61 : decode cX12_judge 61 = .ok (.iload 5, 2) := by decide +kernel
theorem dX12_judge_63 : decode cX12_judge 63 = .ok (.bipush 100, 2) := by decide +kernel
theorem dX12_judge_65 : decode cX12_judge 65 = .ok (.idiv, 1) := by decide +kernel
theorem dX12_judge_66 : decode cX12_judge 66 = .ok (.iload 5, 2) := by decide +kernel
theorem dX12_judge_68 : decode cX12_judge 68 = .ok (.bipush 10, 2) := by decide +kernel
theorem dX12_judge_70 : decode cX12_judge 70 = .ok (.idiv, 1) := by decide +kernel
theorem dX12_judge_71 : decode cX12_judge 71 = .ok (.bipush 10, 2) := by decide +kernel
theorem dX12_judge_73 : decode cX12_judge 73 = .ok (.irem, 1) := by decide +kernel
theorem dX12_judge_74 : decode cX12_judge 74 = .ok (.iload 5, 2) := by decide +kernel
theorem dX12_judge_76 : decode cX12_judge 76 = .ok (.bipush 10, 2) := by decide +kernel
theorem dX12_judge_78 : decode cX12_judge 78 = .ok (.irem, 1) := by decide +kernel
theorem dX12_judge_79 : decode cX12_judge 79 = .ok (.invokevirtual 215, 3) := by decide +kernel
theorem dX12_judge_82 : decode cX12_judge 82 = .ok (.ifCond .ne 6, 3) := by decide +kernel
theorem dX12_judge_85 : decode cX12_judge 85 = .ok (.iload 4, 2) := by decide +kernel
theorem dX12_judge_87 : decode cX12_judge 87 = .ok (.ireturn, 1) := by decide +kernel
theorem dX12_judge_88 : decode cX12_judge 88 = .ok (.iinc 4 1, 3) := by decide +kernel
theorem dX12_judge_91 : decode cX12_judge 91 = .ok (.goto (-55), 3) := by decide +kernel
theorem dX12_judge_94 : decode cX12_judge 94 = .ok (.bipush (-9), 2) := by decide +kernel
theorem dX12_judge_96 : decode cX12_judge 96 = .ok (.ireturn, 1) := by decide +kernel
theorem dX12_find_0 : decode cX12_find 0 = .ok (.iload_n 1, 1) := by decide +kernel
theorem dX12_find_1 : decode cX12_find 1 = .ok (.invokestatic 219, 3) := by decide +kernel
theorem dX12_find_4 : decode cX12_find 4 = .ok (.ifCond .ne 5, 3) := by decide +kernel
theorem dX12_find_7 : decode cX12_find 7 = .ok (.iconst (-1), 1) := by decide +kernel
theorem dX12_find_8 : decode cX12_find 8 = .ok (.ireturn, 1) := by decide +kernel
theorem dX12_find_9 : decode cX12_find 9 = .ok (.iload_n 2, 1) := by decide +kernel
theorem dX12_find_10 : decode cX12_find 10 = .ok (.i2l, 1) := by decide +kernel
theorem dX12_find_11 : decode cX12_find 11 = .ok (.lconst 0, 1) := by decide +kernel
theorem dX12_find_12 : decode cX12_find 12 = .ok (.ldc2_w 222, 3) := by decide +kernel
theorem dX12_find_15 : decode cX12_find 15 = .ok (.invokestatic 71, 3) := by decide +kernel
theorem dX12_find_18 : decode cX12_find 18 = .ok (.ifCond .ne 6, 3) := by decide +kernel
theorem dX12_find_21 : decode cX12_find 21 = .ok (.bipush (-2), 2) := by decide +kernel
theorem dX12_find_23 : decode cX12_find 23 = .ok (.ireturn, 1) := by decide +kernel
theorem dX12_find_24 : decode cX12_find 24 = .ok (.aload_n 0, 1) := by decide +kernel
theorem dX12_find_25 : decode cX12_find 25 = .ok (.getfield 224, 3) := by decide +kernel
theorem dX12_find_28 : decode cX12_find 28 = .ok (.bipush 6, 2) := by decide +kernel
theorem dX12_find_30 : decode cX12_find 30 = .ok (.if_icmp .ne 6, 3) := by decide +kernel
theorem dX12_find_33 : decode cX12_find 33 = .ok (.bipush (-4), 2) := by decide +kernel
theorem dX12_find_35 : decode cX12_find 35 = .ok (.ireturn, 1) := by decide +kernel
theorem dX12_find_36 : decode cX12_find 36 = .ok (.aload_n 0, 1) := by decide +kernel
theorem dX12_find_37 : decode cX12_find 37 = .ok (.getfield 56, 3) := by decide +kernel
theorem dX12_find_40 : decode cX12_find 40 = .ok (.aload_n 0, 1) := by decide +kernel
theorem dX12_find_41 : decode cX12_find 41 = .ok (.getfield 224, 3) := by decide +kernel
theorem dX12_find_44 : decode cX12_find 44 = .ok (.iload_n 1, 1) := by decide +kernel
theorem dX12_find_45 : decode cX12_find 45 = .ok (.iastore, 1) := by decide +kernel
theorem dX12_find_46 : decode cX12_find 46 = .ok (.aload_n 0, 1) := by decide +kernel
theorem dX12_find_47 : decode cX12_find 47 = .ok (.getfield 59, 3) := by decide +kernel
theorem dX12_find_50 : decode cX12_find 50 = .ok (.aload_n 0, 1) := by decide +kernel
theorem dX12_find_51 : decode cX12_find 51 = .ok (.getfield 224, 3) := by decide +kernel
theorem dX12_find_54 : decode cX12_find 54 = .ok (.iload_n 2, 1) := by decide +kernel
theorem dX12_find_55 : decode cX12_find 55 = .ok (.iastore, 1) := by decide +kernel
theorem dX12_find_56 : decode cX12_find 56 = .ok (.aload_n 0, 1) := by decide +kernel
theorem dX12_find_57 : decode cX12_find 57 = .ok (.dup, 1) := by decide +kernel
theorem dX12_find_58 : decode cX12_find 58 = .ok (.getfield 224, 3) := by decide +kernel
theorem dX12_find_61 : decode cX12_find 61 = .ok (.iconst 1, 1) := by decide +kernel
theorem dX12_find_62 : decode cX12_find 62 = .ok (.iadd, 1) := by decide +kernel
theorem dX12_find_63 : decode cX12_find 63 = .ok (.putfield 224, 3) := by decide +kernel
theorem dX12_find_66 : decode cX12_find 66 = .ok (.aload_n 0, 1) := by decide +kernel
theorem dX12_find_67 : decode cX12_find 67 = .ok (.getfield 224, 3) := by decide +kernel
theorem dX12_find_70 : decode cX12_find 70 = .ok (.ireturn, 1) := by decide +kernel
theorem dX12_lose_0 : decode cX12_lose 0 = .ok (.aload_n 0, 1) := by decide +kernel
theorem dX12_lose_1 : decode cX12_lose 1 = .ok (.getfield 224, 3) := by decide +kernel
theorem dX12_lose_4 : decode cX12_lose 4 = .ok (.istore_n 1, 1) := by decide +kernel
theorem dX12_lose_5 : decode cX12_lose 5 = .ok (.aload_n 0, 1) := by decide +kernel
theorem dX12_lose_6 : decode cX12_lose 6 = .ok (.iconst 0, 1) := by decide +kernel
theorem dX12_lose_7 : decode cX12_lose 7 = .ok (.putfield 224, 3) := by decide +kernel
theorem dX12_lose_10 : decode cX12_lose 10 = .ok (.iload_n 1, 1) := by decide +kernel
theorem dX12_lose_11 : decode cX12_lose 11 = .ok (.ireturn, 1) := by decide +kernel
theorem dX12_behind_0 : decode cX12_behind 0 = .ok (.iload_n 1, 1) := by decide +kernel
theorem dX12_behind_1 : decode cX12_behind 1 = .ok (.istore 4, 2) := by decide +kernel
theorem dX12_behind_3 : decode cX12_behind 3 = .ok (.iconst 0, 1) := by decide +kernel
theorem dX12_behind_4 : decode cX12_behind 4 = .ok (.istore 5, 2) := by decide +kernel
theorem dX12_behind_6 : decode cX12_behind 6 = .ok (.iconst 0, 1) := by decide +kernel
theorem dX12_behind_7 : decode cX12_behind 7 = .ok (.istore 6, 2) := by decide +kernel
theorem dX12_behind_9 : decode cX12_behind 9 = .ok (.iload 6, 2) := by decide +kernel
theorem dX12_behind_11 : decode cX12_behind 11 = .ok (.iload_n 3, 1) := by decide +kernel
theorem dX12_behind_12 : decode cX12_behind 12 = .ok (.if_icmp .ge 108, 3) := by decide +kernel
theorem dX12_behind_15 : decode cX12_behind 15 = .ok (.iload 4, 2) := by decide +kernel
theorem dX12_behind_17 : decode cX12_behind 17 = .ok (.bipush (-9), 2) := by decide +kernel
theorem dX12_behind_19 : decode cX12_behind 19 = .ok (.if_icmp .eq 101, 3) := by decide +kernel
theorem dX12_behind_22 : decode cX12_behind 22 = .ok (.iload_n 2, 1) := by decide +kernel
theorem dX12_behind_23 : decode cX12_behind 23 = .ok (.iconst 2, 1) := by decide +kernel
theorem dX12_behind_24 : decode cX12_behind 24 = .ok (.if_icmp .ne 15, 3) := by decide +kernel
theorem dX12_behind_27 : decode cX12_behind 27 = .ok (.iload 6, 2) := by decide +kernel
theorem dX12_behind_29 : decode cX12_behind 29 = .ok (.iconst 2, 1) := by decide +kernel
theorem dX12_behind_30 : decode cX12_behind 30 = .ok (.irem, 1) := by decide +kernel
theorem dX12_behind_31 : decode cX12_behind 31 = .ok (.iconst 1, 1) := by decide +kernel
theorem dX12_behind_32 : decode cX12_behind 32 = .ok (.if_icmp .ne 7, 3) := by decide +kernel
theorem dX12_behind_35 : decode cX12_behind 35 = .ok (.iconst 0, 1) := by decide +kernel
theorem dX12_behind_36 : decode cX12_behind 36 = .ok (.goto 9, 3) := by decide +kernel
theorem dX12_behind_39 : decode cX12_behind 39 = .ok (.aload_n 0, 1) := by decide +kernel
theorem dX12_behind_40 : decode cX12_behind 40 = .ok (.iload 6, 2) := by decide +kernel
theorem dX12_behind_42 : decode cX12_behind 42 = .ok (.invokevirtual 137, 3) := by decide +kernel
theorem dX12_behind_45 : decode cX12_behind 45 = .ok (.istore 7, 2) := by decide +kernel
theorem dX12_behind_47 : decode cX12_behind 47 = .ok (.iload 5, 2) := by decide +kernel
theorem dX12_behind_49 : decode cX12_behind 49 = .ok (.ifCond .ne 12, 3) := by decide +kernel
theorem dX12_behind_52 : decode cX12_behind 52 = .ok (.aload_n 0, 1) := by decide +kernel
theorem dX12_behind_53 : decode cX12_behind 53 = .ok (.iload 6, 2) := by decide +kernel
theorem dX12_behind_55 : decode cX12_behind 55 = .ok (.invokevirtual 137, 3) := by decide +kernel
theorem dX12_behind_58 : decode cX12_behind 58 = .ok (.goto 5, 3) := by decide +kernel
theorem dX12_behind_61 : decode cX12_behind 61 = .ok (.iload 5, 2) := by decide +kernel
theorem dX12_behind_63 : decode cX12_behind 63 = .ok (.istore 5, 2) := by decide +kernel
theorem dX12_behind_65 : decode cX12_behind 65 = .ok (.iload_n 2, 1) := by decide +kernel
theorem dX12_behind_66 : decode cX12_behind 66 = .ok (.iconst 1, 1) := by decide +kernel
theorem dX12_behind_67 : decode cX12_behind 67 = .ok (.if_icmp .ne 8, 3) := by decide +kernel
theorem dX12_behind_70 : decode cX12_behind 70 = .ok (.iload 5, 2) := by decide +kernel
theorem dX12_behind_72 : decode cX12_behind 72 = .ok (.goto 5, 3) := by decide +kernel
theorem dX12_behind_75 : decode cX12_behind 75 = .ok (.iload 7, 2) := by decide +kernel
theorem dX12_behind_77 : decode cX12_behind 77 = .ok (.istore 7, 2) := by decide +kernel
theorem dX12_behind_79 : decode cX12_behind 79 = .ok (.iload 4, 2) := by decide +kernel
theorem dX12_behind_81 : decode cX12_behind 81 = .ok (.iload 7, 2) := by decide +kernel
theorem dX12_behind_83 : decode cX12_behind 83 = .ok (.invokestatic 129, 3) := by decide +kernel
theorem dX12_behind_86 : decode cX12_behind 86 = .ok (.istore 4, 2) := by decide +kernel
theorem dX12_behind_88 : decode cX12_behind 88 = .ok (.iload_n 2, 1) := by decide +kernel
theorem dX12_behind_89 : decode cX12_behind 89 = .ok (.iconst 3, 1) := by decide +kernel
theorem dX12_behind_90 : decode cX12_behind 90 = .ok (.if_icmp .ne 20, 3) := by decide +kernel
theorem dX12_behind_93 : decode cX12_behind 93 = .ok (.iload 4, 2) := by decide +kernel
theorem dX12_behind_95 : decode cX12_behind 95 = .ok (.bipush (-9), 2) := by decide +kernel
theorem dX12_behind_97 : decode cX12_behind 97 = .ok (.if_icmp .eq 13, 3) := by decide +kernel
theorem dX12_behind_100 : decode cX12_behind 100 = .ok (.iload 4, 2) := by decide +kernel
theorem dX12_behind_102 : decode cX12_behind 102 = .ok (.iload 7, 2) := by decide +kernel
theorem dX12_behind_104 : decode cX12_behind 104 = .ok (.invokestatic 129, 3) := by decide +kernel
theorem dX12_behind_107 : decode cX12_behind 107 = .ok (.goto 5, 3) := by decide +kernel
theorem dX12_behind_110 : decode cX12_behind 110 = .ok (.iload 4, 2) := by decide +kernel
theorem dX12_behind_112 : decode cX12_behind 112 = .ok (.istore 4, 2) := by decide +kernel
theorem dX12_behind_114 : decode cX12_behind 114 = .ok (.iinc 6 1, 3) := by decide +kernel
theorem dX12_behind_117 : decode cX12_behind 117 = .ok (.goto (-108), 3) := by decide +kernel
theorem dX12_behind_120 : decode cX12_behind 120 = .ok (.iload 4, 2) := by decide +kernel
theorem dX12_behind_122 : decode cX12_behind 122 = .ok (.ireturn, 1) := by decide +kernel
theorem dX12_began_0 : decode cX12_began 0 = .ok (.iload_n 1, 1) := by decide +kernel
theorem dX12_began_1 : decode cX12_began 1 = .ok (.i2l, 1) := by decide +kernel
theorem dX12_began_2 : decode cX12_began 2 = .ok (.lconst 0, 1) := by decide +kernel
theorem dX12_began_3 : decode cX12_began 3 = .ok (.ldc2_w 227, 3) := by decide +kernel
theorem dX12_began_6 : decode cX12_began 6 = .ok (.invokestatic 71, 3) := by decide +kernel
theorem dX12_began_9 : decode cX12_began 9 = .ok (.ifCond .ne 6, 3) := by decide +kernel
theorem dX12_began_12 : decode cX12_began 12 = .ok (.bipush (-2), 2) := by decide +kernel
theorem dX12_began_14 : decode cX12_began 14 = .ok (.ireturn, 1) := by decide +kernel
theorem dX12_began_15 : decode cX12_began 15 = .ok (.iconst 0, 1) := by decide +kernel
theorem dX12_began_16 : decode cX12_began 16 = .ok (.istore_n 2, 1) := by decide +kernel
theorem dX12_began_17 : decode cX12_began 17 = .ok (.iconst 0, 1) := by decide +kernel
theorem dX12_began_18 : decode cX12_began 18 = .ok (.istore_n 3, 1) := by decide +kernel
theorem dX12_began_19 : decode cX12_began 19 = .ok (.iload_n 3, 1) := by decide +kernel
theorem dX12_began_20 : decode cX12_began 20 = .ok (.bipush 20, 2) := by decide +kernel
theorem dX12_began_22 : decode cX12_began 22 = .ok (.if_icmp .ge 80, 3) := by decide +kernel
theorem dX12_began_25 : decode cX12_began 25 = .ok (.iconst 1, 1) := by decide +kernel
theorem dX12_began_26 : decode cX12_began 26 = .ok (.istore 4, 2) := by decide +kernel
theorem dX12_began_28 : decode cX12_began 28 = .ok (.iconst 0, 1) := by decide +kernel
theorem dX12_began_29 : decode cX12_began 29 = .ok (.istore 5, 2) := by decide +kernel
theorem dX12_began_31 : decode cX12_began 31 = .ok (.iload 5, 2) := by decide +kernel
theorem dX12_began_33 : decode cX12_began 33 = .ok (.aload_n 0, 1) := by decide +kernel
theorem dX12_began_34 : decode cX12_began 34 = .ok (.getfield 224, 3) := by decide +kernel
theorem dX12_began_37 : decode cX12_began 37 = .ok (.if_icmp .ge 44, 3) := by decide +kernel
theorem dX12_began_40 : decode cX12_began 40 = .ok (.iload 4, 2) := by decide +kernel
theorem dX12_began_42 : decode cX12_began 42 = .ok (.ifCond .eq 30, 3) := by decide +kernel
theorem dX12_began_45 : decode cX12_began 45 = .ok (.aload_n 0, 1) := by decide +kernel
theorem dX12_began_46 : decode cX12_began 46 = .ok (.iload_n 3, 1) := by decide +kernel
theorem dX12_began_47 : decode cX12_began 47 = .ok (.iload_n 1, 1) := by decide +kernel
theorem dX12_began_48 : decode cX12_began 48 = .ok (.aload_n 0, 1) := by decide +kernel
theorem dX12_began_49 : decode cX12_began 49 = .ok (.getfield 59, 3) := by decide +kernel
theorem dX12_began_52 : decode cX12_began 52 = .ok (.iload 5, 2) := by decide +kernel
theorem dX12_began_54 : decode cX12_began 54 = .ok (.iaload, 1) := by decide +kernel
theorem dX12_began_55 : decode cX12_began 55 = .ok (.invokevirtual 229, 3) := by decide +kernel
theorem dX12_began_58 : decode cX12_began 58 = .ok (.aload_n 0, 1) := by decide +kernel
theorem dX12_began_59 : decode cX12_began 59 = .ok (.getfield 56, 3) := by decide +kernel
theorem dX12_began_62 : decode cX12_began 62 = .ok (.iload 5, 2) := by decide +kernel
theorem dX12_began_64 : decode cX12_began 64 = .ok (.iaload, 1) := by decide +kernel
theorem dX12_began_65 : decode cX12_began 65 = .ok (.if_icmp .ne 7, 3) := by decide +kernel
theorem dX12_began_68 : decode cX12_began 68 = .ok (.iconst 1, 1) := by decide +kernel
theorem dX12_began_69 : decode cX12_began 69 = .ok (.goto 4, 3) := by decide +kernel
theorem dX12_began_72 : decode cX12_began 72 = .ok (.iconst 0, 1) := by decide +kernel
theorem dX12_began_73 : decode cX12_began 73 = .ok (.istore 4, 2) := by decide +kernel
theorem dX12_began_75 : decode cX12_began 75 = .ok (.iinc 5 1, 3) := by decide +kernel
theorem dX12_began_78 : decode cX12_began 78 = .ok (.goto (-47), 3) := by decide +kernel
theorem dX12_began_81 : decode cX12_began 81 = .ok (.iload_n 2, 1) := by decide +kernel
theorem dX12_began_82 : decode cX12_began 82 = .ok (.iload 4, 2) := by decide +kernel
theorem dX12_began_84 : decode cX12_began 84 = .ok (.ifCond .eq 9, 3) := by decide +kernel
theorem dX12_began_87 : decode cX12_began 87 = .ok (.iconst 1, 1) := by decide +kernel
theorem dX12_began_88 : decode cX12_began 88 = .ok (.iload_n 3, 1) := by decide +kernel
theorem dX12_began_89 : decode cX12_began 89 = .ok (.ishl, 1) := by decide +kernel
theorem dX12_began_90 : decode cX12_began 90 = .ok (.goto 4, 3) := by decide +kernel
theorem dX12_began_93 : decode cX12_began 93 = .ok (.iconst 0, 1) := by decide +kernel
theorem dX12_began_94 : decode cX12_began 94 = .ok (.ior, 1) := by decide +kernel
theorem dX12_began_95 : decode cX12_began 95 = .ok (.istore_n 2, 1) := by decide +kernel
theorem dX12_began_96 : decode cX12_began 96 = .ok (.iinc 3 1, 3) := by decide +kernel
theorem dX12_began_99 : decode cX12_began 99 = .ok (.goto (-80), 3) := by decide +kernel
theorem dX12_began_102 : decode cX12_began 102 = .ok (.iload_n 2, 1) := by decide +kernel
theorem dX12_began_103 : decode cX12_began 103 = .ok (.ireturn, 1) := by decide +kernel
theorem dX12_factorial_0 : decode cX12_factorial 0 = .ok (.iconst 1, 1) := by decide +kernel
theorem dX12_factorial_1 : decode cX12_factorial 1 = .ok (.istore_n 1, 1) := by decide +kernel
theorem dX12_factorial_2 : decode cX12_factorial 2 = .ok (.iconst 2, 1) := by decide +kernel
theorem dX12_factorial_3 : decode cX12_factorial 3 = .ok (.istore_n 2, 1) := by decide +kernel
theorem dX12_factorial_4 : decode cX12_factorial 4 = .ok (.iload_n 2, 1) := by decide +kernel
theorem dX12_factorial_5 : decode cX12_factorial 5 = .ok (.iload_n 0, 1) := by decide +kernel
theorem dX12_factorial_6 : decode cX12_factorial 6 = .ok (.if_icmp .gt 13, 3) := by decide +kernel
theorem dX12_factorial_9 : decode cX12_factorial 9 = .ok (.iload_n 1, 1) := by decide +kernel
theorem dX12_factorial_10 : decode cX12_factorial 10 = .ok (.iload_n 2, 1) := by decide +kernel
theorem dX12_factorial_11 : decode cX12_factorial 11 = .ok (.imul, 1) := by decide +kernel
theorem dX12_factorial_12 : decode cX12_factorial 12 = .ok (.istore_n 1, 1) := by decide +kernel
theorem dX12_factorial_13 : decode cX12_factorial 13 = .ok (.iinc 2 1, 3) := by decide +kernel
theorem dX12_factorial_16 : decode cX12_factorial 16 = .ok (.goto (-12), 3) := by decide +kernel
theorem dX12_factorial_19 : decode cX12_factorial 19 = .ok (.iload_n 1, 1) := by decide +kernel
theorem dX12_factorial_20 : decode cX12_factorial 20 = .ok (.ireturn, 1) := by decide +kernel
theorem dX12_common_0 : decode cX12_common 0 = .ok (.iload_n 0, 1) := by decide +kernel
theorem dX12_common_1 : decode cX12_common 1 = .ok (.ifCond .ge 8, 3) := by decide +kernel
theorem dX12_common_4 : decode cX12_common 4 = .ok (.iload_n 0, 1) := by decide +kernel
theorem dX12_common_5 : decode cX12_common 5 = .ok (.ineg, 1) := by decide +kernel
theorem dX12_common_6 : decode cX12_common 6 = .ok (.goto 4, 3) := by decide +kernel
theorem dX12_common_9 : decode cX12_common 9 = .ok (.iload_n 0, 1) := by decide +kernel
theorem dX12_common_10 : decode cX12_common 10 = .ok (.istore_n 2, 1) := by decide +kernel
theorem dX12_common_11 : decode cX12_common 11 = .ok (.iload_n 1, 1) := by decide +kernel
theorem dX12_common_12 : decode cX12_common 12 = .ok (.istore_n 3, 1) := by decide +kernel
theorem dX12_common_13 : decode cX12_common 13 = .ok (.iload_n 3, 1) := by decide +kernel
theorem dX12_common_14 : decode cX12_common 14 = .ok (.ifCond .eq 16, 3) := by decide +kernel
theorem dX12_common_17 : decode cX12_common 17 = .ok (.iload_n 2, 1) := by decide +kernel
theorem dX12_common_18 : decode cX12_common 18 = .ok (.iload_n 3, 1) := by decide +kernel
theorem dX12_common_19 : decode cX12_common 19 = .ok (.irem, 1) := by decide +kernel
theorem dX12_common_20 : decode cX12_common 20 = .ok (.istore 4, 2) := by decide +kernel
theorem dX12_common_22 : decode cX12_common 22 = .ok (.iload_n 3, 1) := by decide +kernel
theorem dX12_common_23 : decode cX12_common 23 = .ok (.istore_n 2, 1) := by decide +kernel
theorem dX12_common_24 : decode cX12_common 24 = .ok (.iload 4, 2) := by decide +kernel
theorem dX12_common_26 : decode cX12_common 26 = .ok (.istore_n 3, 1) := by decide +kernel
theorem dX12_common_27 : decode cX12_common 27 = .ok (.goto (-14), 3) := by decide +kernel
theorem dX12_common_30 : decode cX12_common 30 = .ok (.iload_n 2, 1) := by decide +kernel
theorem dX12_common_31 : decode cX12_common 31 = .ok (.ireturn, 1) := by decide +kernel
theorem dX12_gladOf_0 : decode cX12_gladOf 0 = .ok (.aload_n 0, 1) := by decide +kernel
theorem dX12_gladOf_1 : decode cX12_gladOf 1 = .ok (.iload_n 1, 1) := by decide +kernel
theorem dX12_gladOf_2 : decode cX12_gladOf 2 = .ok (.putfield 43, 3) := by decide +kernel
theorem dX12_gladOf_5 : decode cX12_gladOf 5 = .ok (.aload_n 0, 1) := by decide +kernel
theorem dX12_gladOf_6 : decode cX12_gladOf 6 = .ok (.invokevirtual 186, 3) := by decide +kernel
theorem dX12_gladOf_9 : decode cX12_gladOf 9 = .ok (.iconst 0, 1) := by decide +kernel
theorem dX12_gladOf_10 : decode cX12_gladOf 10 = .ok (.istore_n 2, 1) := by decide +kernel
theorem dX12_gladOf_11 : decode cX12_gladOf 11 = .ok (.iload_n 2, 1) := by decide +kernel
theorem dX12_gladOf_12 : decode cX12_gladOf 12 = .ok (.aload_n 0, 1) := by decide +kernel
theorem dX12_gladOf_13 : decode cX12_gladOf 13 = .ok (.getfield 120, 3) := by decide +kernel
theorem dX12_gladOf_16 : decode cX12_gladOf 16 = .ok (.if_icmp .ge 69, 3) := by decide +kernel
theorem dX12_gladOf_19 : decode cX12_gladOf 19 = .ok (.aload_n 0, 1) := by decide +kernel
theorem dX12_gladOf_20 : decode cX12_gladOf 20 = .ok (.getfield 28, 3) := by decide +kernel
theorem dX12_gladOf_23 : decode cX12_gladOf 23 = .ok (.iconst 5, 1) := by decide +kernel
theorem dX12_gladOf_24 : decode cX12_gladOf 24 = .ok (.iload_n 2, 1) := by decide +kernel
theorem dX12_gladOf_25 : decode cX12_gladOf 25 = .ok (.iadd, 1) := by decide +kernel
theorem dX12_gladOf_26 : decode cX12_gladOf 26 = .ok (.iaload, 1) := by decide +kernel
theorem dX12_gladOf_27 : decode cX12_gladOf 27 = .ok (.iconst 2, 1) := by decide +kernel
theorem dX12_gladOf_28 : decode cX12_gladOf 28 = .ok (.if_icmp .ne 23, 3) := by decide +kernel
theorem dX12_gladOf_31 : decode cX12_gladOf 31 = .ok (.iload_n 1, 1) := by decide +kernel
theorem dX12_gladOf_32 : decode cX12_gladOf 32 = .ok (.aload_n 0, 1) := by decide +kernel
theorem dX12_gladOf_33 : decode cX12_gladOf 33 = .ok (.getfield 28, 3) := by decide +kernel
theorem dX12_gladOf_36 : decode cX12_gladOf 36 = .ok (.bipush 15, 2) := by decide +kernel
theorem dX12_gladOf_38 : decode cX12_gladOf 38 = .ok (.iload_n 2, 1) := by decide +kernel
theorem dX12_gladOf_39 : decode cX12_gladOf 39 = .ok (.iadd, 1) := by decide +kernel
theorem dX12_gladOf_40 : decode cX12_gladOf 40 = .ok (.iaload, 1) := by decide +kernel
theorem dX12_gladOf_41 : decode cX12_gladOf 41 = .ok (.invokestatic 86, 3) := by decide +kernel
theorem dX12_gladOf_44 : decode cX12_gladOf 44 = .ok (.ifCond .ne 7, 3) := by decide +kernel
theorem dX12_gladOf_47 : decode cX12_gladOf 47 = .ok (.iconst 1, 1) := by decide +kernel
theorem dX12_gladOf_48 : decode cX12_gladOf 48 = .ok (.goto 4, 3) := by decide +kernel
theorem dX12_gladOf_51 : decode cX12_gladOf 51 = .ok (.iconst 0, 1) := by decide +kernel
theorem dX12_gladOf_52 : decode cX12_gladOf 52 = .ok (.istore_n 3, 1) := by decide +kernel
theorem dX12_gladOf_53 : decode cX12_gladOf 53 = .ok (.aload_n 0, 1) := by decide +kernel
theorem dX12_gladOf_54 : decode cX12_gladOf 54 = .ok (.getfield 28, 3) := by decide +kernel
theorem dX12_gladOf_57 : decode cX12_gladOf 57 = .ok (.bipush 36, 2) := by decide +kernel
theorem dX12_gladOf_59 : decode cX12_gladOf 59 = .ok (.iload_n 2, 1) := by decide +kernel
theorem dX12_gladOf_60 : decode cX12_gladOf 60 = .ok (.iadd, 1) := by decide +kernel
theorem dX12_gladOf_61 : decode cX12_gladOf 61 = .ok (.iload_n 3, 1) := by decide +kernel
theorem dX12_gladOf_62 : decode cX12_gladOf 62 = .ok (.ifCond .eq 7, 3) := by decide +kernel
theorem dX12_gladOf_65 : decode cX12_gladOf 65 = .ok (.iconst 3, 1) := by decide +kernel
theorem dX12_gladOf_66 : decode cX12_gladOf 66 = .ok (.goto 12, 3) := by decide +kernel
theorem dX12_gladOf_69 : decode cX12_gladOf 69 = .ok (.aload_n 0, 1) := by decide +kernel
theorem dX12_gladOf_70 : decode cX12_gladOf 70 = .ok (.getfield 28, 3) := by decide +kernel
theorem dX12_gladOf_73 : decode cX12_gladOf 73 = .ok (.bipush 36, 2) := by decide +kernel
theorem dX12_gladOf_75 : decode cX12_gladOf 75 = .ok (.iload_n 2, 1) := by decide +kernel
theorem dX12_gladOf_76 : decode cX12_gladOf 76 = .ok (.iadd, 1) := by decide +kernel
theorem dX12_gladOf_77 : decode cX12_gladOf 77 = .ok (.iaload, 1) := by decide +kernel
theorem dX12_gladOf_78 : decode cX12_gladOf 78 = .ok (.iastore, 1) := by decide +kernel
theorem dX12_gladOf_79 : decode cX12_gladOf 79 = .ok (.iinc 2 1, 3) := by decide +kernel
theorem dX12_gladOf_82 : decode cX12_gladOf 82 = .ok (.goto (-71), 3) := by decide +kernel
theorem dX12_gladOf_85 : decode cX12_gladOf 85 = .ok (.aload_n 0, 1) := by decide +kernel
theorem dX12_gladOf_86 : decode cX12_gladOf 86 = .ok (.bipush 30, 2) := by decide +kernel
theorem dX12_gladOf_88 : decode cX12_gladOf 88 = .ok (.invokevirtual 189, 3) := by decide +kernel
theorem dX12_gladOf_91 : decode cX12_gladOf 91 = .ok (.aload_n 0, 1) := by decide +kernel
theorem dX12_gladOf_92 : decode cX12_gladOf 92 = .ok (.bipush 15, 2) := by decide +kernel
theorem dX12_gladOf_94 : decode cX12_gladOf 94 = .ok (.putfield 43, 3) := by decide +kernel
theorem dX12_gladOf_97 : decode cX12_gladOf 97 = .ok (.aload_n 0, 1) := by decide +kernel
theorem dX12_gladOf_98 : decode cX12_gladOf 98 = .ok (.iconst 1, 1) := by decide +kernel
theorem dX12_gladOf_99 : decode cX12_gladOf 99 = .ok (.invokevirtual 156, 3) := by decide +kernel
theorem dX12_gladOf_102 : decode cX12_gladOf 102 = .ok (.invokestatic 174, 3) := by decide +kernel
theorem dX12_gladOf_105 : decode cX12_gladOf 105 = .ok (.ireturn, 1) := by decide +kernel
theorem dX12_share_0 : decode cX12_share 0 = .ok (.aload_n 0, 1) := by decide +kernel
theorem dX12_share_1 : decode cX12_share 1 = .ok (.iload_n 1, 1) := by decide +kernel
theorem dX12_share_2 : decode cX12_share 2 = .ok (.invokevirtual 159, 3) := by decide +kernel
theorem dX12_share_5 : decode cX12_share 5 = .ok (.ifCond .ne 5, 3) := by decide +kernel
theorem dX12_share_8 : decode cX12_share 8 = .ok (.iconst (-1), 1) := by decide +kernel
theorem dX12_share_9 : decode cX12_share 9 = .ok (.ireturn, 1) := by decide +kernel
theorem dX12_share_10 : decode cX12_share 10 = .ok (.iconst 0, 1) := by decide +kernel
theorem dX12_share_11 : decode cX12_share 11 = .ok (.istore_n 3, 1) := by decide +kernel
theorem dX12_share_12 : decode cX12_share 12 = .ok (.iconst 0, 1) := by decide +kernel
theorem dX12_share_13 : decode cX12_share 13 = .ok (.istore 4, 2) := by decide +kernel
theorem dX12_share_15 : decode cX12_share 15 = .ok (.iload 4, 2) := by decide +kernel
theorem dX12_share_17 : decode cX12_share 17 = .ok (.iconst 1, 1) := by decide +kernel
theorem dX12_share_18 : decode cX12_share 18 = .ok (.aload_n 0, 1) := by decide +kernel
theorem dX12_share_19 : decode cX12_share 19 = .ok (.getfield 123, 3) := by decide +kernel
theorem dX12_share_22 : decode cX12_share 22 = .ok (.ishl, 1) := by decide +kernel
theorem dX12_share_23 : decode cX12_share 23 = .ok (.if_icmp .ge 67, 3) := by decide +kernel
theorem dX12_share_26 : decode cX12_share 26 = .ok (.iload 4, 2) := by decide +kernel
theorem dX12_share_28 : decode cX12_share 28 = .ok (.iload_n 1, 1) := by decide +kernel
theorem dX12_share_29 : decode cX12_share 29 = .ok (.invokestatic 86, 3) := by decide +kernel
theorem dX12_share_32 : decode cX12_share 32 = .ok (.ifCond .ne 52, 3) := by decide +kernel
theorem dX12_share_35 : decode cX12_share 35 = .ok (.iload 4, 2) := by decide +kernel
theorem dX12_share_37 : decode cX12_share 37 = .ok (.invokestatic 174, 3) := by decide +kernel
theorem dX12_share_40 : decode cX12_share 40 = .ok (.invokestatic 233, 3) := by decide +kernel
theorem dX12_share_43 : decode cX12_share 43 = .ok (.aload_n 0, 1) := by decide +kernel
theorem dX12_share_44 : decode cX12_share 44 = .ok (.getfield 123, 3) := by decide +kernel
theorem dX12_share_47 : decode cX12_share 47 = .ok (.iconst 1, 1) := by decide +kernel
theorem dX12_share_48 : decode cX12_share 48 = .ok (.isub, 1) := by decide +kernel
theorem dX12_share_49 : decode cX12_share 49 = .ok (.iload 4, 2) := by decide +kernel
theorem dX12_share_51 : decode cX12_share 51 = .ok (.invokestatic 174, 3) := by decide +kernel
theorem dX12_share_54 : decode cX12_share 54 = .ok (.isub, 1) := by decide +kernel
theorem dX12_share_55 : decode cX12_share 55 = .ok (.invokestatic 233, 3) := by decide +kernel
theorem dX12_share_58 : decode cX12_share 58 = .ok (.imul, 1) := by decide +kernel
theorem dX12_share_59 : decode cX12_share 59 = .ok (.istore 5, 2) := by decide +kernel
theorem dX12_share_61 : decode cX12_share 61 = .ok (.iload_n 3, 1) := by decide +kernel
theorem dX12_share_62 : decode cX12_share 62 = .ok (.iload 5, 2) := by decide +kernel
theorem dX12_share_64 : decode cX12_share 64 = .ok (.aload_n 0, 1) := by decide +kernel
theorem dX12_share_65 : decode cX12_share 65 = .ok (.iload 4, 2) := by decide +kernel
theorem dX12_share_67 : decode cX12_share 67 = .ok (.iconst 1, 1) := by decide +kernel
theorem dX12_share_68 : decode cX12_share 68 = .ok (.iload_n 1, 1) := by decide +kernel
theorem dX12_share_69 : decode cX12_share 69 = .ok (.ishl, 1) := by decide +kernel
theorem dX12_share_70 : decode cX12_share 70 = .ok (.ior, 1) := by decide +kernel
theorem dX12_share_71 : decode cX12_share 71 = .ok (.invokevirtual 236, 3) := by decide +kernel
theorem dX12_share_74 : decode cX12_share 74 = .ok (.aload_n 0, 1) := by decide +kernel
theorem dX12_share_75 : decode cX12_share 75 = .ok (.iload 4, 2) := by decide +kernel
theorem dX12_share_77 : decode cX12_share 77 = .ok (.invokevirtual 236, 3) := by decide +kernel
theorem dX12_share_80 : decode cX12_share 80 = .ok (.isub, 1) := by decide +kernel
theorem dX12_share_81 : decode cX12_share 81 = .ok (.imul, 1) := by decide +kernel
theorem dX12_share_82 : decode cX12_share 82 = .ok (.iadd, 1) := by decide +kernel
theorem dX12_share_83 : decode cX12_share 83 = .ok (.istore_n 3, 1) := by decide +kernel
theorem dX12_share_84 : decode cX12_share 84 = .ok (.iinc 4 1, 3) := by decide +kernel
theorem dX12_share_87 : decode cX12_share 87 = .ok (.goto (-72), 3) := by decide +kernel
theorem dX12_share_90 : decode cX12_share 90 = .ok (.iload_n 3, 1) := by decide +kernel
theorem dX12_share_91 : decode cX12_share 91 = .ok (.aload_n 0, 1) := by decide +kernel
theorem dX12_share_92 : decode cX12_share 92 = .ok (.getfield 123, 3) := by decide +kernel
theorem dX12_share_95 : decode cX12_share 95 = .ok (.invokestatic 233, 3) := by decide +kernel
theorem dX12_share_98 : decode cX12_share 98 = .ok (.invokestatic 239, 3) := by decide +kernel
theorem dX12_share_101 : decode cX12_share 101 = .ok (.istore 4, 2) := by decide +kernel
theorem dX12_share_103 : decode cX12_share 103 = .ok (.iload_n 2, 1) := by decide +kernel
theorem dX12_share_104 : decode cX12_share 104 = .ok (.ifCond .eq 10, 3) := by decide +kernel
theorem dX12_share_107 : decode cX12_share 107 = .ok (.iload_n 3, 1) := by decide +kernel
theorem dX12_share_108 : decode cX12_share 108 = .ok (.iload 4, 2) := by decide +kernel
theorem dX12_share_110 : decode cX12_share 110 = .ok (.idiv, 1) := by decide +kernel
theorem dX12_share_111 : decode cX12_share 111 = .ok (.goto 13, 3) := by decide +kernel
theorem dX12_share_114 : decode cX12_share 114 = .ok (.aload_n 0, 1) := by decide +kernel
theorem dX12_share_115 : decode cX12_share 115 = .ok (.getfield 123, 3) := by decide +kernel
theorem dX12_share_118 : decode cX12_share 118 = .ok (.invokestatic 233, 3) := by decide +kernel
theorem dX12_share_121 : decode cX12_share 121 = .ok (.iload 4, 2) := by decide +kernel
theorem dX12_share_123 : decode cX12_share 123 = .ok (.idiv, 1) := by decide +kernel
theorem dX12_share_124 : decode cX12_share 124 = .ok (.ireturn, 1) := by decide +kernel
theorem dX12_gain_0 : decode cX12_gain 0 = .ok (.aload_n 0, 1) := by decide +kernel
theorem dX12_gain_1 : decode cX12_gain 1 = .ok (.invokevirtual 186, 3) := by decide +kernel
theorem dX12_gain_4 : decode cX12_gain 4 = .ok (.aload_n 0, 1) := by decide +kernel
theorem dX12_gain_5 : decode cX12_gain 5 = .ok (.getfield 28, 3) := by decide +kernel
theorem dX12_gain_8 : decode cX12_gain 8 = .ok (.bipush 36, 2) := by decide +kernel
theorem dX12_gain_10 : decode cX12_gain 10 = .ok (.iload_n 1, 1) := by decide +kernel
theorem dX12_gain_11 : decode cX12_gain 11 = .ok (.iadd, 1) := by decide +kernel
theorem dX12_gain_12 : decode cX12_gain 12 = .ok (.iload_n 3, 1) := by decide +kernel
theorem dX12_gain_13 : decode cX12_gain 13 = .ok (.iconst 1, 1) := by decide +kernel
theorem dX12_gain_14 : decode cX12_gain 14 = .ok (.if_icmp .ne 7, 3) := by decide +kernel
theorem dX12_gain_17 : decode cX12_gain 17 = .ok (.iconst 1, 1) := by decide +kernel
theorem dX12_gain_18 : decode cX12_gain 18 = .ok (.goto 4, 3) := by decide +kernel
theorem dX12_gain_21 : decode cX12_gain 21 = .ok (.iconst 0, 1) := by decide +kernel
theorem dX12_gain_22 : decode cX12_gain 22 = .ok (.iastore, 1) := by decide +kernel
theorem dX12_gain_23 : decode cX12_gain 23 = .ok (.aload_n 0, 1) := by decide +kernel
theorem dX12_gain_24 : decode cX12_gain 24 = .ok (.getfield 28, 3) := by decide +kernel
theorem dX12_gain_27 : decode cX12_gain 27 = .ok (.bipush 36, 2) := by decide +kernel
theorem dX12_gain_29 : decode cX12_gain 29 = .ok (.iload_n 2, 1) := by decide +kernel
theorem dX12_gain_30 : decode cX12_gain 30 = .ok (.iadd, 1) := by decide +kernel
theorem dX12_gain_31 : decode cX12_gain 31 = .ok (.iload 4, 2) := by decide +kernel
theorem dX12_gain_33 : decode cX12_gain 33 = .ok (.iconst 1, 1) := by decide +kernel
theorem dX12_gain_34 : decode cX12_gain 34 = .ok (.if_icmp .ne 7, 3) := by decide +kernel
theorem dX12_gain_37 : decode cX12_gain 37 = .ok (.iconst 1, 1) := by decide +kernel
theorem dX12_gain_38 : decode cX12_gain 38 = .ok (.goto 4, 3) := by decide +kernel
theorem dX12_gain_41 : decode cX12_gain 41 = .ok (.iconst 0, 1) := by decide +kernel
theorem dX12_gain_42 : decode cX12_gain 42 = .ok (.iastore, 1) := by decide +kernel
theorem dX12_gain_43 : decode cX12_gain 43 = .ok (.aload_n 0, 1) := by decide +kernel
theorem dX12_gain_44 : decode cX12_gain 44 = .ok (.bipush 9, 2) := by decide +kernel
theorem dX12_gain_46 : decode cX12_gain 46 = .ok (.invokevirtual 189, 3) := by decide +kernel
theorem dX12_gain_49 : decode cX12_gain 49 = .ok (.aload_n 0, 1) := by decide +kernel
theorem dX12_gain_50 : decode cX12_gain 50 = .ok (.getfield 28, 3) := by decide +kernel
theorem dX12_gain_53 : decode cX12_gain 53 = .ok (.bipush 36, 2) := by decide +kernel
theorem dX12_gain_55 : decode cX12_gain 55 = .ok (.iload_n 1, 1) := by decide +kernel
theorem dX12_gain_56 : decode cX12_gain 56 = .ok (.iadd, 1) := by decide +kernel
theorem dX12_gain_57 : decode cX12_gain 57 = .ok (.iaload, 1) := by decide +kernel
theorem dX12_gain_58 : decode cX12_gain 58 = .ok (.ifCond .ne 7, 3) := by decide +kernel
theorem dX12_gain_61 : decode cX12_gain 61 = .ok (.iconst 1, 1) := by decide +kernel
theorem dX12_gain_62 : decode cX12_gain 62 = .ok (.goto 4, 3) := by decide +kernel
theorem dX12_gain_65 : decode cX12_gain 65 = .ok (.iconst 0, 1) := by decide +kernel
theorem dX12_gain_66 : decode cX12_gain 66 = .ok (.istore 5, 2) := by decide +kernel
theorem dX12_gain_68 : decode cX12_gain 68 = .ok (.aload_n 0, 1) := by decide +kernel
theorem dX12_gain_69 : decode cX12_gain 69 = .ok (.getfield 28, 3) := by decide +kernel
theorem dX12_gain_72 : decode cX12_gain 72 = .ok (.bipush 36, 2) := by decide +kernel
theorem dX12_gain_74 : decode cX12_gain 74 = .ok (.iload_n 1, 1) := by decide +kernel
theorem dX12_gain_75 : decode cX12_gain 75 = .ok (.iadd, 1) := by decide +kernel
theorem dX12_gain_76 : decode cX12_gain 76 = .ok (.iaload, 1) := by decide +kernel
theorem dX12_gain_77 : decode cX12_gain 77 = .ok (.iconst 2, 1) := by decide +kernel
theorem dX12_gain_78 : decode cX12_gain 78 = .ok (.if_icmp .ne 41, 3) := by decide +kernel
theorem dX12_gain_81 : decode cX12_gain 81 = .ok (.aload_n 0, 1) := by decide +kernel
theorem dX12_gain_82 : decode cX12_gain 82 = .ok (.getfield 28, 3) := by decide +kernel
theorem dX12_gain_85 : decode cX12_gain 85 = .ok (.bipush 36, 2) := by decide +kernel
theorem dX12_gain_87 : decode cX12_gain 87 = .ok (.iload_n 2, 1) := by decide +kernel
theorem dX12_gain_88 : decode cX12_gain 88 = .ok (.iadd, 1) := by decide +kernel
theorem dX12_gain_89 : decode cX12_gain 89 = .ok (.iaload, 1) := by decide +kernel
theorem dX12_gain_90 : decode cX12_gain 90 = .ok (.iconst 2, 1) := by decide +kernel
theorem dX12_gain_91 : decode cX12_gain 91 = .ok (.if_icmp .ne 28, 3) := by decide +kernel
theorem dX12_gain_94 : decode cX12_gain 94 = .ok (.aload_n 0, 1) := by decide +kernel
theorem dX12_gain_95 : decode cX12_gain 95 = .ok (.getfield 28, 3) := by decide +kernel
theorem dX12_gain_98 : decode cX12_gain 98 = .ok (.bipush 46, 2) := by decide +kernel
theorem dX12_gain_100 : decode cX12_gain 100 = .ok (.iload_n 1, 1) := by decide +kernel
theorem dX12_gain_101 : decode cX12_gain 101 = .ok (.iadd, 1) := by decide +kernel
theorem dX12_gain_102 : decode cX12_gain 102 = .ok (.iaload, 1) := by decide +kernel
theorem dX12_gain_103 : decode cX12_gain 103 = .ok (.aload_n 0, 1) := by decide +kernel
theorem dX12_gain_104 : decode cX12_gain 104 = .ok (.getfield 28, 3) := by decide +kernel
theorem dX12_gain_107 : decode cX12_gain 107 = .ok (.bipush 46, 2) := by decide +kernel
theorem dX12_gain_109 : decode cX12_gain 109 = .ok (.iload_n 2, 1) := by decide +kernel
theorem dX12_gain_110 : decode cX12_gain 110 = .ok (.iadd, 1) := by decide +kernel
theorem dX12_gain_111 : decode cX12_gain 111 = .ok (.iaload, 1) := by decide +kernel
theorem dX12_gain_112 : decode cX12_gain 112 = .ok (.if_icmp .ne 7, 3) := by decide +kernel
theorem dX12_gain_115 : decode cX12_gain 115 = .ok (.iconst 1, 1) := by decide +kernel
theorem dX12_gain_116 : decode cX12_gain 116 = .ok (.goto 4, 3) := by decide +kernel
theorem dX12_gain_119 : decode cX12_gain 119 = .ok (.iconst 0, 1) := by decide +kernel
theorem dX12_gain_120 : decode cX12_gain 120 = .ok (.istore 6, 2) := by decide +kernel
theorem dX12_gain_122 : decode cX12_gain 122 = .ok (.aload_n 0, 1) := by decide +kernel
theorem dX12_gain_123 : decode cX12_gain 123 = .ok (.iconst 1, 1) := by decide +kernel
theorem dX12_gain_124 : decode cX12_gain 124 = .ok (.invokevirtual 156, 3) := by decide +kernel
theorem dX12_gain_127 : decode cX12_gain 127 = .ok (.iload_n 1, 1) := by decide +kernel
theorem dX12_gain_128 : decode cX12_gain 128 = .ok (.invokestatic 86, 3) := by decide +kernel
theorem dX12_gain_131 : decode cX12_gain 131 = .ok (.ifCond .eq 7, 3) := by decide +kernel
theorem dX12_gain_134 : decode cX12_gain 134 = .ok (.iconst 3, 1) := by decide +kernel
theorem dX12_gain_135 : decode cX12_gain 135 = .ok (.goto 4, 3) := by decide +kernel
theorem dX12_gain_138 : decode cX12_gain 138 = .ok (.iconst 0, 1) := by decide +kernel
theorem dX12_gain_139 : decode cX12_gain 139 = .ok (.iload 5, 2) := by decide +kernel
theorem dX12_gain_141 : decode cX12_gain 141 = .ok (.ifCond .eq 7, 3) := by decide +kernel
theorem dX12_gain_144 : decode cX12_gain 144 = .ok (.iconst 1, 1) := by decide +kernel
theorem dX12_gain_145 : decode cX12_gain 145 = .ok (.goto 4, 3) := by decide +kernel
theorem dX12_gain_148 : decode cX12_gain 148 = .ok (.iconst 0, 1) := by decide +kernel
theorem dX12_gain_149 : decode cX12_gain 149 = .ok (.iadd, 1) := by decide +kernel
theorem dX12_gain_150 : decode cX12_gain 150 = .ok (.iload 6, 2) := by decide +kernel
theorem dX12_gain_152 : decode cX12_gain 152 = .ok (.ifCond .eq 7, 3) := by decide +kernel
theorem dX12_gain_155 : decode cX12_gain 155 = .ok (.iconst 1, 1) := by decide +kernel
theorem dX12_gain_156 : decode cX12_gain 156 = .ok (.goto 4, 3) := by decide +kernel
theorem dX12_gain_159 : decode cX12_gain 159 = .ok (.iconst 0, 1) := by decide +kernel
theorem dX12_gain_160 : decode cX12_gain 160 = .ok (.isub, 1) := by decide +kernel
theorem dX12_gain_161 : decode cX12_gain 161 = .ok (.ireturn, 1) := by decide +kernel
theorem dX12_isRest_0 : decode cX12_isRest 0 = .ok (.aload_n 0, 1) := by decide +kernel
theorem dX12_isRest_1 : decode cX12_isRest 1 = .ok (.iload_n 1, 1) := by decide +kernel
theorem dX12_isRest_2 : decode cX12_isRest 2 = .ok (.iload_n 2, 1) := by decide +kernel
theorem dX12_isRest_3 : decode cX12_isRest 3 = .ok (.iconst 1, 1) := by decide +kernel
theorem dX12_isRest_4 : decode cX12_isRest 4 = .ok (.iload_n 3, 1) := by decide +kernel
theorem dX12_isRest_5 : decode cX12_isRest 5 = .ok (.isub, 1) := by decide +kernel
theorem dX12_isRest_6 : decode cX12_isRest 6 = .ok (.iload 4, 2) := by decide +kernel
theorem dX12_isRest_8 : decode cX12_isRest 8 = .ok (.invokevirtual 242, 3) := by decide +kernel
theorem dX12_isRest_11 : decode cX12_isRest 11 = .ok (.aload_n 0, 1) := by decide +kernel
theorem dX12_isRest_12 : decode cX12_isRest 12 = .ok (.iload_n 1, 1) := by decide +kernel
theorem dX12_isRest_13 : decode cX12_isRest 13 = .ok (.iload_n 2, 1) := by decide +kernel
theorem dX12_isRest_14 : decode cX12_isRest 14 = .ok (.iload_n 3, 1) := by decide +kernel
theorem dX12_isRest_15 : decode cX12_isRest 15 = .ok (.iload 4, 2) := by decide +kernel
theorem dX12_isRest_17 : decode cX12_isRest 17 = .ok (.invokevirtual 242, 3) := by decide +kernel
theorem dX12_isRest_20 : decode cX12_isRest 20 = .ok (.if_icmp .gt 30, 3) := by decide +kernel
theorem dX12_isRest_23 : decode cX12_isRest 23 = .ok (.aload_n 0, 1) := by decide +kernel
theorem dX12_isRest_24 : decode cX12_isRest 24 = .ok (.iload_n 2, 1) := by decide +kernel
theorem dX12_isRest_25 : decode cX12_isRest 25 = .ok (.iload_n 1, 1) := by decide +kernel
theorem dX12_isRest_26 : decode cX12_isRest 26 = .ok (.iconst 1, 1) := by decide +kernel
theorem dX12_isRest_27 : decode cX12_isRest 27 = .ok (.iload 4, 2) := by decide +kernel
theorem dX12_isRest_29 : decode cX12_isRest 29 = .ok (.isub, 1) := by decide +kernel
theorem dX12_isRest_30 : decode cX12_isRest 30 = .ok (.iload_n 3, 1) := by decide +kernel
theorem dX12_isRest_31 : decode cX12_isRest 31 = .ok (.invokevirtual 242, 3) := by decide +kernel
theorem dX12_isRest_34 : decode cX12_isRest 34 = .ok (.aload_n 0, 1) := by decide +kernel
theorem dX12_isRest_35 : decode cX12_isRest 35 = .ok (.iload_n 2, 1) := by decide +kernel
theorem dX12_isRest_36 : decode cX12_isRest 36 = .ok (.iload_n 1, 1) := by decide +kernel
theorem dX12_isRest_37 : decode cX12_isRest 37 = .ok (.iload 4, 2) := by decide +kernel
theorem dX12_isRest_39 : decode cX12_isRest 39 = .ok (.iload_n 3, 1) := by decide +kernel
theorem dX12_isRest_40 : decode cX12_isRest 40 = .ok (.invokevirtual 242, 3) := by decide +kernel
theorem dX12_isRest_43 : decode cX12_isRest 43 = .ok (.if_icmp .gt 7, 3) := by decide +kernel
theorem dX12_isRest_46 : decode cX12_isRest 46 = .ok (.iconst 1, 1) := by decide +kernel
theorem dX12_isRest_47 : decode cX12_isRest 47 = .ok (.goto 4, 3) := by decide +kernel
theorem dX12_isRest_50 : decode cX12_isRest 50 = .ok (.iconst 0, 1) := by decide +kernel
