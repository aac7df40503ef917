theorem dX0_init_0 : decode cX0_init 0 = .ok (.aload_n 0, 1) := by decide +kernel
theorem dX0_init_1 : decode cX0_init 1 = .ok (.invokespecial 3, 3) := by decide +kernel
theorem dX0_init_4 : decode cX0_init 4 = .ok (.aload_n 0, 1) := by decide +kernel
theorem dX0_init_5 : decode cX0_init 5 = .ok (.bipush 14, 2) := by decide +kernel
theorem dX0_init_7 : decode cX0_init 7 = .ok (.anewarray 9, 3) := by decide +kernel
theorem dX0_init_10 : decode cX0_init 10 = .ok (.putfield 11, 3) := by decide +kernel
theorem dX0_init_13 : decode cX0_init 13 = .ok (.iconst 0, 1) := by decide +kernel
theorem dX0_init_14 : decode cX0_init 14 = .ok (.istore_n 2, 1) := by decide +kernel
theorem dX0_init_15 : decode cX0_init 15 = .ok (.iload_n 2, 1) := by decide +kernel
theorem dX0_init_16 : decode cX0_init 16 = .ok (.bipush 14, 2) := by decide +kernel
theorem dX0_init_18 : decode cX0_init 18 = .ok (.if_icmp .ge 23, 3) := by decide +kernel
theorem dX0_init_21 : decode cX0_init 21 = .ok (.aload_n 0, 1) := by decide +kernel
theorem dX0_init_22 : decode cX0_init 22 = .ok (.getfield 11, 3) := by decide +kernel
theorem dX0_init_25 : decode cX0_init 25 = .ok (.iload_n 2, 1) := by decide +kernel
theorem dX0_init_26 : decode cX0_init 26 = .ok (.new 9, 3) := by decide +kernel
theorem dX0_init_29 : decode cX0_init 29 = .ok (.dup, 1) := by decide +kernel
theorem dX0_init_30 : decode cX0_init 30 = .ok (.aload_n 1, 1) := by decide +kernel
theorem dX0_init_31 : decode cX0_init 31 = .ok (.invokespecial 17, 3) := by decide +kernel
theorem dX0_init_34 : decode cX0_init 34 = .ok (.aastore, 1) := by decide +kernel
theorem dX0_init_35 : decode cX0_init 35 = .ok (.iinc 2 1, 3) := by decide +kernel
theorem dX0_init_38 : decode cX0_init 38 = .ok (.goto (-23), 3) := by decide +kernel
theorem dX0_init_41 : decode cX0_init 41 = .ok (.return_, 1) := by decide +kernel
theorem dX0_forget_0 : decode cX0_forget 0 = .ok (.aload_n 0, 1) := by decide +kernel
theorem dX0_forget_1 : decode cX0_forget 1 = .ok (.iconst 0, 1) := by decide +kernel
theorem dX0_forget_2 : decode cX0_forget 2 = .ok (.putfield 20, 3) := by decide +kernel
theorem dX0_forget_5 : decode cX0_forget 5 = .ok (.aload_n 0, 1) := by decide +kernel
theorem dX0_forget_6 : decode cX0_forget 6 = .ok (.iconst 0, 1) := by decide +kernel
theorem dX0_forget_7 : decode cX0_forget 7 = .ok (.putfield 24, 3) := by decide +kernel
theorem dX0_forget_10 : decode cX0_forget 10 = .ok (.return_, 1) := by decide +kernel
theorem dX0_remember_0 : decode cX0_remember 0 = .ok (.aload_n 0, 1) := by decide +kernel
theorem dX0_remember_1 : decode cX0_remember 1 = .ok (.getfield 24, 3) := by decide +kernel
theorem dX0_remember_4 : decode cX0_remember 4 = .ok (.bipush 14, 2) := by decide +kernel
theorem dX0_remember_6 : decode cX0_remember 6 = .ok (.if_icmp .ne 26, 3) := by decide +kernel
theorem dX0_remember_9 : decode cX0_remember 9 = .ok (.aload_n 0, 1) := by decide +kernel
theorem dX0_remember_10 : decode cX0_remember 10 = .ok (.aload_n 0, 1) := by decide +kernel
theorem dX0_remember_11 : decode cX0_remember 11 = .ok (.getfield 20, 3) := by decide +kernel
theorem dX0_remember_14 : decode cX0_remember 14 = .ok (.iconst 1, 1) := by decide +kernel
theorem dX0_remember_15 : decode cX0_remember 15 = .ok (.iadd, 1) := by decide +kernel
theorem dX0_remember_16 : decode cX0_remember 16 = .ok (.bipush 14, 2) := by decide +kernel
theorem dX0_remember_18 : decode cX0_remember 18 = .ok (.irem, 1) := by decide +kernel
theorem dX0_remember_19 : decode cX0_remember 19 = .ok (.putfield 20, 3) := by decide +kernel
theorem dX0_remember_22 : decode cX0_remember 22 = .ok (.aload_n 0, 1) := by decide +kernel
theorem dX0_remember_23 : decode cX0_remember 23 = .ok (.dup, 1) := by decide +kernel
theorem dX0_remember_24 : decode cX0_remember 24 = .ok (.getfield 24, 3) := by decide +kernel
theorem dX0_remember_27 : decode cX0_remember 27 = .ok (.iconst 1, 1) := by decide +kernel
theorem dX0_remember_28 : decode cX0_remember 28 = .ok (.isub, 1) := by decide +kernel
theorem dX0_remember_29 : decode cX0_remember 29 = .ok (.putfield 24, 3) := by decide +kernel
theorem dX0_remember_32 : decode cX0_remember 32 = .ok (.aload_n 0, 1) := by decide +kernel
theorem dX0_remember_33 : decode cX0_remember 33 = .ok (.getfield 11, 3) := by decide +kernel
theorem dX0_remember_36 : decode cX0_remember 36 = .ok (.aload_n 0, 1) := by decide +kernel
theorem dX0_remember_37 : decode cX0_remember 37 = .ok (.getfield 20, 3) := by decide +kernel
theorem dX0_remember_40 : decode cX0_remember 40 = .ok (.aload_n 0, 1) := by decide +kernel
theorem dX0_remember_41 : decode cX0_remember 41 = .ok (.getfield 24, 3) := by decide +kernel
theorem dX0_remember_44 : decode cX0_remember 44 = .ok (.iadd, 1) := by decide +kernel
theorem dX0_remember_45 : decode cX0_remember 45 = .ok (.bipush 14, 2) := by decide +kernel
theorem dX0_remember_47 : decode cX0_remember 47 = .ok (.irem, 1) := by decide +kernel
theorem dX0_remember_48 : decode cX0_remember 48 = .ok (.aaload, 1) := by decide +kernel
theorem dX0_remember_49 : decode cX0_remember 49 = .ok (.aload_n 1, 1) := by decide +kernel
theorem dX0_remember_50 : decode cX0_remember 50 = .ok (.invokevirtual 27, 3) := by decide +kernel
theorem dX0_remember_53 : decode cX0_remember 53 = .ok (.aload_n 0, 1) := by decide +kernel
theorem dX0_remember_54 : decode cX0_remember 54 = .ok (.dup, 1) := by decide +kernel
theorem dX0_remember_55 : decode cX0_remember 55 = .ok (.getfield 24, 3) := by decide +kernel
theorem dX0_remember_58 : decode cX0_remember 58 = .ok (.iconst 1, 1) := by decide +kernel
theorem dX0_remember_59 : decode cX0_remember 59 = .ok (.iadd, 1) := by decide +kernel
theorem dX0_remember_60 : decode cX0_remember 60 = .ok (.putfield 24, 3) := by decide +kernel
theorem dX0_remember_63 : decode cX0_remember 63 = .ok (.return_, 1) := by decide +kernel
theorem dX0_takeBack_0 : decode cX0_takeBack 0 = .ok (.aload_n 0, 1) := by decide +kernel
theorem dX0_takeBack_1 : decode cX0_takeBack 1 = .ok (.getfield 24, 3) := by decide +kernel
theorem dX0_takeBack_4 : decode cX0_takeBack 4 = .ok (.ifCond .ne 4, 3) := by decide +kernel
theorem dX0_takeBack_7 : decode cX0_takeBack 7 = .ok (.return_, 1) := by decide +kernel
theorem dX0_takeBack_8 : decode cX0_takeBack 8 = .ok (.aload_n 0, 1) := by decide +kernel
theorem dX0_takeBack_9 : decode cX0_takeBack 9 = .ok (.dup, 1) := by decide +kernel
theorem dX0_takeBack_10 : decode cX0_takeBack 10 = .ok (.getfield 24, 3) := by decide +kernel
theorem dX0_takeBack_13 : decode cX0_takeBack 13 = .ok (.iconst 1, 1) := by decide +kernel
theorem dX0_takeBack_14 : decode cX0_takeBack 14 = .ok (.isub, 1) := by decide +kernel
theorem dX0_takeBack_15 : decode cX0_takeBack 15 = .ok (.putfield 24, 3) := by decide +kernel
theorem dX0_takeBack_18 : decode cX0_takeBack 18 = .ok (.aload_n 1, 1) := by decide +kernel
theorem dX0_takeBack_19 : decode cX0_takeBack 19 = .ok (.aload_n 0, 1) := by decide +kernel
theorem dX0_takeBack_20 : decode cX0_takeBack 20 = .ok (.getfield 11, 3) := by decide +kernel
theorem dX0_takeBack_23 : decode cX0_takeBack 23 = .ok (.aload_n 0, 1) := by decide +kernel
theorem dX0_takeBack_24 : decode cX0_takeBack 24 = .ok (.getfield 20, 3) := by decide +kernel
theorem dX0_takeBack_27 : decode cX0_takeBack 27 = .ok (.aload_n 0, 1) := by decide +kernel
theorem dX0_takeBack_28 : decode cX0_takeBack 28 = .ok (.getfield 24, 3) := by decide +kernel
theorem dX0_takeBack_31 : decode cX0_takeBack 31 = .ok (.iadd, 1) := by decide +kernel
theorem dX0_takeBack_32 : decode cX0_takeBack 32 = .ok (.bipush 14, 2) := by decide +kernel
theorem dX0_takeBack_34 : decode cX0_takeBack 34 = .ok (.irem, 1) := by decide +kernel
theorem dX0_takeBack_35 : decode cX0_takeBack 35 = .ok (.aaload, 1) := by decide +kernel
theorem dX0_takeBack_36 : decode cX0_takeBack 36 = .ok (.invokevirtual 27, 3) := by decide +kernel
theorem dX0_takeBack_39 : decode cX0_takeBack 39 = .ok (.return_, 1) := by decide +kernel
theorem dX1_init_0 : decode cX1_init 0 = .ok (.aload_n 0, 1) := by decide +kernel
theorem dX1_init_1 : decode cX1_init 1 = .ok (.invokespecial 3, 3) := by decide +kernel
theorem dX1_init_4 : decode cX1_init 4 = .ok (.aload_n 0, 1) := by decide +kernel
theorem dX1_init_5 : decode cX1_init 5 = .ok (.bipush (-9), 2) := by decide +kernel
theorem dX1_init_7 : decode cX1_init 7 = .ok (.putfield 9, 3) := by decide +kernel
theorem dX1_init_10 : decode cX1_init 10 = .ok (.return_, 1) := by decide +kernel
theorem dX1_holdAt_0 : decode cX1_holdAt 0 = .ok (.aload_n 0, 1) := by decide +kernel
theorem dX1_holdAt_1 : decode cX1_holdAt 1 = .ok (.iload_n 2, 1) := by decide +kernel
theorem dX1_holdAt_2 : decode cX1_holdAt 2 = .ok (.putfield 15, 3) := by decide +kernel
theorem dX1_holdAt_5 : decode cX1_holdAt 5 = .ok (.aload_n 0, 1) := by decide +kernel
theorem dX1_holdAt_6 : decode cX1_holdAt 6 = .ok (.iload_n 1, 1) := by decide +kernel
theorem dX1_holdAt_7 : decode cX1_holdAt 7 = .ok (.putfield 18, 3) := by decide +kernel
theorem dX1_holdAt_10 : decode cX1_holdAt 10 = .ok (.aload_n 0, 1) := by decide +kernel
theorem dX1_holdAt_11 : decode cX1_holdAt 11 = .ok (.iconst 0, 1) := by decide +kernel
theorem dX1_holdAt_12 : decode cX1_holdAt 12 = .ok (.putfield 21, 3) := by decide +kernel
theorem dX1_holdAt_15 : decode cX1_holdAt 15 = .ok (.aload_n 0, 1) := by decide +kernel
theorem dX1_holdAt_16 : decode cX1_holdAt 16 = .ok (.bipush (-9), 2) := by decide +kernel
theorem dX1_holdAt_18 : decode cX1_holdAt 18 = .ok (.putfield 9, 3) := by decide +kernel
theorem dX1_holdAt_21 : decode cX1_holdAt 21 = .ok (.aload_n 0, 1) := by decide +kernel
theorem dX1_holdAt_22 : decode cX1_holdAt 22 = .ok (.iconst 0, 1) := by decide +kernel
theorem dX1_holdAt_23 : decode cX1_holdAt 23 = .ok (.putfield 24, 3) := by decide +kernel
theorem dX1_holdAt_26 : decode cX1_holdAt 26 = .ok (.aload_n 0, 1) := by decide +kernel
theorem dX1_holdAt_27 : decode cX1_holdAt 27 = .ok (.iconst 0, 1) := by decide +kernel
theorem dX1_holdAt_28 : decode cX1_holdAt 28 = .ok (.putfield 27, 3) := by decide +kernel
theorem dX1_holdAt_31 : decode cX1_holdAt 31 = .ok (.aload_n 0, 1) := by decide +kernel
theorem dX1_holdAt_32 : decode cX1_holdAt 32 = .ok (.iload_n 3, 1) := by decide +kernel
theorem dX1_holdAt_33 : decode cX1_holdAt 33 = .ok (.putfield 30, 3) := by decide +kernel
theorem dX1_holdAt_36 : decode cX1_holdAt 36 = .ok (.return_, 1) := by decide +kernel
theorem dX1_takeFrom_0 : decode cX1_takeFrom 0 = .ok (.aload_n 0, 1) := by decide +kernel
theorem dX1_takeFrom_1 : decode cX1_takeFrom 1 = .ok (.aload_n 1, 1) := by decide +kernel
theorem dX1_takeFrom_2 : decode cX1_takeFrom 2 = .ok (.getfield 15, 3) := by decide +kernel
theorem dX1_takeFrom_5 : decode cX1_takeFrom 5 = .ok (.putfield 15, 3) := by decide +kernel
theorem dX1_takeFrom_8 : decode cX1_takeFrom 8 = .ok (.aload_n 0, 1) := by decide +kernel
theorem dX1_takeFrom_9 : decode cX1_takeFrom 9 = .ok (.aload_n 1, 1) := by decide +kernel
theorem dX1_takeFrom_10 : decode cX1_takeFrom 10 = .ok (.getfield 18, 3) := by decide +kernel
theorem dX1_takeFrom_13 : decode cX1_takeFrom 13 = .ok (.putfield 18, 3) := by decide +kernel
theorem dX1_takeFrom_16 : decode cX1_takeFrom 16 = .ok (.aload_n 0, 1) := by decide +kernel
theorem dX1_takeFrom_17 : decode cX1_takeFrom 17 = .ok (.aload_n 1, 1) := by decide +kernel
theorem dX1_takeFrom_18 : decode cX1_takeFrom 18 = .ok (.getfield 21, 3) := by decide +kernel
theorem dX1_takeFrom_21 : decode cX1_takeFrom 21 = .ok (.putfield 21, 3) := by decide +kernel
theorem dX1_takeFrom_24 : decode cX1_takeFrom 24 = .ok (.aload_n 0, 1) := by decide +kernel
theorem dX1_takeFrom_25 : decode cX1_takeFrom 25 = .ok (.aload_n 1, 1) := by decide +kernel
theorem dX1_takeFrom_26 : decode cX1_takeFrom 26 = .ok (.getfield 9, 3) := by decide +kernel
theorem dX1_takeFrom_29 : decode cX1_takeFrom 29 = .ok (.putfield 9, 3) := by decide +kernel
theorem dX1_takeFrom_32 : decode cX1_takeFrom 32 = .ok (.aload_n 0, 1) := by decide +kernel
theorem dX1_takeFrom_33 : decode cX1_takeFrom 33 = .ok (.aload_n 1, 1) := by decide +kernel
theorem dX1_takeFrom_34 : decode cX1_takeFrom 34 = .ok (.getfield 24, 3) := by decide +kernel
theorem dX1_takeFrom_37 : decode cX1_takeFrom 37 = .ok (.putfield 24, 3) := by decide +kernel
theorem dX1_takeFrom_40 : decode cX1_takeFrom 40 = .ok (.aload_n 0, 1) := by decide +kernel
theorem dX1_takeFrom_41 : decode cX1_takeFrom 41 = .ok (.aload_n 1, 1) := by decide +kernel
theorem dX1_takeFrom_42 : decode cX1_takeFrom 42 = .ok (.getfield 27, 3) := by decide +kernel
theorem dX1_takeFrom_45 : decode cX1_takeFrom 45 = .ok (.putfield 27, 3) := by decide +kernel
theorem dX1_takeFrom_48 : decode cX1_takeFrom 48 = .ok (.aload_n 0, 1) := by decide +kernel
theorem dX1_takeFrom_49 : decode cX1_takeFrom 49 = .ok (.aload_n 1, 1) := by decide +kernel
theorem dX1_takeFrom_50 : decode cX1_takeFrom 50 = .ok (.getfield 30, 3) := by decide +kernel
theorem dX1_takeFrom_53 : decode cX1_takeFrom 53 = .ok (.putfield 30, 3) := by decide +kernel
theorem dX1_takeFrom_56 : decode cX1_takeFrom 56 = .ok (.return_, 1) := by decide +kernel
theorem dX1_goBy_0 : decode cX1_goBy 0 = .ok (.aload_n 0, 1) := by decide +kernel
theorem dX1_goBy_1 : decode cX1_goBy 1 = .ok (.getfield 21, 3) := by decide +kernel
theorem dX1_goBy_4 : decode cX1_goBy 4 = .ok (.iconst 1, 1) := by decide +kernel
theorem dX1_goBy_5 : decode cX1_goBy 5 = .ok (.if_icmp .ne 17, 3) := by decide +kernel
theorem dX1_goBy_8 : decode cX1_goBy 8 = .ok (.aload_n 0, 1) := by decide +kernel
theorem dX1_goBy_9 : decode cX1_goBy 9 = .ok (.getfield 15, 3) := by decide +kernel
theorem dX1_goBy_12 : decode cX1_goBy 12 = .ok (.iconst 2, 1) := by decide +kernel
theorem dX1_goBy_13 : decode cX1_goBy 13 = .ok (.if_icmp .ne 10, 3) := by decide +kernel
theorem dX1_goBy_16 : decode cX1_goBy 16 = .ok (.iload_n 2, 1) := by decide +kernel
theorem dX1_goBy_17 : decode cX1_goBy 17 = .ok (.iconst 1, 1) := by decide +kernel
theorem dX1_goBy_18 : decode cX1_goBy 18 = .ok (.iand, 1) := by decide +kernel
theorem dX1_goBy_19 : decode cX1_goBy 19 = .ok (.ifCond .eq 4, 3) := by decide +kernel
theorem dX1_goBy_22 : decode cX1_goBy 22 = .ok (.return_, 1) := by decide +kernel
theorem dX1_goBy_23 : decode cX1_goBy 23 = .ok (.aload_n 0, 1) := by decide +kernel
theorem dX1_goBy_24 : decode cX1_goBy 24 = .ok (.getfield 15, 3) := by decide +kernel
theorem dX1_goBy_27 : decode cX1_goBy 27 = .ok (.iconst 1, 1) := by decide +kernel
theorem dX1_goBy_28 : decode cX1_goBy 28 = .ok (.if_icmp .ne 15, 3) := by decide +kernel
theorem dX1_goBy_31 : decode cX1_goBy 31 = .ok (.aload_n 0, 1) := by decide +kernel
theorem dX1_goBy_32 : decode cX1_goBy 32 = .ok (.getfield 27, 3) := by decide +kernel
theorem dX1_goBy_35 : decode cX1_goBy 35 = .ok (.ifCond .ne 8, 3) := by decide +kernel
theorem dX1_goBy_38 : decode cX1_goBy 38 = .ok (.aload_n 0, 1) := by decide +kernel
theorem dX1_goBy_39 : decode cX1_goBy 39 = .ok (.iload_n 1, 1) := by decide +kernel
theorem dX1_goBy_40 : decode cX1_goBy 40 = .ok (.putfield 27, 3) := by decide +kernel
theorem dX1_goBy_43 : decode cX1_goBy 43 = .ok (.aload_n 0, 1) := by decide +kernel
theorem dX1_goBy_44 : decode cX1_goBy 44 = .ok (.getfield 15, 3) := by decide +kernel
theorem dX1_goBy_47 : decode cX1_goBy 47 = .ok (.iconst 1, 1) := by decide +kernel
theorem dX1_goBy_48 : decode cX1_goBy 48 = .ok (.if_icmp .ne 10, 3) := by decide +kernel
theorem dX1_goBy_51 : decode cX1_goBy 51 = .ok (.aload_n 0, 1) := by decide +kernel
theorem dX1_goBy_52 : decode cX1_goBy 52 = .ok (.getfield 27, 3) := by decide +kernel
theorem dX1_goBy_55 : decode cX1_goBy 55 = .ok (.goto 4, 3) := by decide +kernel
theorem dX1_goBy_58 : decode cX1_goBy 58 = .ok (.iload_n 1, 1) := by decide +kernel
theorem dX1_goBy_59 : decode cX1_goBy 59 = .ok (.istore_n 3, 1) := by decide +kernel
theorem dX1_goBy_60 : decode cX1_goBy 60 = .ok (.aload_n 0, 1) := by decide +kernel
theorem dX1_goBy_61 : decode cX1_goBy 61 = .ok (.iload_n 3, 1) := by decide +kernel
theorem dX1_goBy_62 : decode cX1_goBy 62 = .ok (.invokevirtual 33, 3) := by decide +kernel
theorem dX1_goBy_65 : decode cX1_goBy 65 = .ok (.aload_n 0, 1) := by decide +kernel
theorem dX1_goBy_66 : decode cX1_goBy 66 = .ok (.getfield 15, 3) := by decide +kernel
theorem dX1_goBy_69 : decode cX1_goBy 69 = .ok (.iconst 3, 1) := by decide +kernel
theorem dX1_goBy_70 : decode cX1_goBy 70 = .ok (.if_icmp .ne 16, 3) := by decide +kernel
theorem dX1_goBy_73 : decode cX1_goBy 73 = .ok (.aload_n 0, 1) := by decide +kernel
theorem dX1_goBy_74 : decode cX1_goBy 74 = .ok (.getfield 21, 3) := by decide +kernel
theorem dX1_goBy_77 : decode cX1_goBy 77 = .ok (.iconst 1, 1) := by decide +kernel
theorem dX1_goBy_78 : decode cX1_goBy 78 = .ok (.if_icmp .ne 8, 3) := by decide +kernel
theorem dX1_goBy_81 : decode cX1_goBy 81 = .ok (.aload_n 0, 1) := by decide +kernel
theorem dX1_goBy_82 : decode cX1_goBy 82 = .ok (.iload_n 3, 1) := by decide +kernel
theorem dX1_goBy_83 : decode cX1_goBy 83 = .ok (.invokevirtual 33, 3) := by decide +kernel
theorem dX1_goBy_86 : decode cX1_goBy 86 = .ok (.return_, 1) := by decide +kernel
theorem dX1_goOneCell_0 : decode cX1_goOneCell 0 = .ok (.aload_n 0, 1) := by decide +kernel
theorem dX1_goOneCell_1 : decode cX1_goOneCell 1 = .ok (.getfield 18, 3) := by decide +kernel
theorem dX1_goOneCell_4 : decode cX1_goOneCell 4 = .ok (.iconst 5, 1) := by decide +kernel
theorem dX1_goOneCell_5 : decode cX1_goOneCell 5 = .ok (.irem, 1) := by decide +kernel
theorem dX1_goOneCell_6 : decode cX1_goOneCell 6 = .ok (.istore_n 2, 1) := by decide +kernel
theorem dX1_goOneCell_7 : decode cX1_goOneCell 7 = .ok (.iload_n 1, 1) := by decide +kernel
theorem dX1_goOneCell_8 : decode cX1_goOneCell 8 = .ok (.iconst 1, 1) := by decide +kernel
theorem dX1_goOneCell_9 : decode cX1_goOneCell 9 = .ok (.if_icmp .ne 21, 3) := by decide +kernel
theorem dX1_goOneCell_12 : decode cX1_goOneCell 12 = .ok (.iload_n 2, 1) := by decide +kernel
theorem dX1_goOneCell_13 : decode cX1_goOneCell 13 = .ok (.iconst 4, 1) := by decide +kernel
theorem dX1_goOneCell_14 : decode cX1_goOneCell 14 = .ok (.if_icmp .ge 16, 3) := by decide +kernel
theorem dX1_goOneCell_17 : decode cX1_goOneCell 17 = .ok (.aload_n 0, 1) := by decide +kernel
theorem dX1_goOneCell_18 : decode cX1_goOneCell 18 = .ok (.dup, 1) := by decide +kernel
theorem dX1_goOneCell_19 : decode cX1_goOneCell 19 = .ok (.getfield 18, 3) := by decide +kernel
theorem dX1_goOneCell_22 : decode cX1_goOneCell 22 = .ok (.iconst 1, 1) := by decide +kernel
theorem dX1_goOneCell_23 : decode cX1_goOneCell 23 = .ok (.iadd, 1) := by decide +kernel
theorem dX1_goOneCell_24 : decode cX1_goOneCell 24 = .ok (.putfield 18, 3) := by decide +kernel
theorem dX1_goOneCell_27 : decode cX1_goOneCell 27 = .ok (.goto 87, 3) := by decide +kernel
theorem dX1_goOneCell_30 : decode cX1_goOneCell 30 = .ok (.iload_n 1, 1) := by decide +kernel
theorem dX1_goOneCell_31 : decode cX1_goOneCell 31 = .ok (.iconst 2, 1) := by decide +kernel
theorem dX1_goOneCell_32 : decode cX1_goOneCell 32 = .ok (.if_icmp .ne 20, 3) := by decide +kernel
theorem dX1_goOneCell_35 : decode cX1_goOneCell 35 = .ok (.iload_n 2, 1) := by decide +kernel
theorem dX1_goOneCell_36 : decode cX1_goOneCell 36 = .ok (.ifCond .le 16, 3) := by decide +kernel
theorem dX1_goOneCell_39 : decode cX1_goOneCell 39 = .ok (.aload_n 0, 1) := by decide +kernel
theorem dX1_goOneCell_40 : decode cX1_goOneCell 40 = .ok (.dup, 1) := by decide +kernel
theorem dX1_goOneCell_41 : decode cX1_goOneCell 41 = .ok (.getfield 18, 3) := by decide +kernel
theorem dX1_goOneCell_44 : decode cX1_goOneCell 44 = .ok (.iconst 1, 1) := by decide +kernel
theorem dX1_goOneCell_45 : decode cX1_goOneCell 45 = .ok (.isub, 1) := by decide +kernel
theorem dX1_goOneCell_46 : decode cX1_goOneCell 46 = .ok (.putfield 18, 3) := by decide +kernel
theorem dX1_goOneCell_49 : decode cX1_goOneCell 49 = .ok (.goto 65, 3) := by decide +kernel
theorem dX1_goOneCell_52 : decode cX1_goOneCell 52 = .ok (.iload_n 1, 1) := by decide +kernel
theorem dX1_goOneCell_53 : decode cX1_goOneCell 53 = .ok (.iconst 3, 1) := by decide +kernel
theorem dX1_goOneCell_54 : decode cX1_goOneCell 54 = .ok (.if_icmp .ne 24, 3) := by decide +kernel
theorem dX1_goOneCell_57 : decode cX1_goOneCell 57 = .ok (.aload_n 0, 1) := by decide +kernel
theorem dX1_goOneCell_58 : decode cX1_goOneCell 58 = .ok (.getfield 18, 3) := by decide +kernel
theorem dX1_goOneCell_61 : decode cX1_goOneCell 61 = .ok (.iconst 5, 1) := by decide +kernel
theorem dX1_goOneCell_62 : decode cX1_goOneCell 62 = .ok (.if_icmp .lt 16, 3) := by decide +kernel
theorem dX1_goOneCell_65 : decode cX1_goOneCell 65 = .ok (.aload_n 0, 1) := by decide +kernel
theorem dX1_goOneCell_66 : decode cX1_goOneCell 66 = .ok (.dup, 1) := by decide +kernel
theorem dX1_goOneCell_67 : decode cX1_goOneCell 67 = .ok (.getfield 18, 3) := by decide +kernel
theorem dX1_goOneCell_70 : decode cX1_goOneCell 70 = .ok (.iconst 5, 1) := by decide +kernel
theorem dX1_goOneCell_71 : decode cX1_goOneCell 71 = .ok (.isub, 1) := by decide +kernel
theorem dX1_goOneCell_72 : decode cX1_goOneCell 72 = .ok (.putfield 18, 3) := by decide +kernel
theorem dX1_goOneCell_75 : decode cX1_goOneCell 75 = .ok (.goto 39, 3) := by decide +kernel
theorem dX1_goOneCell_78 : decode cX1_goOneCell 78 = .ok (.iload_n 1, 1) := by decide +kernel
theorem dX1_goOneCell_79 : decode cX1_goOneCell 79 = .ok (.iconst 4, 1) := by decide +kernel
theorem dX1_goOneCell_80 : decode cX1_goOneCell 80 = .ok (.if_icmp .ne 25, 3) := by decide +kernel
theorem dX1_goOneCell_83 : decode cX1_goOneCell 83 = .ok (.aload_n 0, 1) := by decide +kernel
theorem dX1_goOneCell_84 : decode cX1_goOneCell 84 = .ok (.getfield 18, 3) := by decide +kernel
theorem dX1_goOneCell_87 : decode cX1_goOneCell 87 = .ok (.bipush 15, 2) := by decide +kernel
theorem dX1_goOneCell_89 : decode cX1_goOneCell 89 = .ok (.if_icmp .ge 16, 3) := by decide +kernel
theorem dX1_goOneCell_92 : decode cX1_goOneCell 92 = .ok (.aload_n 0, 1) := by decide +kernel
theorem dX1_goOneCell_93 : decode cX1_goOneCell 93 = .ok (.dup, 1) := by decide +kernel
theorem dX1_goOneCell_94 : decode cX1_goOneCell 94 = .ok (.getfield 18, 3) := by decide +kernel
theorem dX1_goOneCell_97 : decode cX1_goOneCell 97 = .ok (.iconst 5, 1) := by decide +kernel
theorem dX1_goOneCell_98 : decode cX1_goOneCell 98 = .ok (.iadd, 1) := by decide +kernel
theorem dX1_goOneCell_99 : decode cX1_goOneCell 99 = .ok (.putfield 18, 3) := by decide +kernel
theorem dX1_goOneCell_102 : decode cX1_goOneCell 102 = .ok (.goto 12, 3) := by decide +kernel
theorem dX1_goOneCell_105 : decode cX1_goOneCell 105 = .ok (.iload_n 1, 1) := by decide +kernel
theorem dX1_goOneCell_106 : decode cX1_goOneCell 106 = .ok (.ifCond .eq 8, 3) := by decide +kernel
theorem dX1_goOneCell_109 : decode cX1_goOneCell 109 = .ok (.aload_n 0, 1) := by decide +kernel
theorem dX1_goOneCell_110 : decode cX1_goOneCell 110 = .ok (.iconst 3, 1) := by decide +kernel
theorem dX1_goOneCell_111 : decode cX1_goOneCell 111 = .ok (.putfield 21, 3) := by decide +kernel
theorem dX1_goOneCell_114 : decode cX1_goOneCell 114 = .ok (.return_, 1) := by decide +kernel
theorem dX1_catchIn_0 : decode cX1_catchIn 0 = .ok (.aload_n 0, 1) := by decide +kernel
theorem dX1_catchIn_1 : decode cX1_catchIn 1 = .ok (.iconst 2, 1) := by decide +kernel
theorem dX1_catchIn_2 : decode cX1_catchIn 2 = .ok (.putfield 21, 3) := by decide +kernel
theorem dX1_catchIn_5 : decode cX1_catchIn 5 = .ok (.aload_n 0, 1) := by decide +kernel
theorem dX1_catchIn_6 : decode cX1_catchIn 6 = .ok (.iload_n 1, 1) := by decide +kernel
theorem dX1_catchIn_7 : decode cX1_catchIn 7 = .ok (.putfield 9, 3) := by decide +kernel
theorem dX1_catchIn_10 : decode cX1_catchIn 10 = .ok (.aload_n 0, 1) := by decide +kernel
theorem dX1_catchIn_11 : decode cX1_catchIn 11 = .ok (.iload_n 2, 1) := by decide +kernel
theorem dX1_catchIn_12 : decode cX1_catchIn 12 = .ok (.putfield 24, 3) := by decide +kernel
theorem dX1_catchIn_15 : decode cX1_catchIn 15 = .ok (.return_, 1) := by decide +kernel
theorem dX1_leaveHedge_0 : decode cX1_leaveHedge 0 = .ok (.aload_n 0, 1) := by decide +kernel
theorem dX1_leaveHedge_1 : decode cX1_leaveHedge 1 = .ok (.iload_n 1, 1) := by decide +kernel
theorem dX1_leaveHedge_2 : decode cX1_leaveHedge 2 = .ok (.putfield 21, 3) := by decide +kernel
theorem dX1_leaveHedge_5 : decode cX1_leaveHedge 5 = .ok (.aload_n 0, 1) := by decide +kernel
theorem dX1_leaveHedge_6 : decode cX1_leaveHedge 6 = .ok (.bipush (-9), 2) := by decide +kernel
theorem dX1_leaveHedge_8 : decode cX1_leaveHedge 8 = .ok (.putfield 9, 3) := by decide +kernel
theorem dX1_leaveHedge_11 : decode cX1_leaveHedge 11 = .ok (.return_, 1) := by decide +kernel
theorem dX2_init_0 : decode cX2_init 0 = .ok (.aload_n 0, 1) := by decide +kernel
theorem dX2_init_1 : decode cX2_init 1 = .ok (.invokespecial 3, 3) := by decide +kernel
theorem dX2_init_4 : decode cX2_init 4 = .ok (.aload_n 0, 1) := by decide +kernel
theorem dX2_init_5 : decode cX2_init 5 = .ok (.iconst 4, 1) := by decide +kernel
theorem dX2_init_6 : decode cX2_init 6 = .ok (.newarray .int, 2) := by decide +kernel
theorem dX2_init_8 : decode cX2_init 8 = .ok (.putfield 11, 3) := by decide +kernel
theorem dX2_init_11 : decode cX2_init 11 = .ok (.aload_n 0, 1) := by decide +kernel
theorem dX2_init_12 : decode cX2_init 12 = .ok (.iconst 4, 1) := by decide +kernel
theorem dX2_init_13 : decode cX2_init 13 = .ok (.newarray .int, 2) := by decide +kernel
theorem dX2_init_15 : decode cX2_init 15 = .ok (.putfield 15, 3) := by decide +kernel
theorem dX2_init_18 : decode cX2_init 18 = .ok (.aload_n 0, 1) := by decide +kernel
theorem dX2_init_19 : decode cX2_init 19 = .ok (.aload_n 1, 1) := by decide +kernel
theorem dX2_init_20 : decode cX2_init 20 = .ok (.putfield 18, 3) := by decide +kernel
theorem dX2_init_23 : decode cX2_init 23 = .ok (.aload_n 0, 1) := by decide +kernel
theorem dX2_init_24 : decode cX2_init 24 = .ok (.aload_n 2, 1) := by decide +kernel
theorem dX2_init_25 : decode cX2_init 25 = .ok (.putfield 22, 3) := by decide +kernel
theorem dX2_init_28 : decode cX2_init 28 = .ok (.return_, 1) := by decide +kernel
theorem dX2_tryAllPairs_0 : decode cX2_tryAllPairs 0 = .ok (.iconst 0, 1) := by decide +kernel
theorem dX2_tryAllPairs_1 : decode cX2_tryAllPairs 1 = .ok (.istore_n 3, 1) := by decide +kernel
theorem dX2_tryAllPairs_2 : decode cX2_tryAllPairs 2 = .ok (.iload_n 3, 1) := by decide +kernel
theorem dX2_tryAllPairs_3 : decode cX2_tryAllPairs 3 = .ok (.iconst 4, 1) := by decide +kernel
theorem dX2_tryAllPairs_4 : decode cX2_tryAllPairs 4 = .ok (.if_icmp .ge 103, 3) := by decide +kernel
theorem dX2_tryAllPairs_7 : decode cX2_tryAllPairs 7 = .ok (.aload_n 0, 1) := by decide +kernel
theorem dX2_tryAllPairs_8 : decode cX2_tryAllPairs 8 = .ok (.getfield 22, 3) := by decide +kernel
theorem dX2_tryAllPairs_11 : decode cX2_tryAllPairs 11 = .ok (.aload_n 0, 1) := by decide +kernel
theorem dX2_tryAllPairs_12 : decode cX2_tryAllPairs 12 = .ok (.getfield 18, 3) := by decide +kernel
theorem dX2_tryAllPairs_15 : decode cX2_tryAllPairs 15 = .ok (.invokevirtual 25, 3) := by decide +kernel
theorem dX2_tryAllPairs_18 : decode cX2_tryAllPairs 18 = .ok (.iload_n 3, 1) := by decide +kernel
theorem dX2_tryAllPairs_19 : decode cX2_tryAllPairs 19 = .ok (.iconst 2, 1) := by decide +kernel
theorem dX2_tryAllPairs_20 : decode cX2_tryAllPairs 20 = .ok (.iand, 1) := by decide +kernel
theorem dX2_tryAllPairs_21 : decode cX2_tryAllPairs 21 = .ok (.ifCond .eq 12, 3) := by decide +kernel
theorem dX2_tryAllPairs_24 : decode cX2_tryAllPairs 24 = .ok (.aload_n 0, 1) := by decide +kernel
theorem dX2_tryAllPairs_25 : decode cX2_tryAllPairs 25 = .ok (.getfield 22, 3) := by decide +kernel
theorem dX2_tryAllPairs_28 : decode cX2_tryAllPairs 28 = .ok (.iload_n 1, 1) := by decide +kernel
theorem dX2_tryAllPairs_29 : decode cX2_tryAllPairs 29 = .ok (.invokevirtual 31, 3) := by decide +kernel
theorem dX2_tryAllPairs_32 : decode cX2_tryAllPairs 32 = .ok (.pop, 1) := by decide +kernel
theorem dX2_tryAllPairs_33 : decode cX2_tryAllPairs 33 = .ok (.iload_n 3, 1) := by decide +kernel
theorem dX2_tryAllPairs_34 : decode cX2_tryAllPairs 34 = .ok (.iconst 1, 1) := by decide +kernel
theorem dX2_tryAllPairs_35 : decode cX2_tryAllPairs 35 = .ok (.iand, 1) := by decide +kernel
theorem dX2_tryAllPairs_36 : decode cX2_tryAllPairs 36 = .ok (.ifCond .eq 12, 3) := by decide +kernel
theorem dX2_tryAllPairs_39 : decode cX2_tryAllPairs 39 = .ok (.aload_n 0, 1) := by decide +kernel
theorem dX2_tryAllPairs_40 : decode cX2_tryAllPairs 40 = .ok (.getfield 22, 3) := by decide +kernel
theorem dX2_tryAllPairs_43 : decode cX2_tryAllPairs 43 = .ok (.iload_n 2, 1) := by decide +kernel
theorem dX2_tryAllPairs_44 : decode cX2_tryAllPairs 44 = .ok (.invokevirtual 31, 3) := by decide +kernel
theorem dX2_tryAllPairs_47 : decode cX2_tryAllPairs 47 = .ok (.pop, 1) := by decide +kernel
theorem dX2_tryAllPairs_48 : decode cX2_tryAllPairs 48 = .ok (.aload_n 0, 1) := by decide +kernel
theorem dX2_tryAllPairs_49 : decode cX2_tryAllPairs 49 = .ok (.getfield 22, 3) := by decide +kernel
theorem dX2_tryAllPairs_52 : decode cX2_tryAllPairs 52 = .ok (.bipush 9, 2) := by decide +kernel
theorem dX2_tryAllPairs_54 : decode cX2_tryAllPairs 54 = .ok (.invokevirtual 35, 3) := by decide +kernel
theorem dX2_tryAllPairs_57 : decode cX2_tryAllPairs 57 = .ok (.aload_n 0, 1) := by decide +kernel
theorem dX2_tryAllPairs_58 : decode cX2_tryAllPairs 58 = .ok (.iload_n 1, 1) := by decide +kernel
theorem dX2_tryAllPairs_59 : decode cX2_tryAllPairs 59 = .ok (.iload_n 2, 1) := by decide +kernel
theorem dX2_tryAllPairs_60 : decode cX2_tryAllPairs 60 = .ok (.invokevirtual 39, 3) := by decide +kernel
theorem dX2_tryAllPairs_63 : decode cX2_tryAllPairs 63 = .ok (.ifCond .eq 7, 3) := by decide +kernel
theorem dX2_tryAllPairs_66 : decode cX2_tryAllPairs 66 = .ok (.iconst 1, 1) := by decide +kernel
theorem dX2_tryAllPairs_67 : decode cX2_tryAllPairs 67 = .ok (.goto 4, 3) := by decide +kernel
theorem dX2_tryAllPairs_70 : decode cX2_tryAllPairs 70 = .ok (.iconst 0, 1) := by decide +kernel
theorem dX2_tryAllPairs_71 : decode cX2_tryAllPairs 71 = .ok (.istore 4, 2) := by decide +kernel
theorem dX2_tryAllPairs_73 : decode cX2_tryAllPairs 73 = .ok (.aload_n 0, 1) := by decide +kernel
theorem dX2_tryAllPairs_74 : decode cX2_tryAllPairs 74 = .ok (.getfield 11, 3) := by decide +kernel
theorem dX2_tryAllPairs_77 : decode cX2_tryAllPairs 77 = .ok (.iload_n 3, 1) := by decide +kernel
theorem dX2_tryAllPairs_78 : decode cX2_tryAllPairs 78 = .ok (.aload_n 0, 1) := by decide +kernel
theorem dX2_tryAllPairs_79 : decode cX2_tryAllPairs 79 = .ok (.iload_n 1, 1) := by decide +kernel
theorem dX2_tryAllPairs_80 : decode cX2_tryAllPairs 80 = .ok (.invokevirtual 43, 3) := by decide +kernel
theorem dX2_tryAllPairs_83 : decode cX2_tryAllPairs 83 = .ok (.iload 4, 2) := by decide +kernel
theorem dX2_tryAllPairs_85 : decode cX2_tryAllPairs 85 = .ok (.isub, 1) := by decide +kernel
theorem dX2_tryAllPairs_86 : decode cX2_tryAllPairs 86 = .ok (.iastore, 1) := by decide +kernel
theorem dX2_tryAllPairs_87 : decode cX2_tryAllPairs 87 = .ok (.aload_n 0, 1) := by decide +kernel
theorem dX2_tryAllPairs_88 : decode cX2_tryAllPairs 88 = .ok (.getfield 15, 3) := by decide +kernel
theorem dX2_tryAllPairs_91 : decode cX2_tryAllPairs 91 = .ok (.iload_n 3, 1) := by decide +kernel
theorem dX2_tryAllPairs_92 : decode cX2_tryAllPairs 92 = .ok (.aload_n 0, 1) := by decide +kernel
theorem dX2_tryAllPairs_93 : decode cX2_tryAllPairs 93 = .ok (.iload_n 2, 1) := by decide +kernel
theorem dX2_tryAllPairs_94 : decode cX2_tryAllPairs 94 = .ok (.invokevirtual 43, 3) := by decide +kernel
theorem dX2_tryAllPairs_97 : decode cX2_tryAllPairs 97 = .ok (.iload 4, 2) := by decide +kernel
theorem dX2_tryAllPairs_99 : decode cX2_tryAllPairs 99 = .ok (.isub, 1) := by decide +kernel
theorem dX2_tryAllPairs_100 : decode cX2_tryAllPairs 100 = .ok (.iastore, 1) := by decide +kernel
theorem dX2_tryAllPairs_101 : decode cX2_tryAllPairs 101 = .ok (.iinc 3 1, 3) := by decide +kernel
theorem dX2_tryAllPairs_104 : decode cX2_tryAllPairs 104 = .ok (.goto (-102), 3) := by decide +kernel
theorem dX2_tryAllPairs_107 : decode cX2_tryAllPairs 107 = .ok (.return_, 1) := by decide +kernel
theorem dX2_caughtTogether_0 : decode cX2_caughtTogether 0 = .ok (.aload_n 0, 1) := by decide +kernel
theorem dX2_caughtTogether_1 : decode cX2_caughtTogether 1 = .ok (.getfield 22, 3) := by decide +kernel
theorem dX2_caughtTogether_4 : decode cX2_caughtTogether 4 = .ok (.iload_n 1, 1) := by decide +kernel
theorem dX2_caughtTogether_5 : decode cX2_caughtTogether 5 = .ok (.iconst 2, 1) := by decide +kernel
theorem dX2_caughtTogether_6 : decode cX2_caughtTogether 6 = .ok (.invokevirtual 47, 3) := by decide +kernel
theorem dX2_caughtTogether_9 : decode cX2_caughtTogether 9 = .ok (.ifCond .eq 34, 3) := by decide +kernel
theorem dX2_caughtTogether_12 : decode cX2_caughtTogether 12 = .ok (.aload_n 0, 1) := by decide +kernel
theorem dX2_caughtTogether_13 : decode cX2_caughtTogether 13 = .ok (.getfield 22, 3) := by decide +kernel
theorem dX2_caughtTogether_16 : decode cX2_caughtTogether 16 = .ok (.getfield 50, 3) := by decide +kernel
theorem dX2_caughtTogether_19 : decode cX2_caughtTogether 19 = .ok (.iload_n 1, 1) := by decide +kernel
theorem dX2_caughtTogether_20 : decode cX2_caughtTogether 20 = .ok (.aaload, 1) := by decide +kernel
theorem dX2_caughtTogether_21 : decode cX2_caughtTogether 21 = .ok (.getfield 54, 3) := by decide +kernel
theorem dX2_caughtTogether_24 : decode cX2_caughtTogether 24 = .ok (.aload_n 0, 1) := by decide +kernel
theorem dX2_caughtTogether_25 : decode cX2_caughtTogether 25 = .ok (.getfield 22, 3) := by decide +kernel
theorem dX2_caughtTogether_28 : decode cX2_caughtTogether 28 = .ok (.getfield 50, 3) := by decide +kernel
theorem dX2_caughtTogether_31 : decode cX2_caughtTogether 31 = .ok (.iload_n 2, 1) := by decide +kernel
theorem dX2_caughtTogether_32 : decode cX2_caughtTogether 32 = .ok (.aaload, 1) := by decide +kernel
theorem dX2_caughtTogether_33 : decode cX2_caughtTogether 33 = .ok (.getfield 54, 3) := by decide +kernel
theorem dX2_caughtTogether_36 : decode cX2_caughtTogether 36 = .ok (.if_icmp .ne 7, 3) := by decide +kernel
theorem dX2_caughtTogether_39 : decode cX2_caughtTogether 39 = .ok (.iconst 1, 1) := by decide +kernel
theorem dX2_caughtTogether_40 : decode cX2_caughtTogether 40 = .ok (.goto 4, 3) := by decide +kernel
theorem dX2_caughtTogether_43 : decode cX2_caughtTogether 43 = .ok (.iconst 0, 1) := by decide +kernel
theorem dX2_caughtTogether_44 : decode cX2_caughtTogether 44 = .ok (.ireturn, 1) := by decide +kernel
theorem dX2_ownJoy_0 : decode cX2_ownJoy 0 = .ok (.aload_n 0, 1) := by decide +kernel
theorem dX2_ownJoy_1 : decode cX2_ownJoy 1 = .ok (.getfield 22, 3) := by decide +kernel
theorem dX2_ownJoy_4 : decode cX2_ownJoy 4 = .ok (.iload_n 1, 1) := by decide +kernel
theorem dX2_ownJoy_5 : decode cX2_ownJoy 5 = .ok (.invokevirtual 60, 3) := by decide +kernel
theorem dX2_ownJoy_8 : decode cX2_ownJoy 8 = .ok (.ifCond .eq 7, 3) := by decide +kernel
theorem dX2_ownJoy_11 : decode cX2_ownJoy 11 = .ok (.iconst 3, 1) := by decide +kernel
theorem dX2_ownJoy_12 : decode cX2_ownJoy 12 = .ok (.goto 4, 3) := by decide +kernel
theorem dX2_ownJoy_15 : decode cX2_ownJoy 15 = .ok (.iconst 0, 1) := by decide +kernel
theorem dX2_ownJoy_16 : decode cX2_ownJoy 16 = .ok (.aload_n 0, 1) := by decide +kernel
theorem dX2_ownJoy_17 : decode cX2_ownJoy 17 = .ok (.getfield 22, 3) := by decide +kernel
theorem dX2_ownJoy_20 : decode cX2_ownJoy 20 = .ok (.iload_n 1, 1) := by decide +kernel
theorem dX2_ownJoy_21 : decode cX2_ownJoy 21 = .ok (.iconst 0, 1) := by decide +kernel
theorem dX2_ownJoy_22 : decode cX2_ownJoy 22 = .ok (.invokevirtual 47, 3) := by decide +kernel
theorem dX2_ownJoy_25 : decode cX2_ownJoy 25 = .ok (.ifCond .eq 7, 3) := by decide +kernel
theorem dX2_ownJoy_28 : decode cX2_ownJoy 28 = .ok (.iconst 1, 1) := by decide +kernel
theorem dX2_ownJoy_29 : decode cX2_ownJoy 29 = .ok (.goto 4, 3) := by decide +kernel
theorem dX2_ownJoy_32 : decode cX2_ownJoy 32 = .ok (.iconst 0, 1) := by decide +kernel
theorem dX2_ownJoy_33 : decode cX2_ownJoy 33 = .ok (.iadd, 1) := by decide +kernel
theorem dX2_ownJoy_34 : decode cX2_ownJoy 34 = .ok (.ireturn, 1) := by decide +kernel
theorem dX2_isAtRest_0 : decode cX2_isAtRest 0 = .ok (.aload_n 0, 1) := by decide +kernel
theorem dX2_isAtRest_1 : decode cX2_isAtRest 1 = .ok (.getfield 11, 3) := by decide +kernel
theorem dX2_isAtRest_4 : decode cX2_isAtRest 4 = .ok (.iload_n 1, 1) := by decide +kernel
theorem dX2_isAtRest_5 : decode cX2_isAtRest 5 = .ok (.iconst 2, 1) := by decide +kernel
theorem dX2_isAtRest_6 : decode cX2_isAtRest 6 = .ok (.ixor, 1) := by decide +kernel
theorem dX2_isAtRest_7 : decode cX2_isAtRest 7 = .ok (.iaload, 1) := by decide +kernel
theorem dX2_isAtRest_8 : decode cX2_isAtRest 8 = .ok (.aload_n 0, 1) := by decide +kernel
theorem dX2_isAtRest_9 : decode cX2_isAtRest 9 = .ok (.getfield 11, 3) := by decide +kernel
theorem dX2_isAtRest_12 : decode cX2_isAtRest 12 = .ok (.iload_n 1, 1) := by decide +kernel
theorem dX2_isAtRest_13 : decode cX2_isAtRest 13 = .ok (.iaload, 1) := by decide +kernel
theorem dX2_isAtRest_14 : decode cX2_isAtRest 14 = .ok (.if_icmp .gt 24, 3) := by decide +kernel
theorem dX2_isAtRest_17 : decode cX2_isAtRest 17 = .ok (.aload_n 0, 1) := by decide +kernel
theorem dX2_isAtRest_18 : decode cX2_isAtRest 18 = .ok (.getfield 15, 3) := by decide +kernel
theorem dX2_isAtRest_21 : decode cX2_isAtRest 21 = .ok (.iload_n 1, 1) := by decide +kernel
theorem dX2_isAtRest_22 : decode cX2_isAtRest 22 = .ok (.iconst 1, 1) := by decide +kernel
theorem dX2_isAtRest_23 : decode cX2_isAtRest 23 = .ok (.ixor, 1) := by decide +kernel
theorem dX2_isAtRest_24 : decode cX2_isAtRest 24 = .ok (.iaload, 1) := by decide +kernel
theorem dX2_isAtRest_25 : decode cX2_isAtRest 25 = .ok (.aload_n 0, 1) := by decide +kernel
theorem dX2_isAtRest_26 : decode cX2_isAtRest 26 = .ok (.getfield 15, 3) := by decide +kernel
theorem dX2_isAtRest_29 : decode cX2_isAtRest 29 = .ok (.iload_n 1, 1) := by decide +kernel
theorem dX2_isAtRest_30 : decode cX2_isAtRest 30 = .ok (.iaload, 1) := by decide +kernel
theorem dX2_isAtRest_31 : decode cX2_isAtRest 31 = .ok (.if_icmp .gt 7, 3) := by decide +kernel
theorem dX2_isAtRest_34 : decode cX2_isAtRest 34 = .ok (.iconst 1, 1) := by decide +kernel
theorem dX2_isAtRest_35 : decode cX2_isAtRest 35 = .ok (.goto 4, 3) := by decide +kernel
theorem dX2_isAtRest_38 : decode cX2_isAtRest 38 = .ok (.iconst 0, 1) := by decide +kernel
theorem dX2_isAtRest_39 : decode cX2_isAtRest 39 = .ok (.ireturn, 1) := by decide +kernel
theorem dX2_howManyRest_0 : decode cX2_howManyRest 0 = .ok (.iconst 0, 1) := by decide +kernel
theorem dX2_howManyRest_1 : decode cX2_howManyRest 1 = .ok (.istore_n 1, 1) := by decide +kernel
theorem dX2_howManyRest_2 : decode cX2_howManyRest 2 = .ok (.iconst 0, 1) := by decide +kernel
theorem dX2_howManyRest_3 : decode cX2_howManyRest 3 = .ok (.istore_n 2, 1) := by decide +kernel
theorem dX2_howManyRest_4 : decode cX2_howManyRest 4 = .ok (.iload_n 2, 1) := by decide +kernel
theorem dX2_howManyRest_5 : decode cX2_howManyRest 5 = .ok (.iconst 4, 1) := by decide +kernel
theorem dX2_howManyRest_6 : decode cX2_howManyRest 6 = .ok (.if_icmp .ge 20, 3) := by decide +kernel
theorem dX2_howManyRest_9 : decode cX2_howManyRest 9 = .ok (.aload_n 0, 1) := by decide +kernel
theorem dX2_howManyRest_10 : decode cX2_howManyRest 10 = .ok (.iload_n 2, 1) := by decide +kernel
theorem dX2_howManyRest_11 : decode cX2_howManyRest 11 = .ok (.invokevirtual 63, 3) := by decide +kernel
theorem dX2_howManyRest_14 : decode cX2_howManyRest 14 = .ok (.ifCond .eq 6, 3) := by decide +kernel
theorem dX2_howManyRest_17 : decode cX2_howManyRest 17 = .ok (.iinc 1 1, 3) := by decide +kernel
theorem dX2_howManyRest_20 : decode cX2_howManyRest 20 = .ok (.iinc 2 1, 3) := by decide +kernel
theorem dX2_howManyRest_23 : decode cX2_howManyRest 23 = .ok (.goto (-19), 3) := by decide +kernel
theorem dX2_howManyRest_26 : decode cX2_howManyRest 26 = .ok (.iload_n 1, 1) := by decide +kernel
theorem dX2_howManyRest_27 : decode cX2_howManyRest 27 = .ok (.ireturn, 1) := by decide +kernel
theorem dX2_firstAtRest_0 : decode cX2_firstAtRest 0 = .ok (.iconst 0, 1) := by decide +kernel
theorem dX2_firstAtRest_1 : decode cX2_firstAtRest 1 = .ok (.istore_n 1, 1) := by decide +kernel
theorem dX2_firstAtRest_2 : decode cX2_firstAtRest 2 = .ok (.iload_n 1, 1) := by decide +kernel
theorem dX2_firstAtRest_3 : decode cX2_firstAtRest 3 = .ok (.iconst 4, 1) := by decide +kernel
theorem dX2_firstAtRest_4 : decode cX2_firstAtRest 4 = .ok (.if_icmp .ge 28, 3) := by decide +kernel
theorem dX2_firstAtRest_7 : decode cX2_firstAtRest 7 = .ok (.aload_n 0, 1) := by decide +kernel
theorem dX2_firstAtRest_8 : decode cX2_firstAtRest 8 = .ok (.iload_n 1, 1) := by decide +kernel
theorem dX2_firstAtRest_9 : decode cX2_firstAtRest 9 = .ok (.invokevirtual 63, 3) := by decide +kernel
theorem dX2_firstAtRest_12 : decode cX2_firstAtRest 12 = .ok (.ifCond .eq 14, 3) := by decide +kernel
theorem dX2_firstAtRest_15 : decode cX2_firstAtRest 15 = .ok (.bipush 10, 2) := by decide +kernel
theorem dX2_firstAtRest_17 : decode cX2_firstAtRest 17 = .ok (.iload_n 1, 1) := by decide +kernel
theorem dX2_firstAtRest_18 : decode cX2_firstAtRest 18 = .ok (.iconst 1, 1) := by decide +kernel
theorem dX2_firstAtRest_19 : decode cX2_firstAtRest 19 = .ok (.ishr, 1) := by decide +kernel
theorem dX2_firstAtRest_20 : decode cX2_firstAtRest 20 = .ok (.imul, 1) := by decide +kernel
theorem dX2_firstAtRest_21 : decode cX2_firstAtRest 21 = .ok (.iload_n 1, 1) := by decide +kernel
theorem dX2_firstAtRest_22 : decode cX2_firstAtRest 22 = .ok (.iconst 1, 1) := by decide +kernel
theorem dX2_firstAtRest_23 : decode cX2_firstAtRest 23 = .ok (.iand, 1) := by decide +kernel
theorem dX2_firstAtRest_24 : decode cX2_firstAtRest 24 = .ok (.iadd, 1) := by decide +kernel
theorem dX2_firstAtRest_25 : decode cX2_firstAtRest 25 = .ok (.ireturn, 1) := by decide +kernel
theorem dX2_firstAtRest_26 : decode cX2_firstAtRest 26 = .ok (.iinc 1 1, 3) := by decide +kernel
theorem dX2_firstAtRest_29 : decode cX2_firstAtRest 29 = .ok (.goto (-27), 3) := by decide +kernel
theorem dX2_firstAtRest_32 : decode cX2_firstAtRest 32 = .ok (.bipush (-9), 2) := by decide +kernel
theorem dX2_firstAtRest_34 : decode cX2_firstAtRest 34 = .ok (.ireturn, 1) := by decide +kernel
theorem dX3_init_0 : decode cX3_init 0 = .ok (.aload_n 0, 1) := by decide +kernel
theorem dX3_init_1 : decode cX3_init 1 = .ok (.invokespecial 3, 3) := by decide +kernel
theorem dX3_init_4 : decode cX3_init 4 = .ok (.aload_n 0, 1) := by decide +kernel
theorem dX3_init_5 : decode cX3_init 5 = .ok (.aload_n 1, 1) := by decide +kernel
theorem dX3_init_6 : decode cX3_init 6 = .ok (.putfield 9, 3) := by decide +kernel
theorem dX3_init_9 : decode cX3_init 9 = .ok (.aload_n 0, 1) := by decide +kernel
theorem dX3_init_10 : decode cX3_init 10 = .ok (.aload_n 2, 1) := by decide +kernel
theorem dX3_init_11 : decode cX3_init 11 = .ok (.putfield 15, 3) := by decide +kernel
theorem dX3_init_14 : decode cX3_init 14 = .ok (.return_, 1) := by decide +kernel
theorem dX3_waysCaught_0 : decode cX3_waysCaught 0 = .ok (.iconst 0, 1) := by decide +kernel
theorem dX3_waysCaught_1 : decode cX3_waysCaught 1 = .ok (.istore 5, 2) := by decide +kernel
theorem dX3_waysCaught_3 : decode cX3_waysCaught 3 = .ok (.iconst 0, 1) := by decide +kernel
theorem dX3_waysCaught_4 : decode cX3_waysCaught 4 = .ok (.istore 6, 2) := by decide +kernel
theorem dX3_waysCaught_6 : decode cX3_waysCaught 6 = .ok (.iload 6, 2) := by decide +kernel
theorem dX3_waysCaught_8 : decode cX3_waysCaught 8 = .ok (.iconst 1, 1) := by decide +kernel
theorem dX3_waysCaught_9 : decode cX3_waysCaught 9 = .ok (.iload_n 3, 1) := by decide +kernel
theorem dX3_waysCaught_10 : decode cX3_waysCaught 10 = .ok (.ishl, 1) := by decide +kernel
theorem dX3_waysCaught_11 : decode cX3_waysCaught 11 = .ok (.if_icmp .ge 62, 3) := by decide +kernel
theorem dX3_waysCaught_14 : decode cX3_waysCaught 14 = .ok (.iload 6, 2) := by decide +kernel
theorem dX3_waysCaught_16 : decode cX3_waysCaught 16 = .ok (.invokestatic 18, 3) := by decide +kernel
theorem dX3_waysCaught_19 : decode cX3_waysCaught 19 = .ok (.istore 7, 2) := by decide +kernel
theorem dX3_waysCaught_21 : decode cX3_waysCaught 21 = .ok (.iload 4, 2) := by decide +kernel
theorem dX3_waysCaught_23 : decode cX3_waysCaught 23 = .ok (.iload 7, 2) := by decide +kernel
theorem dX3_waysCaught_25 : decode cX3_waysCaught 25 = .ok (.invokestatic 24, 3) := by decide +kernel
theorem dX3_waysCaught_28 : decode cX3_waysCaught 28 = .ok (.bipush 10, 2) := by decide +kernel
theorem dX3_waysCaught_30 : decode cX3_waysCaught 30 = .ok (.iload 4, 2) := by decide +kernel
theorem dX3_waysCaught_32 : decode cX3_waysCaught 32 = .ok (.isub, 1) := by decide +kernel
theorem dX3_waysCaught_33 : decode cX3_waysCaught 33 = .ok (.iload_n 3, 1) := by decide +kernel
theorem dX3_waysCaught_34 : decode cX3_waysCaught 34 = .ok (.iload 7, 2) := by decide +kernel
theorem dX3_waysCaught_36 : decode cX3_waysCaught 36 = .ok (.isub, 1) := by decide +kernel
theorem dX3_waysCaught_37 : decode cX3_waysCaught 37 = .ok (.invokestatic 24, 3) := by decide +kernel
theorem dX3_waysCaught_40 : decode cX3_waysCaught 40 = .ok (.imul, 1) := by decide +kernel
theorem dX3_waysCaught_41 : decode cX3_waysCaught 41 = .ok (.istore 8, 2) := by decide +kernel
theorem dX3_waysCaught_43 : decode cX3_waysCaught 43 = .ok (.iload 8, 2) := by decide +kernel
theorem dX3_waysCaught_45 : decode cX3_waysCaught 45 = .ok (.ifCond .le 22, 3) := by decide +kernel
theorem dX3_waysCaught_48 : decode cX3_waysCaught 48 = .ok (.aload_n 0, 1) := by decide +kernel
theorem dX3_waysCaught_49 : decode cX3_waysCaught 49 = .ok (.iload 6, 2) := by decide +kernel
theorem dX3_waysCaught_51 : decode cX3_waysCaught 51 = .ok (.iload_n 3, 1) := by decide +kernel
theorem dX3_waysCaught_52 : decode cX3_waysCaught 52 = .ok (.iload_n 1, 1) := by decide +kernel
theorem dX3_waysCaught_53 : decode cX3_waysCaught 53 = .ok (.iload_n 2, 1) := by decide +kernel
theorem dX3_waysCaught_54 : decode cX3_waysCaught 54 = .ok (.invokevirtual 28, 3) := by decide +kernel
theorem dX3_waysCaught_57 : decode cX3_waysCaught 57 = .ok (.ifCond .eq 10, 3) := by decide +kernel
theorem dX3_waysCaught_60 : decode cX3_waysCaught 60 = .ok (.iload 5, 2) := by decide +kernel
theorem dX3_waysCaught_62 : decode cX3_waysCaught 62 = .ok (.iload 8, 2) := by decide +kernel
theorem dX3_waysCaught_64 : decode cX3_waysCaught 64 = .ok (.iadd, 1) := by decide +kernel
theorem dX3_waysCaught_65 : decode cX3_waysCaught 65 = .ok (.istore 5, 2) := by decide +kernel
theorem dX3_waysCaught_67 : decode cX3_waysCaught 67 = .ok (.iinc 6 1, 3) := by decide +kernel
theorem dX3_waysCaught_70 : decode cX3_waysCaught 70 = .ok (.goto (-64), 3) := by decide +kernel
theorem dX3_waysCaught_73 : decode cX3_waysCaught 73 = .ok (.iload 5, 2) := by decide +kernel
theorem dX3_waysCaught_75 : decode cX3_waysCaught 75 = .ok (.ireturn, 1) := by decide +kernel
theorem dX3_isCaughtIf_0 : decode cX3_isCaughtIf 0 = .ok (.aload_n 0, 1) := by decide +kernel
theorem dX3_isCaughtIf_1 : decode cX3_isCaughtIf 1 = .ok (.getfield 15, 3) := by decide +kernel
theorem dX3_isCaughtIf_4 : decode cX3_isCaughtIf 4 = .ok (.aload_n 0, 1) := by decide +kernel
theorem dX3_isCaughtIf_5 : decode cX3_isCaughtIf 5 = .ok (.getfield 9, 3) := by decide +kernel
theorem dX3_isCaughtIf_8 : decode cX3_isCaughtIf 8 = .ok (.invokevirtual 32, 3) := by decide +kernel
theorem dX3_isCaughtIf_11 : decode cX3_isCaughtIf 11 = .ok (.iconst 0, 1) := by decide +kernel
theorem dX3_isCaughtIf_12 : decode cX3_isCaughtIf 12 = .ok (.istore 5, 2) := by decide +kernel
theorem dX3_isCaughtIf_14 : decode cX3_isCaughtIf 14 = .ok (.iload 5, 2) := by decide +kernel
theorem dX3_isCaughtIf_16 : decode cX3_isCaughtIf 16 = .ok (.iload_n 2, 1) := by decide +kernel
theorem dX3_isCaughtIf_17 : decode cX3_isCaughtIf 17 = .ok (.if_icmp .ge 38, 3) := by decide +kernel
theorem dX3_isCaughtIf_20 : decode cX3_isCaughtIf 20 = .ok (.iload_n 1, 1) := by decide +kernel
theorem dX3_isCaughtIf_21 : decode cX3_isCaughtIf 21 = .ok (.iload 5, 2) := by decide +kernel
theorem dX3_isCaughtIf_23 : decode cX3_isCaughtIf 23 = .ok (.ishr, 1) := by decide +kernel
theorem dX3_isCaughtIf_24 : decode cX3_isCaughtIf 24 = .ok (.iconst 1, 1) := by decide +kernel
theorem dX3_isCaughtIf_25 : decode cX3_isCaughtIf 25 = .ok (.iand, 1) := by decide +kernel
theorem dX3_isCaughtIf_26 : decode cX3_isCaughtIf 26 = .ok (.ifCond .eq 15, 3) := by decide +kernel
theorem dX3_isCaughtIf_29 : decode cX3_isCaughtIf 29 = .ok (.aload_n 0, 1) := by decide +kernel
theorem dX3_isCaughtIf_30 : decode cX3_isCaughtIf 30 = .ok (.getfield 15, 3) := by decide +kernel
theorem dX3_isCaughtIf_33 : decode cX3_isCaughtIf 33 = .ok (.iconst 0, 1) := by decide +kernel
theorem dX3_isCaughtIf_34 : decode cX3_isCaughtIf 34 = .ok (.invokevirtual 38, 3) := by decide +kernel
theorem dX3_isCaughtIf_37 : decode cX3_isCaughtIf 37 = .ok (.pop, 1) := by decide +kernel
theorem dX3_isCaughtIf_38 : decode cX3_isCaughtIf 38 = .ok (.goto 11, 3) := by decide +kernel
theorem dX3_isCaughtIf_41 : decode cX3_isCaughtIf 41 = .ok (.aload_n 0, 1) := by decide +kernel
theorem dX3_isCaughtIf_42 : decode cX3_isCaughtIf 42 = .ok (.getfield 15, 3) := by decide +kernel
theorem dX3_isCaughtIf_45 : decode cX3_isCaughtIf 45 = .ok (.invokevirtual 41, 3) := by decide +kernel
theorem dX3_isCaughtIf_48 : decode cX3_isCaughtIf 48 = .ok (.pop, 1) := by decide +kernel
theorem dX3_isCaughtIf_49 : decode cX3_isCaughtIf 49 = .ok (.iinc 5 1, 3) := by decide +kernel
theorem dX3_isCaughtIf_52 : decode cX3_isCaughtIf 52 = .ok (.goto (-38), 3) := by decide +kernel
theorem dX3_isCaughtIf_55 : decode cX3_isCaughtIf 55 = .ok (.aload_n 0, 1) := by decide +kernel
theorem dX3_isCaughtIf_56 : decode cX3_isCaughtIf 56 = .ok (.getfield 15, 3) := by decide +kernel
theorem dX3_isCaughtIf_59 : decode cX3_isCaughtIf 59 = .ok (.getfield 45, 3) := by decide +kernel
theorem dX3_isCaughtIf_62 : decode cX3_isCaughtIf 62 = .ok (.iload_n 3, 1) := by decide +kernel
theorem dX3_isCaughtIf_63 : decode cX3_isCaughtIf 63 = .ok (.aaload, 1) := by decide +kernel
theorem dX3_isCaughtIf_64 : decode cX3_isCaughtIf 64 = .ok (.getfield 49, 3) := by decide +kernel
theorem dX3_isCaughtIf_67 : decode cX3_isCaughtIf 67 = .ok (.iload 4, 2) := by decide +kernel
theorem dX3_isCaughtIf_69 : decode cX3_isCaughtIf 69 = .ok (.if_icmp .ne 7, 3) := by decide +kernel
theorem dX3_isCaughtIf_72 : decode cX3_isCaughtIf 72 = .ok (.iconst 1, 1) := by decide +kernel
theorem dX3_isCaughtIf_73 : decode cX3_isCaughtIf 73 = .ok (.goto 4, 3) := by decide +kernel
theorem dX3_isCaughtIf_76 : decode cX3_isCaughtIf 76 = .ok (.iconst 0, 1) := by decide +kernel
theorem dX3_isCaughtIf_77 : decode cX3_isCaughtIf 77 = .ok (.ireturn, 1) := by decide +kernel
theorem dX3_gladOverYears_0 : decode cX3_gladOverYears 0 = .ok (.aload_n 0, 1) := by decide +kernel
theorem dX3_gladOverYears_1 : decode cX3_gladOverYears 1 = .ok (.getfield 15, 3) := by decide +kernel
theorem dX3_gladOverYears_4 : decode cX3_gladOverYears 4 = .ok (.aload_n 0, 1) := by decide +kernel
theorem dX3_gladOverYears_5 : decode cX3_gladOverYears 5 = .ok (.getfield 9, 3) := by decide +kernel
theorem dX3_gladOverYears_8 : decode cX3_gladOverYears 8 = .ok (.invokevirtual 32, 3) := by decide +kernel
theorem dX3_gladOverYears_11 : decode cX3_gladOverYears 11 = .ok (.iconst 0, 1) := by decide +kernel
theorem dX3_gladOverYears_12 : decode cX3_gladOverYears 12 = .ok (.istore_n 2, 1) := by decide +kernel
theorem dX3_gladOverYears_13 : decode cX3_gladOverYears 13 = .ok (.iconst 0, 1) := by decide +kernel
theorem dX3_gladOverYears_14 : decode cX3_gladOverYears 14 = .ok (.istore_n 3, 1) := by decide +kernel
theorem dX3_gladOverYears_15 : decode cX3_gladOverYears 15 = .ok (.iload_n 3, 1) := by decide +kernel
theorem dX3_gladOverYears_16 : decode cX3_gladOverYears 16 = .ok (.iload_n 1, 1) := by decide +kernel
theorem dX3_gladOverYears_17 : decode cX3_gladOverYears 17 = .ok (.if_icmp .ge 54, 3) := by decide +kernel
theorem dX3_gladOverYears_20 : decode cX3_gladOverYears 20 = .ok (.aload_n 0, 1) := by decide +kernel
theorem dX3_gladOverYears_21 : decode cX3_gladOverYears 21 = .ok (.aload_n 0, 1) := by decide +kernel
theorem dX3_gladOverYears_22 : decode cX3_gladOverYears 22 = .ok (.getfield 55, 3) := by decide +kernel
theorem dX3_gladOverYears_25 : decode cX3_gladOverYears 25 = .ok (.ldc2_w 59, 3) := by decide +kernel
theorem dX3_gladOverYears_28 : decode cX3_gladOverYears 28 = .ok (.lmul, 1) := by decide +kernel
theorem dX3_gladOverYears_29 : decode cX3_gladOverYears 29 = .ok (.ldc2_w 61, 3) := by decide +kernel
theorem dX3_gladOverYears_32 : decode cX3_gladOverYears 32 = .ok (.ladd, 1) := by decide +kernel
theorem dX3_gladOverYears_33 : decode cX3_gladOverYears 33 = .ok (.putfield 55, 3) := by decide +kernel
theorem dX3_gladOverYears_36 : decode cX3_gladOverYears 36 = .ok (.aload_n 0, 1) := by decide +kernel
theorem dX3_gladOverYears_37 : decode cX3_gladOverYears 37 = .ok (.aload_n 0, 1) := by decide +kernel
theorem dX3_gladOverYears_38 : decode cX3_gladOverYears 38 = .ok (.getfield 55, 3) := by decide +kernel
theorem dX3_gladOverYears_41 : decode cX3_gladOverYears 41 = .ok (.bipush 33, 2) := by decide +kernel
theorem dX3_gladOverYears_43 : decode cX3_gladOverYears 43 = .ok (.lushr, 1) := by decide +kernel
theorem dX3_gladOverYears_44 : decode cX3_gladOverYears 44 = .ok (.ldc2_w 63, 3) := by decide +kernel
theorem dX3_gladOverYears_47 : decode cX3_gladOverYears 47 = .ok (.lrem, 1) := by decide +kernel
theorem dX3_gladOverYears_48 : decode cX3_gladOverYears 48 = .ok (.l2i, 1) := by decide +kernel
theorem dX3_gladOverYears_49 : decode cX3_gladOverYears 49 = .ok (.invokevirtual 65, 3) := by decide +kernel
theorem dX3_gladOverYears_52 : decode cX3_gladOverYears 52 = .ok (.iload_n 2, 1) := by decide +kernel
theorem dX3_gladOverYears_53 : decode cX3_gladOverYears 53 = .ok (.aload_n 0, 1) := by decide +kernel
theorem dX3_gladOverYears_54 : decode cX3_gladOverYears 54 = .ok (.getfield 15, 3) := by decide +kernel
theorem dX3_gladOverYears_57 : decode cX3_gladOverYears 57 = .ok (.invokevirtual 69, 3) := by decide +kernel
theorem dX3_gladOverYears_60 : decode cX3_gladOverYears 60 = .ok (.invokestatic 18, 3) := by decide +kernel
theorem dX3_gladOverYears_63 : decode cX3_gladOverYears 63 = .ok (.iadd, 1) := by decide +kernel
theorem dX3_gladOverYears_64 : decode cX3_gladOverYears 64 = .ok (.istore_n 2, 1) := by decide +kernel
theorem dX3_gladOverYears_65 : decode cX3_gladOverYears 65 = .ok (.iinc 3 1, 3) := by decide +kernel
theorem dX3_gladOverYears_68 : decode cX3_gladOverYears 68 = .ok (.goto (-53), 3) := by decide +kernel
theorem dX3_gladOverYears_71 : decode cX3_gladOverYears 71 = .ok (.iload_n 2, 1) := by decide +kernel
theorem dX3_gladOverYears_72 : decode cX3_gladOverYears 72 = .ok (.ireturn, 1) := by decide +kernel
theorem dX3_doIfItCanBe_0 : decode cX3_doIfItCanBe 0 = .ok (.iload_n 1, 1) := by decide +kernel
theorem dX3_doIfItCanBe_1 : decode cX3_doIfItCanBe 1 = .ok (.iconst 5, 1) := by decide +kernel
theorem dX3_doIfItCanBe_2 : decode cX3_doIfItCanBe 2 = .ok (.if_icmp .ge 15, 3) := by decide +kernel
theorem dX3_doIfItCanBe_5 : decode cX3_doIfItCanBe 5 = .ok (.aload_n 0, 1) := by decide +kernel
theorem dX3_doIfItCanBe_6 : decode cX3_doIfItCanBe 6 = .ok (.getfield 15, 3) := by decide +kernel
theorem dX3_doIfItCanBe_9 : decode cX3_doIfItCanBe 9 = .ok (.iload_n 1, 1) := by decide +kernel
theorem dX3_doIfItCanBe_10 : decode cX3_doIfItCanBe 10 = .ok (.invokevirtual 72, 3) := by decide +kernel
theorem dX3_doIfItCanBe_13 : decode cX3_doIfItCanBe 13 = .ok (.pop, 1) := by decide +kernel
theorem dX3_doIfItCanBe_14 : decode cX3_doIfItCanBe 14 = .ok (.goto 58, 3) := by decide +kernel
theorem dX3_doIfItCanBe_17 : decode cX3_doIfItCanBe 17 = .ok (.iload_n 1, 1) := by decide +kernel
theorem dX3_doIfItCanBe_18 : decode cX3_doIfItCanBe 18 = .ok (.bipush 10, 2) := by decide +kernel
theorem dX3_doIfItCanBe_20 : decode cX3_doIfItCanBe 20 = .ok (.if_icmp .ge 17, 3) := by decide +kernel
theorem dX3_doIfItCanBe_23 : decode cX3_doIfItCanBe 23 = .ok (.aload_n 0, 1) := by decide +kernel
theorem dX3_doIfItCanBe_24 : decode cX3_doIfItCanBe 24 = .ok (.getfield 15, 3) := by decide +kernel
theorem dX3_doIfItCanBe_27 : decode cX3_doIfItCanBe 27 = .ok (.iload_n 1, 1) := by decide +kernel
theorem dX3_doIfItCanBe_28 : decode cX3_doIfItCanBe 28 = .ok (.iconst 5, 1) := by decide +kernel
theorem dX3_doIfItCanBe_29 : decode cX3_doIfItCanBe 29 = .ok (.isub, 1) := by decide +kernel
theorem dX3_doIfItCanBe_30 : decode cX3_doIfItCanBe 30 = .ok (.invokevirtual 76, 3) := by decide +kernel
theorem dX3_doIfItCanBe_33 : decode cX3_doIfItCanBe 33 = .ok (.pop, 1) := by decide +kernel
theorem dX3_doIfItCanBe_34 : decode cX3_doIfItCanBe 34 = .ok (.goto 38, 3) := by decide +kernel
theorem dX3_doIfItCanBe_37 : decode cX3_doIfItCanBe 37 = .ok (.iload_n 1, 1) := by decide +kernel
theorem dX3_doIfItCanBe_38 : decode cX3_doIfItCanBe 38 = .ok (.bipush 13, 2) := by decide +kernel
theorem dX3_doIfItCanBe_40 : decode cX3_doIfItCanBe 40 = .ok (.if_icmp .ge 24, 3) := by decide +kernel
theorem dX3_doIfItCanBe_43 : decode cX3_doIfItCanBe 43 = .ok (.aload_n 0, 1) := by decide +kernel
theorem dX3_doIfItCanBe_44 : decode cX3_doIfItCanBe 44 = .ok (.getfield 15, 3) := by decide +kernel
theorem dX3_doIfItCanBe_47 : decode cX3_doIfItCanBe 47 = .ok (.iload_n 1, 1) := by decide +kernel
theorem dX3_doIfItCanBe_48 : decode cX3_doIfItCanBe 48 = .ok (.bipush 10, 2) := by decide +kernel
theorem dX3_doIfItCanBe_50 : decode cX3_doIfItCanBe 50 = .ok (.isub, 1) := by decide +kernel
theorem dX3_doIfItCanBe_51 : decode cX3_doIfItCanBe 51 = .ok (.iload_n 1, 1) := by decide +kernel
theorem dX3_doIfItCanBe_52 : decode cX3_doIfItCanBe 52 = .ok (.bipush 10, 2) := by decide +kernel
theorem dX3_doIfItCanBe_54 : decode cX3_doIfItCanBe 54 = .ok (.isub, 1) := by decide +kernel
theorem dX3_doIfItCanBe_55 : decode cX3_doIfItCanBe 55 = .ok (.iconst 1, 1) := by decide +kernel
theorem dX3_doIfItCanBe_56 : decode cX3_doIfItCanBe 56 = .ok (.iadd, 1) := by decide +kernel
theorem dX3_doIfItCanBe_57 : decode cX3_doIfItCanBe 57 = .ok (.invokevirtual 79, 3) := by decide +kernel
theorem dX3_doIfItCanBe_60 : decode cX3_doIfItCanBe 60 = .ok (.pop, 1) := by decide +kernel
theorem dX3_doIfItCanBe_61 : decode cX3_doIfItCanBe 61 = .ok (.goto 11, 3) := by decide +kernel
theorem dX3_doIfItCanBe_64 : decode cX3_doIfItCanBe 64 = .ok (.aload_n 0, 1) := by decide +kernel
theorem dX3_doIfItCanBe_65 : decode cX3_doIfItCanBe 65 = .ok (.getfield 15, 3) := by decide +kernel
theorem dX3_doIfItCanBe_68 : decode cX3_doIfItCanBe 68 = .ok (.invokevirtual 41, 3) := by decide +kernel
theorem dX3_doIfItCanBe_71 : decode cX3_doIfItCanBe 71 = .ok (.pop, 1) := by decide +kernel
theorem dX3_doIfItCanBe_72 : decode cX3_doIfItCanBe 72 = .ok (.return_, 1) := by decide +kernel
theorem dX4_init_0 : decode cX4_init 0 = .ok (.aload_n 0, 1) := by decide +kernel
theorem dX4_init_1 : decode cX4_init 1 = .ok (.invokespecial 3, 3) := by decide +kernel
theorem dX4_init_4 : decode cX4_init 4 = .ok (.aload_n 0, 1) := by decide +kernel
theorem dX4_init_5 : decode cX4_init 5 = .ok (.iconst 4, 1) := by decide +kernel
theorem dX4_init_6 : decode cX4_init 6 = .ok (.newarray .int, 2) := by decide +kernel
theorem dX4_init_8 : decode cX4_init 8 = .ok (.putfield 9, 3) := by decide +kernel
theorem dX4_init_11 : decode cX4_init 11 = .ok (.aload_n 0, 1) := by decide +kernel
theorem dX4_init_12 : decode cX4_init 12 = .ok (.iconst 5, 1) := by decide +kernel
theorem dX4_init_13 : decode cX4_init 13 = .ok (.newarray .int, 2) := by decide +kernel
theorem dX4_init_15 : decode cX4_init 15 = .ok (.putfield 15, 3) := by decide +kernel
theorem dX4_init_18 : decode cX4_init 18 = .ok (.aload_n 0, 1) := by decide +kernel
theorem dX4_init_19 : decode cX4_init 19 = .ok (.iconst 5, 1) := by decide +kernel
theorem dX4_init_20 : decode cX4_init 20 = .ok (.newarray .int, 2) := by decide +kernel
theorem dX4_init_22 : decode cX4_init 22 = .ok (.putfield 18, 3) := by decide +kernel
theorem dX4_init_25 : decode cX4_init 25 = .ok (.aload_n 0, 1) := by decide +kernel
theorem dX4_init_26 : decode cX4_init 26 = .ok (.iconst 5, 1) := by decide +kernel
theorem dX4_init_27 : decode cX4_init 27 = .ok (.newarray .int, 2) := by decide +kernel
theorem dX4_init_29 : decode cX4_init 29 = .ok (.putfield 21, 3) := by decide +kernel
theorem dX4_init_32 : decode cX4_init 32 = .ok (.aload_n 0, 1) := by decide +kernel
theorem dX4_init_33 : decode cX4_init 33 = .ok (.iconst 4, 1) := by decide +kernel
theorem dX4_init_34 : decode cX4_init 34 = .ok (.newarray .int, 2) := by decide +kernel
theorem dX4_init_36 : decode cX4_init 36 = .ok (.putfield 24, 3) := by decide +kernel
theorem dX4_init_39 : decode cX4_init 39 = .ok (.aload_n 0, 1) := by decide +kernel
theorem dX4_init_40 : decode cX4_init 40 = .ok (.iconst 4, 1) := by decide +kernel
theorem dX4_init_41 : decode cX4_init 41 = .ok (.newarray .int, 2) := by decide +kernel
theorem dX4_init_43 : decode cX4_init 43 = .ok (.putfield 27, 3) := by decide +kernel
theorem dX4_init_46 : decode cX4_init 46 = .ok (.aload_n 0, 1) := by decide +kernel
theorem dX4_init_47 : decode cX4_init 47 = .ok (.iconst 4, 1) := by decide +kernel
theorem dX4_init_48 : decode cX4_init 48 = .ok (.newarray .int, 2) := by decide +kernel
theorem dX4_init_50 : decode cX4_init 50 = .ok (.putfield 30, 3) := by decide +kernel
theorem dX4_init_53 : decode cX4_init 53 = .ok (.return_, 1) := by decide +kernel
theorem dX4_clear_0 : decode cX4_clear 0 = .ok (.aload_n 0, 1) := by decide +kernel
theorem dX4_clear_1 : decode cX4_clear 1 = .ok (.iconst 0, 1) := by decide +kernel
theorem dX4_clear_2 : decode cX4_clear 2 = .ok (.putfield 33, 3) := by decide +kernel
theorem dX4_clear_5 : decode cX4_clear 5 = .ok (.aload_n 0, 1) := by decide +kernel
theorem dX4_clear_6 : decode cX4_clear 6 = .ok (.iconst 0, 1) := by decide +kernel
theorem dX4_clear_7 : decode cX4_clear 7 = .ok (.putfield 37, 3) := by decide +kernel
theorem dX4_clear_10 : decode cX4_clear 10 = .ok (.aload_n 0, 1) := by decide +kernel
theorem dX4_clear_11 : decode cX4_clear 11 = .ok (.iconst 0, 1) := by decide +kernel
theorem dX4_clear_12 : decode cX4_clear 12 = .ok (.putfield 40, 3) := by decide +kernel
theorem dX4_clear_15 : decode cX4_clear 15 = .ok (.return_, 1) := by decide +kernel
theorem dX4_windOf_0 : decode cX4_windOf 0 = .ok (.aload_n 0, 1) := by decide +kernel
theorem dX4_windOf_1 : decode cX4_windOf 1 = .ok (.getfield 33, 3) := by decide +kernel
theorem dX4_windOf_4 : decode cX4_windOf 4 = .ok (.ifCond .ne 7, 3) := by decide +kernel
theorem dX4_windOf_7 : decode cX4_windOf 7 = .ok (.iconst 0, 1) := by decide +kernel
theorem dX4_windOf_8 : decode cX4_windOf 8 = .ok (.goto 16, 3) := by decide +kernel
theorem dX4_windOf_11 : decode cX4_windOf 11 = .ok (.aload_n 0, 1) := by decide +kernel
theorem dX4_windOf_12 : decode cX4_windOf 12 = .ok (.getfield 9, 3) := by decide +kernel
theorem dX4_windOf_15 : decode cX4_windOf 15 = .ok (.iload_n 1, 1) := by decide +kernel
theorem dX4_windOf_16 : decode cX4_windOf 16 = .ok (.aload_n 0, 1) := by decide +kernel
theorem dX4_windOf_17 : decode cX4_windOf 17 = .ok (.getfield 33, 3) := by decide +kernel
theorem dX4_windOf_20 : decode cX4_windOf 20 = .ok (.invokestatic 43, 3) := by decide +kernel
theorem dX4_windOf_23 : decode cX4_windOf 23 = .ok (.iaload, 1) := by decide +kernel
theorem dX4_windOf_24 : decode cX4_windOf 24 = .ok (.ireturn, 1) := by decide +kernel
theorem dX4_hasHedge_0 : decode cX4_hasHedge 0 = .ok (.iload_n 1, 1) := by decide +kernel
theorem dX4_hasHedge_1 : decode cX4_hasHedge 1 = .ok (.ifCond .lt 15, 3) := by decide +kernel
theorem dX4_hasHedge_4 : decode cX4_hasHedge 4 = .ok (.iload_n 1, 1) := by decide +kernel
theorem dX4_hasHedge_5 : decode cX4_hasHedge 5 = .ok (.aload_n 0, 1) := by decide +kernel
theorem dX4_hasHedge_6 : decode cX4_hasHedge 6 = .ok (.getfield 40, 3) := by decide +kernel
theorem dX4_hasHedge_9 : decode cX4_hasHedge 9 = .ok (.if_icmp .ge 7, 3) := by decide +kernel
theorem dX4_hasHedge_12 : decode cX4_hasHedge 12 = .ok (.iconst 1, 1) := by decide +kernel
theorem dX4_hasHedge_13 : decode cX4_hasHedge 13 = .ok (.goto 4, 3) := by decide +kernel
theorem dX4_hasHedge_16 : decode cX4_hasHedge 16 = .ok (.iconst 0, 1) := by decide +kernel
theorem dX4_hasHedge_17 : decode cX4_hasHedge 17 = .ok (.ireturn, 1) := by decide +kernel
theorem dX4_hedgeAt_0 : decode cX4_hedgeAt 0 = .ok (.iconst 0, 1) := by decide +kernel
theorem dX4_hedgeAt_1 : decode cX4_hedgeAt 1 = .ok (.istore_n 2, 1) := by decide +kernel
theorem dX4_hedgeAt_2 : decode cX4_hedgeAt 2 = .ok (.iload_n 2, 1) := by decide +kernel
theorem dX4_hedgeAt_3 : decode cX4_hedgeAt 3 = .ok (.aload_n 0, 1) := by decide +kernel
theorem dX4_hedgeAt_4 : decode cX4_hedgeAt 4 = .ok (.getfield 40, 3) := by decide +kernel
theorem dX4_hedgeAt_7 : decode cX4_hedgeAt 7 = .ok (.if_icmp .ge 21, 3) := by decide +kernel
theorem dX4_hedgeAt_10 : decode cX4_hedgeAt 10 = .ok (.aload_n 0, 1) := by decide +kernel
theorem dX4_hedgeAt_11 : decode cX4_hedgeAt 11 = .ok (.getfield 24, 3) := by decide +kernel
theorem dX4_hedgeAt_14 : decode cX4_hedgeAt 14 = .ok (.iload_n 2, 1) := by decide +kernel
theorem dX4_hedgeAt_15 : decode cX4_hedgeAt 15 = .ok (.iaload, 1) := by decide +kernel
theorem dX4_hedgeAt_16 : decode cX4_hedgeAt 16 = .ok (.iload_n 1, 1) := by decide +kernel
theorem dX4_hedgeAt_17 : decode cX4_hedgeAt 17 = .ok (.if_icmp .ne 5, 3) := by decide +kernel
theorem dX4_hedgeAt_20 : decode cX4_hedgeAt 20 = .ok (.iload_n 2, 1) := by decide +kernel
theorem dX4_hedgeAt_21 : decode cX4_hedgeAt 21 = .ok (.ireturn, 1) := by decide +kernel
theorem dX4_hedgeAt_22 : decode cX4_hedgeAt 22 = .ok (.iinc 2 1, 3) := by decide +kernel
theorem dX4_hedgeAt_25 : decode cX4_hedgeAt 25 = .ok (.goto (-23), 3) := by decide +kernel
theorem dX4_hedgeAt_28 : decode cX4_hedgeAt 28 = .ok (.bipush (-9), 2) := by decide +kernel
theorem dX4_hedgeAt_30 : decode cX4_hedgeAt 30 = .ok (.ireturn, 1) := by decide +kernel
theorem dX5_init_0 : decode cX5_init 0 = .ok (.aload_n 0, 1) := by decide +kernel
theorem dX5_init_1 : decode cX5_init 1 = .ok (.invokespecial 3, 3) := by decide +kernel
theorem dX5_init_4 : decode cX5_init 4 = .ok (.aload_n 0, 1) := by decide +kernel
theorem dX5_init_5 : decode cX5_init 5 = .ok (.bipush 6, 2) := by decide +kernel
theorem dX5_init_7 : decode cX5_init 7 = .ok (.newarray .int, 2) := by decide +kernel
theorem dX5_init_9 : decode cX5_init 9 = .ok (.putfield 9, 3) := by decide +kernel
theorem dX5_init_12 : decode cX5_init 12 = .ok (.aload_n 0, 1) := by decide +kernel
theorem dX5_init_13 : decode cX5_init 13 = .ok (.bipush 6, 2) := by decide +kernel
theorem dX5_init_15 : decode cX5_init 15 = .ok (.newarray .int, 2) := by decide +kernel
theorem dX5_init_17 : decode cX5_init 17 = .ok (.putfield 15, 3) := by decide +kernel
theorem dX5_init_20 : decode cX5_init 20 = .ok (.aload_n 0, 1) := by decide +kernel
theorem dX5_init_21 : decode cX5_init 21 = .ok (.new 18, 3) := by decide +kernel
theorem dX5_init_24 : decode cX5_init 24 = .ok (.dup, 1) := by decide +kernel
theorem dX5_init_25 : decode cX5_init 25 = .ok (.invokespecial 20, 3) := by decide +kernel
theorem dX5_init_28 : decode cX5_init 28 = .ok (.putfield 21, 3) := by decide +kernel
theorem dX5_init_31 : decode cX5_init 31 = .ok (.aload_n 0, 1) := by decide +kernel
theorem dX5_init_32 : decode cX5_init 32 = .ok (.aload_n 1, 1) := by decide +kernel
theorem dX5_init_33 : decode cX5_init 33 = .ok (.putfield 25, 3) := by decide +kernel
theorem dX5_init_36 : decode cX5_init 36 = .ok (.return_, 1) := by decide +kernel
theorem dX5_add_0 : decode cX5_add 0 = .ok (.aload_n 0, 1) := by decide +kernel
theorem dX5_add_1 : decode cX5_add 1 = .ok (.getfield 29, 3) := by decide +kernel
theorem dX5_add_4 : decode cX5_add 4 = .ok (.bipush 6, 2) := by decide +kernel
theorem dX5_add_6 : decode cX5_add 6 = .ok (.if_icmp .lt 4, 3) := by decide +kernel
theorem dX5_add_9 : decode cX5_add 9 = .ok (.return_, 1) := by decide +kernel
theorem dX5_add_10 : decode cX5_add 10 = .ok (.aload_n 0, 1) := by decide +kernel
theorem dX5_add_11 : decode cX5_add 11 = .ok (.getfield 9, 3) := by decide +kernel
theorem dX5_add_14 : decode cX5_add 14 = .ok (.aload_n 0, 1) := by decide +kernel
theorem dX5_add_15 : decode cX5_add 15 = .ok (.getfield 29, 3) := by decide +kernel
theorem dX5_add_18 : decode cX5_add 18 = .ok (.iload_n 1, 1) := by decide +kernel
theorem dX5_add_19 : decode cX5_add 19 = .ok (.iastore, 1) := by decide +kernel
theorem dX5_add_20 : decode cX5_add 20 = .ok (.aload_n 0, 1) := by decide +kernel
theorem dX5_add_21 : decode cX5_add 21 = .ok (.getfield 15, 3) := by decide +kernel
theorem dX5_add_24 : decode cX5_add 24 = .ok (.aload_n 0, 1) := by decide +kernel
theorem dX5_add_25 : decode cX5_add 25 = .ok (.getfield 29, 3) := by decide +kernel
theorem dX5_add_28 : decode cX5_add 28 = .ok (.iload_n 2, 1) := by decide +kernel
theorem dX5_add_29 : decode cX5_add 29 = .ok (.iastore, 1) := by decide +kernel
theorem dX5_add_30 : decode cX5_add 30 = .ok (.aload_n 0, 1) := by decide +kernel
theorem dX5_add_31 : decode cX5_add 31 = .ok (.dup, 1) := by decide +kernel
theorem dX5_add_32 : decode cX5_add 32 = .ok (.getfield 29, 3) := by decide +kernel
theorem dX5_add_35 : decode cX5_add 35 = .ok (.iconst 1, 1) := by decide +kernel
theorem dX5_add_36 : decode cX5_add 36 = .ok (.iadd, 1) := by decide +kernel
theorem dX5_add_37 : decode cX5_add 37 = .ok (.putfield 29, 3) := by decide +kernel
theorem dX5_add_40 : decode cX5_add 40 = .ok (.return_, 1) := by decide +kernel
theorem dX5_cellsOfLetting_0 : decode cX5_cellsOfLetting 0 = .ok (.iconst 0, 1) := by decide +kernel
theorem dX5_cellsOfLetting_1 : decode cX5_cellsOfLetting 1 = .ok (.istore_n 2, 1) := by decide +kernel
theorem dX5_cellsOfLetting_2 : decode cX5_cellsOfLetting 2 = .ok (.iconst 0, 1) := by decide +kernel
theorem dX5_cellsOfLetting_3 : decode cX5_cellsOfLetting 3 = .ok (.istore_n 3, 1) := by decide +kernel
theorem dX5_cellsOfLetting_4 : decode cX5_cellsOfLetting 4 = .ok (.iload_n 3, 1) := by decide +kernel
theorem dX5_cellsOfLetting_5 : decode cX5_cellsOfLetting 5 = .ok (.bipush 20, 2) := by decide +kernel
theorem dX5_cellsOfLetting_7 : decode cX5_cellsOfLetting 7 = .ok (.if_icmp .ge 24, 3) := by decide +kernel
theorem dX5_cellsOfLetting_10 : decode cX5_cellsOfLetting 10 = .ok (.aload_n 0, 1) := by decide +kernel
theorem dX5_cellsOfLetting_11 : decode cX5_cellsOfLetting 11 = .ok (.iload_n 3, 1) := by decide +kernel
theorem dX5_cellsOfLetting_12 : decode cX5_cellsOfLetting 12 = .ok (.iload_n 1, 1) := by decide +kernel
theorem dX5_cellsOfLetting_13 : decode cX5_cellsOfLetting 13 = .ok (.invokevirtual 33, 3) := by decide +kernel
theorem dX5_cellsOfLetting_16 : decode cX5_cellsOfLetting 16 = .ok (.ifCond .eq 9, 3) := by decide +kernel
theorem dX5_cellsOfLetting_19 : decode cX5_cellsOfLetting 19 = .ok (.iload_n 2, 1) := by decide +kernel
theorem dX5_cellsOfLetting_20 : decode cX5_cellsOfLetting 20 = .ok (.iconst 1, 1) := by decide +kernel
theorem dX5_cellsOfLetting_21 : decode cX5_cellsOfLetting 21 = .ok (.iload_n 3, 1) := by decide +kernel
theorem dX5_cellsOfLetting_22 : decode cX5_cellsOfLetting 22 = .ok (.ishl, 1) := by decide +kernel
theorem dX5_cellsOfLetting_23 : decode cX5_cellsOfLetting 23 = .ok (.ior, 1) := by decide +kernel
theorem dX5_cellsOfLetting_24 : decode cX5_cellsOfLetting 24 = .ok (.istore_n 2, 1) := by decide +kernel
theorem dX5_cellsOfLetting_25 : decode cX5_cellsOfLetting 25 = .ok (.iinc 3 1, 3) := by decide +kernel
theorem dX5_cellsOfLetting_28 : decode cX5_cellsOfLetting 28 = .ok (.goto (-24), 3) := by decide +kernel
theorem dX5_cellsOfLetting_31 : decode cX5_cellsOfLetting 31 = .ok (.iload_n 2, 1) := by decide +kernel
theorem dX5_cellsOfLetting_32 : decode cX5_cellsOfLetting 32 = .ok (.ireturn, 1) := by decide +kernel
theorem dX5_agreesFrom_0 : decode cX5_agreesFrom 0 = .ok (.aload_n 0, 1) := by decide +kernel
theorem dX5_agreesFrom_1 : decode cX5_agreesFrom 1 = .ok (.getfield 21, 3) := by decide +kernel
theorem dX5_agreesFrom_4 : decode cX5_agreesFrom 4 = .ok (.iload_n 1, 1) := by decide +kernel
theorem dX5_agreesFrom_5 : decode cX5_agreesFrom 5 = .ok (.iload_n 2, 1) := by decide +kernel
theorem dX5_agreesFrom_6 : decode cX5_agreesFrom 6 = .ok (.iconst 0, 1) := by decide +kernel
theorem dX5_agreesFrom_7 : decode cX5_agreesFrom 7 = .ok (.invokevirtual 37, 3) := by decide +kernel
theorem dX5_agreesFrom_10 : decode cX5_agreesFrom 10 = .ok (.aload_n 0, 1) := by decide +kernel
theorem dX5_agreesFrom_11 : decode cX5_agreesFrom 11 = .ok (.getfield 21, 3) := by decide +kernel
theorem dX5_agreesFrom_14 : decode cX5_agreesFrom 14 = .ok (.iconst 1, 1) := by decide +kernel
theorem dX5_agreesFrom_15 : decode cX5_agreesFrom 15 = .ok (.putfield 41, 3) := by decide +kernel
theorem dX5_agreesFrom_18 : decode cX5_agreesFrom 18 = .ok (.iconst 0, 1) := by decide +kernel
theorem dX5_agreesFrom_19 : decode cX5_agreesFrom 19 = .ok (.istore_n 3, 1) := by decide +kernel
theorem dX5_agreesFrom_20 : decode cX5_agreesFrom 20 = .ok (.iload_n 3, 1) := by decide +kernel
theorem dX5_agreesFrom_21 : decode cX5_agreesFrom 21 = .ok (.bipush 9, 2) := by decide +kernel
theorem dX5_agreesFrom_23 : decode cX5_agreesFrom 23 = .ok (.if_icmp .gt 35, 3) := by decide +kernel
theorem dX5_agreesFrom_26 : decode cX5_agreesFrom 26 = .ok (.aload_n 0, 1) := by decide +kernel
theorem dX5_agreesFrom_27 : decode cX5_agreesFrom 27 = .ok (.iload_n 3, 1) := by decide +kernel
theorem dX5_agreesFrom_28 : decode cX5_agreesFrom 28 = .ok (.invokevirtual 44, 3) := by decide +kernel
theorem dX5_agreesFrom_31 : decode cX5_agreesFrom 31 = .ok (.ifCond .ne 5, 3) := by decide +kernel
theorem dX5_agreesFrom_34 : decode cX5_agreesFrom 34 = .ok (.iconst 0, 1) := by decide +kernel
theorem dX5_agreesFrom_35 : decode cX5_agreesFrom 35 = .ok (.ireturn, 1) := by decide +kernel
theorem dX5_agreesFrom_36 : decode cX5_agreesFrom 36 = .ok (.aload_n 0, 1) := by decide +kernel
theorem dX5_agreesFrom_37 : decode cX5_agreesFrom 37 = .ok (.getfield 21, 3) := by decide +kernel
theorem dX5_agreesFrom_40 : decode cX5_agreesFrom 40 = .ok (.aload_n 0, 1) := by decide +kernel
theorem dX5_agreesFrom_41 : decode cX5_agreesFrom 41 = .ok (.getfield 25, 3) := by decide +kernel
theorem dX5_agreesFrom_44 : decode cX5_agreesFrom 44 = .ok (.iload_n 3, 1) := by decide +kernel
theorem dX5_agreesFrom_45 : decode cX5_agreesFrom 45 = .ok (.invokevirtual 48, 3) := by decide +kernel
theorem dX5_agreesFrom_48 : decode cX5_agreesFrom 48 = .ok (.iload_n 3, 1) := by decide +kernel
theorem dX5_agreesFrom_49 : decode cX5_agreesFrom 49 = .ok (.invokevirtual 54, 3) := by decide +kernel
theorem dX5_agreesFrom_52 : decode cX5_agreesFrom 52 = .ok (.iinc 3 1, 3) := by decide +kernel
theorem dX5_agreesFrom_55 : decode cX5_agreesFrom 55 = .ok (.goto (-35), 3) := by decide +kernel
theorem dX5_agreesFrom_58 : decode cX5_agreesFrom 58 = .ok (.iconst 1, 1) := by decide +kernel
theorem dX5_agreesFrom_59 : decode cX5_agreesFrom 59 = .ok (.ireturn, 1) := by decide +kernel
theorem dX5_agreesBehind_0 : decode cX5_agreesBehind 0 = .ok (.iconst 0, 1) := by decide +kernel
theorem dX5_agreesBehind_1 : decode cX5_agreesBehind 1 = .ok (.istore_n 2, 1) := by decide +kernel
theorem dX5_agreesBehind_2 : decode cX5_agreesBehind 2 = .ok (.iload_n 2, 1) := by decide +kernel
theorem dX5_agreesBehind_3 : decode cX5_agreesBehind 3 = .ok (.aload_n 0, 1) := by decide +kernel
theorem dX5_agreesBehind_4 : decode cX5_agreesBehind 4 = .ok (.getfield 29, 3) := by decide +kernel
theorem dX5_agreesBehind_7 : decode cX5_agreesBehind 7 = .ok (.if_icmp .ge 48, 3) := by decide +kernel
theorem dX5_agreesBehind_10 : decode cX5_agreesBehind 10 = .ok (.aload_n 0, 1) := by decide +kernel
theorem dX5_agreesBehind_11 : decode cX5_agreesBehind 11 = .ok (.getfield 15, 3) := by decide +kernel
theorem dX5_agreesBehind_14 : decode cX5_agreesBehind 14 = .ok (.iload_n 2, 1) := by decide +kernel
theorem dX5_agreesBehind_15 : decode cX5_agreesBehind 15 = .ok (.iaload, 1) := by decide +kernel
theorem dX5_agreesBehind_16 : decode cX5_agreesBehind 16 = .ok (.iload_n 1, 1) := by decide +kernel
theorem dX5_agreesBehind_17 : decode cX5_agreesBehind 17 = .ok (.if_icmp .ne 32, 3) := by decide +kernel
theorem dX5_agreesBehind_20 : decode cX5_agreesBehind 20 = .ok (.aload_n 0, 1) := by decide +kernel
theorem dX5_agreesBehind_21 : decode cX5_agreesBehind 21 = .ok (.getfield 21, 3) := by decide +kernel
theorem dX5_agreesBehind_24 : decode cX5_agreesBehind 24 = .ok (.getfield 41, 3) := by decide +kernel
theorem dX5_agreesBehind_27 : decode cX5_agreesBehind 27 = .ok (.iconst 1, 1) := by decide +kernel
theorem dX5_agreesBehind_28 : decode cX5_agreesBehind 28 = .ok (.if_icmp .ne 19, 3) := by decide +kernel
theorem dX5_agreesBehind_31 : decode cX5_agreesBehind 31 = .ok (.aload_n 0, 1) := by decide +kernel
theorem dX5_agreesBehind_32 : decode cX5_agreesBehind 32 = .ok (.getfield 21, 3) := by decide +kernel
theorem dX5_agreesBehind_35 : decode cX5_agreesBehind 35 = .ok (.getfield 58, 3) := by decide +kernel
theorem dX5_agreesBehind_38 : decode cX5_agreesBehind 38 = .ok (.aload_n 0, 1) := by decide +kernel
theorem dX5_agreesBehind_39 : decode cX5_agreesBehind 39 = .ok (.getfield 9, 3) := by decide +kernel
theorem dX5_agreesBehind_42 : decode cX5_agreesBehind 42 = .ok (.iload_n 2, 1) := by decide +kernel
theorem dX5_agreesBehind_43 : decode cX5_agreesBehind 43 = .ok (.iaload, 1) := by decide +kernel
theorem dX5_agreesBehind_44 : decode cX5_agreesBehind 44 = .ok (.if_icmp .eq 5, 3) := by decide +kernel
theorem dX5_agreesBehind_47 : decode cX5_agreesBehind 47 = .ok (.iconst 0, 1) := by decide +kernel
theorem dX5_agreesBehind_48 : decode cX5_agreesBehind 48 = .ok (.ireturn, 1) := by decide +kernel
theorem dX5_agreesBehind_49 : decode cX5_agreesBehind 49 = .ok (.iinc 2 1, 3) := by decide +kernel
theorem dX5_agreesBehind_52 : decode cX5_agreesBehind 52 = .ok (.goto (-50), 3) := by decide +kernel
theorem dX5_agreesBehind_55 : decode cX5_agreesBehind 55 = .ok (.iconst 1, 1) := by decide +kernel
theorem dX5_agreesBehind_56 : decode cX5_agreesBehind 56 = .ok (.ireturn, 1) := by decide +kernel
theorem dX6_init_0 : decode cX6_init 0 = .ok (.aload_n 0, 1) := by decide +kernel
theorem dX6_init_1 : decode cX6_init 1 = .ok (.invokespecial 3, 3) := by decide +kernel
theorem dX6_init_4 : decode cX6_init 4 = .ok (.aload_n 0, 1) := by decide +kernel
theorem dX6_init_5 : decode cX6_init 5 = .ok (.aload_n 1, 1) := by decide +kernel
theorem dX6_init_6 : decode cX6_init 6 = .ok (.putfield 9, 3) := by decide +kernel
theorem dX6_init_9 : decode cX6_init 9 = .ok (.aload_n 0, 1) := by decide +kernel
theorem dX6_init_10 : decode cX6_init 10 = .ok (.aload_n 2, 1) := by decide +kernel
theorem dX6_init_11 : decode cX6_init 11 = .ok (.putfield 15, 3) := by decide +kernel
theorem dX6_init_14 : decode cX6_init 14 = .ok (.return_, 1) := by decide +kernel
theorem dX6_lookAhead_0 : decode cX6_lookAhead 0 = .ok (.aload_n 0, 1) := by decide +kernel
theorem dX6_lookAhead_1 : decode cX6_lookAhead 1 = .ok (.getfield 15, 3) := by decide +kernel
theorem dX6_lookAhead_4 : decode cX6_lookAhead 4 = .ok (.aload_n 0, 1) := by decide +kernel
theorem dX6_lookAhead_5 : decode cX6_lookAhead 5 = .ok (.getfield 9, 3) := by decide +kernel
theorem dX6_lookAhead_8 : decode cX6_lookAhead 8 = .ok (.invokevirtual 18, 3) := by decide +kernel
theorem dX6_lookAhead_11 : decode cX6_lookAhead 11 = .ok (.aload_n 0, 1) := by decide +kernel
theorem dX6_lookAhead_12 : decode cX6_lookAhead 12 = .ok (.getfield 15, 3) := by decide +kernel
theorem dX6_lookAhead_15 : decode cX6_lookAhead 15 = .ok (.iload_n 1, 1) := by decide +kernel
theorem dX6_lookAhead_16 : decode cX6_lookAhead 16 = .ok (.invokevirtual 24, 3) := by decide +kernel
theorem dX6_lookAhead_19 : decode cX6_lookAhead 19 = .ok (.return_, 1) := by decide +kernel
theorem dX6_hoursToAnswer_0 : decode cX6_hoursToAnswer 0 = .ok (.aload_n 0, 1) := by decide +kernel
theorem dX6_hoursToAnswer_1 : decode cX6_hoursToAnswer 1 = .ok (.getfield 15, 3) := by decide +kernel
theorem dX6_hoursToAnswer_4 : decode cX6_hoursToAnswer 4 = .ok (.aload_n 0, 1) := by decide +kernel
theorem dX6_hoursToAnswer_5 : decode cX6_hoursToAnswer 5 = .ok (.getfield 9, 3) := by decide +kernel
theorem dX6_hoursToAnswer_8 : decode cX6_hoursToAnswer 8 = .ok (.invokevirtual 18, 3) := by decide +kernel
theorem dX6_hoursToAnswer_11 : decode cX6_hoursToAnswer 11 = .ok (.iconst 0, 1) := by decide +kernel
theorem dX6_hoursToAnswer_12 : decode cX6_hoursToAnswer 12 = .ok (.istore_n 2, 1) := by decide +kernel
theorem dX6_hoursToAnswer_13 : decode cX6_hoursToAnswer 13 = .ok (.iload_n 2, 1) := by decide +kernel
theorem dX6_hoursToAnswer_14 : decode cX6_hoursToAnswer 14 = .ok (.bipush 30, 2) := by decide +kernel
theorem dX6_hoursToAnswer_16 : decode cX6_hoursToAnswer 16 = .ok (.if_icmp .gt 30, 3) := by decide +kernel
theorem dX6_hoursToAnswer_19 : decode cX6_hoursToAnswer 19 = .ok (.aload_n 0, 1) := by decide +kernel
theorem dX6_hoursToAnswer_20 : decode cX6_hoursToAnswer 20 = .ok (.getfield 15, 3) := by decide +kernel
theorem dX6_hoursToAnswer_23 : decode cX6_hoursToAnswer 23 = .ok (.iload_n 1, 1) := by decide +kernel
theorem dX6_hoursToAnswer_24 : decode cX6_hoursToAnswer 24 = .ok (.invokevirtual 28, 3) := by decide +kernel
theorem dX6_hoursToAnswer_27 : decode cX6_hoursToAnswer 27 = .ok (.ifCond .eq 5, 3) := by decide +kernel
theorem dX6_hoursToAnswer_30 : decode cX6_hoursToAnswer 30 = .ok (.iload_n 2, 1) := by decide +kernel
theorem dX6_hoursToAnswer_31 : decode cX6_hoursToAnswer 31 = .ok (.ireturn, 1) := by decide +kernel
theorem dX6_hoursToAnswer_32 : decode cX6_hoursToAnswer 32 = .ok (.aload_n 0, 1) := by decide +kernel
theorem dX6_hoursToAnswer_33 : decode cX6_hoursToAnswer 33 = .ok (.getfield 15, 3) := by decide +kernel
theorem dX6_hoursToAnswer_36 : decode cX6_hoursToAnswer 36 = .ok (.invokevirtual 32, 3) := by decide +kernel
theorem dX6_hoursToAnswer_39 : decode cX6_hoursToAnswer 39 = .ok (.pop, 1) := by decide +kernel
theorem dX6_hoursToAnswer_40 : decode cX6_hoursToAnswer 40 = .ok (.iinc 2 1, 3) := by decide +kernel
theorem dX6_hoursToAnswer_43 : decode cX6_hoursToAnswer 43 = .ok (.goto (-30), 3) := by decide +kernel
theorem dX6_hoursToAnswer_46 : decode cX6_hoursToAnswer 46 = .ok (.bipush (-9), 2) := by decide +kernel
theorem dX6_hoursToAnswer_48 : decode cX6_hoursToAnswer 48 = .ok (.ireturn, 1) := by decide +kernel
theorem dX6_hoursToLetting_0 : decode cX6_hoursToLetting 0 = .ok (.iconst 0, 1) := by decide +kernel
theorem dX6_hoursToLetting_1 : decode cX6_hoursToLetting 1 = .ok (.istore_n 2, 1) := by decide +kernel
theorem dX6_hoursToLetting_2 : decode cX6_hoursToLetting 2 = .ok (.iload_n 2, 1) := by decide +kernel
theorem dX6_hoursToLetting_3 : decode cX6_hoursToLetting 3 = .ok (.bipush 12, 2) := by decide +kernel
theorem dX6_hoursToLetting_5 : decode cX6_hoursToLetting 5 = .ok (.if_icmp .gt 20, 3) := by decide +kernel
theorem dX6_hoursToLetting_8 : decode cX6_hoursToLetting 8 = .ok (.aload_n 0, 1) := by decide +kernel
theorem dX6_hoursToLetting_9 : decode cX6_hoursToLetting 9 = .ok (.iload_n 2, 1) := by decide +kernel
theorem dX6_hoursToLetting_10 : decode cX6_hoursToLetting 10 = .ok (.iload_n 1, 1) := by decide +kernel
theorem dX6_hoursToLetting_11 : decode cX6_hoursToLetting 11 = .ok (.invokevirtual 36, 3) := by decide +kernel
theorem dX6_hoursToLetting_14 : decode cX6_hoursToLetting 14 = .ok (.ifCond .eq 5, 3) := by decide +kernel
theorem dX6_hoursToLetting_17 : decode cX6_hoursToLetting 17 = .ok (.iload_n 2, 1) := by decide +kernel
theorem dX6_hoursToLetting_18 : decode cX6_hoursToLetting 18 = .ok (.ireturn, 1) := by decide +kernel
theorem dX6_hoursToLetting_19 : decode cX6_hoursToLetting 19 = .ok (.iinc 2 1, 3) := by decide +kernel
theorem dX6_hoursToLetting_22 : decode cX6_hoursToLetting 22 = .ok (.goto (-20), 3) := by decide +kernel
theorem dX6_hoursToLetting_25 : decode cX6_hoursToLetting 25 = .ok (.bipush (-9), 2) := by decide +kernel
theorem dX6_hoursToLetting_27 : decode cX6_hoursToLetting 27 = .ok (.ireturn, 1) := by decide +kernel
theorem dX6_endsWellIfLetIn_0 : decode cX6_endsWellIfLetIn 0 = .ok (.aload_n 0, 1) := by decide +kernel
theorem dX6_endsWellIfLetIn_1 : decode cX6_endsWellIfLetIn 1 = .ok (.getfield 15, 3) := by decide +kernel
theorem dX6_endsWellIfLetIn_4 : decode cX6_endsWellIfLetIn 4 = .ok (.aload_n 0, 1) := by decide +kernel
theorem dX6_endsWellIfLetIn_5 : decode cX6_endsWellIfLetIn 5 = .ok (.getfield 9, 3) := by decide +kernel
theorem dX6_endsWellIfLetIn_8 : decode cX6_endsWellIfLetIn 8 = .ok (.invokevirtual 18, 3) := by decide +kernel
theorem dX6_endsWellIfLetIn_11 : decode cX6_endsWellIfLetIn 11 = .ok (.aload_n 0, 1) := by decide +kernel
theorem dX6_endsWellIfLetIn_12 : decode cX6_endsWellIfLetIn 12 = .ok (.getfield 15, 3) := by decide +kernel
theorem dX6_endsWellIfLetIn_15 : decode cX6_endsWellIfLetIn 15 = .ok (.iload_n 1, 1) := by decide +kernel
theorem dX6_endsWellIfLetIn_16 : decode cX6_endsWellIfLetIn 16 = .ok (.invokevirtual 24, 3) := by decide +kernel
theorem dX6_endsWellIfLetIn_19 : decode cX6_endsWellIfLetIn 19 = .ok (.aload_n 0, 1) := by decide +kernel
theorem dX6_endsWellIfLetIn_20 : decode cX6_endsWellIfLetIn 20 = .ok (.getfield 15, 3) := by decide +kernel
theorem dX6_endsWellIfLetIn_23 : decode cX6_endsWellIfLetIn 23 = .ok (.iload_n 2, 1) := by decide +kernel
theorem dX6_endsWellIfLetIn_24 : decode cX6_endsWellIfLetIn 24 = .ok (.invokevirtual 40, 3) := by decide +kernel
theorem dX6_endsWellIfLetIn_27 : decode cX6_endsWellIfLetIn 27 = .ok (.pop, 1) := by decide +kernel
theorem dX6_endsWellIfLetIn_28 : decode cX6_endsWellIfLetIn 28 = .ok (.aload_n 0, 1) := by decide +kernel
theorem dX6_endsWellIfLetIn_29 : decode cX6_endsWellIfLetIn 29 = .ok (.getfield 15, 3) := by decide +kernel
theorem dX6_endsWellIfLetIn_32 : decode cX6_endsWellIfLetIn 32 = .ok (.bipush 20, 2) := by decide +kernel
theorem dX6_endsWellIfLetIn_34 : decode cX6_endsWellIfLetIn 34 = .ok (.invokevirtual 24, 3) := by decide +kernel
theorem dX6_endsWellIfLetIn_37 : decode cX6_endsWellIfLetIn 37 = .ok (.aload_n 0, 1) := by decide +kernel
theorem dX6_endsWellIfLetIn_38 : decode cX6_endsWellIfLetIn 38 = .ok (.getfield 15, 3) := by decide +kernel
theorem dX6_endsWellIfLetIn_41 : decode cX6_endsWellIfLetIn 41 = .ok (.getfield 43, 3) := by decide +kernel
theorem dX6_endsWellIfLetIn_44 : decode cX6_endsWellIfLetIn 44 = .ok (.iload_n 2, 1) := by decide +kernel
theorem dX6_endsWellIfLetIn_45 : decode cX6_endsWellIfLetIn 45 = .ok (.aaload, 1) := by decide +kernel
theorem dX6_endsWellIfLetIn_46 : decode cX6_endsWellIfLetIn 46 = .ok (.getfield 47, 3) := by decide +kernel
theorem dX6_endsWellIfLetIn_49 : decode cX6_endsWellIfLetIn 49 = .ok (.istore_n 3, 1) := by decide +kernel
theorem dX6_endsWellIfLetIn_50 : decode cX6_endsWellIfLetIn 50 = .ok (.aload_n 0, 1) := by decide +kernel
theorem dX6_endsWellIfLetIn_51 : decode cX6_endsWellIfLetIn 51 = .ok (.getfield 15, 3) := by decide +kernel
theorem dX6_endsWellIfLetIn_54 : decode cX6_endsWellIfLetIn 54 = .ok (.getfield 53, 3) := by decide +kernel
theorem dX6_endsWellIfLetIn_57 : decode cX6_endsWellIfLetIn 57 = .ok (.iload_n 3, 1) := by decide +kernel
theorem dX6_endsWellIfLetIn_58 : decode cX6_endsWellIfLetIn 58 = .ok (.invokevirtual 57, 3) := by decide +kernel
theorem dX6_endsWellIfLetIn_61 : decode cX6_endsWellIfLetIn 61 = .ok (.ifCond .eq 34, 3) := by decide +kernel
theorem dX6_endsWellIfLetIn_64 : decode cX6_endsWellIfLetIn 64 = .ok (.aload_n 0, 1) := by decide +kernel
theorem dX6_endsWellIfLetIn_65 : decode cX6_endsWellIfLetIn 65 = .ok (.getfield 15, 3) := by decide +kernel
theorem dX6_endsWellIfLetIn_68 : decode cX6_endsWellIfLetIn 68 = .ok (.getfield 53, 3) := by decide +kernel
theorem dX6_endsWellIfLetIn_71 : decode cX6_endsWellIfLetIn 71 = .ok (.getfield 62, 3) := by decide +kernel
theorem dX6_endsWellIfLetIn_74 : decode cX6_endsWellIfLetIn 74 = .ok (.iload_n 3, 1) := by decide +kernel
theorem dX6_endsWellIfLetIn_75 : decode cX6_endsWellIfLetIn 75 = .ok (.iaload, 1) := by decide +kernel
theorem dX6_endsWellIfLetIn_76 : decode cX6_endsWellIfLetIn 76 = .ok (.aload_n 0, 1) := by decide +kernel
theorem dX6_endsWellIfLetIn_77 : decode cX6_endsWellIfLetIn 77 = .ok (.getfield 15, 3) := by decide +kernel
theorem dX6_endsWellIfLetIn_80 : decode cX6_endsWellIfLetIn 80 = .ok (.getfield 53, 3) := by decide +kernel
theorem dX6_endsWellIfLetIn_83 : decode cX6_endsWellIfLetIn 83 = .ok (.getfield 66, 3) := by decide +kernel
theorem dX6_endsWellIfLetIn_86 : decode cX6_endsWellIfLetIn 86 = .ok (.iload_n 2, 1) := by decide +kernel
theorem dX6_endsWellIfLetIn_87 : decode cX6_endsWellIfLetIn 87 = .ok (.iaload, 1) := by decide +kernel
theorem dX6_endsWellIfLetIn_88 : decode cX6_endsWellIfLetIn 88 = .ok (.if_icmp .ne 7, 3) := by decide +kernel
theorem dX6_endsWellIfLetIn_91 : decode cX6_endsWellIfLetIn 91 = .ok (.iconst 1, 1) := by decide +kernel
theorem dX6_endsWellIfLetIn_92 : decode cX6_endsWellIfLetIn 92 = .ok (.goto 4, 3) := by decide +kernel
theorem dX6_endsWellIfLetIn_95 : decode cX6_endsWellIfLetIn 95 = .ok (.iconst 0, 1) := by decide +kernel
theorem dX6_endsWellIfLetIn_96 : decode cX6_endsWellIfLetIn 96 = .ok (.ireturn, 1) := by decide +kernel
theorem dX6_firstThatCannotBe_0 : decode cX6_firstThatCannotBe 0 = .ok (.aload_n 0, 1) := by decide +kernel
theorem dX6_firstThatCannotBe_1 : decode cX6_firstThatCannotBe 1 = .ok (.getfield 15, 3) := by decide +kernel
theorem dX6_firstThatCannotBe_4 : decode cX6_firstThatCannotBe 4 = .ok (.aload_n 0, 1) := by decide +kernel
theorem dX6_firstThatCannotBe_5 : decode cX6_firstThatCannotBe 5 = .ok (.getfield 9, 3) := by decide +kernel
theorem dX6_firstThatCannotBe_8 : decode cX6_firstThatCannotBe 8 = .ok (.invokevirtual 18, 3) := by decide +kernel
theorem dX6_firstThatCannotBe_11 : decode cX6_firstThatCannotBe 11 = .ok (.iconst 0, 1) := by decide +kernel
theorem dX6_firstThatCannotBe_12 : decode cX6_firstThatCannotBe 12 = .ok (.istore 4, 2) := by decide +kernel
theorem dX6_firstThatCannotBe_14 : decode cX6_firstThatCannotBe 14 = .ok (.iload 4, 2) := by decide +kernel
theorem dX6_firstThatCannotBe_16 : decode cX6_firstThatCannotBe 16 = .ok (.iload_n 1, 1) := by decide +kernel
theorem dX6_firstThatCannotBe_17 : decode cX6_firstThatCannotBe 17 = .ok (.if_icmp .ge 56, 3) := by decide +kernel
theorem dX6_firstThatCannotBe_20 : decode cX6_firstThatCannotBe 20 = .ok (.lload_n 2, 1) := by decide +kernel
theorem dX6_firstThatCannotBe_21 : decode cX6_firstThatCannotBe 21 = .ok (.getstatic 69, 3) := by decide +kernel
theorem dX6_firstThatCannotBe_24 : decode cX6_firstThatCannotBe 24 = .ok (.iload_n 1, 1) := by decide +kernel
theorem dX6_firstThatCannotBe_25 : decode cX6_firstThatCannotBe 25 = .ok (.iconst 1, 1) := by decide +kernel
theorem dX6_firstThatCannotBe_26 : decode cX6_firstThatCannotBe 26 = .ok (.isub, 1) := by decide +kernel
theorem dX6_firstThatCannotBe_27 : decode cX6_firstThatCannotBe 27 = .ok (.iload 4, 2) := by decide +kernel
theorem dX6_firstThatCannotBe_29 : decode cX6_firstThatCannotBe 29 = .ok (.isub, 1) := by decide +kernel
theorem dX6_firstThatCannotBe_30 : decode cX6_firstThatCannotBe 30 = .ok (.laload, 1) := by decide +kernel
theorem dX6_firstThatCannotBe_31 : decode cX6_firstThatCannotBe 31 = .ok (.ldiv, 1) := by decide +kernel
theorem dX6_firstThatCannotBe_32 : decode cX6_firstThatCannotBe 32 = .ok (.ldc2_w 73, 3) := by decide +kernel
theorem dX6_firstThatCannotBe_35 : decode cX6_firstThatCannotBe 35 = .ok (.lrem, 1) := by decide +kernel
theorem dX6_firstThatCannotBe_36 : decode cX6_firstThatCannotBe 36 = .ok (.l2i, 1) := by decide +kernel
theorem dX6_firstThatCannotBe_37 : decode cX6_firstThatCannotBe 37 = .ok (.istore 5, 2) := by decide +kernel
theorem dX6_firstThatCannotBe_39 : decode cX6_firstThatCannotBe 39 = .ok (.aload_n 0, 1) := by decide +kernel
theorem dX6_firstThatCannotBe_40 : decode cX6_firstThatCannotBe 40 = .ok (.iload 5, 2) := by decide +kernel
theorem dX6_firstThatCannotBe_42 : decode cX6_firstThatCannotBe 42 = .ok (.bipush 100, 2) := by decide +kernel
theorem dX6_firstThatCannotBe_44 : decode cX6_firstThatCannotBe 44 = .ok (.idiv, 1) := by decide +kernel
theorem dX6_firstThatCannotBe_45 : decode cX6_firstThatCannotBe 45 = .ok (.iload 5, 2) := by decide +kernel
theorem dX6_firstThatCannotBe_47 : decode cX6_firstThatCannotBe 47 = .ok (.bipush 10, 2) := by decide +kernel
theorem dX6_firstThatCannotBe_49 : decode cX6_firstThatCannotBe 49 = .ok (.idiv, 1) := by decide +kernel
theorem dX6_firstThatCannotBe_50 : decode cX6_firstThatCannotBe 50 = .ok (.bipush 10, 2) := by decide +kernel
theorem dX6_firstThatCannotBe_52 : decode cX6_firstThatCannotBe 52 = .ok (.irem, 1) := by decide +kernel
theorem dX6_firstThatCannotBe_53 : decode cX6_firstThatCannotBe 53 = .ok (.iload 5, 2) := by decide +kernel
theorem dX6_firstThatCannotBe_55 : decode cX6_firstThatCannotBe 55 = .ok (.bipush 10, 2) := by decide +kernel
theorem dX6_firstThatCannotBe_57 : decode cX6_firstThatCannotBe 57 = .ok (.irem, 1) := by decide +kernel
theorem dX6_firstThatCannotBe_58 : decode cX6_firstThatCannotBe 58 = .ok (.invokevirtual 75, 3) := by decide +kernel
theorem dX6_firstThatCannotBe_61 : decode cX6_firstThatCannotBe 61 = .ok (.ifCond .ne 6, 3) := by decide +kernel
theorem dX6_firstThatCannotBe_64 : decode cX6_firstThatCannotBe 64 = .ok (.iload 4, 2) := by decide +kernel
theorem dX6_firstThatCannotBe_66 : decode cX6_firstThatCannotBe 66 = .ok (.ireturn, 1) := by decide +kernel
theorem dX6_firstThatCannotBe_67 : decode cX6_firstThatCannotBe 67 = .ok (.iinc 4 1, 3) := by decide +kernel
theorem dX6_firstThatCannotBe_70 : decode cX6_firstThatCannotBe 70 = .ok (.goto (-56), 3) := by decide +kernel
theorem dX6_firstThatCannotBe_73 : decode cX6_firstThatCannotBe 73 = .ok (.bipush (-9), 2) := by decide +kernel
theorem dX6_firstThatCannotBe_75 : decode cX6_firstThatCannotBe 75 = .ok (.ireturn, 1) := by decide +kernel
theorem dX6_canBe_0 : decode cX6_canBe 0 = .ok (.iload_n 1, 1) := by decide +kernel
theorem dX6_canBe_1 : decode cX6_canBe 1 = .ok (.iconst 3, 1) := by decide +kernel
theorem dX6_canBe_2 : decode cX6_canBe 2 = .ok (.if_icmp .eq 9, 3) := by decide +kernel
theorem dX6_canBe_5 : decode cX6_canBe 5 = .ok (.iload_n 2, 1) := by decide +kernel
theorem dX6_canBe_6 : decode cX6_canBe 6 = .ok (.ifCond .eq 5, 3) := by decide +kernel
theorem dX6_canBe_9 : decode cX6_canBe 9 = .ok (.iconst 0, 1) := by decide +kernel
theorem dX6_canBe_10 : decode cX6_canBe 10 = .ok (.ireturn, 1) := by decide +kernel
theorem dX6_canBe_11 : decode cX6_canBe 11 = .ok (.iload_n 1, 1) := by decide +kernel
theorem dX6_canBe_12 : decode cX6_canBe 12 = .ok (.tableswitch 89 0 4 #[36, 52, 61, 70, 80], 36) := by decide +kernel
theorem dX6_canBe_48 : decode cX6_canBe 48 = .ok (.iload_n 3, 1) := by decide +kernel
theorem dX6_canBe_49 : decode cX6_canBe 49 = .ok (.ifCond .eq 5, 3) := by decide +kernel
theorem dX6_canBe_52 : decode cX6_canBe 52 = .ok (.iconst 0, 1) := by decide +kernel
theorem dX6_canBe_53 : decode cX6_canBe 53 = .ok (.ireturn, 1) := by decide +kernel
theorem dX6_canBe_54 : decode cX6_canBe 54 = .ok (.aload_n 0, 1) := by decide +kernel
theorem dX6_canBe_55 : decode cX6_canBe 55 = .ok (.getfield 15, 3) := by decide +kernel
theorem dX6_canBe_58 : decode cX6_canBe 58 = .ok (.invokevirtual 32, 3) := by decide +kernel
theorem dX6_canBe_61 : decode cX6_canBe 61 = .ok (.pop, 1) := by decide +kernel
theorem dX6_canBe_62 : decode cX6_canBe 62 = .ok (.iconst 1, 1) := by decide +kernel
theorem dX6_canBe_63 : decode cX6_canBe 63 = .ok (.ireturn, 1) := by decide +kernel
theorem dX6_canBe_64 : decode cX6_canBe 64 = .ok (.aload_n 0, 1) := by decide +kernel
theorem dX6_canBe_65 : decode cX6_canBe 65 = .ok (.getfield 15, 3) := by decide +kernel
theorem dX6_canBe_68 : decode cX6_canBe 68 = .ok (.iload_n 3, 1) := by decide +kernel
theorem dX6_canBe_69 : decode cX6_canBe 69 = .ok (.invokevirtual 40, 3) := by decide +kernel
theorem dX6_canBe_72 : decode cX6_canBe 72 = .ok (.ireturn, 1) := by decide +kernel
theorem dX6_canBe_73 : decode cX6_canBe 73 = .ok (.aload_n 0, 1) := by decide +kernel
theorem dX6_canBe_74 : decode cX6_canBe 74 = .ok (.getfield 15, 3) := by decide +kernel
theorem dX6_canBe_77 : decode cX6_canBe 77 = .ok (.iload_n 3, 1) := by decide +kernel
theorem dX6_canBe_78 : decode cX6_canBe 78 = .ok (.invokevirtual 79, 3) := by decide +kernel
theorem dX6_canBe_81 : decode cX6_canBe 81 = .ok (.ireturn, 1) := by decide +kernel
theorem dX6_canBe_82 : decode cX6_canBe 82 = .ok (.aload_n 0, 1) := by decide +kernel
theorem dX6_canBe_83 : decode cX6_canBe 83 = .ok (.getfield 15, 3) := by decide +kernel
theorem dX6_canBe_86 : decode cX6_canBe 86 = .ok (.iload_n 2, 1) := by decide +kernel
theorem dX6_canBe_87 : decode cX6_canBe 87 = .ok (.iload_n 3, 1) := by decide +kernel
theorem dX6_canBe_88 : decode cX6_canBe 88 = .ok (.invokevirtual 82, 3) := by decide +kernel
theorem dX6_canBe_91 : decode cX6_canBe 91 = .ok (.ireturn, 1) := by decide +kernel
theorem dX6_canBe_92 : decode cX6_canBe 92 = .ok (.aload_n 0, 1) := by decide +kernel
theorem dX6_canBe_93 : decode cX6_canBe 93 = .ok (.getfield 15, 3) := by decide +kernel
theorem dX6_canBe_96 : decode cX6_canBe 96 = .ok (.iload_n 3, 1) := by decide +kernel
theorem dX6_canBe_97 : decode cX6_canBe 97 = .ok (.invokevirtual 85, 3) := by decide +kernel
theorem dX6_canBe_100 : decode cX6_canBe 100 = .ok (.ireturn, 1) := by decide +kernel
theorem dX6_canBe_101 : decode cX6_canBe 101 = .ok (.iconst 0, 1) := by decide +kernel
theorem dX6_canBe_102 : decode cX6_canBe 102 = .ok (.ireturn, 1) := by decide +kernel
theorem dX7_init_0 : decode cX7_init 0 = .ok (.aload_n 0, 1) := by decide +kernel
theorem dX7_init_1 : decode cX7_init 1 = .ok (.invokespecial 3, 3) := by decide +kernel
theorem dX7_init_4 : decode cX7_init 4 = .ok (.aload_n 0, 1) := by decide +kernel
theorem dX7_init_5 : decode cX7_init 5 = .ok (.aload_n 1, 1) := by decide +kernel
theorem dX7_init_6 : decode cX7_init 6 = .ok (.putfield 9, 3) := by decide +kernel
theorem dX7_init_9 : decode cX7_init 9 = .ok (.return_, 1) := by decide +kernel
theorem dX7_read_0 : decode cX7_read 0 = .ok (.aload_n 0, 1) := by decide +kernel
theorem dX7_read_1 : decode cX7_read 1 = .ok (.getfield 9, 3) := by decide +kernel
theorem dX7_read_4 : decode cX7_read 4 = .ok (.invokevirtual 15, 3) := by decide +kernel
theorem dX7_read_7 : decode cX7_read 7 = .ok (.aload_n 0, 1) := by decide +kernel
theorem dX7_read_8 : decode cX7_read 8 = .ok (.iconst 0, 1) := by decide +kernel
theorem dX7_read_9 : decode cX7_read 9 = .ok (.putfield 20, 3) := by decide +kernel
theorem dX7_read_12 : decode cX7_read 12 = .ok (.iconst 0, 1) := by decide +kernel
theorem dX7_read_13 : decode cX7_read 13 = .ok (.istore_n 3, 1) := by decide +kernel
theorem dX7_read_14 : decode cX7_read 14 = .ok (.iload_n 3, 1) := by decide +kernel
theorem dX7_read_15 : decode cX7_read 15 = .ok (.iload_n 2, 1) := by decide +kernel
theorem dX7_read_16 : decode cX7_read 16 = .ok (.if_icmp .ge 27, 3) := by decide +kernel
theorem dX7_read_19 : decode cX7_read 19 = .ok (.iload_n 3, 1) := by decide +kernel
theorem dX7_read_20 : decode cX7_read 20 = .ok (.aload_n 1, 1) := by decide +kernel
theorem dX7_read_21 : decode cX7_read 21 = .ok (.arraylength, 1) := by decide +kernel
theorem dX7_read_22 : decode cX7_read 22 = .ok (.if_icmp .ge 21, 3) := by decide +kernel
theorem dX7_read_25 : decode cX7_read 25 = .ok (.aload_n 0, 1) := by decide +kernel
theorem dX7_read_26 : decode cX7_read 26 = .ok (.aload_n 1, 1) := by decide +kernel
theorem dX7_read_27 : decode cX7_read 27 = .ok (.iload_n 3, 1) := by decide +kernel
theorem dX7_read_28 : decode cX7_read 28 = .ok (.iaload, 1) := by decide +kernel
theorem dX7_read_29 : decode cX7_read 29 = .ok (.invokevirtual 24, 3) := by decide +kernel
theorem dX7_read_32 : decode cX7_read 32 = .ok (.ifCond .ne 5, 3) := by decide +kernel
theorem dX7_read_35 : decode cX7_read 35 = .ok (.iload_n 3, 1) := by decide +kernel
theorem dX7_read_36 : decode cX7_read 36 = .ok (.ireturn, 1) := by decide +kernel
theorem dX7_read_37 : decode cX7_read 37 = .ok (.iinc 3 1, 3) := by decide +kernel
theorem dX7_read_40 : decode cX7_read 40 = .ok (.goto (-26), 3) := by decide +kernel
theorem dX7_read_43 : decode cX7_read 43 = .ok (.aload_n 0, 1) := by decide +kernel
theorem dX7_read_44 : decode cX7_read 44 = .ok (.getfield 20, 3) := by decide +kernel
theorem dX7_read_47 : decode cX7_read 47 = .ok (.iconst 1, 1) := by decide +kernel
theorem dX7_read_48 : decode cX7_read 48 = .ok (.if_icmp .ne 8, 3) := by decide +kernel
theorem dX7_read_51 : decode cX7_read 51 = .ok (.bipush (-9), 2) := by decide +kernel
theorem dX7_read_53 : decode cX7_read 53 = .ok (.goto 4, 3) := by decide +kernel
theorem dX7_read_56 : decode cX7_read 56 = .ok (.iload_n 2, 1) := by decide +kernel
theorem dX7_read_57 : decode cX7_read 57 = .ok (.ireturn, 1) := by decide +kernel
theorem dX7_takes_0 : decode cX7_takes 0 = .ok (.aload_n 0, 1) := by decide +kernel
theorem dX7_takes_1 : decode cX7_takes 1 = .ok (.getfield 20, 3) := by decide +kernel
theorem dX7_takes_4 : decode cX7_takes 4 = .ok (.lookupswitch 103 #[(0, 44), (1, 61), (66, 76), (87, 67)], 44) := by decide +kernel
theorem dX7_takes_48 : decode cX7_takes 48 = .ok (.aload_n 0, 1) := by decide +kernel
theorem dX7_takes_49 : decode cX7_takes 49 = .ok (.iconst 1, 1) := by decide +kernel
theorem dX7_takes_50 : decode cX7_takes 50 = .ok (.putfield 20, 3) := by decide +kernel
theorem dX7_takes_53 : decode cX7_takes 53 = .ok (.iload_n 1, 1) := by decide +kernel
theorem dX7_takes_54 : decode cX7_takes 54 = .ok (.bipush 67, 2) := by decide +kernel
theorem dX7_takes_56 : decode cX7_takes 56 = .ok (.if_icmp .ne 7, 3) := by decide +kernel
theorem dX7_takes_59 : decode cX7_takes 59 = .ok (.iconst 1, 1) := by decide +kernel
theorem dX7_takes_60 : decode cX7_takes 60 = .ok (.goto 4, 3) := by decide +kernel
theorem dX7_takes_63 : decode cX7_takes 63 = .ok (.iconst 0, 1) := by decide +kernel
theorem dX7_takes_64 : decode cX7_takes 64 = .ok (.ireturn, 1) := by decide +kernel
theorem dX7_takes_65 : decode cX7_takes 65 = .ok (.aload_n 0, 1) := by decide +kernel
theorem dX7_takes_66 : decode cX7_takes 66 = .ok (.iload_n 1, 1) := by decide +kernel
theorem dX7_takes_67 : decode cX7_takes 67 = .ok (.invokevirtual 28, 3) := by decide +kernel
theorem dX7_takes_70 : decode cX7_takes 70 = .ok (.ireturn, 1) := by decide +kernel
theorem dX7_takes_71 : decode cX7_takes 71 = .ok (.aload_n 0, 1) := by decide +kernel
theorem dX7_takes_72 : decode cX7_takes 72 = .ok (.iload_n 1, 1) := by decide +kernel
theorem dX7_takes_73 : decode cX7_takes 73 = .ok (.bipush 48, 2) := by decide +kernel
theorem dX7_takes_75 : decode cX7_takes 75 = .ok (.isub, 1) := by decide +kernel
theorem dX7_takes_76 : decode cX7_takes 76 = .ok (.invokevirtual 31, 3) := by decide +kernel
theorem dX7_takes_79 : decode cX7_takes 79 = .ok (.ireturn, 1) := by decide +kernel
theorem dX7_takes_80 : decode cX7_takes 80 = .ok (.aload_n 0, 1) := by decide +kernel
theorem dX7_takes_81 : decode cX7_takes 81 = .ok (.getfield 34, 3) := by decide +kernel
theorem dX7_takes_84 : decode cX7_takes 84 = .ok (.ifCond .ne 14, 3) := by decide +kernel
theorem dX7_takes_87 : decode cX7_takes 87 = .ok (.aload_n 0, 1) := by decide +kernel
theorem dX7_takes_88 : decode cX7_takes 88 = .ok (.iload_n 1, 1) := by decide +kernel
theorem dX7_takes_89 : decode cX7_takes 89 = .ok (.bipush 97, 2) := by decide +kernel
theorem dX7_takes_91 : decode cX7_takes 91 = .ok (.isub, 1) := by decide +kernel
theorem dX7_takes_92 : decode cX7_takes 92 = .ok (.invokevirtual 37, 3) := by decide +kernel
theorem dX7_takes_95 : decode cX7_takes 95 = .ok (.goto 11, 3) := by decide +kernel
theorem dX7_takes_98 : decode cX7_takes 98 = .ok (.aload_n 0, 1) := by decide +kernel
theorem dX7_takes_99 : decode cX7_takes 99 = .ok (.iload_n 1, 1) := by decide +kernel
theorem dX7_takes_100 : decode cX7_takes 100 = .ok (.bipush 48, 2) := by decide +kernel
theorem dX7_takes_102 : decode cX7_takes 102 = .ok (.isub, 1) := by decide +kernel
theorem dX7_takes_103 : decode cX7_takes 103 = .ok (.invokevirtual 40, 3) := by decide +kernel
theorem dX7_takes_106 : decode cX7_takes 106 = .ok (.ireturn, 1) := by decide +kernel
theorem dX7_takes_107 : decode cX7_takes 107 = .ok (.aload_n 0, 1) := by decide +kernel
theorem dX7_takes_108 : decode cX7_takes 108 = .ok (.getfield 34, 3) := by decide +kernel
theorem dX7_takes_111 : decode cX7_takes 111 = .ok (.ifCond .ne 14, 3) := by decide +kernel
theorem dX7_takes_114 : decode cX7_takes 114 = .ok (.aload_n 0, 1) := by decide +kernel
theorem dX7_takes_115 : decode cX7_takes 115 = .ok (.iload_n 1, 1) := by decide +kernel
theorem dX7_takes_116 : decode cX7_takes 116 = .ok (.bipush 97, 2) := by decide +kernel
theorem dX7_takes_118 : decode cX7_takes 118 = .ok (.isub, 1) := by decide +kernel
theorem dX7_takes_119 : decode cX7_takes 119 = .ok (.invokevirtual 43, 3) := by decide +kernel
theorem dX7_takes_122 : decode cX7_takes 122 = .ok (.goto 11, 3) := by decide +kernel
theorem dX7_takes_125 : decode cX7_takes 125 = .ok (.aload_n 0, 1) := by decide +kernel
theorem dX7_takes_126 : decode cX7_takes 126 = .ok (.iload_n 1, 1) := by decide +kernel
