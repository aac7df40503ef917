theorem dX11_write_8 : decode cX11_write 8 = .ok (.if_icmp .le 6, 3) := by decide +kernel
theorem dX11_write_11 : decode cX11_write 11 = .ok (.bipush (-2), 2) := by decide +kernel
theorem dX11_write_13 : decode cX11_write 13 = .ok (.ireturn, 1) := by decide +kernel
theorem dX11_write_14 : decode cX11_write 14 = .ok (.aload_n 0, 1) := by decide +kernel
theorem dX11_write_15 : decode cX11_write 15 = .ok (.getfield 103, 3) := by decide +kernel
theorem dX11_write_18 : decode cX11_write 18 = .ok (.bipush 48, 2) := by decide +kernel
theorem dX11_write_20 : decode cX11_write 20 = .ok (.if_icmp .lt 6, 3) := by decide +kernel
theorem dX11_write_23 : decode cX11_write 23 = .ok (.bipush (-4), 2) := by decide +kernel
theorem dX11_write_25 : decode cX11_write 25 = .ok (.ireturn, 1) := by decide +kernel
theorem dX11_write_26 : decode cX11_write 26 = .ok (.aload_n 0, 1) := by decide +kernel
theorem dX11_write_27 : decode cX11_write 27 = .ok (.getfield 9, 3) := by decide +kernel
theorem dX11_write_30 : decode cX11_write 30 = .ok (.aload_n 0, 1) := by decide +kernel
theorem dX11_write_31 : decode cX11_write 31 = .ok (.getfield 103, 3) := by decide +kernel
theorem dX11_write_34 : decode cX11_write 34 = .ok (.iload_n 1, 1) := by decide +kernel
theorem dX11_write_35 : decode cX11_write 35 = .ok (.iastore, 1) := by decide +kernel
theorem dX11_write_36 : decode cX11_write 36 = .ok (.aload_n 0, 1) := by decide +kernel
theorem dX11_write_37 : decode cX11_write 37 = .ok (.dup, 1) := by decide +kernel
theorem dX11_write_38 : decode cX11_write 38 = .ok (.getfield 103, 3) := by decide +kernel
theorem dX11_write_41 : decode cX11_write 41 = .ok (.iconst 1, 1) := by decide +kernel
theorem dX11_write_42 : decode cX11_write 42 = .ok (.iadd, 1) := by decide +kernel
theorem dX11_write_43 : decode cX11_write 43 = .ok (.putfield 103, 3) := by decide +kernel
theorem dX11_write_46 : decode cX11_write 46 = .ok (.aload_n 0, 1) := by decide +kernel
theorem dX11_write_47 : decode cX11_write 47 = .ok (.getfield 103, 3) := by decide +kernel
theorem dX11_write_50 : decode cX11_write 50 = .ok (.ireturn, 1) := by decide +kernel
theorem dX11_wipe_0 : decode cX11_wipe 0 = .ok (.aload_n 0, 1) := by decide +kernel
theorem dX11_wipe_1 : decode cX11_wipe 1 = .ok (.getfield 103, 3) := by decide +kernel
theorem dX11_wipe_4 : decode cX11_wipe 4 = .ok (.istore_n 1, 1) := by decide +kernel
theorem dX11_wipe_5 : decode cX11_wipe 5 = .ok (.aload_n 0, 1) := by decide +kernel
theorem dX11_wipe_6 : decode cX11_wipe 6 = .ok (.iconst 0, 1) := by decide +kernel
theorem dX11_wipe_7 : decode cX11_wipe 7 = .ok (.putfield 103, 3) := by decide +kernel
theorem dX11_wipe_10 : decode cX11_wipe 10 = .ok (.iload_n 1, 1) := by decide +kernel
theorem dX11_wipe_11 : decode cX11_wipe 11 = .ok (.ireturn, 1) := by decide +kernel
theorem dX11_fault_0 : decode cX11_fault 0 = .ok (.aload_n 0, 1) := by decide +kernel
theorem dX11_fault_1 : decode cX11_fault 1 = .ok (.getfield 29, 3) := by decide +kernel
theorem dX11_fault_4 : decode cX11_fault 4 = .ok (.aload_n 0, 1) := by decide +kernel
theorem dX11_fault_5 : decode cX11_fault 5 = .ok (.getfield 9, 3) := by decide +kernel
theorem dX11_fault_8 : decode cX11_fault 8 = .ok (.aload_n 0, 1) := by decide +kernel
theorem dX11_fault_9 : decode cX11_fault 9 = .ok (.getfield 103, 3) := by decide +kernel
theorem dX11_fault_12 : decode cX11_fault 12 = .ok (.invokevirtual 107, 3) := by decide +kernel
theorem dX11_fault_15 : decode cX11_fault 15 = .ok (.ireturn, 1) := by decide +kernel
theorem dX11_city_0 : decode cX11_city 0 = .ok (.aload_n 0, 1) := by decide +kernel
theorem dX11_city_1 : decode cX11_city 1 = .ok (.getfield 29, 3) := by decide +kernel
theorem dX11_city_4 : decode cX11_city 4 = .ok (.aload_n 0, 1) := by decide +kernel
theorem dX11_city_5 : decode cX11_city 5 = .ok (.getfield 9, 3) := by decide +kernel
theorem dX11_city_8 : decode cX11_city 8 = .ok (.aload_n 0, 1) := by decide +kernel
theorem dX11_city_9 : decode cX11_city 9 = .ok (.getfield 103, 3) := by decide +kernel
theorem dX11_city_12 : decode cX11_city 12 = .ok (.invokevirtual 107, 3) := by decide +kernel
theorem dX11_city_15 : decode cX11_city 15 = .ok (.bipush (-9), 2) := by decide +kernel
theorem dX11_city_17 : decode cX11_city 17 = .ok (.if_icmp .eq 6, 3) := by decide +kernel
theorem dX11_city_20 : decode cX11_city 20 = .ok (.bipush (-3), 2) := by decide +kernel
theorem dX11_city_22 : decode cX11_city 22 = .ok (.ireturn, 1) := by decide +kernel
theorem dX11_city_23 : decode cX11_city 23 = .ok (.aload_n 0, 1) := by decide +kernel
theorem dX11_city_24 : decode cX11_city 24 = .ok (.getfield 25, 3) := by decide +kernel
theorem dX11_city_27 : decode cX11_city 27 = .ok (.aload_n 0, 1) := by decide +kernel
theorem dX11_city_28 : decode cX11_city 28 = .ok (.getfield 9, 3) := by decide +kernel
theorem dX11_city_31 : decode cX11_city 31 = .ok (.aload_n 0, 1) := by decide +kernel
theorem dX11_city_32 : decode cX11_city 32 = .ok (.getfield 103, 3) := by decide +kernel
theorem dX11_city_35 : decode cX11_city 35 = .ok (.invokevirtual 107, 3) := by decide +kernel
theorem dX11_city_38 : decode cX11_city 38 = .ok (.pop, 1) := by decide +kernel
theorem dX11_city_39 : decode cX11_city 39 = .ok (.aload_n 0, 1) := by decide +kernel
theorem dX11_city_40 : decode cX11_city 40 = .ok (.getfield 35, 3) := by decide +kernel
theorem dX11_city_43 : decode cX11_city 43 = .ok (.invokevirtual 111, 3) := by decide +kernel
theorem dX11_city_46 : decode cX11_city 46 = .ok (.aload_n 0, 1) := by decide +kernel
theorem dX11_city_47 : decode cX11_city 47 = .ok (.getfield 45, 3) := by decide +kernel
theorem dX11_city_50 : decode cX11_city 50 = .ok (.invokevirtual 114, 3) := by decide +kernel
theorem dX11_city_53 : decode cX11_city 53 = .ok (.iconst 0, 1) := by decide +kernel
theorem dX11_city_54 : decode cX11_city 54 = .ok (.istore_n 1, 1) := by decide +kernel
theorem dX11_city_55 : decode cX11_city 55 = .ok (.iload_n 1, 1) := by decide +kernel
theorem dX11_city_56 : decode cX11_city 56 = .ok (.iconst 2, 1) := by decide +kernel
theorem dX11_city_57 : decode cX11_city 57 = .ok (.if_icmp .ge 16, 3) := by decide +kernel
theorem dX11_city_60 : decode cX11_city 60 = .ok (.aload_n 0, 1) := by decide +kernel
theorem dX11_city_61 : decode cX11_city 61 = .ok (.getfield 53, 3) := by decide +kernel
theorem dX11_city_64 : decode cX11_city 64 = .ok (.iload_n 1, 1) := by decide +kernel
theorem dX11_city_65 : decode cX11_city 65 = .ok (.iconst 0, 1) := by decide +kernel
theorem dX11_city_66 : decode cX11_city 66 = .ok (.bastore, 1) := by decide +kernel
theorem dX11_city_67 : decode cX11_city 67 = .ok (.iinc 1 1, 3) := by decide +kernel
theorem dX11_city_70 : decode cX11_city 70 = .ok (.goto (-15), 3) := by decide +kernel
theorem dX11_city_73 : decode cX11_city 73 = .ok (.bipush 100, 2) := by decide +kernel
theorem dX11_city_75 : decode cX11_city 75 = .ok (.aload_n 0, 1) := by decide +kernel
theorem dX11_city_76 : decode cX11_city 76 = .ok (.getfield 16, 3) := by decide +kernel
theorem dX11_city_79 : decode cX11_city 79 = .ok (.getfield 117, 3) := by decide +kernel
theorem dX11_city_82 : decode cX11_city 82 = .ok (.imul, 1) := by decide +kernel
theorem dX11_city_83 : decode cX11_city 83 = .ok (.bipush 10, 2) := by decide +kernel
theorem dX11_city_85 : decode cX11_city 85 = .ok (.aload_n 0, 1) := by decide +kernel
theorem dX11_city_86 : decode cX11_city 86 = .ok (.getfield 16, 3) := by decide +kernel
theorem dX11_city_89 : decode cX11_city 89 = .ok (.getfield 120, 3) := by decide +kernel
theorem dX11_city_92 : decode cX11_city 92 = .ok (.imul, 1) := by decide +kernel
theorem dX11_city_93 : decode cX11_city 93 = .ok (.iadd, 1) := by decide +kernel
theorem dX11_city_94 : decode cX11_city 94 = .ok (.aload_n 0, 1) := by decide +kernel
theorem dX11_city_95 : decode cX11_city 95 = .ok (.getfield 16, 3) := by decide +kernel
theorem dX11_city_98 : decode cX11_city 98 = .ok (.getfield 123, 3) := by decide +kernel
theorem dX11_city_101 : decode cX11_city 101 = .ok (.iadd, 1) := by decide +kernel
theorem dX11_city_102 : decode cX11_city 102 = .ok (.ireturn, 1) := by decide +kernel
theorem dX11_balloon_0 : decode cX11_balloon 0 = .ok (.aload_n 0, 1) := by decide +kernel
theorem dX11_balloon_1 : decode cX11_balloon 1 = .ok (.getfield 35, 3) := by decide +kernel
theorem dX11_balloon_4 : decode cX11_balloon 4 = .ok (.iload_n 1, 1) := by decide +kernel
theorem dX11_balloon_5 : decode cX11_balloon 5 = .ok (.invokevirtual 126, 3) := by decide +kernel
theorem dX11_balloon_8 : decode cX11_balloon 8 = .ok (.ifCond .ne 5, 3) := by decide +kernel
theorem dX11_balloon_11 : decode cX11_balloon 11 = .ok (.iconst (-1), 1) := by decide +kernel
theorem dX11_balloon_12 : decode cX11_balloon 12 = .ok (.ireturn, 1) := by decide +kernel
theorem dX11_balloon_13 : decode cX11_balloon 13 = .ok (.iload_n 2, 1) := by decide +kernel
theorem dX11_balloon_14 : decode cX11_balloon 14 = .ok (.ifCond .lt 9, 3) := by decide +kernel
theorem dX11_balloon_17 : decode cX11_balloon 17 = .ok (.iload_n 2, 1) := by decide +kernel
theorem dX11_balloon_18 : decode cX11_balloon 18 = .ok (.bipush 7, 2) := by decide +kernel
theorem dX11_balloon_20 : decode cX11_balloon 20 = .ok (.if_icmp .le 6, 3) := by decide +kernel
theorem dX11_balloon_23 : decode cX11_balloon 23 = .ok (.bipush (-2), 2) := by decide +kernel
theorem dX11_balloon_25 : decode cX11_balloon 25 = .ok (.ireturn, 1) := by decide +kernel
theorem dX11_balloon_26 : decode cX11_balloon 26 = .ok (.aload_n 0, 1) := by decide +kernel
theorem dX11_balloon_27 : decode cX11_balloon 27 = .ok (.getfield 35, 3) := by decide +kernel
theorem dX11_balloon_30 : decode cX11_balloon 30 = .ok (.getfield 130, 3) := by decide +kernel
theorem dX11_balloon_33 : decode cX11_balloon 33 = .ok (.iload_n 1, 1) := by decide +kernel
theorem dX11_balloon_34 : decode cX11_balloon 34 = .ok (.aaload, 1) := by decide +kernel
theorem dX11_balloon_35 : decode cX11_balloon 35 = .ok (.astore_n 3, 1) := by decide +kernel
theorem dX11_balloon_36 : decode cX11_balloon 36 = .ok (.iload_n 2, 1) := by decide +kernel
theorem dX11_balloon_37 : decode cX11_balloon 37 = .ok (.tableswitch 95 0 6 #[43, 48, 53, 63, 68, 73, 78], 43) := by decide +kernel
theorem dX11_balloon_80 : decode cX11_balloon 80 = .ok (.aload_n 3, 1) := by decide +kernel
theorem dX11_balloon_81 : decode cX11_balloon 81 = .ok (.getfield 133, 3) := by decide +kernel
theorem dX11_balloon_84 : decode cX11_balloon 84 = .ok (.ireturn, 1) := by decide +kernel
theorem dX11_balloon_85 : decode cX11_balloon 85 = .ok (.aload_n 3, 1) := by decide +kernel
theorem dX11_balloon_86 : decode cX11_balloon 86 = .ok (.getfield 138, 3) := by decide +kernel
theorem dX11_balloon_89 : decode cX11_balloon 89 = .ok (.ireturn, 1) := by decide +kernel
theorem dX11_balloon_90 : decode cX11_balloon 90 = .ok (.aload_n 0, 1) := by decide +kernel
theorem dX11_balloon_91 : decode cX11_balloon 91 = .ok (.getfield 16, 3) := by decide +kernel
theorem dX11_balloon_94 : decode cX11_balloon 94 = .ok (.getfield 141, 3) := by decide +kernel
theorem dX11_balloon_97 : decode cX11_balloon 97 = .ok (.iload_n 1, 1) := by decide +kernel
theorem dX11_balloon_98 : decode cX11_balloon 98 = .ok (.iaload, 1) := by decide +kernel
theorem dX11_balloon_99 : decode cX11_balloon 99 = .ok (.ireturn, 1) := by decide +kernel
theorem dX11_balloon_100 : decode cX11_balloon 100 = .ok (.aload_n 3, 1) := by decide +kernel
theorem dX11_balloon_101 : decode cX11_balloon 101 = .ok (.getfield 144, 3) := by decide +kernel
theorem dX11_balloon_104 : decode cX11_balloon 104 = .ok (.ireturn, 1) := by decide +kernel
theorem dX11_balloon_105 : decode cX11_balloon 105 = .ok (.aload_n 3, 1) := by decide +kernel
theorem dX11_balloon_106 : decode cX11_balloon 106 = .ok (.getfield 147, 3) := by decide +kernel
theorem dX11_balloon_109 : decode cX11_balloon 109 = .ok (.ireturn, 1) := by decide +kernel
theorem dX11_balloon_110 : decode cX11_balloon 110 = .ok (.aload_n 3, 1) := by decide +kernel
theorem dX11_balloon_111 : decode cX11_balloon 111 = .ok (.getfield 150, 3) := by decide +kernel
theorem dX11_balloon_114 : decode cX11_balloon 114 = .ok (.ireturn, 1) := by decide +kernel
theorem dX11_balloon_115 : decode cX11_balloon 115 = .ok (.aload_n 0, 1) := by decide +kernel
theorem dX11_balloon_116 : decode cX11_balloon 116 = .ok (.getfield 35, 3) := by decide +kernel
theorem dX11_balloon_119 : decode cX11_balloon 119 = .ok (.iload_n 1, 1) := by decide +kernel
theorem dX11_balloon_120 : decode cX11_balloon 120 = .ok (.invokevirtual 153, 3) := by decide +kernel
theorem dX11_balloon_123 : decode cX11_balloon 123 = .ok (.ifCond .eq 7, 3) := by decide +kernel
theorem dX11_balloon_126 : decode cX11_balloon 126 = .ok (.iconst 1, 1) := by decide +kernel
theorem dX11_balloon_127 : decode cX11_balloon 127 = .ok (.goto 4, 3) := by decide +kernel
theorem dX11_balloon_130 : decode cX11_balloon 130 = .ok (.iconst 0, 1) := by decide +kernel
theorem dX11_balloon_131 : decode cX11_balloon 131 = .ok (.ireturn, 1) := by decide +kernel
theorem dX11_balloon_132 : decode cX11_balloon 132 = .ok (.aload_n 0, 1) := by decide +kernel
theorem dX11_balloon_133 : decode cX11_balloon 133 = .ok (.getfield 35, 3) := by decide +kernel
theorem dX11_balloon_136 : decode cX11_balloon 136 = .ok (.iload_n 1, 1) := by decide +kernel
theorem dX11_balloon_137 : decode cX11_balloon 137 = .ok (.invokevirtual 156, 3) := by decide +kernel
theorem dX11_balloon_140 : decode cX11_balloon 140 = .ok (.ifCond .eq 7, 3) := by decide +kernel
theorem dX11_balloon_143 : decode cX11_balloon 143 = .ok (.iconst 1, 1) := by decide +kernel
theorem dX11_balloon_144 : decode cX11_balloon 144 = .ok (.goto 4, 3) := by decide +kernel
theorem dX11_balloon_147 : decode cX11_balloon 147 = .ok (.iconst 0, 1) := by decide +kernel
theorem dX11_balloon_148 : decode cX11_balloon 148 = .ok (.ireturn, 1) := by decide +kernel
theorem dX11_hedge_0 : decode cX11_hedge 0 = .ok (.aload_n 0, 1) := by decide +kernel
theorem dX11_hedge_1 : decode cX11_hedge 1 = .ok (.getfield 16, 3) := by decide +kernel
theorem dX11_hedge_4 : decode cX11_hedge 4 = .ok (.iload_n 1, 1) := by decide +kernel
theorem dX11_hedge_5 : decode cX11_hedge 5 = .ok (.invokevirtual 159, 3) := by decide +kernel
theorem dX11_hedge_8 : decode cX11_hedge 8 = .ok (.ifCond .ne 5, 3) := by decide +kernel
theorem dX11_hedge_11 : decode cX11_hedge 11 = .ok (.iconst (-1), 1) := by decide +kernel
theorem dX11_hedge_12 : decode cX11_hedge 12 = .ok (.ireturn, 1) := by decide +kernel
theorem dX11_hedge_13 : decode cX11_hedge 13 = .ok (.iload_n 2, 1) := by decide +kernel
theorem dX11_hedge_14 : decode cX11_hedge 14 = .ok (.ifCond .lt 8, 3) := by decide +kernel
theorem dX11_hedge_17 : decode cX11_hedge 17 = .ok (.iload_n 2, 1) := by decide +kernel
theorem dX11_hedge_18 : decode cX11_hedge 18 = .ok (.iconst 3, 1) := by decide +kernel
theorem dX11_hedge_19 : decode cX11_hedge 19 = .ok (.if_icmp .le 6, 3) := by decide +kernel
theorem dX11_hedge_22 : decode cX11_hedge 22 = .ok (.bipush (-2), 2) := by decide +kernel
theorem dX11_hedge_24 : decode cX11_hedge 24 = .ok (.ireturn, 1) := by decide +kernel
theorem dX11_hedge_25 : decode cX11_hedge 25 = .ok (.iload_n 2, 1) := by decide +kernel
theorem dX11_hedge_26 : decode cX11_hedge 26 = .ok (.tableswitch 56 0 2 #[26, 36, 46], 26) := by decide +kernel
theorem dX11_hedge_52 : decode cX11_hedge 52 = .ok (.aload_n 0, 1) := by decide +kernel
theorem dX11_hedge_53 : decode cX11_hedge 53 = .ok (.getfield 16, 3) := by decide +kernel
theorem dX11_hedge_56 : decode cX11_hedge 56 = .ok (.getfield 162, 3) := by decide +kernel
theorem dX11_hedge_59 : decode cX11_hedge 59 = .ok (.iload_n 1, 1) := by decide +kernel
theorem dX11_hedge_60 : decode cX11_hedge 60 = .ok (.iaload, 1) := by decide +kernel
theorem dX11_hedge_61 : decode cX11_hedge 61 = .ok (.ireturn, 1) := by decide +kernel
theorem dX11_hedge_62 : decode cX11_hedge 62 = .ok (.aload_n 0, 1) := by decide +kernel
theorem dX11_hedge_63 : decode cX11_hedge 63 = .ok (.getfield 16, 3) := by decide +kernel
theorem dX11_hedge_66 : decode cX11_hedge 66 = .ok (.getfield 165, 3) := by decide +kernel
theorem dX11_hedge_69 : decode cX11_hedge 69 = .ok (.iload_n 1, 1) := by decide +kernel
theorem dX11_hedge_70 : decode cX11_hedge 70 = .ok (.iaload, 1) := by decide +kernel
theorem dX11_hedge_71 : decode cX11_hedge 71 = .ok (.ireturn, 1) := by decide +kernel
theorem dX11_hedge_72 : decode cX11_hedge 72 = .ok (.aload_n 0, 1) := by decide +kernel
theorem dX11_hedge_73 : decode cX11_hedge 73 = .ok (.getfield 16, 3) := by decide +kernel
theorem dX11_hedge_76 : decode cX11_hedge 76 = .ok (.getfield 168, 3) := by decide +kernel
theorem dX11_hedge_79 : decode cX11_hedge 79 = .ok (.iload_n 1, 1) := by decide +kernel
theorem dX11_hedge_80 : decode cX11_hedge 80 = .ok (.iaload, 1) := by decide +kernel
theorem dX11_hedge_81 : decode cX11_hedge 81 = .ok (.ireturn, 1) := by decide +kernel
theorem dX11_hedge_82 : decode cX11_hedge 82 = .ok (.aload_n 0, 1) := by decide +kernel
theorem dX11_hedge_83 : decode cX11_hedge 83 = .ok (.getfield 35, 3) := by decide +kernel
theorem dX11_hedge_86 : decode cX11_hedge 86 = .ok (.iload_n 1, 1) := by decide +kernel
theorem dX11_hedge_87 : decode cX11_hedge 87 = .ok (.invokevirtual 171, 3) := by decide +kernel
theorem dX11_hedge_90 : decode cX11_hedge 90 = .ok (.ireturn, 1) := by decide +kernel
theorem dX11_let_0 : decode cX11_let 0 = .ok (.aload_n 0, 1) := by decide +kernel
theorem dX11_let_1 : decode cX11_let 1 = .ok (.getfield 35, 3) := by decide +kernel
theorem dX11_let_4 : decode cX11_let 4 = .ok (.iload_n 1, 1) := by decide +kernel
theorem dX11_let_5 : decode cX11_let 5 = .ok (.invokevirtual 126, 3) := by decide +kernel
theorem dX11_let_8 : decode cX11_let 8 = .ok (.ifCond .ne 5, 3) := by decide +kernel
theorem dX11_let_11 : decode cX11_let 11 = .ok (.iconst (-1), 1) := by decide +kernel
theorem dX11_let_12 : decode cX11_let 12 = .ok (.ireturn, 1) := by decide +kernel
theorem dX11_let_13 : decode cX11_let 13 = .ok (.aload_n 0, 1) := by decide +kernel
theorem dX11_let_14 : decode cX11_let 14 = .ok (.getfield 35, 3) := by decide +kernel
theorem dX11_let_17 : decode cX11_let 17 = .ok (.iload_n 1, 1) := by decide +kernel
theorem dX11_let_18 : decode cX11_let 18 = .ok (.iconst 0, 1) := by decide +kernel
theorem dX11_let_19 : decode cX11_let 19 = .ok (.invokevirtual 175, 3) := by decide +kernel
theorem dX11_let_22 : decode cX11_let 22 = .ok (.ifCond .ne 6, 3) := by decide +kernel
theorem dX11_let_25 : decode cX11_let 25 = .ok (.bipush (-3), 2) := by decide +kernel
theorem dX11_let_27 : decode cX11_let 27 = .ok (.ireturn, 1) := by decide +kernel
theorem dX11_let_28 : decode cX11_let 28 = .ok (.aload_n 0, 1) := by decide +kernel
theorem dX11_let_29 : decode cX11_let 29 = .ok (.getfield 45, 3) := by decide +kernel
theorem dX11_let_32 : decode cX11_let 32 = .ok (.aload_n 0, 1) := by decide +kernel
theorem dX11_let_33 : decode cX11_let 33 = .ok (.getfield 35, 3) := by decide +kernel
theorem dX11_let_36 : decode cX11_let 36 = .ok (.invokevirtual 179, 3) := by decide +kernel
theorem dX11_let_39 : decode cX11_let 39 = .ok (.aload_n 0, 1) := by decide +kernel
theorem dX11_let_40 : decode cX11_let 40 = .ok (.getfield 35, 3) := by decide +kernel
theorem dX11_let_43 : decode cX11_let 43 = .ok (.iload_n 1, 1) := by decide +kernel
theorem dX11_let_44 : decode cX11_let 44 = .ok (.invokevirtual 182, 3) := by decide +kernel
theorem dX11_let_47 : decode cX11_let 47 = .ok (.pop, 1) := by decide +kernel
theorem dX11_let_48 : decode cX11_let 48 = .ok (.aload_n 0, 1) := by decide +kernel
theorem dX11_let_49 : decode cX11_let 49 = .ok (.getfield 35, 3) := by decide +kernel
theorem dX11_let_52 : decode cX11_let 52 = .ok (.iconst 1, 1) := by decide +kernel
theorem dX11_let_53 : decode cX11_let 53 = .ok (.invokevirtual 185, 3) := by decide +kernel
theorem dX11_let_56 : decode cX11_let 56 = .ok (.invokestatic 188, 3) := by decide +kernel
theorem dX11_let_59 : decode cX11_let 59 = .ok (.ireturn, 1) := by decide +kernel
theorem dX11_hour_0 : decode cX11_hour 0 = .ok (.aload_n 0, 1) := by decide +kernel
theorem dX11_hour_1 : decode cX11_hour 1 = .ok (.getfield 45, 3) := by decide +kernel
theorem dX11_hour_4 : decode cX11_hour 4 = .ok (.aload_n 0, 1) := by decide +kernel
theorem dX11_hour_5 : decode cX11_hour 5 = .ok (.getfield 35, 3) := by decide +kernel
theorem dX11_hour_8 : decode cX11_hour 8 = .ok (.invokevirtual 179, 3) := by decide +kernel
theorem dX11_hour_11 : decode cX11_hour 11 = .ok (.aload_n 0, 1) := by decide +kernel
theorem dX11_hour_12 : decode cX11_hour 12 = .ok (.getfield 35, 3) := by decide +kernel
theorem dX11_hour_15 : decode cX11_hour 15 = .ok (.invokevirtual 193, 3) := by decide +kernel
theorem dX11_hour_18 : decode cX11_hour 18 = .ok (.ireturn, 1) := by decide +kernel
theorem dX11_free_0 : decode cX11_free 0 = .ok (.aload_n 0, 1) := by decide +kernel
theorem dX11_free_1 : decode cX11_free 1 = .ok (.getfield 35, 3) := by decide +kernel
theorem dX11_free_4 : decode cX11_free 4 = .ok (.iload_n 1, 1) := by decide +kernel
theorem dX11_free_5 : decode cX11_free 5 = .ok (.invokevirtual 126, 3) := by decide +kernel
theorem dX11_free_8 : decode cX11_free 8 = .ok (.ifCond .ne 5, 3) := by decide +kernel
theorem dX11_free_11 : decode cX11_free 11 = .ok (.iconst (-1), 1) := by decide +kernel
theorem dX11_free_12 : decode cX11_free 12 = .ok (.ireturn, 1) := by decide +kernel
theorem dX11_free_13 : decode cX11_free 13 = .ok (.aload_n 0, 1) := by decide +kernel
theorem dX11_free_14 : decode cX11_free 14 = .ok (.getfield 35, 3) := by decide +kernel
theorem dX11_free_17 : decode cX11_free 17 = .ok (.iload_n 1, 1) := by decide +kernel
theorem dX11_free_18 : decode cX11_free 18 = .ok (.iconst 2, 1) := by decide +kernel
theorem dX11_free_19 : decode cX11_free 19 = .ok (.invokevirtual 175, 3) := by decide +kernel
theorem dX11_free_22 : decode cX11_free 22 = .ok (.ifCond .ne 6, 3) := by decide +kernel
theorem dX11_free_25 : decode cX11_free 25 = .ok (.bipush (-3), 2) := by decide +kernel
theorem dX11_free_27 : decode cX11_free 27 = .ok (.ireturn, 1) := by decide +kernel
theorem dX11_free_28 : decode cX11_free 28 = .ok (.aload_n 0, 1) := by decide +kernel
theorem dX11_free_29 : decode cX11_free 29 = .ok (.getfield 35, 3) := by decide +kernel
theorem dX11_free_32 : decode cX11_free 32 = .ok (.getfield 130, 3) := by decide +kernel
theorem dX11_free_35 : decode cX11_free 35 = .ok (.iload_n 1, 1) := by decide +kernel
theorem dX11_free_36 : decode cX11_free 36 = .ok (.aaload, 1) := by decide +kernel
theorem dX11_free_37 : decode cX11_free 37 = .ok (.getfield 147, 3) := by decide +kernel
theorem dX11_free_40 : decode cX11_free 40 = .ok (.istore_n 2, 1) := by decide +kernel
theorem dX11_free_41 : decode cX11_free 41 = .ok (.aload_n 0, 1) := by decide +kernel
theorem dX11_free_42 : decode cX11_free 42 = .ok (.getfield 45, 3) := by decide +kernel
theorem dX11_free_45 : decode cX11_free 45 = .ok (.aload_n 0, 1) := by decide +kernel
theorem dX11_free_46 : decode cX11_free 46 = .ok (.getfield 35, 3) := by decide +kernel
theorem dX11_free_49 : decode cX11_free 49 = .ok (.invokevirtual 179, 3) := by decide +kernel
theorem dX11_free_52 : decode cX11_free 52 = .ok (.aload_n 0, 1) := by decide +kernel
theorem dX11_free_53 : decode cX11_free 53 = .ok (.getfield 35, 3) := by decide +kernel
theorem dX11_free_56 : decode cX11_free 56 = .ok (.iload_n 1, 1) := by decide +kernel
theorem dX11_free_57 : decode cX11_free 57 = .ok (.invokevirtual 197, 3) := by decide +kernel
theorem dX11_free_60 : decode cX11_free 60 = .ok (.pop, 1) := by decide +kernel
theorem dX11_free_61 : decode cX11_free 61 = .ok (.iload_n 2, 1) := by decide +kernel
theorem dX11_free_62 : decode cX11_free 62 = .ok (.ireturn, 1) := by decide +kernel
theorem dX11_right_0 : decode cX11_right 0 = .ok (.aload_n 0, 1) := by decide +kernel
theorem dX11_right_1 : decode cX11_right 1 = .ok (.getfield 35, 3) := by decide +kernel
theorem dX11_right_4 : decode cX11_right 4 = .ok (.iload_n 1, 1) := by decide +kernel
theorem dX11_right_5 : decode cX11_right 5 = .ok (.invokevirtual 126, 3) := by decide +kernel
theorem dX11_right_8 : decode cX11_right 8 = .ok (.ifCond .eq 14, 3) := by decide +kernel
theorem dX11_right_11 : decode cX11_right 11 = .ok (.aload_n 0, 1) := by decide +kernel
theorem dX11_right_12 : decode cX11_right 12 = .ok (.getfield 35, 3) := by decide +kernel
theorem dX11_right_15 : decode cX11_right 15 = .ok (.iload_n 2, 1) := by decide +kernel
theorem dX11_right_16 : decode cX11_right 16 = .ok (.invokevirtual 126, 3) := by decide +kernel
theorem dX11_right_19 : decode cX11_right 19 = .ok (.ifCond .ne 5, 3) := by decide +kernel
theorem dX11_right_22 : decode cX11_right 22 = .ok (.iconst (-1), 1) := by decide +kernel
theorem dX11_right_23 : decode cX11_right 23 = .ok (.ireturn, 1) := by decide +kernel
theorem dX11_right_24 : decode cX11_right 24 = .ok (.iload_n 1, 1) := by decide +kernel
theorem dX11_right_25 : decode cX11_right 25 = .ok (.iload_n 2, 1) := by decide +kernel
theorem dX11_right_26 : decode cX11_right 26 = .ok (.if_icmp .ne 6, 3) := by decide +kernel
theorem dX11_right_29 : decode cX11_right 29 = .ok (.bipush (-2), 2) := by decide +kernel
theorem dX11_right_31 : decode cX11_right 31 = .ok (.ireturn, 1) := by decide +kernel
theorem dX11_right_32 : decode cX11_right 32 = .ok (.aload_n 0, 1) := by decide +kernel
theorem dX11_right_33 : decode cX11_right 33 = .ok (.getfield 45, 3) := by decide +kernel
theorem dX11_right_36 : decode cX11_right 36 = .ok (.aload_n 0, 1) := by decide +kernel
theorem dX11_right_37 : decode cX11_right 37 = .ok (.getfield 35, 3) := by decide +kernel
theorem dX11_right_40 : decode cX11_right 40 = .ok (.invokevirtual 179, 3) := by decide +kernel
theorem dX11_right_43 : decode cX11_right 43 = .ok (.aload_n 0, 1) := by decide +kernel
theorem dX11_right_44 : decode cX11_right 44 = .ok (.getfield 35, 3) := by decide +kernel
theorem dX11_right_47 : decode cX11_right 47 = .ok (.iload_n 1, 1) := by decide +kernel
theorem dX11_right_48 : decode cX11_right 48 = .ok (.iload_n 2, 1) := by decide +kernel
theorem dX11_right_49 : decode cX11_right 49 = .ok (.invokevirtual 200, 3) := by decide +kernel
theorem dX11_right_52 : decode cX11_right 52 = .ok (.pop, 1) := by decide +kernel
theorem dX11_right_53 : decode cX11_right 53 = .ok (.aload_n 0, 1) := by decide +kernel
theorem dX11_right_54 : decode cX11_right 54 = .ok (.getfield 35, 3) := by decide +kernel
theorem dX11_right_57 : decode cX11_right 57 = .ok (.invokevirtual 203, 3) := by decide +kernel
theorem dX11_right_60 : decode cX11_right 60 = .ok (.invokestatic 188, 3) := by decide +kernel
theorem dX11_right_63 : decode cX11_right 63 = .ok (.ireturn, 1) := by decide +kernel
theorem dX11_undo_0 : decode cX11_undo 0 = .ok (.aload_n 0, 1) := by decide +kernel
theorem dX11_undo_1 : decode cX11_undo 1 = .ok (.getfield 45, 3) := by decide +kernel
theorem dX11_undo_4 : decode cX11_undo 4 = .ok (.getfield 206, 3) := by decide +kernel
theorem dX11_undo_7 : decode cX11_undo 7 = .ok (.ifCond .ne 6, 3) := by decide +kernel
theorem dX11_undo_10 : decode cX11_undo 10 = .ok (.bipush (-3), 2) := by decide +kernel
theorem dX11_undo_12 : decode cX11_undo 12 = .ok (.ireturn, 1) := by decide +kernel
theorem dX11_undo_13 : decode cX11_undo 13 = .ok (.aload_n 0, 1) := by decide +kernel
theorem dX11_undo_14 : decode cX11_undo 14 = .ok (.getfield 45, 3) := by decide +kernel
theorem dX11_undo_17 : decode cX11_undo 17 = .ok (.aload_n 0, 1) := by decide +kernel
theorem dX11_undo_18 : decode cX11_undo 18 = .ok (.getfield 35, 3) := by decide +kernel
theorem dX11_undo_21 : decode cX11_undo 21 = .ok (.invokevirtual 209, 3) := by decide +kernel
theorem dX11_undo_24 : decode cX11_undo 24 = .ok (.aload_n 0, 1) := by decide +kernel
theorem dX11_undo_25 : decode cX11_undo 25 = .ok (.getfield 45, 3) := by decide +kernel
theorem dX11_undo_28 : decode cX11_undo 28 = .ok (.getfield 206, 3) := by decide +kernel
theorem dX11_undo_31 : decode cX11_undo 31 = .ok (.ireturn, 1) := by decide +kernel
theorem dX11_later_0 : decode cX11_later 0 = .ok (.aload_n 0, 1) := by decide +kernel
theorem dX11_later_1 : decode cX11_later 1 = .ok (.getfield 35, 3) := by decide +kernel
theorem dX11_later_4 : decode cX11_later 4 = .ok (.iload_n 1, 1) := by decide +kernel
theorem dX11_later_5 : decode cX11_later 5 = .ok (.invokevirtual 126, 3) := by decide +kernel
theorem dX11_later_8 : decode cX11_later 8 = .ok (.ifCond .ne 5, 3) := by decide +kernel
theorem dX11_later_11 : decode cX11_later 11 = .ok (.iconst (-1), 1) := by decide +kernel
theorem dX11_later_12 : decode cX11_later 12 = .ok (.ireturn, 1) := by decide +kernel
theorem dX11_later_13 : decode cX11_later 13 = .ok (.iload_n 2, 1) := by decide +kernel
theorem dX11_later_14 : decode cX11_later 14 = .ok (.ifCond .lt 18, 3) := by decide +kernel
theorem dX11_later_17 : decode cX11_later 17 = .ok (.iload_n 2, 1) := by decide +kernel
theorem dX11_later_18 : decode cX11_later 18 = .ok (.bipush 20, 2) := by decide +kernel
theorem dX11_later_20 : decode cX11_later 20 = .ok (.if_icmp .gt 12, 3) := by decide +kernel
theorem dX11_later_23 : decode cX11_later 23 = .ok (.iload_n 3, 1) := by decide +kernel
theorem dX11_later_24 : decode cX11_later 24 = .ok (.ifCond .lt 8, 3) := by decide +kernel
theorem dX11_later_27 : decode cX11_later 27 = .ok (.iload_n 3, 1) := by decide +kernel
theorem dX11_later_28 : decode cX11_later 28 = .ok (.iconst 1, 1) := by decide +kernel
theorem dX11_later_29 : decode cX11_later 29 = .ok (.if_icmp .le 6, 3) := by decide +kernel
theorem dX11_later_32 : decode cX11_later 32 = .ok (.bipush (-2), 2) := by decide +kernel
theorem dX11_later_34 : decode cX11_later 34 = .ok (.ireturn, 1) := by decide +kernel
theorem dX11_later_35 : decode cX11_later 35 = .ok (.aload_n 0, 1) := by decide +kernel
theorem dX11_later_36 : decode cX11_later 36 = .ok (.getfield 62, 3) := by decide +kernel
theorem dX11_later_39 : decode cX11_later 39 = .ok (.iload_n 2, 1) := by decide +kernel
theorem dX11_later_40 : decode cX11_later 40 = .ok (.invokevirtual 212, 3) := by decide +kernel
theorem dX11_later_43 : decode cX11_later 43 = .ok (.aload_n 0, 1) := by decide +kernel
theorem dX11_later_44 : decode cX11_later 44 = .ok (.getfield 39, 3) := by decide +kernel
theorem dX11_later_47 : decode cX11_later 47 = .ok (.getfield 130, 3) := by decide +kernel
theorem dX11_later_50 : decode cX11_later 50 = .ok (.iload_n 1, 1) := by decide +kernel
theorem dX11_later_51 : decode cX11_later 51 = .ok (.aaload, 1) := by decide +kernel
theorem dX11_later_52 : decode cX11_later 52 = .ok (.astore 4, 2) := by decide +kernel
theorem dX11_later_54 : decode cX11_later 54 = .ok (.iload_n 3, 1) := by decide +kernel
theorem dX11_later_55 : decode cX11_later 55 = .ok (.ifCond .ne 11, 3) := by decide +kernel
theorem dX11_later_58 : decode cX11_later 58 = .ok (.aload 4, 2) := by decide +kernel
theorem dX11_later_60 : decode cX11_later 60 = .ok (.getfield 133, 3) := by decide +kernel
theorem dX11_later_63 : decode cX11_later 63 = .ok (.goto 8, 3) := by decide +kernel
theorem dX11_later_66 : decode cX11_later 66 = .ok (.aload 4, 2) := by decide +kernel
theorem dX11_later_68 : decode cX11_later 68 = .ok (.getfield 144, 3) := by decide +kernel
theorem dX11_later_71 : decode cX11_later 71 = .ok (.ireturn, 1) := by decide +kernel
theorem dX11_comes_0 : decode cX11_comes 0 = .ok (.aload_n 0, 1) := by decide +kernel
theorem dX11_comes_1 : decode cX11_comes 1 = .ok (.getfield 35, 3) := by decide +kernel
theorem dX11_comes_4 : decode cX11_comes 4 = .ok (.iload_n 1, 1) := by decide +kernel
theorem dX11_comes_5 : decode cX11_comes 5 = .ok (.invokevirtual 126, 3) := by decide +kernel
theorem dX11_comes_8 : decode cX11_comes 8 = .ok (.ifCond .ne 5, 3) := by decide +kernel
theorem dX11_comes_11 : decode cX11_comes 11 = .ok (.iconst (-1), 1) := by decide +kernel
theorem dX11_comes_12 : decode cX11_comes 12 = .ok (.ireturn, 1) := by decide +kernel
theorem dX11_comes_13 : decode cX11_comes 13 = .ok (.aload_n 0, 1) := by decide +kernel
theorem dX11_comes_14 : decode cX11_comes 14 = .ok (.getfield 62, 3) := by decide +kernel
theorem dX11_comes_17 : decode cX11_comes 17 = .ok (.iload_n 1, 1) := by decide +kernel
theorem dX11_comes_18 : decode cX11_comes 18 = .ok (.invokevirtual 216, 3) := by decide +kernel
theorem dX11_comes_21 : decode cX11_comes 21 = .ok (.ireturn, 1) := by decide +kernel
theorem dX11_best_0 : decode cX11_best 0 = .ok (.aload_n 0, 1) := by decide +kernel
theorem dX11_best_1 : decode cX11_best 1 = .ok (.getfield 35, 3) := by decide +kernel
theorem dX11_best_4 : decode cX11_best 4 = .ok (.iload_n 1, 1) := by decide +kernel
theorem dX11_best_5 : decode cX11_best 5 = .ok (.invokevirtual 126, 3) := by decide +kernel
theorem dX11_best_8 : decode cX11_best 8 = .ok (.ifCond .ne 5, 3) := by decide +kernel
theorem dX11_best_11 : decode cX11_best 11 = .ok (.iconst (-1), 1) := by decide +kernel
theorem dX11_best_12 : decode cX11_best 12 = .ok (.ireturn, 1) := by decide +kernel
theorem dX11_best_13 : decode cX11_best 13 = .ok (.aload_n 0, 1) := by decide +kernel
theorem dX11_best_14 : decode cX11_best 14 = .ok (.getfield 35, 3) := by decide +kernel
theorem dX11_best_17 : decode cX11_best 17 = .ok (.iload_n 1, 1) := by decide +kernel
theorem dX11_best_18 : decode cX11_best 18 = .ok (.iconst 0, 1) := by decide +kernel
theorem dX11_best_19 : decode cX11_best 19 = .ok (.invokevirtual 175, 3) := by decide +kernel
theorem dX11_best_22 : decode cX11_best 22 = .ok (.ifCond .ne 6, 3) := by decide +kernel
theorem dX11_best_25 : decode cX11_best 25 = .ok (.bipush (-3), 2) := by decide +kernel
theorem dX11_best_27 : decode cX11_best 27 = .ok (.ireturn, 1) := by decide +kernel
theorem dX11_best_28 : decode cX11_best 28 = .ok (.aload_n 0, 1) := by decide +kernel
theorem dX11_best_29 : decode cX11_best 29 = .ok (.getfield 62, 3) := by decide +kernel
theorem dX11_best_32 : decode cX11_best 32 = .ok (.iload_n 1, 1) := by decide +kernel
theorem dX11_best_33 : decode cX11_best 33 = .ok (.invokevirtual 219, 3) := by decide +kernel
theorem dX11_best_36 : decode cX11_best 36 = .ok (.ireturn, 1) := by decide +kernel
theorem dX11_most_0 : decode cX11_most 0 = .ok (.iload_n 1, 1) := by decide +kernel
theorem dX11_most_1 : decode cX11_most 1 = .ok (.ifCond .lt 8, 3) := by decide +kernel
theorem dX11_most_4 : decode cX11_most 4 = .ok (.iload_n 1, 1) := by decide +kernel
theorem dX11_most_5 : decode cX11_most 5 = .ok (.iconst 1, 1) := by decide +kernel
theorem dX11_most_6 : decode cX11_most 6 = .ok (.if_icmp .le 6, 3) := by decide +kernel
theorem dX11_most_9 : decode cX11_most 9 = .ok (.bipush (-2), 2) := by decide +kernel
theorem dX11_most_11 : decode cX11_most 11 = .ok (.ireturn, 1) := by decide +kernel
theorem dX11_most_12 : decode cX11_most 12 = .ok (.aload_n 0, 1) := by decide +kernel
theorem dX11_most_13 : decode cX11_most 13 = .ok (.getfield 62, 3) := by decide +kernel
theorem dX11_most_16 : decode cX11_most 16 = .ok (.bipush 30, 2) := by decide +kernel
theorem dX11_most_18 : decode cX11_most 18 = .ok (.invokevirtual 212, 3) := by decide +kernel
theorem dX11_most_21 : decode cX11_most 21 = .ok (.aload_n 0, 1) := by decide +kernel
theorem dX11_most_22 : decode cX11_most 22 = .ok (.getfield 71, 3) := by decide +kernel
theorem dX11_most_25 : decode cX11_most 25 = .ok (.invokevirtual 222, 3) := by decide +kernel
theorem dX11_most_28 : decode cX11_most 28 = .ok (.iload_n 1, 1) := by decide +kernel
theorem dX11_most_29 : decode cX11_most 29 = .ok (.ifCond .ne 13, 3) := by decide +kernel
theorem dX11_most_32 : decode cX11_most 32 = .ok (.aload_n 0, 1) := by decide +kernel
theorem dX11_most_33 : decode cX11_most 33 = .ok (.getfield 71, 3) := by decide +kernel
theorem dX11_most_36 : decode cX11_most 36 = .ok (.getfield 225, 3) := by decide +kernel
theorem dX11_most_39 : decode cX11_most 39 = .ok (.goto 10, 3) := by decide +kernel
theorem dX11_most_42 : decode cX11_most 42 = .ok (.aload_n 0, 1) := by decide +kernel
theorem dX11_most_43 : decode cX11_most 43 = .ok (.getfield 71, 3) := by decide +kernel
theorem dX11_most_46 : decode cX11_most 46 = .ok (.getfield 228, 3) := by decide +kernel
theorem dX11_most_49 : decode cX11_most 49 = .ok (.ireturn, 1) := by decide +kernel
theorem dX11_judge_0 : decode cX11_judge 0 = .ok (.iload_n 1, 1) := by decide +kernel
theorem dX11_judge_1 : decode cX11_judge 1 = .ok (.iconst 1, 1) := by decide +kernel
theorem dX11_judge_2 : decode cX11_judge 2 = .ok (.if_icmp .lt 24, 3) := by decide +kernel
theorem dX11_judge_5 : decode cX11_judge 5 = .ok (.iload_n 1, 1) := by decide +kernel
theorem dX11_judge_6 : decode cX11_judge 6 = .ok (.iconst 4, 1) := by decide +kernel
theorem dX11_judge_7 : decode cX11_judge 7 = .ok (.if_icmp .gt 19, 3) := by decide +kernel
theorem dX11_judge_10 : decode cX11_judge 10 = .ok (.lload_n 2, 1) := by decide +kernel
theorem dX11_judge_11 : decode cX11_judge 11 = .ok (.lconst 0, 1) := by decide +kernel
theorem dX11_judge_12 : decode cX11_judge 12 = .ok (.lcmp, 1) := by decide +kernel
theorem dX11_judge_13 : decode cX11_judge 13 = .ok (.ifCond .lt 13, 3) := by decide +kernel
theorem dX11_judge_16 : decode cX11_judge 16 = .ok (.lload_n 2, 1) := by decide +kernel
theorem dX11_judge_17 : decode cX11_judge 17 = .ok (.getstatic 231, 3) := by decide +kernel
theorem dX11_judge_20 : decode cX11_judge 20 = .ok (.iload_n 1, 1) := by decide +kernel
theorem dX11_judge_21 : decode cX11_judge 21 = .ok (.laload, 1) := by decide +kernel
theorem dX11_judge_22 : decode cX11_judge 22 = .ok (.lcmp, 1) := by decide +kernel
theorem dX11_judge_23 : decode cX11_judge 23 = .ok (.ifCond .lt 6, 3) := by decide +kernel
theorem dX11_judge_26 : decode cX11_judge 26 = .ok (.bipush (-2), 2) := by decide +kernel
theorem dX11_judge_28 : decode cX11_judge 28 = .ok (.ireturn, 1) := by decide +kernel
theorem dX11_judge_29 : decode cX11_judge 29 = .ok (.aload_n 0, 1) := by decide +kernel
theorem dX11_judge_30 : decode cX11_judge 30 = .ok (.getfield 62, 3) := by decide +kernel
theorem dX11_judge_33 : decode cX11_judge 33 = .ok (.iload_n 1, 1) := by decide +kernel
theorem dX11_judge_34 : decode cX11_judge 34 = .ok (.lload_n 2, 1) := by decide +kernel
theorem dX11_judge_35 : decode cX11_judge 35 = .ok (.invokevirtual 235, 3) := by decide +kernel
theorem dX11_judge_38 : decode cX11_judge 38 = .ok (.ireturn, 1) := by decide +kernel
theorem dX11_find_0 : decode cX11_find 0 = .ok (.iload_n 1, 1) := by decide +kernel
theorem dX11_find_1 : decode cX11_find 1 = .ok (.ifCond .lt 9, 3) := by decide +kernel
theorem dX11_find_4 : decode cX11_find 4 = .ok (.iload_n 1, 1) := by decide +kernel
theorem dX11_find_5 : decode cX11_find 5 = .ok (.bipush 20, 2) := by decide +kernel
theorem dX11_find_7 : decode cX11_find 7 = .ok (.if_icmp .lt 5, 3) := by decide +kernel
theorem dX11_find_10 : decode cX11_find 10 = .ok (.iconst (-1), 1) := by decide +kernel
theorem dX11_find_11 : decode cX11_find 11 = .ok (.ireturn, 1) := by decide +kernel
theorem dX11_find_12 : decode cX11_find 12 = .ok (.iload_n 2, 1) := by decide +kernel
theorem dX11_find_13 : decode cX11_find 13 = .ok (.ifCond .lt 9, 3) := by decide +kernel
theorem dX11_find_16 : decode cX11_find 16 = .ok (.iload_n 2, 1) := by decide +kernel
theorem dX11_find_17 : decode cX11_find 17 = .ok (.bipush 9, 2) := by decide +kernel
theorem dX11_find_19 : decode cX11_find 19 = .ok (.if_icmp .le 6, 3) := by decide +kernel
theorem dX11_find_22 : decode cX11_find 22 = .ok (.bipush (-2), 2) := by decide +kernel
theorem dX11_find_24 : decode cX11_find 24 = .ok (.ireturn, 1) := by decide +kernel
theorem dX11_find_25 : decode cX11_find 25 = .ok (.aload_n 0, 1) := by decide +kernel
theorem dX11_find_26 : decode cX11_find 26 = .ok (.getfield 78, 3) := by decide +kernel
theorem dX11_find_29 : decode cX11_find 29 = .ok (.getfield 239, 3) := by decide +kernel
theorem dX11_find_32 : decode cX11_find 32 = .ok (.bipush 6, 2) := by decide +kernel
theorem dX11_find_34 : decode cX11_find 34 = .ok (.if_icmp .lt 6, 3) := by decide +kernel
theorem dX11_find_37 : decode cX11_find 37 = .ok (.bipush (-4), 2) := by decide +kernel
theorem dX11_find_39 : decode cX11_find 39 = .ok (.ireturn, 1) := by decide +kernel
theorem dX11_find_40 : decode cX11_find 40 = .ok (.aload_n 0, 1) := by decide +kernel
theorem dX11_find_41 : decode cX11_find 41 = .ok (.getfield 78, 3) := by decide +kernel
theorem dX11_find_44 : decode cX11_find 44 = .ok (.iload_n 1, 1) := by decide +kernel
theorem dX11_find_45 : decode cX11_find 45 = .ok (.iload_n 2, 1) := by decide +kernel
theorem dX11_find_46 : decode cX11_find 46 = .ok (.invokevirtual 240, 3) := by decide +kernel
theorem dX11_find_49 : decode cX11_find 49 = .ok (.aload_n 0, 1) := by decide +kernel
theorem dX11_find_50 : decode cX11_find 50 = .ok (.getfield 78, 3) := by decide +kernel
theorem dX11_find_53 : decode cX11_find 53 = .ok (.getfield 239, 3) := by decide +kernel
theorem dX11_find_56 : decode cX11_find 56 = .ok (.ireturn, 1) := by decide +kernel
theorem dX11_lose_0 : decode cX11_lose 0 = .ok (.aload_n 0, 1) := by decide +kernel
theorem dX11_lose_1 : decode cX11_lose 1 = .ok (.getfield 78, 3) := by decide +kernel
theorem dX11_lose_4 : decode cX11_lose 4 = .ok (.getfield 239, 3) := by decide +kernel
theorem dX11_lose_7 : decode cX11_lose 7 = .ok (.istore_n 1, 1) := by decide +kernel
theorem dX11_lose_8 : decode cX11_lose 8 = .ok (.aload_n 0, 1) := by decide +kernel
theorem dX11_lose_9 : decode cX11_lose 9 = .ok (.getfield 78, 3) := by decide +kernel
theorem dX11_lose_12 : decode cX11_lose 12 = .ok (.iconst 0, 1) := by decide +kernel
theorem dX11_lose_13 : decode cX11_lose 13 = .ok (.putfield 239, 3) := by decide +kernel
theorem dX11_lose_16 : decode cX11_lose 16 = .ok (.iload_n 1, 1) := by decide +kernel
theorem dX11_lose_17 : decode cX11_lose 17 = .ok (.ireturn, 1) := by decide +kernel
theorem dX11_began_0 : decode cX11_began 0 = .ok (.iload_n 1, 1) := by decide +kernel
theorem dX11_began_1 : decode cX11_began 1 = .ok (.ifCond .lt 8, 3) := by decide +kernel
theorem dX11_began_4 : decode cX11_began 4 = .ok (.iload_n 1, 1) := by decide +kernel
theorem dX11_began_5 : decode cX11_began 5 = .ok (.iconst 3, 1) := by decide +kernel
theorem dX11_began_6 : decode cX11_began 6 = .ok (.if_icmp .le 6, 3) := by decide +kernel
theorem dX11_began_9 : decode cX11_began 9 = .ok (.bipush (-2), 2) := by decide +kernel
theorem dX11_began_11 : decode cX11_began 11 = .ok (.ireturn, 1) := by decide +kernel
theorem dX11_began_12 : decode cX11_began 12 = .ok (.aload_n 0, 1) := by decide +kernel
theorem dX11_began_13 : decode cX11_began 13 = .ok (.getfield 78, 3) := by decide +kernel
theorem dX11_began_16 : decode cX11_began 16 = .ok (.iload_n 1, 1) := by decide +kernel
theorem dX11_began_17 : decode cX11_began 17 = .ok (.invokevirtual 244, 3) := by decide +kernel
theorem dX11_began_20 : decode cX11_began 20 = .ok (.ireturn, 1) := by decide +kernel
theorem dX11_share_0 : decode cX11_share 0 = .ok (.aload_n 0, 1) := by decide +kernel
theorem dX11_share_1 : decode cX11_share 1 = .ok (.getfield 16, 3) := by decide +kernel
theorem dX11_share_4 : decode cX11_share 4 = .ok (.iload_n 1, 1) := by decide +kernel
theorem dX11_share_5 : decode cX11_share 5 = .ok (.invokevirtual 159, 3) := by decide +kernel
theorem dX11_share_8 : decode cX11_share 8 = .ok (.ifCond .ne 5, 3) := by decide +kernel
theorem dX11_share_11 : decode cX11_share 11 = .ok (.iconst (-1), 1) := by decide +kernel
theorem dX11_share_12 : decode cX11_share 12 = .ok (.ireturn, 1) := by decide +kernel
theorem dX11_share_13 : decode cX11_share 13 = .ok (.aload_n 0, 1) := by decide +kernel
theorem dX11_share_14 : decode cX11_share 14 = .ok (.getfield 85, 3) := by decide +kernel
theorem dX11_share_17 : decode cX11_share 17 = .ok (.iload_n 1, 1) := by decide +kernel
theorem dX11_share_18 : decode cX11_share 18 = .ok (.invokevirtual 247, 3) := by decide +kernel
theorem dX11_share_21 : decode cX11_share 21 = .ok (.istore_n 3, 1) := by decide +kernel
theorem dX11_share_22 : decode cX11_share 22 = .ok (.iload_n 3, 1) := by decide +kernel
theorem dX11_share_23 : decode cX11_share 23 = .ok (.getstatic 250, 3) := by decide +kernel
theorem dX11_share_26 : decode cX11_share 26 = .ok (.aload_n 0, 1) := by decide +kernel
theorem dX11_share_27 : decode cX11_share 27 = .ok (.getfield 16, 3) := by decide +kernel
theorem dX11_share_30 : decode cX11_share 30 = .ok (.getfield 123, 3) := by decide +kernel
theorem dX11_share_33 : decode cX11_share 33 = .ok (.iaload, 1) := by decide +kernel
theorem dX11_share_34 : decode cX11_share 34 = .ok (.iload_n 2, 1) := by decide +kernel
theorem dX11_share_35 : decode cX11_share 35 = .ok (.invokestatic 253, 3) := by decide +kernel
theorem dX11_share_38 : decode cX11_share 38 = .ok (.ireturn, 1) := by decide +kernel
theorem dX11_rests_0 : decode cX11_rests 0 = .ok (.aload_n 0, 1) := by decide +kernel
theorem dX11_rests_1 : decode cX11_rests 1 = .ok (.getfield 35, 3) := by decide +kernel
theorem dX11_rests_4 : decode cX11_rests 4 = .ok (.iload_n 1, 1) := by decide +kernel
theorem dX11_rests_5 : decode cX11_rests 5 = .ok (.invokevirtual 126, 3) := by decide +kernel
theorem dX11_rests_8 : decode cX11_rests 8 = .ok (.ifCond .eq 14, 3) := by decide +kernel
theorem dX11_rests_11 : decode cX11_rests 11 = .ok (.aload_n 0, 1) := by decide +kernel
theorem dX11_rests_12 : decode cX11_rests 12 = .ok (.getfield 35, 3) := by decide +kernel
theorem dX11_rests_15 : decode cX11_rests 15 = .ok (.iload_n 2, 1) := by decide +kernel
theorem dX11_rests_16 : decode cX11_rests 16 = .ok (.invokevirtual 126, 3) := by decide +kernel
theorem dX11_rests_19 : decode cX11_rests 19 = .ok (.ifCond .ne 5, 3) := by decide +kernel
theorem dX11_rests_22 : decode cX11_rests 22 = .ok (.iconst (-1), 1) := by decide +kernel
theorem dX11_rests_23 : decode cX11_rests 23 = .ok (.ireturn, 1) := by decide +kernel
theorem dX11_rests_24 : decode cX11_rests 24 = .ok (.iload_n 1, 1) := by decide +kernel
theorem dX11_rests_25 : decode cX11_rests 25 = .ok (.iload_n 2, 1) := by decide +kernel
theorem dX11_rests_26 : decode cX11_rests 26 = .ok (.if_icmp .eq 12, 3) := by decide +kernel
theorem dX11_rests_29 : decode cX11_rests 29 = .ok (.iload_n 3, 1) := by decide +kernel
theorem dX11_rests_30 : decode cX11_rests 30 = .ok (.ifCond .lt 8, 3) := by decide +kernel
theorem dX11_rests_33 : decode cX11_rests 33 = .ok (.iload_n 3, 1) := by decide +kernel
theorem dX11_rests_34 : decode cX11_rests 34 = .ok (.iconst 1, 1) := by decide +kernel
theorem dX11_rests_35 : decode cX11_rests 35 = .ok (.if_icmp .le 6, 3) := by decide +kernel
theorem dX11_rests_38 : decode cX11_rests 38 = .ok (.bipush (-2), 2) := by decide +kernel
theorem dX11_rests_40 : decode cX11_rests 40 = .ok (.ireturn, 1) := by decide +kernel
theorem dX11_rests_41 : decode cX11_rests 41 = .ok (.aload_n 0, 1) := by decide +kernel
theorem dX11_rests_42 : decode cX11_rests 42 = .ok (.getfield 35, 3) := by decide +kernel
theorem dX11_rests_45 : decode cX11_rests 45 = .ok (.iload_n 1, 1) := by decide +kernel
theorem dX11_rests_46 : decode cX11_rests 46 = .ok (.iconst 0, 1) := by decide +kernel
theorem dX11_rests_47 : decode cX11_rests 47 = .ok (.invokevirtual 175, 3) := by decide +kernel
theorem dX11_rests_50 : decode cX11_rests 50 = .ok (.ifCond .eq 15, 3) := by decide +kernel
theorem dX11_rests_53 : decode cX11_rests 53 = .ok (.aload_n 0, 1) := by decide +kernel
theorem dX11_rests_54 : decode cX11_rests 54 = .ok (.getfield 35, 3) := by decide +kernel
theorem dX11_rests_57 : decode cX11_rests 57 = .ok (.iload_n 2, 1) := by decide +kernel
theorem dX11_rests_58 : decode cX11_rests 58 = .ok (.iconst 0, 1) := by decide +kernel
theorem dX11_rests_59 : decode cX11_rests 59 = .ok (.invokevirtual 175, 3) := by decide +kernel
theorem dX11_rests_62 : decode cX11_rests 62 = .ok (.ifCond .ne 6, 3) := by decide +kernel
theorem dX11_rests_65 : decode cX11_rests 65 = .ok (.bipush (-3), 2) := by decide +kernel
theorem dX11_rests_67 : decode cX11_rests 67 = .ok (.ireturn, 1) := by decide +kernel
theorem dX11_rests_68 : decode cX11_rests 68 = .ok (.aload_n 0, 1) := by decide +kernel
theorem dX11_rests_69 : decode cX11_rests 69 = .ok (.getfield 92, 3) := by decide +kernel
theorem dX11_rests_72 : decode cX11_rests 72 = .ok (.iload_n 1, 1) := by decide +kernel
theorem dX11_rests_73 : decode cX11_rests 73 = .ok (.iload_n 2, 1) := by decide +kernel
theorem dX11_rests_74 : decode cX11_rests 74 = .ok (.invokevirtual 257, 3) := by decide +kernel
theorem dX11_rests_77 : decode cX11_rests 77 = .ok (.iload_n 3, 1) := by decide +kernel
theorem dX11_rests_78 : decode cX11_rests 78 = .ok (.ifCond .ne 13, 3) := by decide +kernel
theorem dX11_rests_81 : decode cX11_rests 81 = .ok (.aload_n 0, 1) := by decide +kernel
theorem dX11_rests_82 : decode cX11_rests 82 = .ok (.getfield 92, 3) := by decide +kernel
theorem dX11_rests_85 : decode cX11_rests 85 = .ok (.invokevirtual 260, 3) := by decide +kernel
theorem dX11_rests_88 : decode cX11_rests 88 = .ok (.goto 10, 3) := by decide +kernel
theorem dX11_rests_91 : decode cX11_rests 91 = .ok (.aload_n 0, 1) := by decide +kernel
theorem dX11_rests_92 : decode cX11_rests 92 = .ok (.getfield 92, 3) := by decide +kernel
theorem dX11_rests_95 : decode cX11_rests 95 = .ok (.invokevirtual 263, 3) := by decide +kernel
theorem dX11_rests_98 : decode cX11_rests 98 = .ok (.ireturn, 1) := by decide +kernel
theorem dX11_fails_0 : decode cX11_fails 0 = .ok (.aload_n 0, 1) := by decide +kernel
theorem dX11_fails_1 : decode cX11_fails 1 = .ok (.getfield 35, 3) := by decide +kernel
theorem dX11_fails_4 : decode cX11_fails 4 = .ok (.iload_n 1, 1) := by decide +kernel
theorem dX11_fails_5 : decode cX11_fails 5 = .ok (.invokevirtual 126, 3) := by decide +kernel
theorem dX11_fails_8 : decode cX11_fails 8 = .ok (.ifCond .eq 14, 3) := by decide +kernel
theorem dX11_fails_11 : decode cX11_fails 11 = .ok (.aload_n 0, 1) := by decide +kernel
theorem dX11_fails_12 : decode cX11_fails 12 = .ok (.getfield 16, 3) := by decide +kernel
theorem dX11_fails_15 : decode cX11_fails 15 = .ok (.iload_n 2, 1) := by decide +kernel
theorem dX11_fails_16 : decode cX11_fails 16 = .ok (.invokevirtual 159, 3) := by decide +kernel
theorem dX11_fails_19 : decode cX11_fails 19 = .ok (.ifCond .ne 5, 3) := by decide +kernel
theorem dX11_fails_22 : decode cX11_fails 22 = .ok (.iconst (-1), 1) := by decide +kernel
theorem dX11_fails_23 : decode cX11_fails 23 = .ok (.ireturn, 1) := by decide +kernel
theorem dX11_fails_24 : decode cX11_fails 24 = .ok (.iload_n 3, 1) := by decide +kernel
theorem dX11_fails_25 : decode cX11_fails 25 = .ok (.iconst 1, 1) := by decide +kernel
theorem dX11_fails_26 : decode cX11_fails 26 = .ok (.if_icmp .lt 21, 3) := by decide +kernel
theorem dX11_fails_29 : decode cX11_fails 29 = .ok (.iload_n 3, 1) := by decide +kernel
theorem dX11_fails_30 : decode cX11_fails 30 = .ok (.bipush 6, 2) := by decide +kernel
theorem dX11_fails_32 : decode cX11_fails 32 = .ok (.if_icmp .gt 15, 3) := by decide +kernel
theorem dX11_fails_35 : decode cX11_fails 35 = .ok (.iload 4, 2) := by decide +kernel
theorem dX11_fails_37 : decode cX11_fails 37 = .ok (.ifCond .lt 10, 3) := by decide +kernel
theorem dX11_fails_40 : decode cX11_fails 40 = .ok (.iload 4, 2) := by decide +kernel
theorem dX11_fails_42 : decode cX11_fails 42 = .ok (.bipush 10, 2) := by decide +kernel
theorem dX11_fails_44 : decode cX11_fails 44 = .ok (.if_icmp .le 6, 3) := by decide +kernel
theorem dX11_fails_47 : decode cX11_fails 47 = .ok (.bipush (-2), 2) := by decide +kernel
theorem dX11_fails_49 : decode cX11_fails 49 = .ok (.ireturn, 1) := by decide +kernel
theorem dX11_fails_50 : decode cX11_fails 50 = .ok (.aload_n 0, 1) := by decide +kernel
theorem dX11_fails_51 : decode cX11_fails 51 = .ok (.getfield 99, 3) := by decide +kernel
theorem dX11_fails_54 : decode cX11_fails 54 = .ok (.iload_n 1, 1) := by decide +kernel
theorem dX11_fails_55 : decode cX11_fails 55 = .ok (.iload_n 2, 1) := by decide +kernel
theorem dX11_fails_56 : decode cX11_fails 56 = .ok (.iload_n 3, 1) := by decide +kernel
theorem dX11_fails_57 : decode cX11_fails 57 = .ok (.iload 4, 2) := by decide +kernel
theorem dX11_fails_59 : decode cX11_fails 59 = .ok (.invokevirtual 266, 3) := by decide +kernel
theorem dX11_fails_62 : decode cX11_fails 62 = .ok (.istore 6, 2) := by decide +kernel
theorem dX11_fails_64 : decode cX11_fails 64 = .ok (.iload 6, 2) := by decide +kernel
theorem dX11_fails_66 : decode cX11_fails 66 = .ok (.bipush 10, 2) := by decide +kernel
theorem dX11_fails_68 : decode cX11_fails 68 = .ok (.iload_n 3, 1) := by decide +kernel
theorem dX11_fails_69 : decode cX11_fails 69 = .ok (.invokestatic 270, 3) := by decide +kernel
theorem dX11_fails_72 : decode cX11_fails 72 = .ok (.iload 5, 2) := by decide +kernel
theorem dX11_fails_74 : decode cX11_fails 74 = .ok (.invokestatic 253, 3) := by decide +kernel
theorem dX11_fails_77 : decode cX11_fails 77 = .ok (.ireturn, 1) := by decide +kernel
theorem dX11_seed_0 : decode cX11_seed 0 = .ok (.aload_n 0, 1) := by decide +kernel
theorem dX11_seed_1 : decode cX11_seed 1 = .ok (.getfield 99, 3) := by decide +kernel
theorem dX11_seed_4 : decode cX11_seed 4 = .ok (.getfield 274, 3) := by decide +kernel
theorem dX11_seed_7 : decode cX11_seed 7 = .ok (.lstore_n 3, 1) := by decide +kernel
theorem dX11_seed_8 : decode cX11_seed 8 = .ok (.aload_n 0, 1) := by decide +kernel
theorem dX11_seed_9 : decode cX11_seed 9 = .ok (.getfield 99, 3) := by decide +kernel
theorem dX11_seed_12 : decode cX11_seed 12 = .ok (.lload_n 1, 1) := by decide +kernel
theorem dX11_seed_13 : decode cX11_seed 13 = .ok (.putfield 274, 3) := by decide +kernel
theorem dX11_seed_16 : decode cX11_seed 16 = .ok (.lload_n 3, 1) := by decide +kernel
theorem dX11_seed_17 : decode cX11_seed 17 = .ok (.lreturn, 1) := by decide +kernel
theorem dX11_years_0 : decode cX11_years 0 = .ok (.iload_n 1, 1) := by decide +kernel
theorem dX11_years_1 : decode cX11_years 1 = .ok (.iconst 1, 1) := by decide +kernel
theorem dX11_years_2 : decode cX11_years 2 = .ok (.if_icmp .lt 9, 3) := by decide +kernel
theorem dX11_years_5 : decode cX11_years 5 = .ok (.iload_n 1, 1) := by decide +kernel
theorem dX11_years_6 : decode cX11_years 6 = .ok (.bipush 30, 2) := by decide +kernel
theorem dX11_years_8 : decode cX11_years 8 = .ok (.if_icmp .le 6, 3) := by decide +kernel
theorem dX11_years_11 : decode cX11_years 11 = .ok (.bipush (-2), 2) := by decide +kernel
theorem dX11_years_13 : decode cX11_years 13 = .ok (.ireturn, 1) := by decide +kernel
theorem dX11_years_14 : decode cX11_years 14 = .ok (.aload_n 0, 1) := by decide +kernel
theorem dX11_years_15 : decode cX11_years 15 = .ok (.getfield 99, 3) := by decide +kernel
theorem dX11_years_18 : decode cX11_years 18 = .ok (.iload_n 1, 1) := by decide +kernel
theorem dX11_years_19 : decode cX11_years 19 = .ok (.invokevirtual 278, 3) := by decide +kernel
theorem dX11_years_22 : decode cX11_years 22 = .ok (.ireturn, 1) := by decide +kernel
theorem dX11_keep_0 : decode cX11_keep 0 = .ok (.iload_n 1, 1) := by decide +kernel
theorem dX11_keep_1 : decode cX11_keep 1 = .ok (.ifCond .lt 8, 3) := by decide +kernel
theorem dX11_keep_4 : decode cX11_keep 4 = .ok (.iload_n 1, 1) := by decide +kernel
theorem dX11_keep_5 : decode cX11_keep 5 = .ok (.iconst 2, 1) := by decide +kernel
theorem dX11_keep_6 : decode cX11_keep 6 = .ok (.if_icmp .lt 5, 3) := by decide +kernel
theorem dX11_keep_9 : decode cX11_keep 9 = .ok (.iconst (-1), 1) := by decide +kernel
theorem dX11_keep_10 : decode cX11_keep 10 = .ok (.ireturn, 1) := by decide +kernel
theorem dX11_keep_11 : decode cX11_keep 11 = .ok (.aload_n 0, 1) := by decide +kernel
theorem dX11_keep_12 : decode cX11_keep 12 = .ok (.getfield 49, 3) := by decide +kernel
theorem dX11_keep_15 : decode cX11_keep 15 = .ok (.iload_n 1, 1) := by decide +kernel
theorem dX11_keep_16 : decode cX11_keep 16 = .ok (.aaload, 1) := by decide +kernel
theorem dX11_keep_17 : decode cX11_keep 17 = .ok (.aload_n 0, 1) := by decide +kernel
theorem dX11_keep_18 : decode cX11_keep 18 = .ok (.getfield 35, 3) := by decide +kernel
theorem dX11_keep_21 : decode cX11_keep 21 = .ok (.invokevirtual 281, 3) := by decide +kernel
theorem dX11_keep_24 : decode cX11_keep 24 = .ok (.aload_n 0, 1) := by decide +kernel
theorem dX11_keep_25 : decode cX11_keep 25 = .ok (.getfield 53, 3) := by decide +kernel
theorem dX11_keep_28 : decode cX11_keep 28 = .ok (.iload_n 1, 1) := by decide +kernel
theorem dX11_keep_29 : decode cX11_keep 29 = .ok (.iconst 1, 1) := by decide +kernel
theorem dX11_keep_30 : decode cX11_keep 30 = .ok (.bastore, 1) := by decide +kernel
theorem dX11_keep_31 : decode cX11_keep 31 = .ok (.aload_n 0, 1) := by decide +kernel
theorem dX11_keep_32 : decode cX11_keep 32 = .ok (.getfield 35, 3) := by decide +kernel
theorem dX11_keep_35 : decode cX11_keep 35 = .ok (.getfield 284, 3) := by decide +kernel
theorem dX11_keep_38 : decode cX11_keep 38 = .ok (.ireturn, 1) := by decide +kernel
theorem dX11_again_0 : decode cX11_again 0 = .ok (.iload_n 1, 1) := by decide +kernel
theorem dX11_again_1 : decode cX11_again 1 = .ok (.ifCond .lt 8, 3) := by decide +kernel
theorem dX11_again_4 : decode cX11_again 4 = .ok (.iload_n 1, 1) := by decide +kernel
theorem dX11_again_5 : decode cX11_again 5 = .ok (.iconst 2, 1) := by decide +kernel
theorem dX11_again_6 : decode cX11_again 6 = .ok (.if_icmp .lt 5, 3) := by decide +kernel
theorem dX11_again_9 : decode cX11_again 9 = .ok (.iconst (-1), 1) := by decide +kernel
theorem dX11_again_10 : decode cX11_again 10 = .ok (.ireturn, 1) := by decide +kernel
theorem dX11_again_11 : decode cX11_again 11 = .ok (.aload_n 0, 1) := by decide +kernel
theorem dX11_again_12 : decode cX11_again 12 = .ok (.getfield 53, 3) := by decide +kernel
theorem dX11_again_15 : decode cX11_again 15 = .ok (.iload_n 1, 1) := by decide +kernel
theorem dX11_again_16 : decode cX11_again 16 = .ok (.baload, 1) := by decide +kernel
theorem dX11_again_17 : decode cX11_again 17 = .ok (.ifCond .ne 6, 3) := by decide +kernel
theorem dX11_again_20 : decode cX11_again 20 = .ok (.bipush (-3), 2) := by decide +kernel
theorem dX11_again_22 : decode cX11_again 22 = .ok (.ireturn, 1) := by decide +kernel
theorem dX11_again_23 : decode cX11_again 23 = .ok (.aload_n 0, 1) := by decide +kernel
theorem dX11_again_24 : decode cX11_again 24 = .ok (.getfield 35, 3) := by decide +kernel
theorem dX11_again_27 : decode cX11_again 27 = .ok (.aload_n 0, 1) := by decide +kernel
theorem dX11_again_28 : decode cX11_again 28 = .ok (.getfield 49, 3) := by decide +kernel
theorem dX11_again_31 : decode cX11_again 31 = .ok (.iload_n 1, 1) := by decide +kernel
theorem dX11_again_32 : decode cX11_again 32 = .ok (.aaload, 1) := by decide +kernel
theorem dX11_again_33 : decode cX11_again 33 = .ok (.invokevirtual 281, 3) := by decide +kernel
theorem dX11_again_36 : decode cX11_again 36 = .ok (.aload_n 0, 1) := by decide +kernel
theorem dX11_again_37 : decode cX11_again 37 = .ok (.getfield 45, 3) := by decide +kernel
theorem dX11_again_40 : decode cX11_again 40 = .ok (.invokevirtual 114, 3) := by decide +kernel
theorem dX11_again_43 : decode cX11_again 43 = .ok (.aload_n 0, 1) := by decide +kernel
theorem dX11_again_44 : decode cX11_again 44 = .ok (.getfield 35, 3) := by decide +kernel
theorem dX11_again_47 : decode cX11_again 47 = .ok (.getfield 284, 3) := by decide +kernel
theorem dX11_again_50 : decode cX11_again 50 = .ok (.ireturn, 1) := by decide +kernel
theorem dX11_count_0 : decode cX11_count 0 = .ok (.iload_n 1, 1) := by decide +kernel
theorem dX11_count_1 : decode cX11_count 1 = .ok (.tableswitch 191 0 13 #[71, 76, 84, 92, 100, 108, 123, 132, 141, 150, 159, 167, 175, 183], 71) := by decide +kernel
theorem dX11_count_72 : decode cX11_count 72 = .ok (.aload_n 0, 1) := by decide +kernel
theorem dX11_count_73 : decode cX11_count 73 = .ok (.getfield 103, 3) := by decide +kernel
theorem dX11_count_76 : decode cX11_count 76 = .ok (.ireturn, 1) := by decide +kernel
theorem dX11_count_77 : decode cX11_count 77 = .ok (.aload_n 0, 1) := by decide +kernel
theorem dX11_count_78 : decode cX11_count 78 = .ok (.getfield 16, 3) := by decide +kernel
theorem dX11_count_81 : decode cX11_count 81 = .ok (.getfield 117, 3) := by decide +kernel
theorem dX11_count_84 : decode cX11_count 84 = .ok (.ireturn, 1) := by decide +kernel
theorem dX11_count_85 : decode cX11_count 85 = .ok (.aload_n 0, 1) := by decide +kernel
theorem dX11_count_86 : decode cX11_count 86 = .ok (.getfield 16, 3) := by decide +kernel
theorem dX11_count_89 : decode cX11_count 89 = .ok (.getfield 120, 3) := by decide +kernel
theorem dX11_count_92 : decode cX11_count 92 = .ok (.ireturn, 1) := by decide +kernel
theorem dX11_count_93 : decode cX11_count 93 = .ok (.aload_n 0, 1) := by decide +kernel
theorem dX11_count_94 : decode cX11_count 94 = .ok (.getfield 16, 3) := by decide +kernel
theorem dX11_count_97 : decode cX11_count 97 = .ok (.getfield 123, 3) := by decide +kernel
theorem dX11_count_100 : decode cX11_count 100 = .ok (.ireturn, 1) := by decide +kernel
theorem dX11_count_101 : decode cX11_count 101 = .ok (.aload_n 0, 1) := by decide +kernel
theorem dX11_count_102 : decode cX11_count 102 = .ok (.getfield 35, 3) := by decide +kernel
theorem dX11_count_105 : decode cX11_count 105 = .ok (.getfield 284, 3) := by decide +kernel
theorem dX11_count_108 : decode cX11_count 108 = .ok (.ireturn, 1) := by decide +kernel
theorem dX11_count_109 : decode cX11_count 109 = .ok (.aload_n 0, 1) := by decide +kernel
theorem dX11_count_110 : decode cX11_count 110 = .ok (.getfield 16, 3) := by decide +kernel
theorem dX11_count_113 : decode cX11_count 113 = .ok (.aload_n 0, 1) := by decide +kernel
theorem dX11_count_114 : decode cX11_count 114 = .ok (.getfield 35, 3) := by decide +kernel
theorem dX11_count_117 : decode cX11_count 117 = .ok (.getfield 284, 3) := by decide +kernel
theorem dX11_count_120 : decode cX11_count 120 = .ok (.invokevirtual 287, 3) := by decide +kernel
theorem dX11_count_123 : decode cX11_count 123 = .ok (.ireturn, 1) := by decide +kernel
theorem dX11_count_124 : decode cX11_count 124 = .ok (.aload_n 0, 1) := by decide +kernel
theorem dX11_count_125 : decode cX11_count 125 = .ok (.getfield 35, 3) := by decide +kernel
theorem dX11_count_128 : decode cX11_count 128 = .ok (.iconst 0, 1) := by decide +kernel
theorem dX11_count_129 : decode cX11_count 129 = .ok (.invokevirtual 185, 3) := by decide +kernel
theorem dX11_count_132 : decode cX11_count 132 = .ok (.ireturn, 1) := by decide +kernel
theorem dX11_count_133 : decode cX11_count 133 = .ok (.aload_n 0, 1) := by decide +kernel
theorem dX11_count_134 : decode cX11_count 134 = .ok (.getfield 35, 3) := by decide +kernel
theorem dX11_count_137 : decode cX11_count 137 = .ok (.iconst 1, 1) := by decide +kernel
theorem dX11_count_138 : decode cX11_count 138 = .ok (.invokevirtual 185, 3) := by decide +kernel
theorem dX11_count_141 : decode cX11_count 141 = .ok (.ireturn, 1) := by decide +kernel
theorem dX11_count_142 : decode cX11_count 142 = .ok (.aload_n 0, 1) := by decide +kernel
theorem dX11_count_143 : decode cX11_count 143 = .ok (.getfield 35, 3) := by decide +kernel
theorem dX11_count_146 : decode cX11_count 146 = .ok (.iconst 2, 1) := by decide +kernel
theorem dX11_count_147 : decode cX11_count 147 = .ok (.invokevirtual 185, 3) := by decide +kernel
theorem dX11_count_150 : decode cX11_count 150 = .ok (.ireturn, 1) := by decide +kernel
theorem dX11_count_151 : decode cX11_count 151 = .ok (.aload_n 0, 1) := by decide +kernel
theorem dX11_count_152 : decode cX11_count 152 = .ok (.getfield 35, 3) := by decide +kernel
theorem dX11_count_155 : decode cX11_count 155 = .ok (.iconst 3, 1) := by decide +kernel
theorem dX11_count_156 : decode cX11_count 156 = .ok (.invokevirtual 185, 3) := by decide +kernel
theorem dX11_count_159 : decode cX11_count 159 = .ok (.ireturn, 1) := by decide +kernel
theorem dX11_count_160 : decode cX11_count 160 = .ok (.aload_n 0, 1) := by decide +kernel
theorem dX11_count_161 : decode cX11_count 161 = .ok (.getfield 35, 3) := by decide +kernel
theorem dX11_count_164 : decode cX11_count 164 = .ok (.invokevirtual 290, 3) := by decide +kernel
theorem dX11_count_167 : decode cX11_count 167 = .ok (.ireturn, 1) := by decide +kernel
theorem dX11_count_168 : decode cX11_count 168 = .ok (.aload_n 0, 1) := by decide +kernel
theorem dX11_count_169 : decode cX11_count 169 = .ok (.getfield 35, 3) := by decide +kernel
theorem dX11_count_172 : decode cX11_count 172 = .ok (.invokevirtual 203, 3) := by decide +kernel
theorem dX11_count_175 : decode cX11_count 175 = .ok (.ireturn, 1) := by decide +kernel
theorem dX11_count_176 : decode cX11_count 176 = .ok (.aload_n 0, 1) := by decide +kernel
theorem dX11_count_177 : decode cX11_count 177 = .ok (.getfield 45, 3) := by decide +kernel
theorem dX11_count_180 : decode cX11_count 180 = .ok (.getfield 206, 3) := by decide +kernel
theorem dX11_count_183 : decode cX11_count 183 = .ok (.ireturn, 1) := by decide +kernel
theorem dX11_count_184 : decode cX11_count 184 = .ok (.aload_n 0, 1) := by decide +kernel
theorem dX11_count_185 : decode cX11_count 185 = .ok (.getfield 78, 3) := by decide +kernel
theorem dX11_count_188 : decode cX11_count 188 = .ok (.getfield 239, 3) := by decide +kernel
theorem dX11_count_191 : decode cX11_count 191 = .ok (.ireturn, 1) := by decide +kernel
theorem dX11_count_192 : decode cX11_count 192 = .ok (.bipush (-2), 2) := by decide +kernel
theorem dX11_count_194 : decode cX11_count 194 = .ok (.ireturn, 1) := by decide +kernel
theorem dX11_power_0 : decode cX11_power 0 = .ok (.iconst 1, 1) := by decide +kernel
theorem dX11_power_1 : decode cX11_power 1 = .ok (.istore_n 2, 1) := by decide +kernel
theorem dX11_power_2 : decode cX11_power 2 = .ok (.iconst 0, 1) := by decide +kernel
theorem dX11_power_3 : decode cX11_power 3 = .ok (.istore_n 3, 1) := by decide +kernel
theorem dX11_power_4 : decode cX11_power 4 = .ok (.iload_n 3, 1) := by decide +kernel
theorem dX11_power_5 : decode cX11_power 5 = .ok (.iload_n 1, 1) := by decide +kernel
theorem dX11_power_6 : decode cX11_power 6 = .ok (.if_icmp .ge 13, 3) := by decide +kernel
theorem dX11_power_9 : decode cX11_power 9 = .ok (.iload_n 2, 1) := by decide +kernel
theorem dX11_power_10 : decode cX11_power 10 = .ok (.iload_n 0, 1) := by decide +kernel
theorem dX11_power_11 : decode cX11_power 11 = .ok (.imul, 1) := by decide +kernel
theorem dX11_power_12 : decode cX11_power 12 = .ok (.istore_n 2, 1) := by decide +kernel
theorem dX11_power_13 : decode cX11_power 13 = .ok (.iinc 3 1, 3) := by decide +kernel
theorem dX11_power_16 : decode cX11_power 16 = .ok (.goto (-12), 3) := by decide +kernel
theorem dX11_power_19 : decode cX11_power 19 = .ok (.iload_n 2, 1) := by decide +kernel
theorem dX11_power_20 : decode cX11_power 20 = .ok (.ireturn, 1) := by decide +kernel
theorem dX11_inLeastTerms_0 : decode cX11_inLeastTerms 0 = .ok (.iload_n 0, 1) := by decide +kernel
theorem dX11_inLeastTerms_1 : decode cX11_inLeastTerms 1 = .ok (.invokestatic 293, 3) := by decide +kernel
theorem dX11_inLeastTerms_4 : decode cX11_inLeastTerms 4 = .ok (.iload_n 1, 1) := by decide +kernel
theorem dX11_inLeastTerms_5 : decode cX11_inLeastTerms 5 = .ok (.invokestatic 298, 3) := by decide +kernel
theorem dX11_inLeastTerms_8 : decode cX11_inLeastTerms 8 = .ok (.istore_n 3, 1) := by decide +kernel
theorem dX11_inLeastTerms_9 : decode cX11_inLeastTerms 9 = .ok (.iload_n 3, 1) := by decide +kernel
theorem dX11_inLeastTerms_10 : decode cX11_inLeastTerms 10 = .ok (.iconst 1, 1) := by decide +kernel
theorem dX11_inLeastTerms_11 : decode cX11_inLeastTerms 11 = .ok (.if_icmp .ge 13, 3) := by decide +kernel
theorem dX11_inLeastTerms_14 : decode cX11_inLeastTerms 14 = .ok (.iload_n 2, 1) := by decide +kernel
theorem dX11_inLeastTerms_15 : decode cX11_inLeastTerms 15 = .ok (.ifCond .eq 7, 3) := by decide +kernel
theorem dX11_inLeastTerms_18 : decode cX11_inLeastTerms 18 = .ok (.iload_n 0, 1) := by decide +kernel
theorem dX11_inLeastTerms_19 : decode cX11_inLeastTerms 19 = .ok (.goto 4, 3) := by decide +kernel
theorem dX11_inLeastTerms_22 : decode cX11_inLeastTerms 22 = .ok (.iload_n 1, 1) := by decide +kernel
theorem dX11_inLeastTerms_23 : decode cX11_inLeastTerms 23 = .ok (.ireturn, 1) := by decide +kernel
theorem dX11_inLeastTerms_24 : decode cX11_inLeastTerms 24 = .ok (.iload_n 2, 1) := by decide +kernel
theorem dX11_inLeastTerms_25 : decode cX11_inLeastTerms 25 = .ok (.ifCond .eq 9, 3) := by decide +kernel
theorem dX11_inLeastTerms_28 : decode cX11_inLeastTerms 28 = .ok (.iload_n 0, 1) := by decide +kernel
theorem dX11_inLeastTerms_29 : decode cX11_inLeastTerms 29 = .ok (.iload_n 3, 1) := by decide +kernel
theorem dX11_inLeastTerms_30 : decode cX11_inLeastTerms 30 = .ok (.idiv, 1) := by decide +kernel
theorem dX11_inLeastTerms_31 : decode cX11_inLeastTerms 31 = .ok (.goto 6, 3) := by decide +kernel
theorem dX11_inLeastTerms_34 : decode cX11_inLeastTerms 34 = .ok (.iload_n 1, 1) := by decide +kernel
theorem dX11_inLeastTerms_35 : decode cX11_inLeastTerms 35 = .ok (.iload_n 3, 1) := by decide +kernel
theorem dX11_inLeastTerms_36 : decode cX11_inLeastTerms 36 = .ok (.idiv, 1) := by decide +kernel
theorem dX11_inLeastTerms_37 : decode cX11_inLeastTerms 37 = .ok (.ireturn, 1) := by decide +kernel
theorem dX11_greatestCommon_0 : decode cX11_greatestCommon 0 = .ok (.iload_n 0, 1) := by decide +kernel
theorem dX11_greatestCommon_1 : decode cX11_greatestCommon 1 = .ok (.istore_n 2, 1) := by decide +kernel
theorem dX11_greatestCommon_2 : decode cX11_greatestCommon 2 = .ok (.iload_n 1, 1) := by decide +kernel
theorem dX11_greatestCommon_3 : decode cX11_greatestCommon 3 = .ok (.istore_n 3, 1) := by decide +kernel
theorem dX11_greatestCommon_4 : decode cX11_greatestCommon 4 = .ok (.iconst 0, 1) := by decide +kernel
theorem dX11_greatestCommon_5 : decode cX11_greatestCommon 5 = .ok (.istore 4, 2) := by decide +kernel
theorem dX11_greatestCommon_7 : decode cX11_greatestCommon 7 = .ok (.iload 4, 2) := by decide +kernel
theorem dX11_greatestCommon_9 : decode cX11_greatestCommon 9 = .ok (.bipush 64, 2) := by decide +kernel
theorem dX11_greatestCommon_11 : decode cX11_greatestCommon 11 = .ok (.if_icmp .ge 23, 3) := by decide +kernel
theorem dX11_greatestCommon_14 : decode cX11_greatestCommon 14 = .ok (.iload_n 3, 1) := by decide +kernel
theorem dX11_greatestCommon_15 : decode cX11_greatestCommon 15 = .ok (.ifCond .eq 19, 3) := by decide +kernel
theorem dX11_greatestCommon_18 : decode cX11_greatestCommon 18 = .ok (.iload_n 2, 1) := by decide +kernel
theorem dX11_greatestCommon_19 : decode cX11_greatestCommon 19 = .ok (.iload_n 3, 1) := by decide +kernel
theorem dX11_greatestCommon_20 : decode cX11_greatestCommon 20 = .ok (.irem, 1) := by decide +kernel
theorem dX11_greatestCommon_21 : decode cX11_greatestCommon 21 = .ok (.istore 5, 2) := by decide +kernel
theorem dX11_greatestCommon_23 : decode cX11_greatestCommon 23 = .ok (.iload_n 3, 1) := by decide +kernel
theorem dX11_greatestCommon_24 : decode cX11_greatestCommon 24 = .ok (.istore_n 2, 1) := by decide +kernel
theorem dX11_greatestCommon_25 : decode cX11_greatestCommon 25 = .ok (.iload 5, 2) := by decide +kernel
theorem dX11_greatestCommon_27 : decode cX11_greatestCommon 27 = .ok (.istore_n 3, 1) := by decide +kernel
theorem dX11_greatestCommon_28 : decode cX11_greatestCommon 28 = .ok (.iinc 4 1, 3) := by decide +kernel
theorem dX11_greatestCommon_31 : decode cX11_greatestCommon 31 = .ok (.goto (-24), 3) := by decide +kernel
theorem dX11_greatestCommon_34 : decode cX11_greatestCommon 34 = .ok (.iload_n 2, 1) := by decide +kernel
theorem dX11_greatestCommon_35 : decode cX11_greatestCommon 35 = .ok (.ireturn, 1) := by decide +kernel
theorem dX12_init_0 : decode cX12_init 0 = .ok (.aload_n 0, 1) := by decide +kernel
theorem dX12_init_1 : decode cX12_init 1 = .ok (.invokespecial 1, 3) := by decide +kernel
theorem dX12_init_4 : decode cX12_init 4 = .ok (.aload_n 0, 1) := by decide +kernel
theorem dX12_init_5 : decode cX12_init 5 = .ok (.iconst 4, 1) := by decide +kernel
theorem dX12_init_6 : decode cX12_init 6 = .ok (.newarray .int, 2) := by decide +kernel
theorem dX12_init_8 : decode cX12_init 8 = .ok (.putfield 7, 3) := by decide +kernel
theorem dX12_init_11 : decode cX12_init 11 = .ok (.aload_n 0, 1) := by decide +kernel
theorem dX12_init_12 : decode cX12_init 12 = .ok (.iconst 5, 1) := by decide +kernel
theorem dX12_init_13 : decode cX12_init 13 = .ok (.newarray .int, 2) := by decide +kernel
theorem dX12_init_15 : decode cX12_init 15 = .ok (.putfield 13, 3) := by decide +kernel
theorem dX12_init_18 : decode cX12_init 18 = .ok (.aload_n 0, 1) := by decide +kernel
theorem dX12_init_19 : decode cX12_init 19 = .ok (.iconst 5, 1) := by decide +kernel
theorem dX12_init_20 : decode cX12_init 20 = .ok (.newarray .int, 2) := by decide +kernel
theorem dX12_init_22 : decode cX12_init 22 = .ok (.putfield 16, 3) := by decide +kernel
theorem dX12_init_25 : decode cX12_init 25 = .ok (.aload_n 0, 1) := by decide +kernel
theorem dX12_init_26 : decode cX12_init 26 = .ok (.iconst 4, 1) := by decide +kernel
theorem dX12_init_27 : decode cX12_init 27 = .ok (.newarray .int, 2) := by decide +kernel
theorem dX12_init_29 : decode cX12_init 29 = .ok (.putfield 19, 3) := by decide +kernel
theorem dX12_init_32 : decode cX12_init 32 = .ok (.aload_n 0, 1) := by decide +kernel
theorem dX12_init_33 : decode cX12_init 33 = .ok (.iconst 4, 1) := by decide +kernel
theorem dX12_init_34 : decode cX12_init 34 = .ok (.newarray .int, 2) := by decide +kernel
theorem dX12_init_36 : decode cX12_init 36 = .ok (.putfield 22, 3) := by decide +kernel
theorem dX12_init_39 : decode cX12_init 39 = .ok (.aload_n 0, 1) := by decide +kernel
theorem dX12_init_40 : decode cX12_init 40 = .ok (.iconst 4, 1) := by decide +kernel
theorem dX12_init_41 : decode cX12_init 41 = .ok (.newarray .int, 2) := by decide +kernel
theorem dX12_init_43 : decode cX12_init 43 = .ok (.putfield 25, 3) := by decide +kernel
theorem dX12_init_46 : decode cX12_init 46 = .ok (.aload_n 0, 1) := by decide +kernel
theorem dX12_init_47 : decode cX12_init 47 = .ok (.bipush 62, 2) := by decide +kernel
theorem dX12_init_49 : decode cX12_init 49 = .ok (.newarray .int, 2) := by decide +kernel
theorem dX12_init_51 : decode cX12_init 51 = .ok (.putfield 28, 3) := by decide +kernel
theorem dX12_init_54 : decode cX12_init 54 = .ok (.aload_n 0, 1) := by decide +kernel
theorem dX12_init_55 : decode cX12_init 55 = .ok (.iconst 4, 1) := by decide +kernel
theorem dX12_init_56 : decode cX12_init 56 = .ok (.newarray .int, 2) := by decide +kernel
theorem dX12_init_58 : decode cX12_init 58 = .ok (.putfield 31, 3) := by decide +kernel
theorem dX12_init_61 : decode cX12_init 61 = .ok (.aload_n 0, 1) := by decide +kernel
theorem dX12_init_62 : decode cX12_init 62 = .ok (.bipush 15, 2) := by decide +kernel
theorem dX12_init_64 : decode cX12_init 64 = .ok (.newarray .int, 2) := by decide +kernel
theorem dX12_init_66 : decode cX12_init 66 = .ok (.putfield 34, 3) := by decide +kernel
theorem dX12_init_69 : decode cX12_init 69 = .ok (.aload_n 0, 1) := by decide +kernel
theorem dX12_init_70 : decode cX12_init 70 = .ok (.bipush 12, 2) := by decide +kernel
theorem dX12_init_72 : decode cX12_init 72 = .ok (.newarray .int, 2) := by decide +kernel
theorem dX12_init_74 : decode cX12_init 74 = .ok (.putfield 37, 3) := by decide +kernel
theorem dX12_init_77 : decode cX12_init 77 = .ok (.aload_n 0, 1) := by decide +kernel
theorem dX12_init_78 : decode cX12_init 78 = .ok (.bipush 48, 2) := by decide +kernel
theorem dX12_init_80 : decode cX12_init 80 = .ok (.newarray .int, 2) := by decide +kernel
theorem dX12_init_82 : decode cX12_init 82 = .ok (.putfield 40, 3) := by decide +kernel
theorem dX12_init_85 : decode cX12_init 85 = .ok (.aload_n 0, 1) := by decide +kernel
theorem dX12_init_86 : decode cX12_init 86 = .ok (.bipush 15, 2) := by decide +kernel
theorem dX12_init_88 : decode cX12_init 88 = .ok (.putfield 43, 3) := by decide +kernel
theorem dX12_init_91 : decode cX12_init 91 = .ok (.aload_n 0, 1) := by decide +kernel
theorem dX12_init_92 : decode cX12_init 92 = .ok (.sipush 434, 3) := by decide +kernel
theorem dX12_init_95 : decode cX12_init 95 = .ok (.newarray .int, 2) := by decide +kernel
theorem dX12_init_97 : decode cX12_init 97 = .ok (.putfield 47, 3) := by decide +kernel
theorem dX12_init_100 : decode cX12_init 100 = .ok (.aload_n 0, 1) := by decide +kernel
theorem dX12_init_101 : decode cX12_init 101 = .ok (.iconst 5, 1) := by decide +kernel
theorem dX12_init_102 : decode cX12_init 102 = .ok (.newarray .int, 2) := by decide +kernel
theorem dX12_init_104 : decode cX12_init 104 = .ok (.putfield 50, 3) := by decide +kernel
theorem dX12_init_107 : decode cX12_init 107 = .ok (.aload_n 0, 1) := by decide +kernel
theorem dX12_init_108 : decode cX12_init 108 = .ok (.iconst 5, 1) := by decide +kernel
theorem dX12_init_109 : decode cX12_init 109 = .ok (.newarray .int, 2) := by decide +kernel
theorem dX12_init_111 : decode cX12_init 111 = .ok (.putfield 53, 3) := by decide +kernel
theorem dX12_init_114 : decode cX12_init 114 = .ok (.aload_n 0, 1) := by decide +kernel
theorem dX12_init_115 : decode cX12_init 115 = .ok (.bipush 6, 2) := by decide +kernel
theorem dX12_init_117 : decode cX12_init 117 = .ok (.newarray .int, 2) := by decide +kernel
theorem dX12_init_119 : decode cX12_init 119 = .ok (.putfield 56, 3) := by decide +kernel
theorem dX12_init_122 : decode cX12_init 122 = .ok (.aload_n 0, 1) := by decide +kernel
theorem dX12_init_123 : decode cX12_init 123 = .ok (.bipush 6, 2) := by decide +kernel
theorem dX12_init_125 : decode cX12_init 125 = .ok (.newarray .int, 2) := by decide +kernel
theorem dX12_init_127 : decode cX12_init 127 = .ok (.putfield 59, 3) := by decide +kernel
theorem dX12_init_130 : decode cX12_init 130 = .ok (.aload_n 0, 1) := by decide +kernel
theorem dX12_init_131 : decode cX12_init 131 = .ok (.iconst 2, 1) := by decide +kernel
theorem dX12_init_132 : decode cX12_init 132 = .ok (.newarray .boolean, 2) := by decide +kernel
theorem dX12_init_134 : decode cX12_init 134 = .ok (.putfield 62, 3) := by decide +kernel
theorem dX12_init_137 : decode cX12_init 137 = .ok (.aload_n 0, 1) := by decide +kernel
theorem dX12_init_138 : decode cX12_init 138 = .ok (.bipush 62, 2) := by decide +kernel
theorem dX12_init_140 : decode cX12_init 140 = .ok (.newarray .int, 2) := by decide +kernel
theorem dX12_init_142 : decode cX12_init 142 = .ok (.putfield 66, 3) := by decide +kernel
theorem dX12_init_145 : decode cX12_init 145 = .ok (.return_, 1) := by decide +kernel
theorem dX12_in_0 : decode cX12_in 0 = .ok (.lload_n 0, 1) := by decide +kernel
theorem dX12_in_1 : decode cX12_in 1 = .ok (.lload_n 2, 1) := by decide +kernel
theorem dX12_in_2 : decode cX12_in 2 = .ok (.lcmp, 1) := by decide +kernel
theorem dX12_in_3 : decode cX12_in 3 = .ok (.ifCond .lt 14, 3) := by decide +kernel
theorem dX12_in_6 : decode cX12_in 6 = .ok (.lload_n 0, 1) := by decide +kernel
theorem dX12_in_7 : decode cX12_in 7 = .ok (.lload 4, 2) := by decide +kernel
theorem dX12_in_9 : decode cX12_in 9 = .ok (.lcmp, 1) := by decide +kernel
theorem dX12_in_10 : decode cX12_in 10 = .ok (.ifCond .gt 7, 3) := by decide +kernel
theorem dX12_in_13 : decode cX12_in 13 = .ok (.iconst 1, 1) := by decide +kernel
theorem dX12_in_14 : decode cX12_in 14 = .ok (.goto 4, 3) := by decide +kernel
theorem dX12_in_17 : decode cX12_in 17 = .ok (.iconst 0, 1) := by decide +kernel
theorem dX12_in_18 : decode cX12_in 18 = .ok (.ireturn, 1) := by decide +kernel
theorem dX12_has_0 : decode cX12_has 0 = .ok (.iload_n 0, 1) := by decide +kernel
theorem dX12_has_1 : decode cX12_has 1 = .ok (.iload_n 1, 1) := by decide +kernel
theorem dX12_has_2 : decode cX12_has 2 = .ok (.ishr, 1) := by decide +kernel
theorem dX12_has_3 : decode cX12_has 3 = .ok (.iconst 1, 1) := by decide +kernel
theorem dX12_has_4 : decode cX12_has 4 = .ok (.iand, 1) := by decide +kernel
theorem dX12_has_5 : decode cX12_has 5 = .ok (.iconst 1, 1) := by decide +kernel
theorem dX12_has_6 : decode cX12_has 6 = .ok (.if_icmp .ne 7, 3) := by decide +kernel
theorem dX12_has_9 : decode cX12_has 9 = .ok (.iconst 1, 1) := by decide +kernel
theorem dX12_has_10 : decode cX12_has 10 = .ok (.goto 4, 3) := by decide +kernel
theorem dX12_has_13 : decode cX12_has 13 = .ok (.iconst 0, 1) := by decide +kernel
theorem dX12_has_14 : decode cX12_has 14 = .ok (.ireturn, 1) := by decide +kernel
theorem dX12_ones_0 : decode cX12_ones 0 = .ok (.iconst 0, 1) := by decide +kernel
theorem dX12_ones_1 : decode cX12_ones 1 = .ok (.istore_n 1, 1) := by decide +kernel
theorem dX12_ones_2 : decode cX12_ones 2 = .ok (.iconst 0, 1) := by decide +kernel
theorem dX12_ones_3 : decode cX12_ones 3 = .ok (.istore_n 2, 1) := by decide +kernel
theorem dX12_ones_4 : decode cX12_ones 4 = .ok (.iload_n 2, 1) := by decide +kernel
theorem dX12_ones_5 : decode cX12_ones 5 = .ok (.bipush 6, 2) := by decide +kernel
theorem dX12_ones_7 : decode cX12_ones 7 = .ok (.if_icmp .ge 17, 3) := by decide +kernel
theorem dX12_ones_10 : decode cX12_ones 10 = .ok (.iload_n 1, 1) := by decide +kernel
theorem dX12_ones_11 : decode cX12_ones 11 = .ok (.iload_n 0, 1) := by decide +kernel
theorem dX12_ones_12 : decode cX12_ones 12 = .ok (.iload_n 2, 1) := by decide +kernel
theorem dX12_ones_13 : decode cX12_ones 13 = .ok (.ishr, 1) := by decide +kernel
theorem dX12_ones_14 : decode cX12_ones 14 = .ok (.iconst 1, 1) := by decide +kernel
theorem dX12_ones_15 : decode cX12_ones 15 = .ok (.iand, 1) := by decide +kernel
theorem dX12_ones_16 : decode cX12_ones 16 = .ok (.iadd, 1) := by decide +kernel
theorem dX12_ones_17 : decode cX12_ones 17 = .ok (.istore_n 1, 1) := by decide +kernel
theorem dX12_ones_18 : decode cX12_ones 18 = .ok (.iinc 2 1, 3) := by decide +kernel
theorem dX12_ones_21 : decode cX12_ones 21 = .ok (.goto (-17), 3) := by decide +kernel
theorem dX12_ones_24 : decode cX12_ones 24 = .ok (.iload_n 1, 1) := by decide +kernel
theorem dX12_ones_25 : decode cX12_ones 25 = .ok (.ireturn, 1) := by decide +kernel
theorem dX12_write_0 : decode cX12_write 0 = .ok (.iload_n 1, 1) := by decide +kernel
theorem dX12_write_1 : decode cX12_write 1 = .ok (.i2l, 1) := by decide +kernel
theorem dX12_write_2 : decode cX12_write 2 = .ok (.lconst 0, 1) := by decide +kernel
theorem dX12_write_3 : decode cX12_write 3 = .ok (.ldc2_w 69, 3) := by decide +kernel
theorem dX12_write_6 : decode cX12_write 6 = .ok (.invokestatic 71, 3) := by decide +kernel
theorem dX12_write_9 : decode cX12_write 9 = .ok (.ifCond .ne 6, 3) := by decide +kernel
theorem dX12_write_12 : decode cX12_write 12 = .ok (.bipush (-2), 2) := by decide +kernel
theorem dX12_write_14 : decode cX12_write 14 = .ok (.ireturn, 1) := by decide +kernel
theorem dX12_write_15 : decode cX12_write 15 = .ok (.aload_n 0, 1) := by decide +kernel
theorem dX12_write_16 : decode cX12_write 16 = .ok (.getfield 75, 3) := by decide +kernel
theorem dX12_write_19 : decode cX12_write 19 = .ok (.bipush 48, 2) := by decide +kernel
theorem dX12_write_21 : decode cX12_write 21 = .ok (.if_icmp .ne 6, 3) := by decide +kernel
theorem dX12_write_24 : decode cX12_write 24 = .ok (.bipush (-4), 2) := by decide +kernel
theorem dX12_write_26 : decode cX12_write 26 = .ok (.ireturn, 1) := by decide +kernel
theorem dX12_write_27 : decode cX12_write 27 = .ok (.aload_n 0, 1) := by decide +kernel
theorem dX12_write_28 : decode cX12_write 28 = .ok (.getfield 40, 3) := by decide +kernel
theorem dX12_write_31 : decode cX12_write 31 = .ok (.aload_n 0, 1) := by decide +kernel
theorem dX12_write_32 : decode cX12_write 32 = .ok (.getfield 75, 3) := by decide +kernel
theorem dX12_write_35 : decode cX12_write 35 = .ok (.iload_n 1, 1) := by decide +kernel
theorem dX12_write_36 : decode cX12_write 36 = .ok (.iastore, 1) := by decide +kernel
theorem dX12_write_37 : decode cX12_write 37 = .ok (.aload_n 0, 1) := by decide +kernel
theorem dX12_write_38 : decode cX12_write 38 = .ok (.dup, 1) := by decide +kernel
theorem dX12_write_39 : decode cX12_write 39 = .ok (.getfield 75, 3) := by decide +kernel
theorem dX12_write_42 : decode cX12_write 42 = .ok (.iconst 1, 1) := by decide +kernel
theorem dX12_write_43 : decode cX12_write 43 = .ok (.iadd, 1) := by decide +kernel
theorem dX12_write_44 : decode cX12_write 44 = .ok (.putfield 75, 3) := by decide +kernel
theorem dX12_write_47 : decode cX12_write 47 = .ok (.aload_n 0, 1) := by decide +kernel
theorem dX12_write_48 : decode cX12_write 48 = .ok (.getfield 75, 3) := by decide +kernel
theorem dX12_write_51 : decode cX12_write 51 = .ok (.ireturn, 1) := by decide +kernel
theorem dX12_wipe_0 : decode cX12_wipe 0 = .ok (.aload_n 0, 1) := by decide +kernel
theorem dX12_wipe_1 : decode cX12_wipe 1 = .ok (.getfield 75, 3) := by decide +kernel
theorem dX12_wipe_4 : decode cX12_wipe 4 = .ok (.istore_n 1, 1) := by decide +kernel
theorem dX12_wipe_5 : decode cX12_wipe 5 = .ok (.aload_n 0, 1) := by decide +kernel
theorem dX12_wipe_6 : decode cX12_wipe 6 = .ok (.iconst 0, 1) := by decide +kernel
theorem dX12_wipe_7 : decode cX12_wipe 7 = .ok (.putfield 75, 3) := by decide +kernel
theorem dX12_wipe_10 : decode cX12_wipe 10 = .ok (.iload_n 1, 1) := by decide +kernel
theorem dX12_wipe_11 : decode cX12_wipe 11 = .ok (.ireturn, 1) := by decide +kernel
theorem dX12_cellOf_0 : decode cX12_cellOf 0 = .ok (.aload_n 0, 1) := by decide +kernel
theorem dX12_cellOf_1 : decode cX12_cellOf 1 = .ok (.getfield 78, 3) := by decide +kernel
theorem dX12_cellOf_4 : decode cX12_cellOf 4 = .ok (.bipush (-9), 2) := by decide +kernel
theorem dX12_cellOf_6 : decode cX12_cellOf 6 = .ok (.if_icmp .ne 18, 3) := by decide +kernel
theorem dX12_cellOf_9 : decode cX12_cellOf 9 = .ok (.aload_n 0, 1) := by decide +kernel
theorem dX12_cellOf_10 : decode cX12_cellOf 10 = .ok (.getfield 81, 3) := by decide +kernel
theorem dX12_cellOf_13 : decode cX12_cellOf 13 = .ok (.aload_n 0, 1) := by decide +kernel
theorem dX12_cellOf_14 : decode cX12_cellOf 14 = .ok (.getfield 75, 3) := by decide +kernel
theorem dX12_cellOf_17 : decode cX12_cellOf 17 = .ok (.if_icmp .ge 7, 3) := by decide +kernel
theorem dX12_cellOf_20 : decode cX12_cellOf 20 = .ok (.iconst 1, 1) := by decide +kernel
theorem dX12_cellOf_21 : decode cX12_cellOf 21 = .ok (.goto 4, 3) := by decide +kernel
theorem dX12_cellOf_24 : decode cX12_cellOf 24 = .ok (.iconst 0, 1) := by decide +kernel
theorem dX12_cellOf_25 : decode cX12_cellOf 25 = .ok (.istore_n 2, 1) := by decide +kernel
theorem dX12_cellOf_26 : decode cX12_cellOf 26 = .ok (.iload_n 2, 1) := by decide +kernel
theorem dX12_cellOf_27 : decode cX12_cellOf 27 = .ok (.ifCond .eq 18, 3) := by decide +kernel
theorem dX12_cellOf_30 : decode cX12_cellOf 30 = .ok (.aload_n 0, 1) := by decide +kernel
theorem dX12_cellOf_31 : decode cX12_cellOf 31 = .ok (.getfield 40, 3) := by decide +kernel
theorem dX12_cellOf_34 : decode cX12_cellOf 34 = .ok (.aload_n 0, 1) := by decide +kernel
theorem dX12_cellOf_35 : decode cX12_cellOf 35 = .ok (.getfield 81, 3) := by decide +kernel
theorem dX12_cellOf_38 : decode cX12_cellOf 38 = .ok (.iaload, 1) := by decide +kernel
theorem dX12_cellOf_39 : decode cX12_cellOf 39 = .ok (.bipush 97, 2) := by decide +kernel
theorem dX12_cellOf_41 : decode cX12_cellOf 41 = .ok (.isub, 1) := by decide +kernel
theorem dX12_cellOf_42 : decode cX12_cellOf 42 = .ok (.goto 4, 3) := by decide +kernel
theorem dX12_cellOf_45 : decode cX12_cellOf 45 = .ok (.iconst 0, 1) := by decide +kernel
theorem dX12_cellOf_46 : decode cX12_cellOf 46 = .ok (.istore_n 3, 1) := by decide +kernel
theorem dX12_cellOf_47 : decode cX12_cellOf 47 = .ok (.iload_n 2, 1) := by decide +kernel
theorem dX12_cellOf_48 : decode cX12_cellOf 48 = .ok (.ifCond .eq 23, 3) := by decide +kernel
theorem dX12_cellOf_51 : decode cX12_cellOf 51 = .ok (.iload_n 3, 1) := by decide +kernel
theorem dX12_cellOf_52 : decode cX12_cellOf 52 = .ok (.i2l, 1) := by decide +kernel
theorem dX12_cellOf_53 : decode cX12_cellOf 53 = .ok (.lconst 0, 1) := by decide +kernel
theorem dX12_cellOf_54 : decode cX12_cellOf 54 = .ok (.ldc2_w 84, 3) := by decide +kernel
theorem dX12_cellOf_57 : decode cX12_cellOf 57 = .ok (.invokestatic 71, 3) := by decide +kernel
theorem dX12_cellOf_60 : decode cX12_cellOf 60 = .ok (.ifCond .eq 11, 3) := by decide +kernel
theorem dX12_cellOf_63 : decode cX12_cellOf 63 = .ok (.iload_n 1, 1) := by decide +kernel
theorem dX12_cellOf_64 : decode cX12_cellOf 64 = .ok (.iload_n 3, 1) := by decide +kernel
theorem dX12_cellOf_65 : decode cX12_cellOf 65 = .ok (.invokestatic 86, 3) := by decide +kernel
theorem dX12_cellOf_68 : decode cX12_cellOf 68 = .ok (.ifCond .eq 29, 3) := by decide +kernel
theorem dX12_cellOf_71 : decode cX12_cellOf 71 = .ok (.aload_n 0, 1) := by decide +kernel
theorem dX12_cellOf_72 : decode cX12_cellOf 72 = .ok (.aload_n 0, 1) := by decide +kernel
theorem dX12_cellOf_73 : decode cX12_cellOf 73 = .ok (.getfield 78, 3) := by decide +kernel
theorem dX12_cellOf_76 : decode cX12_cellOf 76 = .ok (.bipush (-9), 2) := by decide +kernel
theorem dX12_cellOf_78 : decode cX12_cellOf 78 = .ok (.if_icmp .ne 10, 3) := by decide +kernel
theorem dX12_cellOf_81 : decode cX12_cellOf 81 = .ok (.aload_n 0, 1) := by decide +kernel
theorem dX12_cellOf_82 : decode cX12_cellOf 82 = .ok (.getfield 81, 3) := by decide +kernel
theorem dX12_cellOf_85 : decode cX12_cellOf 85 = .ok (.goto 7, 3) := by decide +kernel
theorem dX12_cellOf_88 : decode cX12_cellOf 88 = .ok (.aload_n 0, 1) := by decide +kernel
theorem dX12_cellOf_89 : decode cX12_cellOf 89 = .ok (.getfield 78, 3) := by decide +kernel
theorem dX12_cellOf_92 : decode cX12_cellOf 92 = .ok (.putfield 78, 3) := by decide +kernel
theorem dX12_cellOf_95 : decode cX12_cellOf 95 = .ok (.iconst 0, 1) := by decide +kernel
theorem dX12_cellOf_96 : decode cX12_cellOf 96 = .ok (.ireturn, 1) := by decide +kernel
theorem dX12_cellOf_97 : decode cX12_cellOf 97 = .ok (.aload_n 0, 1) := by decide +kernel
theorem dX12_cellOf_98 : decode cX12_cellOf 98 = .ok (.dup, 1) := by decide +kernel
theorem dX12_cellOf_99 : decode cX12_cellOf 99 = .ok (.getfield 81, 3) := by decide +kernel
theorem dX12_cellOf_102 : decode cX12_cellOf 102 = .ok (.iconst 1, 1) := by decide +kernel
theorem dX12_cellOf_103 : decode cX12_cellOf 103 = .ok (.iadd, 1) := by decide +kernel
theorem dX12_cellOf_104 : decode cX12_cellOf 104 = .ok (.putfield 81, 3) := by decide +kernel
theorem dX12_cellOf_107 : decode cX12_cellOf 107 = .ok (.iload_n 3, 1) := by decide +kernel
theorem dX12_cellOf_108 : decode cX12_cellOf 108 = .ok (.ireturn, 1) := by decide +kernel
theorem dX12_figureOf_0 : decode cX12_figureOf 0 = .ok (.aload_n 0, 1) := by decide +kernel
theorem dX12_figureOf_1 : decode cX12_figureOf 1 = .ok (.getfield 78, 3) := by decide +kernel
theorem dX12_figureOf_4 : decode cX12_figureOf 4 = .ok (.bipush (-9), 2) := by decide +kernel
theorem dX12_figureOf_6 : decode cX12_figureOf 6 = .ok (.if_icmp .ne 18, 3) := by decide +kernel
theorem dX12_figureOf_9 : decode cX12_figureOf 9 = .ok (.aload_n 0, 1) := by decide +kernel
theorem dX12_figureOf_10 : decode cX12_figureOf 10 = .ok (.getfield 81, 3) := by decide +kernel
theorem dX12_figureOf_13 : decode cX12_figureOf 13 = .ok (.aload_n 0, 1) := by decide +kernel
theorem dX12_figureOf_14 : decode cX12_figureOf 14 = .ok (.getfield 75, 3) := by decide +kernel
theorem dX12_figureOf_17 : decode cX12_figureOf 17 = .ok (.if_icmp .ge 7, 3) := by decide +kernel
theorem dX12_figureOf_20 : decode cX12_figureOf 20 = .ok (.iconst 1, 1) := by decide +kernel
theorem dX12_figureOf_21 : decode cX12_figureOf 21 = .ok (.goto 4, 3) := by decide +kernel
theorem dX12_figureOf_24 : decode cX12_figureOf 24 = .ok (.iconst 0, 1) := by decide +kernel
theorem dX12_figureOf_25 : decode cX12_figureOf 25 = .ok (.istore_n 2, 1) := by decide +kernel
theorem dX12_figureOf_26 : decode cX12_figureOf 26 = .ok (.iload_n 2, 1) := by decide +kernel
theorem dX12_figureOf_27 : decode cX12_figureOf 27 = .ok (.ifCond .eq 18, 3) := by decide +kernel
theorem dX12_figureOf_30 : decode cX12_figureOf 30 = .ok (.aload_n 0, 1) := by decide +kernel
theorem dX12_figureOf_31 : decode cX12_figureOf 31 = .ok (.getfield 40, 3) := by decide +kernel
theorem dX12_figureOf_34 : decode cX12_figureOf 34 = .ok (.aload_n 0, 1) := by decide +kernel
theorem dX12_figureOf_35 : decode cX12_figureOf 35 = .ok (.getfield 81, 3) := by decide +kernel
theorem dX12_figureOf_38 : decode cX12_figureOf 38 = .ok (.iaload, 1) := by decide +kernel
theorem dX12_figureOf_39 : decode cX12_figureOf 39 = .ok (.bipush 48, 2) := by decide +kernel
theorem dX12_figureOf_41 : decode cX12_figureOf 41 = .ok (.isub, 1) := by decide +kernel
theorem dX12_figureOf_42 : decode cX12_figureOf 42 = .ok (.goto 4, 3) := by decide +kernel
theorem dX12_figureOf_45 : decode cX12_figureOf 45 = .ok (.iconst 0, 1) := by decide +kernel
theorem dX12_figureOf_46 : decode cX12_figureOf 46 = .ok (.istore_n 3, 1) := by decide +kernel
theorem dX12_figureOf_47 : decode cX12_figureOf 47 = .ok (.iload_n 2, 1) := by decide +kernel
theorem dX12_figureOf_48 : decode cX12_figureOf 48 = .ok (.ifCond .eq 14, 3) := by decide +kernel
theorem dX12_figureOf_51 : decode cX12_figureOf 51 = .ok (.iload_n 3, 1) := by decide +kernel
theorem dX12_figureOf_52 : decode cX12_figureOf 52 = .ok (.i2l, 1) := by decide +kernel
theorem dX12_figureOf_53 : decode cX12_figureOf 53 = .ok (.lconst 0, 1) := by decide +kernel
theorem dX12_figureOf_54 : decode cX12_figureOf 54 = .ok (.iload_n 1, 1) := by decide +kernel
theorem dX12_figureOf_55 : decode cX12_figureOf 55 = .ok (.i2l, 1) := by decide +kernel
theorem dX12_figureOf_56 : decode cX12_figureOf 56 = .ok (.invokestatic 71, 3) := by decide +kernel
theorem dX12_figureOf_59 : decode cX12_figureOf 59 = .ok (.ifCond .ne 29, 3) := by decide +kernel
theorem dX12_figureOf_62 : decode cX12_figureOf 62 = .ok (.aload_n 0, 1) := by decide +kernel
theorem dX12_figureOf_63 : decode cX12_figureOf 63 = .ok (.aload_n 0, 1) := by decide +kernel
theorem dX12_figureOf_64 : decode cX12_figureOf 64 = .ok (.getfield 78, 3) := by decide +kernel
theorem dX12_figureOf_67 : decode cX12_figureOf 67 = .ok (.bipush (-9), 2) := by decide +kernel
theorem dX12_figureOf_69 : decode cX12_figureOf 69 = .ok (.if_icmp .ne 10, 3) := by decide +kernel
theorem dX12_figureOf_72 : decode cX12_figureOf 72 = .ok (.aload_n 0, 1) := by decide +kernel
theorem dX12_figureOf_73 : decode cX12_figureOf 73 = .ok (.getfield 81, 3) := by decide +kernel
theorem dX12_figureOf_76 : decode cX12_figureOf 76 = .ok (.goto 7, 3) := by decide +kernel
theorem dX12_figureOf_79 : decode cX12_figureOf 79 = .ok (.aload_n 0, 1) := by decide +kernel
theorem dX12_figureOf_80 : decode cX12_figureOf 80 = .ok (.getfield 78, 3) := by decide +kernel
theorem dX12_figureOf_83 : decode cX12_figureOf 83 = .ok (.putfield 78, 3) := by decide +kernel
theorem dX12_figureOf_86 : decode cX12_figureOf 86 = .ok (.iconst 0, 1) := by decide +kernel
theorem dX12_figureOf_87 : decode cX12_figureOf 87 = .ok (.ireturn, 1) := by decide +kernel
theorem dX12_figureOf_88 : decode cX12_figureOf 88 = .ok (.aload_n 0, 1) := by decide +kernel
theorem dX12_figureOf_89 : decode cX12_figureOf 89 = .ok (.dup, 1) := by decide +kernel
theorem dX12_figureOf_90 : decode cX12_figureOf 90 = .ok (.getfield 81, 3) := by decide +kernel
theorem dX12_figureOf_93 : decode cX12_figureOf 93 = .ok (.iconst 1, 1) := by decide +kernel
theorem dX12_figureOf_94 : decode cX12_figureOf 94 = .ok (.iadd, 1) := by decide +kernel
theorem dX12_figureOf_95 : decode cX12_figureOf 95 = .ok (.putfield 81, 3) := by decide +kernel
theorem dX12_figureOf_98 : decode cX12_figureOf 98 = .ok (.iload_n 3, 1) := by decide +kernel
theorem dX12_figureOf_99 : decode cX12_figureOf 99 = .ok (.ireturn, 1) := by decide +kernel
theorem dX12_readText_0 : decode cX12_readText 0 = .ok (.aload_n 0, 1) := by decide +kernel
theorem dX12_readText_1 : decode cX12_readText 1 = .ok (.iconst 0, 1) := by decide +kernel
theorem dX12_readText_2 : decode cX12_readText 2 = .ok (.putfield 81, 3) := by decide +kernel
theorem dX12_readText_5 : decode cX12_readText 5 = .ok (.aload_n 0, 1) := by decide +kernel
theorem dX12_readText_6 : decode cX12_readText 6 = .ok (.bipush (-9), 2) := by decide +kernel
theorem dX12_readText_8 : decode cX12_readText 8 = .ok (.putfield 78, 3) := by decide +kernel
theorem dX12_readText_11 : decode cX12_readText 11 = .ok (.aload_n 0, 1) := by decide +kernel
theorem dX12_readText_12 : decode cX12_readText 12 = .ok (.iconst 0, 1) := by decide +kernel
theorem dX12_readText_13 : decode cX12_readText 13 = .ok (.putfield 90, 3) := by decide +kernel
theorem dX12_readText_16 : decode cX12_readText 16 = .ok (.aload_n 0, 1) := by decide +kernel
theorem dX12_readText_17 : decode cX12_readText 17 = .ok (.iconst 0, 1) := by decide +kernel
theorem dX12_readText_18 : decode cX12_readText 18 = .ok (.putfield 93, 3) := by decide +kernel
theorem dX12_readText_21 : decode cX12_readText 21 = .ok (.aload_n 0, 1) := by decide +kernel
theorem dX12_readText_22 : decode cX12_readText 22 = .ok (.iconst 0, 1) := by decide +kernel
theorem dX12_readText_23 : decode cX12_readText 23 = .ok (.putfield 96, 3) := by decide +kernel
theorem dX12_readText_26 : decode cX12_readText 26 = .ok (.aload_n 0, 1) := by decide +kernel
theorem dX12_readText_27 : decode cX12_readText 27 = .ok (.iconst 0, 1) := by decide +kernel
theorem dX12_readText_28 : decode cX12_readText 28 = .ok (.putfield 99, 3) := by decide +kernel
theorem dX12_readText_31 : decode cX12_readText 31 = .ok (.aload_n 0, 1) := by decide +kernel
theorem dX12_readText_32 : decode cX12_readText 32 = .ok (.getfield 75, 3) := by decide +kernel
theorem dX12_readText_35 : decode cX12_readText 35 = .ok (.ifCond .eq 14, 3) := by decide +kernel
theorem dX12_readText_38 : decode cX12_readText 38 = .ok (.aload_n 0, 1) := by decide +kernel
theorem dX12_readText_39 : decode cX12_readText 39 = .ok (.getfield 40, 3) := by decide +kernel
theorem dX12_readText_42 : decode cX12_readText 42 = .ok (.iconst 0, 1) := by decide +kernel
theorem dX12_readText_43 : decode cX12_readText 43 = .ok (.iaload, 1) := by decide +kernel
theorem dX12_readText_44 : decode cX12_readText 44 = .ok (.bipush 67, 2) := by decide +kernel
theorem dX12_readText_46 : decode cX12_readText 46 = .ok (.if_icmp .eq 5, 3) := by decide +kernel
theorem dX12_readText_49 : decode cX12_readText 49 = .ok (.iconst 0, 1) := by decide +kernel
theorem dX12_readText_50 : decode cX12_readText 50 = .ok (.ireturn, 1) := by decide +kernel
theorem dX12_readText_51 : decode cX12_readText 51 = .ok (.aload_n 0, 1) := by decide +kernel
theorem dX12_readText_52 : decode cX12_readText 52 = .ok (.iconst 1, 1) := by decide +kernel
theorem dX12_readText_53 : decode cX12_readText 53 = .ok (.putfield 81, 3) := by decide +kernel
theorem dX12_readText_56 : decode cX12_readText 56 = .ok (.aload_n 0, 1) := by decide +kernel
theorem dX12_readText_57 : decode cX12_readText 57 = .ok (.getfield 78, 3) := by decide +kernel
theorem dX12_readText_60 : decode cX12_readText 60 = .ok (.bipush (-9), 2) := by decide +kernel
theorem dX12_readText_62 : decode cX12_readText 62 = .ok (.if_icmp .ne 30, 3) := by decide +kernel
theorem dX12_readText_65 : decode cX12_readText 65 = .ok (.aload_n 0, 1) := by decide +kernel
theorem dX12_readText_66 : decode cX12_readText 66 = .ok (.getfield 81, 3) := by decide +kernel
theorem dX12_readText_69 : decode cX12_readText 69 = .ok (.aload_n 0, 1) := by decide +kernel
theorem dX12_readText_70 : decode cX12_readText 70 = .ok (.getfield 75, 3) := by decide +kernel
theorem dX12_readText_73 : decode cX12_readText 73 = .ok (.if_icmp .ge 19, 3) := by decide +kernel
theorem dX12_readText_76 : decode cX12_readText 76 = .ok (.aload_n 0, 1) := by decide +kernel
theorem dX12_readText_77 : decode cX12_readText 77 = .ok (.aload_n 0, 1) := by decide +kernel
theorem dX12_readText_78 : decode cX12_readText 78 = .ok (.getfield 40, 3) := by decide +kernel
theorem dX12_readText_81 : decode cX12_readText 81 = .ok (.aload_n 0, 1) := by decide +kernel
theorem dX12_readText_82 : decode cX12_readText 82 = .ok (.getfield 81, 3) := by decide +kernel
theorem dX12_readText_85 : decode cX12_readText 85 = .ok (.iaload, 1) := by decide +kernel
theorem dX12_readText_86 : decode cX12_readText 86 = .ok (.invokevirtual 102, 3) := by decide +kernel
theorem dX12_readText_89 : decode cX12_readText 89 = .ok (.goto (-33), 3) := by decide +kernel
theorem dX12_readText_92 : decode cX12_readText 92 = .ok (.aload_n 0, 1) := by decide +kernel
theorem dX12_readText_93 : decode cX12_readText 93 = .ok (.getfield 78, 3) := by decide +kernel
theorem dX12_readText_96 : decode cX12_readText 96 = .ok (.ireturn, 1) := by decide +kernel
theorem dX12_readPart_0 : decode cX12_readPart 0 = .ok (.iload_n 1, 1) := by decide +kernel
theorem dX12_readPart_1 : decode cX12_readPart 1 = .ok (.bipush 87, 2) := by decide +kernel
theorem dX12_readPart_3 : decode cX12_readPart 3 = .ok (.if_icmp .ne 48, 3) := by decide +kernel
