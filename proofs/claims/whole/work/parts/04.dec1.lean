theorem dX7_takes_127 : decode cX7_takes 127 = .ok (.bipush 48, 2) := by decide +kernel
theorem dX7_takes_129 : decode cX7_takes 129 = .ok (.isub, 1) := by decide +kernel
theorem dX7_takes_130 : decode cX7_takes 130 = .ok (.invokevirtual 46, 3) := by decide +kernel
theorem dX7_takes_133 : decode cX7_takes 133 = .ok (.ireturn, 1) := by decide +kernel
theorem dX7_opensPart_0 : decode cX7_opensPart 0 = .ok (.aload_n 0, 1) := by decide +kernel
theorem dX7_opensPart_1 : decode cX7_opensPart 1 = .ok (.iload_n 1, 1) := by decide +kernel
theorem dX7_opensPart_2 : decode cX7_opensPart 2 = .ok (.putfield 20, 3) := by decide +kernel
theorem dX7_opensPart_5 : decode cX7_opensPart 5 = .ok (.aload_n 0, 1) := by decide +kernel
theorem dX7_opensPart_6 : decode cX7_opensPart 6 = .ok (.iconst 0, 1) := by decide +kernel
theorem dX7_opensPart_7 : decode cX7_opensPart 7 = .ok (.putfield 34, 3) := by decide +kernel
theorem dX7_opensPart_10 : decode cX7_opensPart 10 = .ok (.iload_n 1, 1) := by decide +kernel
theorem dX7_opensPart_11 : decode cX7_opensPart 11 = .ok (.lookupswitch 84 #[(66, 50), (72, 67), (87, 33)], 33) := by decide +kernel
theorem dX7_opensPart_44 : decode cX7_opensPart 44 = .ok (.aload_n 0, 1) := by decide +kernel
theorem dX7_opensPart_45 : decode cX7_opensPart 45 = .ok (.getfield 9, 3) := by decide +kernel
theorem dX7_opensPart_48 : decode cX7_opensPart 48 = .ok (.getfield 49, 3) := by decide +kernel
theorem dX7_opensPart_51 : decode cX7_opensPart 51 = .ok (.iconst 4, 1) := by decide +kernel
theorem dX7_opensPart_52 : decode cX7_opensPart 52 = .ok (.if_icmp .ge 7, 3) := by decide +kernel
theorem dX7_opensPart_55 : decode cX7_opensPart 55 = .ok (.iconst 1, 1) := by decide +kernel
theorem dX7_opensPart_56 : decode cX7_opensPart 56 = .ok (.goto 4, 3) := by decide +kernel
theorem dX7_opensPart_59 : decode cX7_opensPart 59 = .ok (.iconst 0, 1) := by decide +kernel
theorem dX7_opensPart_60 : decode cX7_opensPart 60 = .ok (.ireturn, 1) := by decide +kernel
theorem dX7_opensPart_61 : decode cX7_opensPart 61 = .ok (.aload_n 0, 1) := by decide +kernel
theorem dX7_opensPart_62 : decode cX7_opensPart 62 = .ok (.getfield 9, 3) := by decide +kernel
theorem dX7_opensPart_65 : decode cX7_opensPart 65 = .ok (.getfield 52, 3) := by decide +kernel
theorem dX7_opensPart_68 : decode cX7_opensPart 68 = .ok (.iconst 5, 1) := by decide +kernel
theorem dX7_opensPart_69 : decode cX7_opensPart 69 = .ok (.if_icmp .ge 7, 3) := by decide +kernel
theorem dX7_opensPart_72 : decode cX7_opensPart 72 = .ok (.iconst 1, 1) := by decide +kernel
theorem dX7_opensPart_73 : decode cX7_opensPart 73 = .ok (.goto 4, 3) := by decide +kernel
theorem dX7_opensPart_76 : decode cX7_opensPart 76 = .ok (.iconst 0, 1) := by decide +kernel
theorem dX7_opensPart_77 : decode cX7_opensPart 77 = .ok (.ireturn, 1) := by decide +kernel
theorem dX7_opensPart_78 : decode cX7_opensPart 78 = .ok (.aload_n 0, 1) := by decide +kernel
theorem dX7_opensPart_79 : decode cX7_opensPart 79 = .ok (.getfield 9, 3) := by decide +kernel
theorem dX7_opensPart_82 : decode cX7_opensPart 82 = .ok (.getfield 55, 3) := by decide +kernel
theorem dX7_opensPart_85 : decode cX7_opensPart 85 = .ok (.iconst 4, 1) := by decide +kernel
theorem dX7_opensPart_86 : decode cX7_opensPart 86 = .ok (.if_icmp .ge 7, 3) := by decide +kernel
theorem dX7_opensPart_89 : decode cX7_opensPart 89 = .ok (.iconst 1, 1) := by decide +kernel
theorem dX7_opensPart_90 : decode cX7_opensPart 90 = .ok (.goto 4, 3) := by decide +kernel
theorem dX7_opensPart_93 : decode cX7_opensPart 93 = .ok (.iconst 0, 1) := by decide +kernel
theorem dX7_opensPart_94 : decode cX7_opensPart 94 = .ok (.ireturn, 1) := by decide +kernel
theorem dX7_opensPart_95 : decode cX7_opensPart 95 = .ok (.iconst 0, 1) := by decide +kernel
theorem dX7_opensPart_96 : decode cX7_opensPart 96 = .ok (.ireturn, 1) := by decide +kernel
theorem dX7_takesWind_0 : decode cX7_takesWind 0 = .ok (.iload_n 1, 1) := by decide +kernel
theorem dX7_takesWind_1 : decode cX7_takesWind 1 = .ok (.ifCond .lt 19, 3) := by decide +kernel
theorem dX7_takesWind_4 : decode cX7_takesWind 4 = .ok (.iload_n 1, 1) := by decide +kernel
theorem dX7_takesWind_5 : decode cX7_takesWind 5 = .ok (.iconst 4, 1) := by decide +kernel
theorem dX7_takesWind_6 : decode cX7_takesWind 6 = .ok (.if_icmp .gt 14, 3) := by decide +kernel
theorem dX7_takesWind_9 : decode cX7_takesWind 9 = .ok (.aload_n 0, 1) := by decide +kernel
theorem dX7_takesWind_10 : decode cX7_takesWind 10 = .ok (.getfield 9, 3) := by decide +kernel
theorem dX7_takesWind_13 : decode cX7_takesWind 13 = .ok (.getfield 49, 3) := by decide +kernel
theorem dX7_takesWind_16 : decode cX7_takesWind 16 = .ok (.iconst 4, 1) := by decide +kernel
theorem dX7_takesWind_17 : decode cX7_takesWind 17 = .ok (.if_icmp .lt 5, 3) := by decide +kernel
theorem dX7_takesWind_20 : decode cX7_takesWind 20 = .ok (.iconst 0, 1) := by decide +kernel
theorem dX7_takesWind_21 : decode cX7_takesWind 21 = .ok (.ireturn, 1) := by decide +kernel
theorem dX7_takesWind_22 : decode cX7_takesWind 22 = .ok (.aload_n 0, 1) := by decide +kernel
theorem dX7_takesWind_23 : decode cX7_takesWind 23 = .ok (.getfield 9, 3) := by decide +kernel
theorem dX7_takesWind_26 : decode cX7_takesWind 26 = .ok (.getfield 58, 3) := by decide +kernel
theorem dX7_takesWind_29 : decode cX7_takesWind 29 = .ok (.aload_n 0, 1) := by decide +kernel
theorem dX7_takesWind_30 : decode cX7_takesWind 30 = .ok (.getfield 9, 3) := by decide +kernel
theorem dX7_takesWind_33 : decode cX7_takesWind 33 = .ok (.getfield 49, 3) := by decide +kernel
theorem dX7_takesWind_36 : decode cX7_takesWind 36 = .ok (.iload_n 1, 1) := by decide +kernel
theorem dX7_takesWind_37 : decode cX7_takesWind 37 = .ok (.iastore, 1) := by decide +kernel
theorem dX7_takesWind_38 : decode cX7_takesWind 38 = .ok (.aload_n 0, 1) := by decide +kernel
theorem dX7_takesWind_39 : decode cX7_takesWind 39 = .ok (.getfield 9, 3) := by decide +kernel
theorem dX7_takesWind_42 : decode cX7_takesWind 42 = .ok (.dup, 1) := by decide +kernel
theorem dX7_takesWind_43 : decode cX7_takesWind 43 = .ok (.getfield 49, 3) := by decide +kernel
theorem dX7_takesWind_46 : decode cX7_takesWind 46 = .ok (.iconst 1, 1) := by decide +kernel
theorem dX7_takesWind_47 : decode cX7_takesWind 47 = .ok (.iadd, 1) := by decide +kernel
theorem dX7_takesWind_48 : decode cX7_takesWind 48 = .ok (.putfield 49, 3) := by decide +kernel
theorem dX7_takesWind_51 : decode cX7_takesWind 51 = .ok (.aload_n 0, 1) := by decide +kernel
theorem dX7_takesWind_52 : decode cX7_takesWind 52 = .ok (.iconst 1, 1) := by decide +kernel
theorem dX7_takesWind_53 : decode cX7_takesWind 53 = .ok (.putfield 20, 3) := by decide +kernel
theorem dX7_takesWind_56 : decode cX7_takesWind 56 = .ok (.iconst 1, 1) := by decide +kernel
theorem dX7_takesWind_57 : decode cX7_takesWind 57 = .ok (.ireturn, 1) := by decide +kernel
theorem dX7_takesStart_0 : decode cX7_takesStart 0 = .ok (.iload_n 1, 1) := by decide +kernel
theorem dX7_takesStart_1 : decode cX7_takesStart 1 = .ok (.ifCond .lt 20, 3) := by decide +kernel
theorem dX7_takesStart_4 : decode cX7_takesStart 4 = .ok (.iload_n 1, 1) := by decide +kernel
theorem dX7_takesStart_5 : decode cX7_takesStart 5 = .ok (.bipush 20, 2) := by decide +kernel
theorem dX7_takesStart_7 : decode cX7_takesStart 7 = .ok (.if_icmp .ge 14, 3) := by decide +kernel
theorem dX7_takesStart_10 : decode cX7_takesStart 10 = .ok (.aload_n 0, 1) := by decide +kernel
theorem dX7_takesStart_11 : decode cX7_takesStart 11 = .ok (.getfield 9, 3) := by decide +kernel
theorem dX7_takesStart_14 : decode cX7_takesStart 14 = .ok (.getfield 52, 3) := by decide +kernel
theorem dX7_takesStart_17 : decode cX7_takesStart 17 = .ok (.iconst 5, 1) := by decide +kernel
theorem dX7_takesStart_18 : decode cX7_takesStart 18 = .ok (.if_icmp .lt 5, 3) := by decide +kernel
theorem dX7_takesStart_21 : decode cX7_takesStart 21 = .ok (.iconst 0, 1) := by decide +kernel
theorem dX7_takesStart_22 : decode cX7_takesStart 22 = .ok (.ireturn, 1) := by decide +kernel
theorem dX7_takesStart_23 : decode cX7_takesStart 23 = .ok (.aload_n 0, 1) := by decide +kernel
theorem dX7_takesStart_24 : decode cX7_takesStart 24 = .ok (.getfield 9, 3) := by decide +kernel
theorem dX7_takesStart_27 : decode cX7_takesStart 27 = .ok (.getfield 62, 3) := by decide +kernel
theorem dX7_takesStart_30 : decode cX7_takesStart 30 = .ok (.aload_n 0, 1) := by decide +kernel
theorem dX7_takesStart_31 : decode cX7_takesStart 31 = .ok (.getfield 9, 3) := by decide +kernel
theorem dX7_takesStart_34 : decode cX7_takesStart 34 = .ok (.getfield 52, 3) := by decide +kernel
theorem dX7_takesStart_37 : decode cX7_takesStart 37 = .ok (.iload_n 1, 1) := by decide +kernel
theorem dX7_takesStart_38 : decode cX7_takesStart 38 = .ok (.iastore, 1) := by decide +kernel
theorem dX7_takesStart_39 : decode cX7_takesStart 39 = .ok (.aload_n 0, 1) := by decide +kernel
theorem dX7_takesStart_40 : decode cX7_takesStart 40 = .ok (.iconst 1, 1) := by decide +kernel
theorem dX7_takesStart_41 : decode cX7_takesStart 41 = .ok (.putfield 34, 3) := by decide +kernel
theorem dX7_takesStart_44 : decode cX7_takesStart 44 = .ok (.iconst 1, 1) := by decide +kernel
theorem dX7_takesStart_45 : decode cX7_takesStart 45 = .ok (.ireturn, 1) := by decide +kernel
theorem dX7_takesOfBalloon_0 : decode cX7_takesOfBalloon 0 = .ok (.iload_n 1, 1) := by decide +kernel
theorem dX7_takesOfBalloon_1 : decode cX7_takesOfBalloon 1 = .ok (.ifCond .lt 31, 3) := by decide +kernel
theorem dX7_takesOfBalloon_4 : decode cX7_takesOfBalloon 4 = .ok (.iload_n 1, 1) := by decide +kernel
theorem dX7_takesOfBalloon_5 : decode cX7_takesOfBalloon 5 = .ok (.aload_n 0, 1) := by decide +kernel
theorem dX7_takesOfBalloon_6 : decode cX7_takesOfBalloon 6 = .ok (.getfield 34, 3) := by decide +kernel
theorem dX7_takesOfBalloon_9 : decode cX7_takesOfBalloon 9 = .ok (.iconst 1, 1) := by decide +kernel
theorem dX7_takesOfBalloon_10 : decode cX7_takesOfBalloon 10 = .ok (.if_icmp .ne 7, 3) := by decide +kernel
theorem dX7_takesOfBalloon_13 : decode cX7_takesOfBalloon 13 = .ok (.iconst 3, 1) := by decide +kernel
theorem dX7_takesOfBalloon_14 : decode cX7_takesOfBalloon 14 = .ok (.goto 4, 3) := by decide +kernel
theorem dX7_takesOfBalloon_17 : decode cX7_takesOfBalloon 17 = .ok (.iconst 3, 1) := by decide +kernel
theorem dX7_takesOfBalloon_18 : decode cX7_takesOfBalloon 18 = .ok (.if_icmp .gt 14, 3) := by decide +kernel
theorem dX7_takesOfBalloon_21 : decode cX7_takesOfBalloon 21 = .ok (.aload_n 0, 1) := by decide +kernel
theorem dX7_takesOfBalloon_22 : decode cX7_takesOfBalloon 22 = .ok (.getfield 9, 3) := by decide +kernel
theorem dX7_takesOfBalloon_25 : decode cX7_takesOfBalloon 25 = .ok (.getfield 52, 3) := by decide +kernel
theorem dX7_takesOfBalloon_28 : decode cX7_takesOfBalloon 28 = .ok (.iconst 5, 1) := by decide +kernel
theorem dX7_takesOfBalloon_29 : decode cX7_takesOfBalloon 29 = .ok (.if_icmp .lt 5, 3) := by decide +kernel
theorem dX7_takesOfBalloon_32 : decode cX7_takesOfBalloon 32 = .ok (.iconst 0, 1) := by decide +kernel
theorem dX7_takesOfBalloon_33 : decode cX7_takesOfBalloon 33 = .ok (.ireturn, 1) := by decide +kernel
theorem dX7_takesOfBalloon_34 : decode cX7_takesOfBalloon 34 = .ok (.aload_n 0, 1) := by decide +kernel
theorem dX7_takesOfBalloon_35 : decode cX7_takesOfBalloon 35 = .ok (.getfield 34, 3) := by decide +kernel
theorem dX7_takesOfBalloon_38 : decode cX7_takesOfBalloon 38 = .ok (.iconst 1, 1) := by decide +kernel
theorem dX7_takesOfBalloon_39 : decode cX7_takesOfBalloon 39 = .ok (.if_icmp .ne 26, 3) := by decide +kernel
theorem dX7_takesOfBalloon_42 : decode cX7_takesOfBalloon 42 = .ok (.aload_n 0, 1) := by decide +kernel
theorem dX7_takesOfBalloon_43 : decode cX7_takesOfBalloon 43 = .ok (.getfield 9, 3) := by decide +kernel
theorem dX7_takesOfBalloon_46 : decode cX7_takesOfBalloon 46 = .ok (.getfield 65, 3) := by decide +kernel
theorem dX7_takesOfBalloon_49 : decode cX7_takesOfBalloon 49 = .ok (.aload_n 0, 1) := by decide +kernel
theorem dX7_takesOfBalloon_50 : decode cX7_takesOfBalloon 50 = .ok (.getfield 9, 3) := by decide +kernel
theorem dX7_takesOfBalloon_53 : decode cX7_takesOfBalloon 53 = .ok (.getfield 52, 3) := by decide +kernel
theorem dX7_takesOfBalloon_56 : decode cX7_takesOfBalloon 56 = .ok (.iload_n 1, 1) := by decide +kernel
theorem dX7_takesOfBalloon_57 : decode cX7_takesOfBalloon 57 = .ok (.iastore, 1) := by decide +kernel
theorem dX7_takesOfBalloon_58 : decode cX7_takesOfBalloon 58 = .ok (.aload_n 0, 1) := by decide +kernel
theorem dX7_takesOfBalloon_59 : decode cX7_takesOfBalloon 59 = .ok (.iconst 2, 1) := by decide +kernel
theorem dX7_takesOfBalloon_60 : decode cX7_takesOfBalloon 60 = .ok (.putfield 34, 3) := by decide +kernel
theorem dX7_takesOfBalloon_63 : decode cX7_takesOfBalloon 63 = .ok (.iconst 1, 1) := by decide +kernel
theorem dX7_takesOfBalloon_64 : decode cX7_takesOfBalloon 64 = .ok (.ireturn, 1) := by decide +kernel
theorem dX7_takesOfBalloon_65 : decode cX7_takesOfBalloon 65 = .ok (.aload_n 0, 1) := by decide +kernel
theorem dX7_takesOfBalloon_66 : decode cX7_takesOfBalloon 66 = .ok (.getfield 9, 3) := by decide +kernel
theorem dX7_takesOfBalloon_69 : decode cX7_takesOfBalloon 69 = .ok (.getfield 68, 3) := by decide +kernel
theorem dX7_takesOfBalloon_72 : decode cX7_takesOfBalloon 72 = .ok (.aload_n 0, 1) := by decide +kernel
theorem dX7_takesOfBalloon_73 : decode cX7_takesOfBalloon 73 = .ok (.getfield 9, 3) := by decide +kernel
theorem dX7_takesOfBalloon_76 : decode cX7_takesOfBalloon 76 = .ok (.getfield 52, 3) := by decide +kernel
theorem dX7_takesOfBalloon_79 : decode cX7_takesOfBalloon 79 = .ok (.iload_n 1, 1) := by decide +kernel
theorem dX7_takesOfBalloon_80 : decode cX7_takesOfBalloon 80 = .ok (.iastore, 1) := by decide +kernel
theorem dX7_takesOfBalloon_81 : decode cX7_takesOfBalloon 81 = .ok (.aload_n 0, 1) := by decide +kernel
theorem dX7_takesOfBalloon_82 : decode cX7_takesOfBalloon 82 = .ok (.getfield 9, 3) := by decide +kernel
theorem dX7_takesOfBalloon_85 : decode cX7_takesOfBalloon 85 = .ok (.dup, 1) := by decide +kernel
theorem dX7_takesOfBalloon_86 : decode cX7_takesOfBalloon 86 = .ok (.getfield 52, 3) := by decide +kernel
theorem dX7_takesOfBalloon_89 : decode cX7_takesOfBalloon 89 = .ok (.iconst 1, 1) := by decide +kernel
theorem dX7_takesOfBalloon_90 : decode cX7_takesOfBalloon 90 = .ok (.iadd, 1) := by decide +kernel
theorem dX7_takesOfBalloon_91 : decode cX7_takesOfBalloon 91 = .ok (.putfield 52, 3) := by decide +kernel
theorem dX7_takesOfBalloon_94 : decode cX7_takesOfBalloon 94 = .ok (.aload_n 0, 1) := by decide +kernel
theorem dX7_takesOfBalloon_95 : decode cX7_takesOfBalloon 95 = .ok (.iconst 1, 1) := by decide +kernel
theorem dX7_takesOfBalloon_96 : decode cX7_takesOfBalloon 96 = .ok (.putfield 20, 3) := by decide +kernel
theorem dX7_takesOfBalloon_99 : decode cX7_takesOfBalloon 99 = .ok (.iconst 1, 1) := by decide +kernel
theorem dX7_takesOfBalloon_100 : decode cX7_takesOfBalloon 100 = .ok (.ireturn, 1) := by decide +kernel
theorem dX7_takesHedgeCell_0 : decode cX7_takesHedgeCell 0 = .ok (.iload_n 1, 1) := by decide +kernel
theorem dX7_takesHedgeCell_1 : decode cX7_takesHedgeCell 1 = .ok (.ifCond .lt 33, 3) := by decide +kernel
theorem dX7_takesHedgeCell_4 : decode cX7_takesHedgeCell 4 = .ok (.iload_n 1, 1) := by decide +kernel
theorem dX7_takesHedgeCell_5 : decode cX7_takesHedgeCell 5 = .ok (.bipush 20, 2) := by decide +kernel
theorem dX7_takesHedgeCell_7 : decode cX7_takesHedgeCell 7 = .ok (.if_icmp .ge 27, 3) := by decide +kernel
theorem dX7_takesHedgeCell_10 : decode cX7_takesHedgeCell 10 = .ok (.aload_n 0, 1) := by decide +kernel
theorem dX7_takesHedgeCell_11 : decode cX7_takesHedgeCell 11 = .ok (.getfield 9, 3) := by decide +kernel
theorem dX7_takesHedgeCell_14 : decode cX7_takesHedgeCell 14 = .ok (.getfield 55, 3) := by decide +kernel
theorem dX7_takesHedgeCell_17 : decode cX7_takesHedgeCell 17 = .ok (.iconst 4, 1) := by decide +kernel
theorem dX7_takesHedgeCell_18 : decode cX7_takesHedgeCell 18 = .ok (.if_icmp .ge 16, 3) := by decide +kernel
theorem dX7_takesHedgeCell_21 : decode cX7_takesHedgeCell 21 = .ok (.aload_n 0, 1) := by decide +kernel
theorem dX7_takesHedgeCell_22 : decode cX7_takesHedgeCell 22 = .ok (.getfield 9, 3) := by decide +kernel
theorem dX7_takesHedgeCell_25 : decode cX7_takesHedgeCell 25 = .ok (.iload_n 1, 1) := by decide +kernel
theorem dX7_takesHedgeCell_26 : decode cX7_takesHedgeCell 26 = .ok (.invokevirtual 71, 3) := by decide +kernel
theorem dX7_takesHedgeCell_29 : decode cX7_takesHedgeCell 29 = .ok (.bipush (-9), 2) := by decide +kernel
theorem dX7_takesHedgeCell_31 : decode cX7_takesHedgeCell 31 = .ok (.if_icmp .eq 5, 3) := by decide +kernel
theorem dX7_takesHedgeCell_34 : decode cX7_takesHedgeCell 34 = .ok (.iconst 0, 1) := by decide +kernel
theorem dX7_takesHedgeCell_35 : decode cX7_takesHedgeCell 35 = .ok (.ireturn, 1) := by decide +kernel
theorem dX7_takesHedgeCell_36 : decode cX7_takesHedgeCell 36 = .ok (.aload_n 0, 1) := by decide +kernel
theorem dX7_takesHedgeCell_37 : decode cX7_takesHedgeCell 37 = .ok (.getfield 9, 3) := by decide +kernel
theorem dX7_takesHedgeCell_40 : decode cX7_takesHedgeCell 40 = .ok (.getfield 75, 3) := by decide +kernel
theorem dX7_takesHedgeCell_43 : decode cX7_takesHedgeCell 43 = .ok (.aload_n 0, 1) := by decide +kernel
theorem dX7_takesHedgeCell_44 : decode cX7_takesHedgeCell 44 = .ok (.getfield 9, 3) := by decide +kernel
theorem dX7_takesHedgeCell_47 : decode cX7_takesHedgeCell 47 = .ok (.getfield 55, 3) := by decide +kernel
theorem dX7_takesHedgeCell_50 : decode cX7_takesHedgeCell 50 = .ok (.iload_n 1, 1) := by decide +kernel
theorem dX7_takesHedgeCell_51 : decode cX7_takesHedgeCell 51 = .ok (.iastore, 1) := by decide +kernel
theorem dX7_takesHedgeCell_52 : decode cX7_takesHedgeCell 52 = .ok (.aload_n 0, 1) := by decide +kernel
theorem dX7_takesHedgeCell_53 : decode cX7_takesHedgeCell 53 = .ok (.iconst 1, 1) := by decide +kernel
theorem dX7_takesHedgeCell_54 : decode cX7_takesHedgeCell 54 = .ok (.putfield 34, 3) := by decide +kernel
theorem dX7_takesHedgeCell_57 : decode cX7_takesHedgeCell 57 = .ok (.iconst 1, 1) := by decide +kernel
theorem dX7_takesHedgeCell_58 : decode cX7_takesHedgeCell 58 = .ok (.ireturn, 1) := by decide +kernel
theorem dX7_takesOfHedge_0 : decode cX7_takesOfHedge 0 = .ok (.iload_n 1, 1) := by decide +kernel
theorem dX7_takesOfHedge_1 : decode cX7_takesOfHedge 1 = .ok (.ifCond .lt 32, 3) := by decide +kernel
theorem dX7_takesOfHedge_4 : decode cX7_takesOfHedge 4 = .ok (.iload_n 1, 1) := by decide +kernel
theorem dX7_takesOfHedge_5 : decode cX7_takesOfHedge 5 = .ok (.aload_n 0, 1) := by decide +kernel
theorem dX7_takesOfHedge_6 : decode cX7_takesOfHedge 6 = .ok (.getfield 34, 3) := by decide +kernel
theorem dX7_takesOfHedge_9 : decode cX7_takesOfHedge 9 = .ok (.iconst 1, 1) := by decide +kernel
theorem dX7_takesOfHedge_10 : decode cX7_takesOfHedge 10 = .ok (.if_icmp .ne 8, 3) := by decide +kernel
theorem dX7_takesOfHedge_13 : decode cX7_takesOfHedge 13 = .ok (.bipush 9, 2) := by decide +kernel
theorem dX7_takesOfHedge_15 : decode cX7_takesOfHedge 15 = .ok (.goto 4, 3) := by decide +kernel
theorem dX7_takesOfHedge_18 : decode cX7_takesOfHedge 18 = .ok (.iconst 3, 1) := by decide +kernel
theorem dX7_takesOfHedge_19 : decode cX7_takesOfHedge 19 = .ok (.if_icmp .gt 14, 3) := by decide +kernel
theorem dX7_takesOfHedge_22 : decode cX7_takesOfHedge 22 = .ok (.aload_n 0, 1) := by decide +kernel
theorem dX7_takesOfHedge_23 : decode cX7_takesOfHedge 23 = .ok (.getfield 9, 3) := by decide +kernel
theorem dX7_takesOfHedge_26 : decode cX7_takesOfHedge 26 = .ok (.getfield 55, 3) := by decide +kernel
theorem dX7_takesOfHedge_29 : decode cX7_takesOfHedge 29 = .ok (.iconst 4, 1) := by decide +kernel
theorem dX7_takesOfHedge_30 : decode cX7_takesOfHedge 30 = .ok (.if_icmp .lt 5, 3) := by decide +kernel
theorem dX7_takesOfHedge_33 : decode cX7_takesOfHedge 33 = .ok (.iconst 0, 1) := by decide +kernel
theorem dX7_takesOfHedge_34 : decode cX7_takesOfHedge 34 = .ok (.ireturn, 1) := by decide +kernel
theorem dX7_takesOfHedge_35 : decode cX7_takesOfHedge 35 = .ok (.aload_n 0, 1) := by decide +kernel
theorem dX7_takesOfHedge_36 : decode cX7_takesOfHedge 36 = .ok (.getfield 34, 3) := by decide +kernel
theorem dX7_takesOfHedge_39 : decode cX7_takesOfHedge 39 = .ok (.iconst 1, 1) := by decide +kernel
theorem dX7_takesOfHedge_40 : decode cX7_takesOfHedge 40 = .ok (.if_icmp .ne 26, 3) := by decide +kernel
theorem dX7_takesOfHedge_43 : decode cX7_takesOfHedge 43 = .ok (.aload_n 0, 1) := by decide +kernel
theorem dX7_takesOfHedge_44 : decode cX7_takesOfHedge 44 = .ok (.getfield 9, 3) := by decide +kernel
theorem dX7_takesOfHedge_47 : decode cX7_takesOfHedge 47 = .ok (.getfield 78, 3) := by decide +kernel
theorem dX7_takesOfHedge_50 : decode cX7_takesOfHedge 50 = .ok (.aload_n 0, 1) := by decide +kernel
theorem dX7_takesOfHedge_51 : decode cX7_takesOfHedge 51 = .ok (.getfield 9, 3) := by decide +kernel
theorem dX7_takesOfHedge_54 : decode cX7_takesOfHedge 54 = .ok (.getfield 55, 3) := by decide +kernel
theorem dX7_takesOfHedge_57 : decode cX7_takesOfHedge 57 = .ok (.iload_n 1, 1) := by decide +kernel
theorem dX7_takesOfHedge_58 : decode cX7_takesOfHedge 58 = .ok (.iastore, 1) := by decide +kernel
theorem dX7_takesOfHedge_59 : decode cX7_takesOfHedge 59 = .ok (.aload_n 0, 1) := by decide +kernel
theorem dX7_takesOfHedge_60 : decode cX7_takesOfHedge 60 = .ok (.iconst 2, 1) := by decide +kernel
theorem dX7_takesOfHedge_61 : decode cX7_takesOfHedge 61 = .ok (.putfield 34, 3) := by decide +kernel
theorem dX7_takesOfHedge_64 : decode cX7_takesOfHedge 64 = .ok (.iconst 1, 1) := by decide +kernel
theorem dX7_takesOfHedge_65 : decode cX7_takesOfHedge 65 = .ok (.ireturn, 1) := by decide +kernel
theorem dX7_takesOfHedge_66 : decode cX7_takesOfHedge 66 = .ok (.aload_n 0, 1) := by decide +kernel
theorem dX7_takesOfHedge_67 : decode cX7_takesOfHedge 67 = .ok (.getfield 9, 3) := by decide +kernel
theorem dX7_takesOfHedge_70 : decode cX7_takesOfHedge 70 = .ok (.getfield 81, 3) := by decide +kernel
theorem dX7_takesOfHedge_73 : decode cX7_takesOfHedge 73 = .ok (.aload_n 0, 1) := by decide +kernel
theorem dX7_takesOfHedge_74 : decode cX7_takesOfHedge 74 = .ok (.getfield 9, 3) := by decide +kernel
theorem dX7_takesOfHedge_77 : decode cX7_takesOfHedge 77 = .ok (.getfield 55, 3) := by decide +kernel
theorem dX7_takesOfHedge_80 : decode cX7_takesOfHedge 80 = .ok (.iload_n 1, 1) := by decide +kernel
theorem dX7_takesOfHedge_81 : decode cX7_takesOfHedge 81 = .ok (.iastore, 1) := by decide +kernel
theorem dX7_takesOfHedge_82 : decode cX7_takesOfHedge 82 = .ok (.aload_n 0, 1) := by decide +kernel
theorem dX7_takesOfHedge_83 : decode cX7_takesOfHedge 83 = .ok (.getfield 9, 3) := by decide +kernel
theorem dX7_takesOfHedge_86 : decode cX7_takesOfHedge 86 = .ok (.dup, 1) := by decide +kernel
theorem dX7_takesOfHedge_87 : decode cX7_takesOfHedge 87 = .ok (.getfield 55, 3) := by decide +kernel
theorem dX7_takesOfHedge_90 : decode cX7_takesOfHedge 90 = .ok (.iconst 1, 1) := by decide +kernel
theorem dX7_takesOfHedge_91 : decode cX7_takesOfHedge 91 = .ok (.iadd, 1) := by decide +kernel
theorem dX7_takesOfHedge_92 : decode cX7_takesOfHedge 92 = .ok (.putfield 55, 3) := by decide +kernel
theorem dX7_takesOfHedge_95 : decode cX7_takesOfHedge 95 = .ok (.aload_n 0, 1) := by decide +kernel
theorem dX7_takesOfHedge_96 : decode cX7_takesOfHedge 96 = .ok (.iconst 1, 1) := by decide +kernel
theorem dX7_takesOfHedge_97 : decode cX7_takesOfHedge 97 = .ok (.putfield 20, 3) := by decide +kernel
theorem dX7_takesOfHedge_100 : decode cX7_takesOfHedge 100 = .ok (.iconst 1, 1) := by decide +kernel
theorem dX7_takesOfHedge_101 : decode cX7_takesOfHedge 101 = .ok (.ireturn, 1) := by decide +kernel
theorem dX8_init_0 : decode cX8_init 0 = .ok (.aload_n 0, 1) := by decide +kernel
theorem dX8_init_1 : decode cX8_init 1 = .ok (.invokespecial 3, 3) := by decide +kernel
theorem dX8_init_4 : decode cX8_init 4 = .ok (.aload_n 0, 1) := by decide +kernel
theorem dX8_init_5 : decode cX8_init 5 = .ok (.bipush 16, 2) := by decide +kernel
theorem dX8_init_7 : decode cX8_init 7 = .ok (.newarray .int, 2) := by decide +kernel
theorem dX8_init_9 : decode cX8_init 9 = .ok (.putfield 9, 3) := by decide +kernel
theorem dX8_init_12 : decode cX8_init 12 = .ok (.aload_n 0, 1) := by decide +kernel
theorem dX8_init_13 : decode cX8_init 13 = .ok (.aload_n 1, 1) := by decide +kernel
theorem dX8_init_14 : decode cX8_init 14 = .ok (.putfield 15, 3) := by decide +kernel
theorem dX8_init_17 : decode cX8_init 17 = .ok (.aload_n 0, 1) := by decide +kernel
theorem dX8_init_18 : decode cX8_init 18 = .ok (.aload_n 2, 1) := by decide +kernel
theorem dX8_init_19 : decode cX8_init 19 = .ok (.putfield 19, 3) := by decide +kernel
theorem dX8_init_22 : decode cX8_init 22 = .ok (.return_, 1) := by decide +kernel
theorem dX8_sumOverOrders_0 : decode cX8_sumOverOrders 0 = .ok (.aload_n 0, 1) := by decide +kernel
theorem dX8_sumOverOrders_1 : decode cX8_sumOverOrders 1 = .ok (.getfield 15, 3) := by decide +kernel
theorem dX8_sumOverOrders_4 : decode cX8_sumOverOrders 4 = .ok (.getfield 22, 3) := by decide +kernel
theorem dX8_sumOverOrders_7 : decode cX8_sumOverOrders 7 = .ok (.getfield 28, 3) := by decide +kernel
theorem dX8_sumOverOrders_10 : decode cX8_sumOverOrders 10 = .ok (.istore_n 2, 1) := by decide +kernel
theorem dX8_sumOverOrders_11 : decode cX8_sumOverOrders 11 = .ok (.aload_n 0, 1) := by decide +kernel
theorem dX8_sumOverOrders_12 : decode cX8_sumOverOrders 12 = .ok (.getfield 15, 3) := by decide +kernel
theorem dX8_sumOverOrders_15 : decode cX8_sumOverOrders 15 = .ok (.getfield 22, 3) := by decide +kernel
theorem dX8_sumOverOrders_18 : decode cX8_sumOverOrders 18 = .ok (.iload_n 1, 1) := by decide +kernel
theorem dX8_sumOverOrders_19 : decode cX8_sumOverOrders 19 = .ok (.invokevirtual 34, 3) := by decide +kernel
theorem dX8_sumOverOrders_22 : decode cX8_sumOverOrders 22 = .ok (.ifCond .ne 5, 3) := by decide +kernel
theorem dX8_sumOverOrders_25 : decode cX8_sumOverOrders 25 = .ok (.iconst 0, 1) := by decide +kernel
theorem dX8_sumOverOrders_26 : decode cX8_sumOverOrders 26 = .ok (.ireturn, 1) := by decide +kernel
theorem dX8_sumOverOrders_27 : decode cX8_sumOverOrders 27 = .ok (.aload_n 0, 1) := by decide +kernel
theorem dX8_sumOverOrders_28 : decode cX8_sumOverOrders 28 = .ok (.iload_n 2, 1) := by decide +kernel
theorem dX8_sumOverOrders_29 : decode cX8_sumOverOrders 29 = .ok (.invokevirtual 38, 3) := by decide +kernel
theorem dX8_sumOverOrders_32 : decode cX8_sumOverOrders 32 = .ok (.iconst 0, 1) := by decide +kernel
theorem dX8_sumOverOrders_33 : decode cX8_sumOverOrders 33 = .ok (.istore_n 3, 1) := by decide +kernel
theorem dX8_sumOverOrders_34 : decode cX8_sumOverOrders 34 = .ok (.iconst 0, 1) := by decide +kernel
theorem dX8_sumOverOrders_35 : decode cX8_sumOverOrders 35 = .ok (.istore 4, 2) := by decide +kernel
theorem dX8_sumOverOrders_37 : decode cX8_sumOverOrders 37 = .ok (.iload 4, 2) := by decide +kernel
theorem dX8_sumOverOrders_39 : decode cX8_sumOverOrders 39 = .ok (.iconst 1, 1) := by decide +kernel
theorem dX8_sumOverOrders_40 : decode cX8_sumOverOrders 40 = .ok (.iload_n 2, 1) := by decide +kernel
theorem dX8_sumOverOrders_41 : decode cX8_sumOverOrders 41 = .ok (.ishl, 1) := by decide +kernel
theorem dX8_sumOverOrders_42 : decode cX8_sumOverOrders 42 = .ok (.if_icmp .ge 69, 3) := by decide +kernel
theorem dX8_sumOverOrders_45 : decode cX8_sumOverOrders 45 = .ok (.iload 4, 2) := by decide +kernel
theorem dX8_sumOverOrders_47 : decode cX8_sumOverOrders 47 = .ok (.iload_n 1, 1) := by decide +kernel
theorem dX8_sumOverOrders_48 : decode cX8_sumOverOrders 48 = .ok (.ishr, 1) := by decide +kernel
theorem dX8_sumOverOrders_49 : decode cX8_sumOverOrders 49 = .ok (.iconst 1, 1) := by decide +kernel
theorem dX8_sumOverOrders_50 : decode cX8_sumOverOrders 50 = .ok (.iand, 1) := by decide +kernel
theorem dX8_sumOverOrders_51 : decode cX8_sumOverOrders 51 = .ok (.ifCond .ne 54, 3) := by decide +kernel
theorem dX8_sumOverOrders_54 : decode cX8_sumOverOrders 54 = .ok (.iload 4, 2) := by decide +kernel
theorem dX8_sumOverOrders_56 : decode cX8_sumOverOrders 56 = .ok (.invokestatic 42, 3) := by decide +kernel
theorem dX8_sumOverOrders_59 : decode cX8_sumOverOrders 59 = .ok (.istore 5, 2) := by decide +kernel
theorem dX8_sumOverOrders_61 : decode cX8_sumOverOrders 61 = .ok (.getstatic 48, 3) := by decide +kernel
theorem dX8_sumOverOrders_64 : decode cX8_sumOverOrders 64 = .ok (.iload 5, 2) := by decide +kernel
theorem dX8_sumOverOrders_66 : decode cX8_sumOverOrders 66 = .ok (.iaload, 1) := by decide +kernel
theorem dX8_sumOverOrders_67 : decode cX8_sumOverOrders 67 = .ok (.getstatic 48, 3) := by decide +kernel
theorem dX8_sumOverOrders_70 : decode cX8_sumOverOrders 70 = .ok (.iload_n 2, 1) := by decide +kernel
theorem dX8_sumOverOrders_71 : decode cX8_sumOverOrders 71 = .ok (.iconst 1, 1) := by decide +kernel
theorem dX8_sumOverOrders_72 : decode cX8_sumOverOrders 72 = .ok (.isub, 1) := by decide +kernel
theorem dX8_sumOverOrders_73 : decode cX8_sumOverOrders 73 = .ok (.iload 5, 2) := by decide +kernel
theorem dX8_sumOverOrders_75 : decode cX8_sumOverOrders 75 = .ok (.isub, 1) := by decide +kernel
theorem dX8_sumOverOrders_76 : decode cX8_sumOverOrders 76 = .ok (.iaload, 1) := by decide +kernel
theorem dX8_sumOverOrders_77 : decode cX8_sumOverOrders 77 = .ok (.imul, 1) := by decide +kernel
theorem dX8_sumOverOrders_78 : decode cX8_sumOverOrders 78 = .ok (.istore 6, 2) := by decide +kernel
theorem dX8_sumOverOrders_80 : decode cX8_sumOverOrders 80 = .ok (.iload_n 3, 1) := by decide +kernel
theorem dX8_sumOverOrders_81 : decode cX8_sumOverOrders 81 = .ok (.iload 6, 2) := by decide +kernel
theorem dX8_sumOverOrders_83 : decode cX8_sumOverOrders 83 = .ok (.aload_n 0, 1) := by decide +kernel
theorem dX8_sumOverOrders_84 : decode cX8_sumOverOrders 84 = .ok (.getfield 9, 3) := by decide +kernel
theorem dX8_sumOverOrders_87 : decode cX8_sumOverOrders 87 = .ok (.iload 4, 2) := by decide +kernel
theorem dX8_sumOverOrders_89 : decode cX8_sumOverOrders 89 = .ok (.iconst 1, 1) := by decide +kernel
theorem dX8_sumOverOrders_90 : decode cX8_sumOverOrders 90 = .ok (.iload_n 1, 1) := by decide +kernel
theorem dX8_sumOverOrders_91 : decode cX8_sumOverOrders 91 = .ok (.ishl, 1) := by decide +kernel
theorem dX8_sumOverOrders_92 : decode cX8_sumOverOrders 92 = .ok (.ior, 1) := by decide +kernel
theorem dX8_sumOverOrders_93 : decode cX8_sumOverOrders 93 = .ok (.iaload, 1) := by decide +kernel
theorem dX8_sumOverOrders_94 : decode cX8_sumOverOrders 94 = .ok (.aload_n 0, 1) := by decide +kernel
theorem dX8_sumOverOrders_95 : decode cX8_sumOverOrders 95 = .ok (.getfield 9, 3) := by decide +kernel
theorem dX8_sumOverOrders_98 : decode cX8_sumOverOrders 98 = .ok (.iload 4, 2) := by decide +kernel
theorem dX8_sumOverOrders_100 : decode cX8_sumOverOrders 100 = .ok (.iaload, 1) := by decide +kernel
theorem dX8_sumOverOrders_101 : decode cX8_sumOverOrders 101 = .ok (.isub, 1) := by decide +kernel
theorem dX8_sumOverOrders_102 : decode cX8_sumOverOrders 102 = .ok (.imul, 1) := by decide +kernel
theorem dX8_sumOverOrders_103 : decode cX8_sumOverOrders 103 = .ok (.iadd, 1) := by decide +kernel
theorem dX8_sumOverOrders_104 : decode cX8_sumOverOrders 104 = .ok (.istore_n 3, 1) := by decide +kernel
theorem dX8_sumOverOrders_105 : decode cX8_sumOverOrders 105 = .ok (.iinc 4 1, 3) := by decide +kernel
theorem dX8_sumOverOrders_108 : decode cX8_sumOverOrders 108 = .ok (.goto (-71), 3) := by decide +kernel
theorem dX8_sumOverOrders_111 : decode cX8_sumOverOrders 111 = .ok (.iload_n 3, 1) := by decide +kernel
theorem dX8_sumOverOrders_112 : decode cX8_sumOverOrders 112 = .ok (.ireturn, 1) := by decide +kernel
theorem dX8_weighAllSets_0 : decode cX8_weighAllSets 0 = .ok (.iconst 0, 1) := by decide +kernel
theorem dX8_weighAllSets_1 : decode cX8_weighAllSets 1 = .ok (.istore_n 2, 1) := by decide +kernel
theorem dX8_weighAllSets_2 : decode cX8_weighAllSets 2 = .ok (.iload_n 2, 1) := by decide +kernel
theorem dX8_weighAllSets_3 : decode cX8_weighAllSets 3 = .ok (.iconst 1, 1) := by decide +kernel
theorem dX8_weighAllSets_4 : decode cX8_weighAllSets 4 = .ok (.iload_n 1, 1) := by decide +kernel
theorem dX8_weighAllSets_5 : decode cX8_weighAllSets 5 = .ok (.ishl, 1) := by decide +kernel
theorem dX8_weighAllSets_6 : decode cX8_weighAllSets 6 = .ok (.if_icmp .ge 53, 3) := by decide +kernel
theorem dX8_weighAllSets_9 : decode cX8_weighAllSets 9 = .ok (.aload_n 0, 1) := by decide +kernel
theorem dX8_weighAllSets_10 : decode cX8_weighAllSets 10 = .ok (.getfield 19, 3) := by decide +kernel
theorem dX8_weighAllSets_13 : decode cX8_weighAllSets 13 = .ok (.aload_n 0, 1) := by decide +kernel
theorem dX8_weighAllSets_14 : decode cX8_weighAllSets 14 = .ok (.getfield 15, 3) := by decide +kernel
theorem dX8_weighAllSets_17 : decode cX8_weighAllSets 17 = .ok (.invokevirtual 51, 3) := by decide +kernel
theorem dX8_weighAllSets_20 : decode cX8_weighAllSets 20 = .ok (.aload_n 0, 1) := by decide +kernel
theorem dX8_weighAllSets_21 : decode cX8_weighAllSets 21 = .ok (.getfield 19, 3) := by decide +kernel
theorem dX8_weighAllSets_24 : decode cX8_weighAllSets 24 = .ok (.iload_n 2, 1) := by decide +kernel
theorem dX8_weighAllSets_25 : decode cX8_weighAllSets 25 = .ok (.invokevirtual 55, 3) := by decide +kernel
theorem dX8_weighAllSets_28 : decode cX8_weighAllSets 28 = .ok (.aload_n 0, 1) := by decide +kernel
theorem dX8_weighAllSets_29 : decode cX8_weighAllSets 29 = .ok (.getfield 19, 3) := by decide +kernel
theorem dX8_weighAllSets_32 : decode cX8_weighAllSets 32 = .ok (.bipush 30, 2) := by decide +kernel
theorem dX8_weighAllSets_34 : decode cX8_weighAllSets 34 = .ok (.invokevirtual 58, 3) := by decide +kernel
theorem dX8_weighAllSets_37 : decode cX8_weighAllSets 37 = .ok (.aload_n 0, 1) := by decide +kernel
theorem dX8_weighAllSets_38 : decode cX8_weighAllSets 38 = .ok (.getfield 9, 3) := by decide +kernel
theorem dX8_weighAllSets_41 : decode cX8_weighAllSets 41 = .ok (.iload_n 2, 1) := by decide +kernel
theorem dX8_weighAllSets_42 : decode cX8_weighAllSets 42 = .ok (.aload_n 0, 1) := by decide +kernel
theorem dX8_weighAllSets_43 : decode cX8_weighAllSets 43 = .ok (.getfield 19, 3) := by decide +kernel
theorem dX8_weighAllSets_46 : decode cX8_weighAllSets 46 = .ok (.invokevirtual 61, 3) := by decide +kernel
theorem dX8_weighAllSets_49 : decode cX8_weighAllSets 49 = .ok (.invokestatic 42, 3) := by decide +kernel
theorem dX8_weighAllSets_52 : decode cX8_weighAllSets 52 = .ok (.iastore, 1) := by decide +kernel
theorem dX8_weighAllSets_53 : decode cX8_weighAllSets 53 = .ok (.iinc 2 1, 3) := by decide +kernel
theorem dX8_weighAllSets_56 : decode cX8_weighAllSets 56 = .ok (.goto (-54), 3) := by decide +kernel
theorem dX8_weighAllSets_59 : decode cX8_weighAllSets 59 = .ok (.return_, 1) := by decide +kernel
theorem dX9_init_0 : decode cX9_init 0 = .ok (.aload_n 0, 1) := by decide +kernel
theorem dX9_init_1 : decode cX9_init 1 = .ok (.invokespecial 3, 3) := by decide +kernel
theorem dX9_init_4 : decode cX9_init 4 = .ok (.aload_n 0, 1) := by decide +kernel
theorem dX9_init_5 : decode cX9_init 5 = .ok (.iconst 5, 1) := by decide +kernel
theorem dX9_init_6 : decode cX9_init 6 = .ok (.newarray .int, 2) := by decide +kernel
theorem dX9_init_8 : decode cX9_init 8 = .ok (.putfield 9, 3) := by decide +kernel
theorem dX9_init_11 : decode cX9_init 11 = .ok (.aload_n 0, 1) := by decide +kernel
theorem dX9_init_12 : decode cX9_init 12 = .ok (.aload_n 1, 1) := by decide +kernel
theorem dX9_init_13 : decode cX9_init 13 = .ok (.putfield 15, 3) := by decide +kernel
theorem dX9_init_16 : decode cX9_init 16 = .ok (.return_, 1) := by decide +kernel
theorem dX9_tryAllOrders_0 : decode cX9_tryAllOrders 0 = .ok (.aload_n 0, 1) := by decide +kernel
theorem dX9_tryAllOrders_1 : decode cX9_tryAllOrders 1 = .ok (.bipush (-9), 2) := by decide +kernel
theorem dX9_tryAllOrders_3 : decode cX9_tryAllOrders 3 = .ok (.putfield 19, 3) := by decide +kernel
theorem dX9_tryAllOrders_6 : decode cX9_tryAllOrders 6 = .ok (.aload_n 0, 1) := by decide +kernel
theorem dX9_tryAllOrders_7 : decode cX9_tryAllOrders 7 = .ok (.bipush (-9), 2) := by decide +kernel
theorem dX9_tryAllOrders_9 : decode cX9_tryAllOrders 9 = .ok (.putfield 23, 3) := by decide +kernel
theorem dX9_tryAllOrders_12 : decode cX9_tryAllOrders 12 = .ok (.getstatic 26, 3) := by decide +kernel
theorem dX9_tryAllOrders_15 : decode cX9_tryAllOrders 15 = .ok (.aload_n 0, 1) := by decide +kernel
theorem dX9_tryAllOrders_16 : decode cX9_tryAllOrders 16 = .ok (.getfield 15, 3) := by decide +kernel
theorem dX9_tryAllOrders_19 : decode cX9_tryAllOrders 19 = .ok (.getfield 29, 3) := by decide +kernel
theorem dX9_tryAllOrders_22 : decode cX9_tryAllOrders 22 = .ok (.getfield 35, 3) := by decide +kernel
theorem dX9_tryAllOrders_25 : decode cX9_tryAllOrders 25 = .ok (.iaload, 1) := by decide +kernel
theorem dX9_tryAllOrders_26 : decode cX9_tryAllOrders 26 = .ok (.istore_n 1, 1) := by decide +kernel
theorem dX9_tryAllOrders_27 : decode cX9_tryAllOrders 27 = .ok (.iconst 0, 1) := by decide +kernel
theorem dX9_tryAllOrders_28 : decode cX9_tryAllOrders 28 = .ok (.istore_n 2, 1) := by decide +kernel
theorem dX9_tryAllOrders_29 : decode cX9_tryAllOrders 29 = .ok (.iload_n 2, 1) := by decide +kernel
theorem dX9_tryAllOrders_30 : decode cX9_tryAllOrders 30 = .ok (.iload_n 1, 1) := by decide +kernel
theorem dX9_tryAllOrders_31 : decode cX9_tryAllOrders 31 = .ok (.if_icmp .ge 58, 3) := by decide +kernel
theorem dX9_tryAllOrders_34 : decode cX9_tryAllOrders 34 = .ok (.aload_n 0, 1) := by decide +kernel
theorem dX9_tryAllOrders_35 : decode cX9_tryAllOrders 35 = .ok (.iload_n 2, 1) := by decide +kernel
theorem dX9_tryAllOrders_36 : decode cX9_tryAllOrders 36 = .ok (.invokevirtual 40, 3) := by decide +kernel
theorem dX9_tryAllOrders_39 : decode cX9_tryAllOrders 39 = .ok (.istore_n 3, 1) := by decide +kernel
theorem dX9_tryAllOrders_40 : decode cX9_tryAllOrders 40 = .ok (.aload_n 0, 1) := by decide +kernel
theorem dX9_tryAllOrders_41 : decode cX9_tryAllOrders 41 = .ok (.invokevirtual 44, 3) := by decide +kernel
theorem dX9_tryAllOrders_44 : decode cX9_tryAllOrders 44 = .ok (.istore 4, 2) := by decide +kernel
theorem dX9_tryAllOrders_46 : decode cX9_tryAllOrders 46 = .ok (.iload 4, 2) := by decide +kernel
theorem dX9_tryAllOrders_48 : decode cX9_tryAllOrders 48 = .ok (.aload_n 0, 1) := by decide +kernel
theorem dX9_tryAllOrders_49 : decode cX9_tryAllOrders 49 = .ok (.getfield 19, 3) := by decide +kernel
theorem dX9_tryAllOrders_52 : decode cX9_tryAllOrders 52 = .ok (.if_icmp .gt 20, 3) := by decide +kernel
theorem dX9_tryAllOrders_55 : decode cX9_tryAllOrders 55 = .ok (.iload 4, 2) := by decide +kernel
theorem dX9_tryAllOrders_57 : decode cX9_tryAllOrders 57 = .ok (.aload_n 0, 1) := by decide +kernel
theorem dX9_tryAllOrders_58 : decode cX9_tryAllOrders 58 = .ok (.getfield 19, 3) := by decide +kernel
theorem dX9_tryAllOrders_61 : decode cX9_tryAllOrders 61 = .ok (.if_icmp .ne 22, 3) := by decide +kernel
theorem dX9_tryAllOrders_64 : decode cX9_tryAllOrders 64 = .ok (.iload_n 3, 1) := by decide +kernel
theorem dX9_tryAllOrders_65 : decode cX9_tryAllOrders 65 = .ok (.aload_n 0, 1) := by decide +kernel
theorem dX9_tryAllOrders_66 : decode cX9_tryAllOrders 66 = .ok (.getfield 23, 3) := by decide +kernel
theorem dX9_tryAllOrders_69 : decode cX9_tryAllOrders 69 = .ok (.if_icmp .ge 14, 3) := by decide +kernel
theorem dX9_tryAllOrders_72 : decode cX9_tryAllOrders 72 = .ok (.aload_n 0, 1) := by decide +kernel
theorem dX9_tryAllOrders_73 : decode cX9_tryAllOrders 73 = .ok (.iload 4, 2) := by decide +kernel
theorem dX9_tryAllOrders_75 : decode cX9_tryAllOrders 75 = .ok (.putfield 19, 3) := by decide +kernel
theorem dX9_tryAllOrders_78 : decode cX9_tryAllOrders 78 = .ok (.aload_n 0, 1) := by decide +kernel
theorem dX9_tryAllOrders_79 : decode cX9_tryAllOrders 79 = .ok (.iload_n 3, 1) := by decide +kernel
theorem dX9_tryAllOrders_80 : decode cX9_tryAllOrders 80 = .ok (.putfield 23, 3) := by decide +kernel
theorem dX9_tryAllOrders_83 : decode cX9_tryAllOrders 83 = .ok (.iinc 2 1, 3) := by decide +kernel
theorem dX9_tryAllOrders_86 : decode cX9_tryAllOrders 86 = .ok (.goto (-57), 3) := by decide +kernel
theorem dX9_tryAllOrders_89 : decode cX9_tryAllOrders 89 = .ok (.return_, 1) := by decide +kernel
theorem dX9_layOut_0 : decode cX9_layOut 0 = .ok (.aload_n 0, 1) := by decide +kernel
theorem dX9_layOut_1 : decode cX9_layOut 1 = .ok (.getfield 15, 3) := by decide +kernel
theorem dX9_layOut_4 : decode cX9_layOut 4 = .ok (.getfield 29, 3) := by decide +kernel
theorem dX9_layOut_7 : decode cX9_layOut 7 = .ok (.getfield 35, 3) := by decide +kernel
theorem dX9_layOut_10 : decode cX9_layOut 10 = .ok (.istore_n 2, 1) := by decide +kernel
theorem dX9_layOut_11 : decode cX9_layOut 11 = .ok (.iconst 0, 1) := by decide +kernel
theorem dX9_layOut_12 : decode cX9_layOut 12 = .ok (.istore_n 3, 1) := by decide +kernel
theorem dX9_layOut_13 : decode cX9_layOut 13 = .ok (.iload_n 3, 1) := by decide +kernel
theorem dX9_layOut_14 : decode cX9_layOut 14 = .ok (.iload_n 2, 1) := by decide +kernel
theorem dX9_layOut_15 : decode cX9_layOut 15 = .ok (.if_icmp .ge 27, 3) := by decide +kernel
theorem dX9_layOut_18 : decode cX9_layOut 18 = .ok (.aload_n 0, 1) := by decide +kernel
theorem dX9_layOut_19 : decode cX9_layOut 19 = .ok (.getfield 9, 3) := by decide +kernel
theorem dX9_layOut_22 : decode cX9_layOut 22 = .ok (.iload_n 3, 1) := by decide +kernel
theorem dX9_layOut_23 : decode cX9_layOut 23 = .ok (.aload_n 0, 1) := by decide +kernel
theorem dX9_layOut_24 : decode cX9_layOut 24 = .ok (.getfield 15, 3) := by decide +kernel
theorem dX9_layOut_27 : decode cX9_layOut 27 = .ok (.getfield 48, 3) := by decide +kernel
theorem dX9_layOut_30 : decode cX9_layOut 30 = .ok (.iload_n 3, 1) := by decide +kernel
theorem dX9_layOut_31 : decode cX9_layOut 31 = .ok (.aaload, 1) := by decide +kernel
theorem dX9_layOut_32 : decode cX9_layOut 32 = .ok (.getfield 51, 3) := by decide +kernel
theorem dX9_layOut_35 : decode cX9_layOut 35 = .ok (.iastore, 1) := by decide +kernel
theorem dX9_layOut_36 : decode cX9_layOut 36 = .ok (.iinc 3 1, 3) := by decide +kernel
theorem dX9_layOut_39 : decode cX9_layOut 39 = .ok (.goto (-26), 3) := by decide +kernel
theorem dX9_layOut_42 : decode cX9_layOut 42 = .ok (.iload_n 1, 1) := by decide +kernel
theorem dX9_layOut_43 : decode cX9_layOut 43 = .ok (.istore_n 3, 1) := by decide +kernel
theorem dX9_layOut_44 : decode cX9_layOut 44 = .ok (.iconst 0, 1) := by decide +kernel
theorem dX9_layOut_45 : decode cX9_layOut 45 = .ok (.istore 4, 2) := by decide +kernel
theorem dX9_layOut_47 : decode cX9_layOut 47 = .ok (.iconst 0, 1) := by decide +kernel
theorem dX9_layOut_48 : decode cX9_layOut 48 = .ok (.istore 5, 2) := by decide +kernel
theorem dX9_layOut_50 : decode cX9_layOut 50 = .ok (.iload 5, 2) := by decide +kernel
theorem dX9_layOut_52 : decode cX9_layOut 52 = .ok (.iload_n 2, 1) := by decide +kernel
theorem dX9_layOut_53 : decode cX9_layOut 53 = .ok (.if_icmp .ge 69, 3) := by decide +kernel
theorem dX9_layOut_56 : decode cX9_layOut 56 = .ok (.iload 5, 2) := by decide +kernel
theorem dX9_layOut_58 : decode cX9_layOut 58 = .ok (.iload_n 3, 1) := by decide +kernel
theorem dX9_layOut_59 : decode cX9_layOut 59 = .ok (.iload_n 2, 1) := by decide +kernel
theorem dX9_layOut_60 : decode cX9_layOut 60 = .ok (.iload 5, 2) := by decide +kernel
theorem dX9_layOut_62 : decode cX9_layOut 62 = .ok (.isub, 1) := by decide +kernel
theorem dX9_layOut_63 : decode cX9_layOut 63 = .ok (.irem, 1) := by decide +kernel
theorem dX9_layOut_64 : decode cX9_layOut 64 = .ok (.iadd, 1) := by decide +kernel
theorem dX9_layOut_65 : decode cX9_layOut 65 = .ok (.istore 6, 2) := by decide +kernel
theorem dX9_layOut_67 : decode cX9_layOut 67 = .ok (.iload_n 3, 1) := by decide +kernel
theorem dX9_layOut_68 : decode cX9_layOut 68 = .ok (.iload_n 2, 1) := by decide +kernel
theorem dX9_layOut_69 : decode cX9_layOut 69 = .ok (.iload 5, 2) := by decide +kernel
theorem dX9_layOut_71 : decode cX9_layOut 71 = .ok (.isub, 1) := by decide +kernel
theorem dX9_layOut_72 : decode cX9_layOut 72 = .ok (.idiv, 1) := by decide +kernel
theorem dX9_layOut_73 : decode cX9_layOut 73 = .ok (.istore_n 3, 1) := by decide +kernel
theorem dX9_layOut_74 : decode cX9_layOut 74 = .ok (.iload 6, 2) := by decide +kernel
theorem dX9_layOut_76 : decode cX9_layOut 76 = .ok (.iload 5, 2) := by decide +kernel
theorem dX9_layOut_78 : decode cX9_layOut 78 = .ok (.if_icmp .eq 38, 3) := by decide +kernel
theorem dX9_layOut_81 : decode cX9_layOut 81 = .ok (.aload_n 0, 1) := by decide +kernel
theorem dX9_layOut_82 : decode cX9_layOut 82 = .ok (.getfield 9, 3) := by decide +kernel
theorem dX9_layOut_85 : decode cX9_layOut 85 = .ok (.iload 5, 2) := by decide +kernel
theorem dX9_layOut_87 : decode cX9_layOut 87 = .ok (.iaload, 1) := by decide +kernel
theorem dX9_layOut_88 : decode cX9_layOut 88 = .ok (.istore 7, 2) := by decide +kernel
theorem dX9_layOut_90 : decode cX9_layOut 90 = .ok (.aload_n 0, 1) := by decide +kernel
theorem dX9_layOut_91 : decode cX9_layOut 91 = .ok (.getfield 9, 3) := by decide +kernel
theorem dX9_layOut_94 : decode cX9_layOut 94 = .ok (.iload 5, 2) := by decide +kernel
theorem dX9_layOut_96 : decode cX9_layOut 96 = .ok (.aload_n 0, 1) := by decide +kernel
theorem dX9_layOut_97 : decode cX9_layOut 97 = .ok (.getfield 9, 3) := by decide +kernel
theorem dX9_layOut_100 : decode cX9_layOut 100 = .ok (.iload 6, 2) := by decide +kernel
theorem dX9_layOut_102 : decode cX9_layOut 102 = .ok (.iaload, 1) := by decide +kernel
theorem dX9_layOut_103 : decode cX9_layOut 103 = .ok (.iastore, 1) := by decide +kernel
theorem dX9_layOut_104 : decode cX9_layOut 104 = .ok (.aload_n 0, 1) := by decide +kernel
theorem dX9_layOut_105 : decode cX9_layOut 105 = .ok (.getfield 9, 3) := by decide +kernel
theorem dX9_layOut_108 : decode cX9_layOut 108 = .ok (.iload 6, 2) := by decide +kernel
theorem dX9_layOut_110 : decode cX9_layOut 110 = .ok (.iload 7, 2) := by decide +kernel
theorem dX9_layOut_112 : decode cX9_layOut 112 = .ok (.iastore, 1) := by decide +kernel
theorem dX9_layOut_113 : decode cX9_layOut 113 = .ok (.iinc 4 1, 3) := by decide +kernel
theorem dX9_layOut_116 : decode cX9_layOut 116 = .ok (.iinc 5 1, 3) := by decide +kernel
theorem dX9_layOut_119 : decode cX9_layOut 119 = .ok (.goto (-69), 3) := by decide +kernel
theorem dX9_layOut_122 : decode cX9_layOut 122 = .ok (.iload 4, 2) := by decide +kernel
theorem dX9_layOut_124 : decode cX9_layOut 124 = .ok (.ireturn, 1) := by decide +kernel
theorem dX9_gladByOrder_0 : decode cX9_gladByOrder 0 = .ok (.iconst 0, 1) := by decide +kernel
theorem dX9_gladByOrder_1 : decode cX9_gladByOrder 1 = .ok (.istore_n 1, 1) := by decide +kernel
theorem dX9_gladByOrder_2 : decode cX9_gladByOrder 2 = .ok (.iconst 0, 1) := by decide +kernel
theorem dX9_gladByOrder_3 : decode cX9_gladByOrder 3 = .ok (.istore_n 2, 1) := by decide +kernel
theorem dX9_gladByOrder_4 : decode cX9_gladByOrder 4 = .ok (.iload_n 2, 1) := by decide +kernel
theorem dX9_gladByOrder_5 : decode cX9_gladByOrder 5 = .ok (.aload_n 0, 1) := by decide +kernel
theorem dX9_gladByOrder_6 : decode cX9_gladByOrder 6 = .ok (.getfield 15, 3) := by decide +kernel
theorem dX9_gladByOrder_9 : decode cX9_gladByOrder 9 = .ok (.getfield 29, 3) := by decide +kernel
theorem dX9_gladByOrder_12 : decode cX9_gladByOrder 12 = .ok (.getfield 35, 3) := by decide +kernel
theorem dX9_gladByOrder_15 : decode cX9_gladByOrder 15 = .ok (.if_icmp .ge 29, 3) := by decide +kernel
theorem dX9_gladByOrder_18 : decode cX9_gladByOrder 18 = .ok (.aload_n 0, 1) := by decide +kernel
theorem dX9_gladByOrder_19 : decode cX9_gladByOrder 19 = .ok (.getfield 15, 3) := by decide +kernel
theorem dX9_gladByOrder_22 : decode cX9_gladByOrder 22 = .ok (.iload_n 2, 1) := by decide +kernel
theorem dX9_gladByOrder_23 : decode cX9_gladByOrder 23 = .ok (.aload_n 0, 1) := by decide +kernel
theorem dX9_gladByOrder_24 : decode cX9_gladByOrder 24 = .ok (.getfield 9, 3) := by decide +kernel
theorem dX9_gladByOrder_27 : decode cX9_gladByOrder 27 = .ok (.iload_n 2, 1) := by decide +kernel
theorem dX9_gladByOrder_28 : decode cX9_gladByOrder 28 = .ok (.iaload, 1) := by decide +kernel
theorem dX9_gladByOrder_29 : decode cX9_gladByOrder 29 = .ok (.invokevirtual 56, 3) := by decide +kernel
theorem dX9_gladByOrder_32 : decode cX9_gladByOrder 32 = .ok (.ifCond .eq 6, 3) := by decide +kernel
theorem dX9_gladByOrder_35 : decode cX9_gladByOrder 35 = .ok (.iinc 1 1, 3) := by decide +kernel
theorem dX9_gladByOrder_38 : decode cX9_gladByOrder 38 = .ok (.iinc 2 1, 3) := by decide +kernel
theorem dX9_gladByOrder_41 : decode cX9_gladByOrder 41 = .ok (.goto (-37), 3) := by decide +kernel
theorem dX9_gladByOrder_44 : decode cX9_gladByOrder 44 = .ok (.iload_n 1, 1) := by decide +kernel
theorem dX9_gladByOrder_45 : decode cX9_gladByOrder 45 = .ok (.ireturn, 1) := by decide +kernel
theorem dX10_init_0 : decode cX10_init 0 = .ok (.aload_n 0, 1) := by decide +kernel
theorem dX10_init_1 : decode cX10_init 1 = .ok (.invokespecial 3, 3) := by decide +kernel
theorem dX10_init_4 : decode cX10_init 4 = .ok (.aload_n 0, 1) := by decide +kernel
theorem dX10_init_5 : decode cX10_init 5 = .ok (.iconst 5, 1) := by decide +kernel
theorem dX10_init_6 : decode cX10_init 6 = .ok (.anewarray 9, 3) := by decide +kernel
theorem dX10_init_9 : decode cX10_init 9 = .ok (.putfield 11, 3) := by decide +kernel
theorem dX10_init_12 : decode cX10_init 12 = .ok (.aload_n 0, 1) := by decide +kernel
theorem dX10_init_13 : decode cX10_init 13 = .ok (.iconst (-1), 1) := by decide +kernel
theorem dX10_init_14 : decode cX10_init 14 = .ok (.putfield 17, 3) := by decide +kernel
theorem dX10_init_17 : decode cX10_init 17 = .ok (.aload_n 0, 1) := by decide +kernel
theorem dX10_init_18 : decode cX10_init 18 = .ok (.aload_n 1, 1) := by decide +kernel
theorem dX10_init_19 : decode cX10_init 19 = .ok (.putfield 21, 3) := by decide +kernel
theorem dX10_init_22 : decode cX10_init 22 = .ok (.iconst 0, 1) := by decide +kernel
theorem dX10_init_23 : decode cX10_init 23 = .ok (.istore_n 2, 1) := by decide +kernel
theorem dX10_init_24 : decode cX10_init 24 = .ok (.iload_n 2, 1) := by decide +kernel
theorem dX10_init_25 : decode cX10_init 25 = .ok (.iconst 5, 1) := by decide +kernel
theorem dX10_init_26 : decode cX10_init 26 = .ok (.if_icmp .ge 22, 3) := by decide +kernel
theorem dX10_init_29 : decode cX10_init 29 = .ok (.aload_n 0, 1) := by decide +kernel
theorem dX10_init_30 : decode cX10_init 30 = .ok (.getfield 11, 3) := by decide +kernel
theorem dX10_init_33 : decode cX10_init 33 = .ok (.iload_n 2, 1) := by decide +kernel
theorem dX10_init_34 : decode cX10_init 34 = .ok (.new 9, 3) := by decide +kernel
theorem dX10_init_37 : decode cX10_init 37 = .ok (.dup, 1) := by decide +kernel
theorem dX10_init_38 : decode cX10_init 38 = .ok (.invokespecial 25, 3) := by decide +kernel
theorem dX10_init_41 : decode cX10_init 41 = .ok (.aastore, 1) := by decide +kernel
theorem dX10_init_42 : decode cX10_init 42 = .ok (.iinc 2 1, 3) := by decide +kernel
theorem dX10_init_45 : decode cX10_init 45 = .ok (.goto (-21), 3) := by decide +kernel
theorem dX10_init_48 : decode cX10_init 48 = .ok (.return_, 1) := by decide +kernel
theorem dX10_begin_0 : decode cX10_begin 0 = .ok (.aload_n 0, 1) := by decide +kernel
theorem dX10_begin_1 : decode cX10_begin 1 = .ok (.iconst 0, 1) := by decide +kernel
theorem dX10_begin_2 : decode cX10_begin 2 = .ok (.putfield 26, 3) := by decide +kernel
theorem dX10_begin_5 : decode cX10_begin 5 = .ok (.aload_n 0, 1) := by decide +kernel
theorem dX10_begin_6 : decode cX10_begin 6 = .ok (.iconst (-1), 1) := by decide +kernel
theorem dX10_begin_7 : decode cX10_begin 7 = .ok (.putfield 17, 3) := by decide +kernel
theorem dX10_begin_10 : decode cX10_begin 10 = .ok (.iconst 0, 1) := by decide +kernel
theorem dX10_begin_11 : decode cX10_begin 11 = .ok (.istore_n 1, 1) := by decide +kernel
theorem dX10_begin_12 : decode cX10_begin 12 = .ok (.iload_n 1, 1) := by decide +kernel
theorem dX10_begin_13 : decode cX10_begin 13 = .ok (.aload_n 0, 1) := by decide +kernel
theorem dX10_begin_14 : decode cX10_begin 14 = .ok (.getfield 21, 3) := by decide +kernel
theorem dX10_begin_17 : decode cX10_begin 17 = .ok (.getfield 29, 3) := by decide +kernel
theorem dX10_begin_20 : decode cX10_begin 20 = .ok (.if_icmp .ge 37, 3) := by decide +kernel
theorem dX10_begin_23 : decode cX10_begin 23 = .ok (.aload_n 0, 1) := by decide +kernel
theorem dX10_begin_24 : decode cX10_begin 24 = .ok (.getfield 11, 3) := by decide +kernel
theorem dX10_begin_27 : decode cX10_begin 27 = .ok (.iload_n 1, 1) := by decide +kernel
theorem dX10_begin_28 : decode cX10_begin 28 = .ok (.aaload, 1) := by decide +kernel
theorem dX10_begin_29 : decode cX10_begin 29 = .ok (.aload_n 0, 1) := by decide +kernel
theorem dX10_begin_30 : decode cX10_begin 30 = .ok (.getfield 21, 3) := by decide +kernel
theorem dX10_begin_33 : decode cX10_begin 33 = .ok (.getfield 33, 3) := by decide +kernel
theorem dX10_begin_36 : decode cX10_begin 36 = .ok (.iload_n 1, 1) := by decide +kernel
theorem dX10_begin_37 : decode cX10_begin 37 = .ok (.iaload, 1) := by decide +kernel
theorem dX10_begin_38 : decode cX10_begin 38 = .ok (.aload_n 0, 1) := by decide +kernel
theorem dX10_begin_39 : decode cX10_begin 39 = .ok (.getfield 21, 3) := by decide +kernel
theorem dX10_begin_42 : decode cX10_begin 42 = .ok (.getfield 37, 3) := by decide +kernel
theorem dX10_begin_45 : decode cX10_begin 45 = .ok (.iload_n 1, 1) := by decide +kernel
theorem dX10_begin_46 : decode cX10_begin 46 = .ok (.iaload, 1) := by decide +kernel
theorem dX10_begin_47 : decode cX10_begin 47 = .ok (.iload_n 1, 1) := by decide +kernel
theorem dX10_begin_48 : decode cX10_begin 48 = .ok (.invokevirtual 40, 3) := by decide +kernel
theorem dX10_begin_51 : decode cX10_begin 51 = .ok (.iinc 1 1, 3) := by decide +kernel
theorem dX10_begin_54 : decode cX10_begin 54 = .ok (.goto (-42), 3) := by decide +kernel
theorem dX10_begin_57 : decode cX10_begin 57 = .ok (.return_, 1) := by decide +kernel
theorem dX10_takeFrom_0 : decode cX10_takeFrom 0 = .ok (.aload_n 0, 1) := by decide +kernel
theorem dX10_takeFrom_1 : decode cX10_takeFrom 1 = .ok (.aload_n 1, 1) := by decide +kernel
theorem dX10_takeFrom_2 : decode cX10_takeFrom 2 = .ok (.getfield 26, 3) := by decide +kernel
theorem dX10_takeFrom_5 : decode cX10_takeFrom 5 = .ok (.putfield 26, 3) := by decide +kernel
theorem dX10_takeFrom_8 : decode cX10_takeFrom 8 = .ok (.aload_n 0, 1) := by decide +kernel
theorem dX10_takeFrom_9 : decode cX10_takeFrom 9 = .ok (.aload_n 1, 1) := by decide +kernel
theorem dX10_takeFrom_10 : decode cX10_takeFrom 10 = .ok (.getfield 17, 3) := by decide +kernel
theorem dX10_takeFrom_13 : decode cX10_takeFrom 13 = .ok (.putfield 17, 3) := by decide +kernel
theorem dX10_takeFrom_16 : decode cX10_takeFrom 16 = .ok (.iconst 0, 1) := by decide +kernel
theorem dX10_takeFrom_17 : decode cX10_takeFrom 17 = .ok (.istore_n 2, 1) := by decide +kernel
theorem dX10_takeFrom_18 : decode cX10_takeFrom 18 = .ok (.iload_n 2, 1) := by decide +kernel
theorem dX10_takeFrom_19 : decode cX10_takeFrom 19 = .ok (.aload_n 0, 1) := by decide +kernel
theorem dX10_takeFrom_20 : decode cX10_takeFrom 20 = .ok (.getfield 21, 3) := by decide +kernel
theorem dX10_takeFrom_23 : decode cX10_takeFrom 23 = .ok (.getfield 29, 3) := by decide +kernel
theorem dX10_takeFrom_26 : decode cX10_takeFrom 26 = .ok (.if_icmp .ge 24, 3) := by decide +kernel
theorem dX10_takeFrom_29 : decode cX10_takeFrom 29 = .ok (.aload_n 0, 1) := by decide +kernel
theorem dX10_takeFrom_30 : decode cX10_takeFrom 30 = .ok (.getfield 11, 3) := by decide +kernel
theorem dX10_takeFrom_33 : decode cX10_takeFrom 33 = .ok (.iload_n 2, 1) := by decide +kernel
theorem dX10_takeFrom_34 : decode cX10_takeFrom 34 = .ok (.aaload, 1) := by decide +kernel
theorem dX10_takeFrom_35 : decode cX10_takeFrom 35 = .ok (.aload_n 1, 1) := by decide +kernel
theorem dX10_takeFrom_36 : decode cX10_takeFrom 36 = .ok (.getfield 11, 3) := by decide +kernel
theorem dX10_takeFrom_39 : decode cX10_takeFrom 39 = .ok (.iload_n 2, 1) := by decide +kernel
theorem dX10_takeFrom_40 : decode cX10_takeFrom 40 = .ok (.aaload, 1) := by decide +kernel
theorem dX10_takeFrom_41 : decode cX10_takeFrom 41 = .ok (.invokevirtual 44, 3) := by decide +kernel
theorem dX10_takeFrom_44 : decode cX10_takeFrom 44 = .ok (.iinc 2 1, 3) := by decide +kernel
theorem dX10_takeFrom_47 : decode cX10_takeFrom 47 = .ok (.goto (-29), 3) := by decide +kernel
theorem dX10_takeFrom_50 : decode cX10_takeFrom 50 = .ok (.return_, 1) := by decide +kernel
theorem dX10_hasBalloon_0 : decode cX10_hasBalloon 0 = .ok (.iload_n 1, 1) := by decide +kernel
theorem dX10_hasBalloon_1 : decode cX10_hasBalloon 1 = .ok (.ifCond .lt 18, 3) := by decide +kernel
theorem dX10_hasBalloon_4 : decode cX10_hasBalloon 4 = .ok (.iload_n 1, 1) := by decide +kernel
theorem dX10_hasBalloon_5 : decode cX10_hasBalloon 5 = .ok (.aload_n 0, 1) := by decide +kernel
theorem dX10_hasBalloon_6 : decode cX10_hasBalloon 6 = .ok (.getfield 21, 3) := by decide +kernel
theorem dX10_hasBalloon_9 : decode cX10_hasBalloon 9 = .ok (.getfield 29, 3) := by decide +kernel
theorem dX10_hasBalloon_12 : decode cX10_hasBalloon 12 = .ok (.if_icmp .ge 7, 3) := by decide +kernel
theorem dX10_hasBalloon_15 : decode cX10_hasBalloon 15 = .ok (.iconst 1, 1) := by decide +kernel
theorem dX10_hasBalloon_16 : decode cX10_hasBalloon 16 = .ok (.goto 4, 3) := by decide +kernel
theorem dX10_hasBalloon_19 : decode cX10_hasBalloon 19 = .ok (.iconst 0, 1) := by decide +kernel
theorem dX10_hasBalloon_20 : decode cX10_hasBalloon 20 = .ok (.ireturn, 1) := by decide +kernel
theorem dX10_is_0 : decode cX10_is 0 = .ok (.aload_n 0, 1) := by decide +kernel
theorem dX10_is_1 : decode cX10_is 1 = .ok (.iload_n 1, 1) := by decide +kernel
theorem dX10_is_2 : decode cX10_is 2 = .ok (.invokevirtual 48, 3) := by decide +kernel
theorem dX10_is_5 : decode cX10_is 5 = .ok (.ifCond .eq 20, 3) := by decide +kernel
theorem dX10_is_8 : decode cX10_is 8 = .ok (.aload_n 0, 1) := by decide +kernel
theorem dX10_is_9 : decode cX10_is 9 = .ok (.getfield 11, 3) := by decide +kernel
theorem dX10_is_12 : decode cX10_is 12 = .ok (.iload_n 1, 1) := by decide +kernel
theorem dX10_is_13 : decode cX10_is 13 = .ok (.aaload, 1) := by decide +kernel
theorem dX10_is_14 : decode cX10_is 14 = .ok (.getfield 52, 3) := by decide +kernel
theorem dX10_is_17 : decode cX10_is 17 = .ok (.iload_n 2, 1) := by decide +kernel
theorem dX10_is_18 : decode cX10_is 18 = .ok (.if_icmp .ne 7, 3) := by decide +kernel
theorem dX10_is_21 : decode cX10_is 21 = .ok (.iconst 1, 1) := by decide +kernel
theorem dX10_is_22 : decode cX10_is 22 = .ok (.goto 4, 3) := by decide +kernel
theorem dX10_is_25 : decode cX10_is 25 = .ok (.iconst 0, 1) := by decide +kernel
theorem dX10_is_26 : decode cX10_is 26 = .ok (.ireturn, 1) := by decide +kernel
theorem dX10_letGo_0 : decode cX10_letGo 0 = .ok (.aload_n 0, 1) := by decide +kernel
theorem dX10_letGo_1 : decode cX10_letGo 1 = .ok (.iload_n 1, 1) := by decide +kernel
theorem dX10_letGo_2 : decode cX10_letGo 2 = .ok (.iconst 0, 1) := by decide +kernel
theorem dX10_letGo_3 : decode cX10_letGo 3 = .ok (.invokevirtual 55, 3) := by decide +kernel
theorem dX10_letGo_6 : decode cX10_letGo 6 = .ok (.ifCond .ne 5, 3) := by decide +kernel
theorem dX10_letGo_9 : decode cX10_letGo 9 = .ok (.iconst 0, 1) := by decide +kernel
theorem dX10_letGo_10 : decode cX10_letGo 10 = .ok (.ireturn, 1) := by decide +kernel
theorem dX10_letGo_11 : decode cX10_letGo 11 = .ok (.aload_n 0, 1) := by decide +kernel
theorem dX10_letGo_12 : decode cX10_letGo 12 = .ok (.getfield 11, 3) := by decide +kernel
theorem dX10_letGo_15 : decode cX10_letGo 15 = .ok (.iload_n 1, 1) := by decide +kernel
theorem dX10_letGo_16 : decode cX10_letGo 16 = .ok (.aaload, 1) := by decide +kernel
theorem dX10_letGo_17 : decode cX10_letGo 17 = .ok (.iconst 1, 1) := by decide +kernel
theorem dX10_letGo_18 : decode cX10_letGo 18 = .ok (.putfield 52, 3) := by decide +kernel
theorem dX10_letGo_21 : decode cX10_letGo 21 = .ok (.iconst 1, 1) := by decide +kernel
theorem dX10_letGo_22 : decode cX10_letGo 22 = .ok (.ireturn, 1) := by decide +kernel
theorem dX10_setFree_0 : decode cX10_setFree 0 = .ok (.aload_n 0, 1) := by decide +kernel
theorem dX10_setFree_1 : decode cX10_setFree 1 = .ok (.iload_n 1, 1) := by decide +kernel
theorem dX10_setFree_2 : decode cX10_setFree 2 = .ok (.iconst 2, 1) := by decide +kernel
theorem dX10_setFree_3 : decode cX10_setFree 3 = .ok (.invokevirtual 55, 3) := by decide +kernel
theorem dX10_setFree_6 : decode cX10_setFree 6 = .ok (.ifCond .ne 5, 3) := by decide +kernel
theorem dX10_setFree_9 : decode cX10_setFree 9 = .ok (.iconst 0, 1) := by decide +kernel
theorem dX10_setFree_10 : decode cX10_setFree 10 = .ok (.ireturn, 1) := by decide +kernel
theorem dX10_setFree_11 : decode cX10_setFree 11 = .ok (.aload_n 0, 1) := by decide +kernel
theorem dX10_setFree_12 : decode cX10_setFree 12 = .ok (.getfield 11, 3) := by decide +kernel
theorem dX10_setFree_15 : decode cX10_setFree 15 = .ok (.iload_n 1, 1) := by decide +kernel
theorem dX10_setFree_16 : decode cX10_setFree 16 = .ok (.aaload, 1) := by decide +kernel
theorem dX10_setFree_17 : decode cX10_setFree 17 = .ok (.iconst 1, 1) := by decide +kernel
theorem dX10_setFree_18 : decode cX10_setFree 18 = .ok (.invokevirtual 59, 3) := by decide +kernel
theorem dX10_setFree_21 : decode cX10_setFree 21 = .ok (.iconst 1, 1) := by decide +kernel
theorem dX10_setFree_22 : decode cX10_setFree 22 = .ok (.ireturn, 1) := by decide +kernel
theorem dX10_putRight_0 : decode cX10_putRight 0 = .ok (.aload_n 0, 1) := by decide +kernel
theorem dX10_putRight_1 : decode cX10_putRight 1 = .ok (.iload_n 1, 1) := by decide +kernel
theorem dX10_putRight_2 : decode cX10_putRight 2 = .ok (.invokevirtual 48, 3) := by decide +kernel
theorem dX10_putRight_5 : decode cX10_putRight 5 = .ok (.ifCond .eq 16, 3) := by decide +kernel
theorem dX10_putRight_8 : decode cX10_putRight 8 = .ok (.aload_n 0, 1) := by decide +kernel
theorem dX10_putRight_9 : decode cX10_putRight 9 = .ok (.iload_n 2, 1) := by decide +kernel
theorem dX10_putRight_10 : decode cX10_putRight 10 = .ok (.invokevirtual 48, 3) := by decide +kernel
theorem dX10_putRight_13 : decode cX10_putRight 13 = .ok (.ifCond .eq 8, 3) := by decide +kernel
theorem dX10_putRight_16 : decode cX10_putRight 16 = .ok (.iload_n 1, 1) := by decide +kernel
theorem dX10_putRight_17 : decode cX10_putRight 17 = .ok (.iload_n 2, 1) := by decide +kernel
theorem dX10_putRight_18 : decode cX10_putRight 18 = .ok (.if_icmp .ne 5, 3) := by decide +kernel
theorem dX10_putRight_21 : decode cX10_putRight 21 = .ok (.iconst 0, 1) := by decide +kernel
theorem dX10_putRight_22 : decode cX10_putRight 22 = .ok (.ireturn, 1) := by decide +kernel
theorem dX10_putRight_23 : decode cX10_putRight 23 = .ok (.aload_n 0, 1) := by decide +kernel
theorem dX10_putRight_24 : decode cX10_putRight 24 = .ok (.getfield 11, 3) := by decide +kernel
theorem dX10_putRight_27 : decode cX10_putRight 27 = .ok (.iload_n 1, 1) := by decide +kernel
theorem dX10_putRight_28 : decode cX10_putRight 28 = .ok (.aaload, 1) := by decide +kernel
theorem dX10_putRight_29 : decode cX10_putRight 29 = .ok (.getfield 63, 3) := by decide +kernel
theorem dX10_putRight_32 : decode cX10_putRight 32 = .ok (.istore_n 3, 1) := by decide +kernel
theorem dX10_putRight_33 : decode cX10_putRight 33 = .ok (.aload_n 0, 1) := by decide +kernel
theorem dX10_putRight_34 : decode cX10_putRight 34 = .ok (.getfield 11, 3) := by decide +kernel
theorem dX10_putRight_37 : decode cX10_putRight 37 = .ok (.iload_n 1, 1) := by decide +kernel
theorem dX10_putRight_38 : decode cX10_putRight 38 = .ok (.aaload, 1) := by decide +kernel
theorem dX10_putRight_39 : decode cX10_putRight 39 = .ok (.aload_n 0, 1) := by decide +kernel
theorem dX10_putRight_40 : decode cX10_putRight 40 = .ok (.getfield 11, 3) := by decide +kernel
theorem dX10_putRight_43 : decode cX10_putRight 43 = .ok (.iload_n 2, 1) := by decide +kernel
theorem dX10_putRight_44 : decode cX10_putRight 44 = .ok (.aaload, 1) := by decide +kernel
theorem dX10_putRight_45 : decode cX10_putRight 45 = .ok (.getfield 63, 3) := by decide +kernel
theorem dX10_putRight_48 : decode cX10_putRight 48 = .ok (.putfield 63, 3) := by decide +kernel
theorem dX10_putRight_51 : decode cX10_putRight 51 = .ok (.aload_n 0, 1) := by decide +kernel
theorem dX10_putRight_52 : decode cX10_putRight 52 = .ok (.getfield 11, 3) := by decide +kernel
theorem dX10_putRight_55 : decode cX10_putRight 55 = .ok (.iload_n 2, 1) := by decide +kernel
theorem dX10_putRight_56 : decode cX10_putRight 56 = .ok (.aaload, 1) := by decide +kernel
theorem dX10_putRight_57 : decode cX10_putRight 57 = .ok (.iload_n 3, 1) := by decide +kernel
theorem dX10_putRight_58 : decode cX10_putRight 58 = .ok (.putfield 63, 3) := by decide +kernel
theorem dX10_putRight_61 : decode cX10_putRight 61 = .ok (.iconst 1, 1) := by decide +kernel
theorem dX10_putRight_62 : decode cX10_putRight 62 = .ok (.ireturn, 1) := by decide +kernel
theorem dX10_passHour_0 : decode cX10_passHour 0 = .ok (.aload_n 0, 1) := by decide +kernel
theorem dX10_passHour_1 : decode cX10_passHour 1 = .ok (.aload_n 0, 1) := by decide +kernel
theorem dX10_passHour_2 : decode cX10_passHour 2 = .ok (.getfield 21, 3) := by decide +kernel
theorem dX10_passHour_5 : decode cX10_passHour 5 = .ok (.aload_n 0, 1) := by decide +kernel
theorem dX10_passHour_6 : decode cX10_passHour 6 = .ok (.getfield 26, 3) := by decide +kernel
theorem dX10_passHour_9 : decode cX10_passHour 9 = .ok (.invokevirtual 66, 3) := by decide +kernel
theorem dX10_passHour_12 : decode cX10_passHour 12 = .ok (.invokevirtual 70, 3) := by decide +kernel
theorem dX10_passHour_15 : decode cX10_passHour 15 = .ok (.ireturn, 1) := by decide +kernel
theorem dX10_passHours_0 : decode cX10_passHours 0 = .ok (.iconst 0, 1) := by decide +kernel
theorem dX10_passHours_1 : decode cX10_passHours 1 = .ok (.istore_n 2, 1) := by decide +kernel
theorem dX10_passHours_2 : decode cX10_passHours 2 = .ok (.iload_n 2, 1) := by decide +kernel
theorem dX10_passHours_3 : decode cX10_passHours 3 = .ok (.iload_n 1, 1) := by decide +kernel
theorem dX10_passHours_4 : decode cX10_passHours 4 = .ok (.if_icmp .ge 25, 3) := by decide +kernel
theorem dX10_passHours_7 : decode cX10_passHours 7 = .ok (.aload_n 0, 1) := by decide +kernel
theorem dX10_passHours_8 : decode cX10_passHours 8 = .ok (.aload_n 0, 1) := by decide +kernel
theorem dX10_passHours_9 : decode cX10_passHours 9 = .ok (.getfield 21, 3) := by decide +kernel
theorem dX10_passHours_12 : decode cX10_passHours 12 = .ok (.aload_n 0, 1) := by decide +kernel
theorem dX10_passHours_13 : decode cX10_passHours 13 = .ok (.getfield 26, 3) := by decide +kernel
theorem dX10_passHours_16 : decode cX10_passHours 16 = .ok (.invokevirtual 66, 3) := by decide +kernel
theorem dX10_passHours_19 : decode cX10_passHours 19 = .ok (.invokevirtual 70, 3) := by decide +kernel
theorem dX10_passHours_22 : decode cX10_passHours 22 = .ok (.pop, 1) := by decide +kernel
theorem dX10_passHours_23 : decode cX10_passHours 23 = .ok (.iinc 2 1, 3) := by decide +kernel
theorem dX10_passHours_26 : decode cX10_passHours 26 = .ok (.goto (-24), 3) := by decide +kernel
theorem dX10_passHours_29 : decode cX10_passHours 29 = .ok (.return_, 1) := by decide +kernel
theorem dX10_passHourBy_0 : decode cX10_passHourBy 0 = .ok (.iconst 0, 1) := by decide +kernel
theorem dX10_passHourBy_1 : decode cX10_passHourBy 1 = .ok (.istore_n 2, 1) := by decide +kernel
theorem dX10_passHourBy_2 : decode cX10_passHourBy 2 = .ok (.iload_n 2, 1) := by decide +kernel
theorem dX10_passHourBy_3 : decode cX10_passHourBy 3 = .ok (.aload_n 0, 1) := by decide +kernel
theorem dX10_passHourBy_4 : decode cX10_passHourBy 4 = .ok (.getfield 21, 3) := by decide +kernel
theorem dX10_passHourBy_7 : decode cX10_passHourBy 7 = .ok (.getfield 29, 3) := by decide +kernel
theorem dX10_passHourBy_10 : decode cX10_passHourBy 10 = .ok (.if_icmp .ge 23, 3) := by decide +kernel
theorem dX10_passHourBy_13 : decode cX10_passHourBy 13 = .ok (.aload_n 0, 1) := by decide +kernel
theorem dX10_passHourBy_14 : decode cX10_passHourBy 14 = .ok (.getfield 11, 3) := by decide +kernel
theorem dX10_passHourBy_17 : decode cX10_passHourBy 17 = .ok (.iload_n 2, 1) := by decide +kernel
theorem dX10_passHourBy_18 : decode cX10_passHourBy 18 = .ok (.aaload, 1) := by decide +kernel
theorem dX10_passHourBy_19 : decode cX10_passHourBy 19 = .ok (.iload_n 1, 1) := by decide +kernel
theorem dX10_passHourBy_20 : decode cX10_passHourBy 20 = .ok (.aload_n 0, 1) := by decide +kernel
theorem dX10_passHourBy_21 : decode cX10_passHourBy 21 = .ok (.getfield 26, 3) := by decide +kernel
theorem dX10_passHourBy_24 : decode cX10_passHourBy 24 = .ok (.invokevirtual 73, 3) := by decide +kernel
theorem dX10_passHourBy_27 : decode cX10_passHourBy 27 = .ok (.iinc 2 1, 3) := by decide +kernel
theorem dX10_passHourBy_30 : decode cX10_passHourBy 30 = .ok (.goto (-28), 3) := by decide +kernel
theorem dX10_passHourBy_33 : decode cX10_passHourBy 33 = .ok (.aload_n 0, 1) := by decide +kernel
theorem dX10_passHourBy_34 : decode cX10_passHourBy 34 = .ok (.dup, 1) := by decide +kernel
theorem dX10_passHourBy_35 : decode cX10_passHourBy 35 = .ok (.getfield 26, 3) := by decide +kernel
theorem dX10_passHourBy_38 : decode cX10_passHourBy 38 = .ok (.iconst 1, 1) := by decide +kernel
theorem dX10_passHourBy_39 : decode cX10_passHourBy 39 = .ok (.iadd, 1) := by decide +kernel
theorem dX10_passHourBy_40 : decode cX10_passHourBy 40 = .ok (.putfield 26, 3) := by decide +kernel
theorem dX10_passHourBy_43 : decode cX10_passHourBy 43 = .ok (.iconst 0, 1) := by decide +kernel
theorem dX10_passHourBy_44 : decode cX10_passHourBy 44 = .ok (.istore_n 2, 1) := by decide +kernel
theorem dX10_passHourBy_45 : decode cX10_passHourBy 45 = .ok (.iconst 0, 1) := by decide +kernel
theorem dX10_passHourBy_46 : decode cX10_passHourBy 46 = .ok (.istore_n 3, 1) := by decide +kernel
theorem dX10_passHourBy_47 : decode cX10_passHourBy 47 = .ok (.iload_n 3, 1) := by decide +kernel
theorem dX10_passHourBy_48 : decode cX10_passHourBy 48 = .ok (.aload_n 0, 1) := by decide +kernel
theorem dX10_passHourBy_49 : decode cX10_passHourBy 49 = .ok (.getfield 21, 3) := by decide +kernel
theorem dX10_passHourBy_52 : decode cX10_passHourBy 52 = .ok (.getfield 29, 3) := by decide +kernel
theorem dX10_passHourBy_55 : decode cX10_passHourBy 55 = .ok (.if_icmp .ge 38, 3) := by decide +kernel
theorem dX10_passHourBy_58 : decode cX10_passHourBy 58 = .ok (.aload_n 0, 1) := by decide +kernel
theorem dX10_passHourBy_59 : decode cX10_passHourBy 59 = .ok (.getfield 11, 3) := by decide +kernel
theorem dX10_passHourBy_62 : decode cX10_passHourBy 62 = .ok (.iload_n 3, 1) := by decide +kernel
theorem dX10_passHourBy_63 : decode cX10_passHourBy 63 = .ok (.aaload, 1) := by decide +kernel
theorem dX10_passHourBy_64 : decode cX10_passHourBy 64 = .ok (.getfield 52, 3) := by decide +kernel
theorem dX10_passHourBy_67 : decode cX10_passHourBy 67 = .ok (.iconst 1, 1) := by decide +kernel
theorem dX10_passHourBy_68 : decode cX10_passHourBy 68 = .ok (.if_icmp .ne 19, 3) := by decide +kernel
theorem dX10_passHourBy_71 : decode cX10_passHourBy 71 = .ok (.aload_n 0, 1) := by decide +kernel
theorem dX10_passHourBy_72 : decode cX10_passHourBy 72 = .ok (.aload_n 0, 1) := by decide +kernel
theorem dX10_passHourBy_73 : decode cX10_passHourBy 73 = .ok (.getfield 11, 3) := by decide +kernel
theorem dX10_passHourBy_76 : decode cX10_passHourBy 76 = .ok (.iload_n 3, 1) := by decide +kernel
theorem dX10_passHourBy_77 : decode cX10_passHourBy 77 = .ok (.aaload, 1) := by decide +kernel
theorem dX10_passHourBy_78 : decode cX10_passHourBy 78 = .ok (.invokevirtual 77, 3) := by decide +kernel
theorem dX10_passHourBy_81 : decode cX10_passHourBy 81 = .ok (.ifCond .eq 6, 3) := by decide +kernel
theorem dX10_passHourBy_84 : decode cX10_passHourBy 84 = .ok (.iinc 2 1, 3) := by decide +kernel
theorem dX10_passHourBy_87 : decode cX10_passHourBy 87 = .ok (.iinc 3 1, 3) := by decide +kernel
theorem dX10_passHourBy_90 : decode cX10_passHourBy 90 = .ok (.goto (-43), 3) := by decide +kernel
theorem dX10_passHourBy_93 : decode cX10_passHourBy 93 = .ok (.iload_n 2, 1) := by decide +kernel
theorem dX10_passHourBy_94 : decode cX10_passHourBy 94 = .ok (.ireturn, 1) := by decide +kernel
theorem dX10_catches_0 : decode cX10_catches 0 = .ok (.aload_n 0, 1) := by decide +kernel
theorem dX10_catches_1 : decode cX10_catches 1 = .ok (.getfield 21, 3) := by decide +kernel
theorem dX10_catches_4 : decode cX10_catches 4 = .ok (.aload_n 1, 1) := by decide +kernel
theorem dX10_catches_5 : decode cX10_catches 5 = .ok (.getfield 81, 3) := by decide +kernel
theorem dX10_catches_8 : decode cX10_catches 8 = .ok (.invokevirtual 84, 3) := by decide +kernel
theorem dX10_catches_11 : decode cX10_catches 11 = .ok (.istore_n 2, 1) := by decide +kernel
theorem dX10_catches_12 : decode cX10_catches 12 = .ok (.iload_n 2, 1) := by decide +kernel
theorem dX10_catches_13 : decode cX10_catches 13 = .ok (.bipush (-9), 2) := by decide +kernel
theorem dX10_catches_15 : decode cX10_catches 15 = .ok (.if_icmp .eq 11, 3) := by decide +kernel
theorem dX10_catches_18 : decode cX10_catches 18 = .ok (.aload_n 0, 1) := by decide +kernel
theorem dX10_catches_19 : decode cX10_catches 19 = .ok (.iload_n 2, 1) := by decide +kernel
theorem dX10_catches_20 : decode cX10_catches 20 = .ok (.invokevirtual 87, 3) := by decide +kernel
theorem dX10_catches_23 : decode cX10_catches 23 = .ok (.ifCond .ne 5, 3) := by decide +kernel
theorem dX10_catches_26 : decode cX10_catches 26 = .ok (.iconst 0, 1) := by decide +kernel
theorem dX10_catches_27 : decode cX10_catches 27 = .ok (.ireturn, 1) := by decide +kernel
theorem dX10_catches_28 : decode cX10_catches 28 = .ok (.aload_n 1, 1) := by decide +kernel
theorem dX10_catches_29 : decode cX10_catches 29 = .ok (.iload_n 2, 1) := by decide +kernel
theorem dX10_catches_30 : decode cX10_catches 30 = .ok (.aload_n 0, 1) := by decide +kernel
theorem dX10_catches_31 : decode cX10_catches 31 = .ok (.getfield 26, 3) := by decide +kernel
theorem dX10_catches_34 : decode cX10_catches 34 = .ok (.invokevirtual 90, 3) := by decide +kernel
theorem dX10_catches_37 : decode cX10_catches 37 = .ok (.iconst 1, 1) := by decide +kernel
theorem dX10_catches_38 : decode cX10_catches 38 = .ok (.ireturn, 1) := by decide +kernel
theorem dX10_stands_0 : decode cX10_stands 0 = .ok (.aload_n 0, 1) := by decide +kernel
theorem dX10_stands_1 : decode cX10_stands 1 = .ok (.getfield 17, 3) := by decide +kernel
theorem dX10_stands_4 : decode cX10_stands 4 = .ok (.iload_n 1, 1) := by decide +kernel
theorem dX10_stands_5 : decode cX10_stands 5 = .ok (.ishr, 1) := by decide +kernel
theorem dX10_stands_6 : decode cX10_stands 6 = .ok (.iconst 1, 1) := by decide +kernel
theorem dX10_stands_7 : decode cX10_stands 7 = .ok (.iand, 1) := by decide +kernel
theorem dX10_stands_8 : decode cX10_stands 8 = .ok (.ifCond .eq 7, 3) := by decide +kernel
theorem dX10_stands_11 : decode cX10_stands 11 = .ok (.iconst 1, 1) := by decide +kernel
theorem dX10_stands_12 : decode cX10_stands 12 = .ok (.goto 4, 3) := by decide +kernel
theorem dX10_stands_15 : decode cX10_stands 15 = .ok (.iconst 0, 1) := by decide +kernel
theorem dX10_stands_16 : decode cX10_stands 16 = .ok (.ireturn, 1) := by decide +kernel
theorem dX10_leaveStanding_0 : decode cX10_leaveStanding 0 = .ok (.aload_n 0, 1) := by decide +kernel
theorem dX10_leaveStanding_1 : decode cX10_leaveStanding 1 = .ok (.iload_n 1, 1) := by decide +kernel
theorem dX10_leaveStanding_2 : decode cX10_leaveStanding 2 = .ok (.putfield 17, 3) := by decide +kernel
theorem dX10_leaveStanding_5 : decode cX10_leaveStanding 5 = .ok (.iconst 0, 1) := by decide +kernel
theorem dX10_leaveStanding_6 : decode cX10_leaveStanding 6 = .ok (.istore_n 2, 1) := by decide +kernel
theorem dX10_leaveStanding_7 : decode cX10_leaveStanding 7 = .ok (.iload_n 2, 1) := by decide +kernel
theorem dX10_leaveStanding_8 : decode cX10_leaveStanding 8 = .ok (.aload_n 0, 1) := by decide +kernel
theorem dX10_leaveStanding_9 : decode cX10_leaveStanding 9 = .ok (.getfield 21, 3) := by decide +kernel
theorem dX10_leaveStanding_12 : decode cX10_leaveStanding 12 = .ok (.getfield 29, 3) := by decide +kernel
theorem dX10_leaveStanding_15 : decode cX10_leaveStanding 15 = .ok (.if_icmp .ge 47, 3) := by decide +kernel
theorem dX10_leaveStanding_18 : decode cX10_leaveStanding 18 = .ok (.aload_n 0, 1) := by decide +kernel
theorem dX10_leaveStanding_19 : decode cX10_leaveStanding 19 = .ok (.getfield 11, 3) := by decide +kernel
theorem dX10_leaveStanding_22 : decode cX10_leaveStanding 22 = .ok (.iload_n 2, 1) := by decide +kernel
theorem dX10_leaveStanding_23 : decode cX10_leaveStanding 23 = .ok (.aaload, 1) := by decide +kernel
theorem dX10_leaveStanding_24 : decode cX10_leaveStanding 24 = .ok (.getfield 93, 3) := by decide +kernel
theorem dX10_leaveStanding_27 : decode cX10_leaveStanding 27 = .ok (.ifCond .lt 29, 3) := by decide +kernel
theorem dX10_leaveStanding_30 : decode cX10_leaveStanding 30 = .ok (.aload_n 0, 1) := by decide +kernel
theorem dX10_leaveStanding_31 : decode cX10_leaveStanding 31 = .ok (.aload_n 0, 1) := by decide +kernel
theorem dX10_leaveStanding_32 : decode cX10_leaveStanding 32 = .ok (.getfield 11, 3) := by decide +kernel
theorem dX10_leaveStanding_35 : decode cX10_leaveStanding 35 = .ok (.iload_n 2, 1) := by decide +kernel
theorem dX10_leaveStanding_36 : decode cX10_leaveStanding 36 = .ok (.aaload, 1) := by decide +kernel
theorem dX10_leaveStanding_37 : decode cX10_leaveStanding 37 = .ok (.getfield 93, 3) := by decide +kernel
theorem dX10_leaveStanding_40 : decode cX10_leaveStanding 40 = .ok (.invokevirtual 87, 3) := by decide +kernel
theorem dX10_leaveStanding_43 : decode cX10_leaveStanding 43 = .ok (.ifCond .ne 13, 3) := by decide +kernel
theorem dX10_leaveStanding_46 : decode cX10_leaveStanding 46 = .ok (.aload_n 0, 1) := by decide +kernel
theorem dX10_leaveStanding_47 : decode cX10_leaveStanding 47 = .ok (.getfield 11, 3) := by decide +kernel
theorem dX10_leaveStanding_50 : decode cX10_leaveStanding 50 = .ok (.iload_n 2, 1) := by decide +kernel
theorem dX10_leaveStanding_51 : decode cX10_leaveStanding 51 = .ok (.aaload, 1) := by decide +kernel
theorem dX10_leaveStanding_52 : decode cX10_leaveStanding 52 = .ok (.iconst 3, 1) := by decide +kernel
theorem dX10_leaveStanding_53 : decode cX10_leaveStanding 53 = .ok (.invokevirtual 59, 3) := by decide +kernel
theorem dX10_leaveStanding_56 : decode cX10_leaveStanding 56 = .ok (.iinc 2 1, 3) := by decide +kernel
theorem dX10_leaveStanding_59 : decode cX10_leaveStanding 59 = .ok (.goto (-52), 3) := by decide +kernel
theorem dX10_leaveStanding_62 : decode cX10_leaveStanding 62 = .ok (.return_, 1) := by decide +kernel
theorem dX10_whatCame_0 : decode cX10_whatCame 0 = .ok (.aload_n 0, 1) := by decide +kernel
theorem dX10_whatCame_1 : decode cX10_whatCame 1 = .ok (.getfield 11, 3) := by decide +kernel
theorem dX10_whatCame_4 : decode cX10_whatCame 4 = .ok (.iload_n 1, 1) := by decide +kernel
theorem dX10_whatCame_5 : decode cX10_whatCame 5 = .ok (.aaload, 1) := by decide +kernel
theorem dX10_whatCame_6 : decode cX10_whatCame 6 = .ok (.astore_n 2, 1) := by decide +kernel
theorem dX10_whatCame_7 : decode cX10_whatCame 7 = .ok (.aload_n 2, 1) := by decide +kernel
theorem dX10_whatCame_8 : decode cX10_whatCame 8 = .ok (.getfield 93, 3) := by decide +kernel
theorem dX10_whatCame_11 : decode cX10_whatCame 11 = .ok (.ifCond .lt 41, 3) := by decide +kernel
theorem dX10_whatCame_14 : decode cX10_whatCame 14 = .ok (.aload_n 2, 1) := by decide +kernel
theorem dX10_whatCame_15 : decode cX10_whatCame 15 = .ok (.getfield 93, 3) := by decide +kernel
theorem dX10_whatCame_18 : decode cX10_whatCame 18 = .ok (.aload_n 0, 1) := by decide +kernel
theorem dX10_whatCame_19 : decode cX10_whatCame 19 = .ok (.getfield 21, 3) := by decide +kernel
theorem dX10_whatCame_22 : decode cX10_whatCame 22 = .ok (.getfield 96, 3) := by decide +kernel
theorem dX10_whatCame_25 : decode cX10_whatCame 25 = .ok (.if_icmp .ge 27, 3) := by decide +kernel
theorem dX10_whatCame_28 : decode cX10_whatCame 28 = .ok (.aload_n 0, 1) := by decide +kernel
theorem dX10_whatCame_29 : decode cX10_whatCame 29 = .ok (.getfield 26, 3) := by decide +kernel
theorem dX10_whatCame_32 : decode cX10_whatCame 32 = .ok (.aload_n 2, 1) := by decide +kernel
theorem dX10_whatCame_33 : decode cX10_whatCame 33 = .ok (.getfield 99, 3) := by decide +kernel
theorem dX10_whatCame_36 : decode cX10_whatCame 36 = .ok (.isub, 1) := by decide +kernel
theorem dX10_whatCame_37 : decode cX10_whatCame 37 = .ok (.aload_n 0, 1) := by decide +kernel
theorem dX10_whatCame_38 : decode cX10_whatCame 38 = .ok (.getfield 21, 3) := by decide +kernel
theorem dX10_whatCame_41 : decode cX10_whatCame 41 = .ok (.getfield 102, 3) := by decide +kernel
theorem dX10_whatCame_44 : decode cX10_whatCame 44 = .ok (.aload_n 2, 1) := by decide +kernel
theorem dX10_whatCame_45 : decode cX10_whatCame 45 = .ok (.getfield 93, 3) := by decide +kernel
theorem dX10_whatCame_48 : decode cX10_whatCame 48 = .ok (.iaload, 1) := by decide +kernel
theorem dX10_whatCame_49 : decode cX10_whatCame 49 = .ok (.if_icmp .ge 6, 3) := by decide +kernel
theorem dX10_whatCame_52 : decode cX10_whatCame 52 = .ok (.bipush (-9), 2) := by decide +kernel
theorem dX10_whatCame_54 : decode cX10_whatCame 54 = .ok (.ireturn, 1) := by decide +kernel
theorem dX10_whatCame_55 : decode cX10_whatCame 55 = .ok (.aload_n 0, 1) := by decide +kernel
theorem dX10_whatCame_56 : decode cX10_whatCame 56 = .ok (.getfield 21, 3) := by decide +kernel
theorem dX10_whatCame_59 : decode cX10_whatCame 59 = .ok (.getfield 105, 3) := by decide +kernel
theorem dX10_whatCame_62 : decode cX10_whatCame 62 = .ok (.aload_n 2, 1) := by decide +kernel
theorem dX10_whatCame_63 : decode cX10_whatCame 63 = .ok (.getfield 93, 3) := by decide +kernel
theorem dX10_whatCame_66 : decode cX10_whatCame 66 = .ok (.iaload, 1) := by decide +kernel
theorem dX10_whatCame_67 : decode cX10_whatCame 67 = .ok (.ireturn, 1) := by decide +kernel
theorem dX10_isAnswered_0 : decode cX10_isAnswered 0 = .ok (.aload_n 0, 1) := by decide +kernel
theorem dX10_isAnswered_1 : decode cX10_isAnswered 1 = .ok (.iload_n 1, 1) := by decide +kernel
theorem dX10_isAnswered_2 : decode cX10_isAnswered 2 = .ok (.invokevirtual 108, 3) := by decide +kernel
theorem dX10_isAnswered_5 : decode cX10_isAnswered 5 = .ok (.bipush (-9), 2) := by decide +kernel
theorem dX10_isAnswered_7 : decode cX10_isAnswered 7 = .ok (.if_icmp .eq 7, 3) := by decide +kernel
theorem dX10_isAnswered_10 : decode cX10_isAnswered 10 = .ok (.iconst 1, 1) := by decide +kernel
theorem dX10_isAnswered_11 : decode cX10_isAnswered 11 = .ok (.goto 4, 3) := by decide +kernel
theorem dX10_isAnswered_14 : decode cX10_isAnswered 14 = .ok (.iconst 0, 1) := by decide +kernel
theorem dX10_isAnswered_15 : decode cX10_isAnswered 15 = .ok (.ireturn, 1) := by decide +kernel
theorem dX10_gladdens_0 : decode cX10_gladdens 0 = .ok (.aload_n 0, 1) := by decide +kernel
theorem dX10_gladdens_1 : decode cX10_gladdens 1 = .ok (.iload_n 1, 1) := by decide +kernel
theorem dX10_gladdens_2 : decode cX10_gladdens 2 = .ok (.invokevirtual 108, 3) := by decide +kernel
theorem dX10_gladdens_5 : decode cX10_gladdens 5 = .ok (.aload_n 0, 1) := by decide +kernel
theorem dX10_gladdens_6 : decode cX10_gladdens 6 = .ok (.getfield 21, 3) := by decide +kernel
theorem dX10_gladdens_9 : decode cX10_gladdens 9 = .ok (.getfield 111, 3) := by decide +kernel
theorem dX10_gladdens_12 : decode cX10_gladdens 12 = .ok (.iload_n 2, 1) := by decide +kernel
theorem dX10_gladdens_13 : decode cX10_gladdens 13 = .ok (.iaload, 1) := by decide +kernel
theorem dX10_gladdens_14 : decode cX10_gladdens 14 = .ok (.if_icmp .ne 7, 3) := by decide +kernel
theorem dX10_gladdens_17 : decode cX10_gladdens 17 = .ok (.iconst 1, 1) := by decide +kernel
theorem dX10_gladdens_18 : decode cX10_gladdens 18 = .ok (.goto 4, 3) := by decide +kernel
theorem dX10_gladdens_21 : decode cX10_gladdens 21 = .ok (.iconst 0, 1) := by decide +kernel
theorem dX10_gladdens_22 : decode cX10_gladdens 22 = .ok (.ireturn, 1) := by decide +kernel
theorem dX10_isGlad_0 : decode cX10_isGlad 0 = .ok (.aload_n 0, 1) := by decide +kernel
theorem dX10_isGlad_1 : decode cX10_isGlad 1 = .ok (.invokevirtual 114, 3) := by decide +kernel
theorem dX10_isGlad_4 : decode cX10_isGlad 4 = .ok (.iload_n 1, 1) := by decide +kernel
theorem dX10_isGlad_5 : decode cX10_isGlad 5 = .ok (.ishr, 1) := by decide +kernel
theorem dX10_isGlad_6 : decode cX10_isGlad 6 = .ok (.iconst 1, 1) := by decide +kernel
theorem dX10_isGlad_7 : decode cX10_isGlad 7 = .ok (.iand, 1) := by decide +kernel
theorem dX10_isGlad_8 : decode cX10_isGlad 8 = .ok (.ifCond .eq 7, 3) := by decide +kernel
theorem dX10_isGlad_11 : decode cX10_isGlad 11 = .ok (.iconst 1, 1) := by decide +kernel
theorem dX10_isGlad_12 : decode cX10_isGlad 12 = .ok (.goto 4, 3) := by decide +kernel
theorem dX10_isGlad_15 : decode cX10_isGlad 15 = .ok (.iconst 0, 1) := by decide +kernel
theorem dX10_isGlad_16 : decode cX10_isGlad 16 = .ok (.ireturn, 1) := by decide +kernel
theorem dX10_gladChildren_0 : decode cX10_gladChildren 0 = .ok (.iconst 0, 1) := by decide +kernel
theorem dX10_gladChildren_1 : decode cX10_gladChildren 1 = .ok (.istore_n 1, 1) := by decide +kernel
theorem dX10_gladChildren_2 : decode cX10_gladChildren 2 = .ok (.iconst 0, 1) := by decide +kernel
theorem dX10_gladChildren_3 : decode cX10_gladChildren 3 = .ok (.istore_n 2, 1) := by decide +kernel
theorem dX10_gladChildren_4 : decode cX10_gladChildren 4 = .ok (.iload_n 2, 1) := by decide +kernel
theorem dX10_gladChildren_5 : decode cX10_gladChildren 5 = .ok (.aload_n 0, 1) := by decide +kernel
theorem dX10_gladChildren_6 : decode cX10_gladChildren 6 = .ok (.getfield 21, 3) := by decide +kernel
theorem dX10_gladChildren_9 : decode cX10_gladChildren 9 = .ok (.getfield 29, 3) := by decide +kernel
theorem dX10_gladChildren_12 : decode cX10_gladChildren 12 = .ok (.if_icmp .ge 40, 3) := by decide +kernel
theorem dX10_gladChildren_15 : decode cX10_gladChildren 15 = .ok (.aload_n 0, 1) := by decide +kernel
theorem dX10_gladChildren_16 : decode cX10_gladChildren 16 = .ok (.iload_n 2, 1) := by decide +kernel
theorem dX10_gladChildren_17 : decode cX10_gladChildren 17 = .ok (.aload_n 0, 1) := by decide +kernel
theorem dX10_gladChildren_18 : decode cX10_gladChildren 18 = .ok (.getfield 11, 3) := by decide +kernel
theorem dX10_gladChildren_21 : decode cX10_gladChildren 21 = .ok (.iload_n 2, 1) := by decide +kernel
theorem dX10_gladChildren_22 : decode cX10_gladChildren 22 = .ok (.aaload, 1) := by decide +kernel
theorem dX10_gladChildren_23 : decode cX10_gladChildren 23 = .ok (.getfield 63, 3) := by decide +kernel
theorem dX10_gladChildren_26 : decode cX10_gladChildren 26 = .ok (.invokevirtual 118, 3) := by decide +kernel
theorem dX10_gladChildren_29 : decode cX10_gladChildren 29 = .ok (.ifCond .eq 17, 3) := by decide +kernel
theorem dX10_gladChildren_32 : decode cX10_gladChildren 32 = .ok (.iload_n 1, 1) := by decide +kernel
theorem dX10_gladChildren_33 : decode cX10_gladChildren 33 = .ok (.iconst 1, 1) := by decide +kernel
theorem dX10_gladChildren_34 : decode cX10_gladChildren 34 = .ok (.aload_n 0, 1) := by decide +kernel
theorem dX10_gladChildren_35 : decode cX10_gladChildren 35 = .ok (.getfield 11, 3) := by decide +kernel
theorem dX10_gladChildren_38 : decode cX10_gladChildren 38 = .ok (.iload_n 2, 1) := by decide +kernel
theorem dX10_gladChildren_39 : decode cX10_gladChildren 39 = .ok (.aaload, 1) := by decide +kernel
theorem dX10_gladChildren_40 : decode cX10_gladChildren 40 = .ok (.getfield 63, 3) := by decide +kernel
theorem dX10_gladChildren_43 : decode cX10_gladChildren 43 = .ok (.ishl, 1) := by decide +kernel
theorem dX10_gladChildren_44 : decode cX10_gladChildren 44 = .ok (.ior, 1) := by decide +kernel
theorem dX10_gladChildren_45 : decode cX10_gladChildren 45 = .ok (.istore_n 1, 1) := by decide +kernel
theorem dX10_gladChildren_46 : decode cX10_gladChildren 46 = .ok (.iinc 2 1, 3) := by decide +kernel
theorem dX10_gladChildren_49 : decode cX10_gladChildren 49 = .ok (.goto (-45), 3) := by decide +kernel
theorem dX10_gladChildren_52 : decode cX10_gladChildren 52 = .ok (.iload_n 1, 1) := by decide +kernel
theorem dX10_gladChildren_53 : decode cX10_gladChildren 53 = .ok (.ireturn, 1) := by decide +kernel
theorem dX10_answeredBalloons_0 : decode cX10_answeredBalloons 0 = .ok (.iconst 0, 1) := by decide +kernel
theorem dX10_answeredBalloons_1 : decode cX10_answeredBalloons 1 = .ok (.istore_n 1, 1) := by decide +kernel
theorem dX10_answeredBalloons_2 : decode cX10_answeredBalloons 2 = .ok (.iconst 0, 1) := by decide +kernel
theorem dX10_answeredBalloons_3 : decode cX10_answeredBalloons 3 = .ok (.istore_n 2, 1) := by decide +kernel
theorem dX10_answeredBalloons_4 : decode cX10_answeredBalloons 4 = .ok (.iload_n 2, 1) := by decide +kernel
theorem dX10_answeredBalloons_5 : decode cX10_answeredBalloons 5 = .ok (.aload_n 0, 1) := by decide +kernel
theorem dX10_answeredBalloons_6 : decode cX10_answeredBalloons 6 = .ok (.getfield 21, 3) := by decide +kernel
theorem dX10_answeredBalloons_9 : decode cX10_answeredBalloons 9 = .ok (.getfield 29, 3) := by decide +kernel
theorem dX10_answeredBalloons_12 : decode cX10_answeredBalloons 12 = .ok (.if_icmp .ge 23, 3) := by decide +kernel
theorem dX10_answeredBalloons_15 : decode cX10_answeredBalloons 15 = .ok (.aload_n 0, 1) := by decide +kernel
theorem dX10_answeredBalloons_16 : decode cX10_answeredBalloons 16 = .ok (.iload_n 2, 1) := by decide +kernel
theorem dX10_answeredBalloons_17 : decode cX10_answeredBalloons 17 = .ok (.invokevirtual 121, 3) := by decide +kernel
theorem dX10_answeredBalloons_20 : decode cX10_answeredBalloons 20 = .ok (.ifCond .eq 9, 3) := by decide +kernel
theorem dX10_answeredBalloons_23 : decode cX10_answeredBalloons 23 = .ok (.iload_n 1, 1) := by decide +kernel
theorem dX10_answeredBalloons_24 : decode cX10_answeredBalloons 24 = .ok (.iconst 1, 1) := by decide +kernel
theorem dX10_answeredBalloons_25 : decode cX10_answeredBalloons 25 = .ok (.iload_n 2, 1) := by decide +kernel
theorem dX10_answeredBalloons_26 : decode cX10_answeredBalloons 26 = .ok (.ishl, 1) := by decide +kernel
theorem dX10_answeredBalloons_27 : decode cX10_answeredBalloons 27 = .ok (.ior, 1) := by decide +kernel
theorem dX10_answeredBalloons_28 : decode cX10_answeredBalloons 28 = .ok (.istore_n 1, 1) := by decide +kernel
theorem dX10_answeredBalloons_29 : decode cX10_answeredBalloons 29 = .ok (.iinc 2 1, 3) := by decide +kernel
theorem dX10_answeredBalloons_32 : decode cX10_answeredBalloons 32 = .ok (.goto (-28), 3) := by decide +kernel
theorem dX10_answeredBalloons_35 : decode cX10_answeredBalloons 35 = .ok (.iload_n 1, 1) := by decide +kernel
theorem dX10_answeredBalloons_36 : decode cX10_answeredBalloons 36 = .ok (.ireturn, 1) := by decide +kernel
theorem dX10_allThatAre_0 : decode cX10_allThatAre 0 = .ok (.iconst 0, 1) := by decide +kernel
theorem dX10_allThatAre_1 : decode cX10_allThatAre 1 = .ok (.istore_n 2, 1) := by decide +kernel
theorem dX10_allThatAre_2 : decode cX10_allThatAre 2 = .ok (.iconst 0, 1) := by decide +kernel
theorem dX10_allThatAre_3 : decode cX10_allThatAre 3 = .ok (.istore_n 3, 1) := by decide +kernel
theorem dX10_allThatAre_4 : decode cX10_allThatAre 4 = .ok (.iload_n 3, 1) := by decide +kernel
theorem dX10_allThatAre_5 : decode cX10_allThatAre 5 = .ok (.aload_n 0, 1) := by decide +kernel
theorem dX10_allThatAre_6 : decode cX10_allThatAre 6 = .ok (.getfield 21, 3) := by decide +kernel
theorem dX10_allThatAre_9 : decode cX10_allThatAre 9 = .ok (.getfield 29, 3) := by decide +kernel
theorem dX10_allThatAre_12 : decode cX10_allThatAre 12 = .ok (.if_icmp .ge 28, 3) := by decide +kernel
theorem dX10_allThatAre_15 : decode cX10_allThatAre 15 = .ok (.aload_n 0, 1) := by decide +kernel
theorem dX10_allThatAre_16 : decode cX10_allThatAre 16 = .ok (.getfield 11, 3) := by decide +kernel
theorem dX10_allThatAre_19 : decode cX10_allThatAre 19 = .ok (.iload_n 3, 1) := by decide +kernel
theorem dX10_allThatAre_20 : decode cX10_allThatAre 20 = .ok (.aaload, 1) := by decide +kernel
theorem dX10_allThatAre_21 : decode cX10_allThatAre 21 = .ok (.getfield 52, 3) := by decide +kernel
theorem dX10_allThatAre_24 : decode cX10_allThatAre 24 = .ok (.iload_n 1, 1) := by decide +kernel
theorem dX10_allThatAre_25 : decode cX10_allThatAre 25 = .ok (.if_icmp .ne 9, 3) := by decide +kernel
theorem dX10_allThatAre_28 : decode cX10_allThatAre 28 = .ok (.iload_n 2, 1) := by decide +kernel
theorem dX10_allThatAre_29 : decode cX10_allThatAre 29 = .ok (.iconst 1, 1) := by decide +kernel
theorem dX10_allThatAre_30 : decode cX10_allThatAre 30 = .ok (.iload_n 3, 1) := by decide +kernel
theorem dX10_allThatAre_31 : decode cX10_allThatAre 31 = .ok (.ishl, 1) := by decide +kernel
theorem dX10_allThatAre_32 : decode cX10_allThatAre 32 = .ok (.ior, 1) := by decide +kernel
theorem dX10_allThatAre_33 : decode cX10_allThatAre 33 = .ok (.istore_n 2, 1) := by decide +kernel
theorem dX10_allThatAre_34 : decode cX10_allThatAre 34 = .ok (.iinc 3 1, 3) := by decide +kernel
theorem dX10_allThatAre_37 : decode cX10_allThatAre 37 = .ok (.goto (-33), 3) := by decide +kernel
theorem dX10_allThatAre_40 : decode cX10_allThatAre 40 = .ok (.iload_n 2, 1) := by decide +kernel
theorem dX10_allThatAre_41 : decode cX10_allThatAre 41 = .ok (.ireturn, 1) := by decide +kernel
theorem dX10_caughtIn_0 : decode cX10_caughtIn 0 = .ok (.iconst 0, 1) := by decide +kernel
theorem dX10_caughtIn_1 : decode cX10_caughtIn 1 = .ok (.istore_n 2, 1) := by decide +kernel
theorem dX10_caughtIn_2 : decode cX10_caughtIn 2 = .ok (.iconst 0, 1) := by decide +kernel
theorem dX10_caughtIn_3 : decode cX10_caughtIn 3 = .ok (.istore_n 3, 1) := by decide +kernel
theorem dX10_caughtIn_4 : decode cX10_caughtIn 4 = .ok (.iload_n 3, 1) := by decide +kernel
theorem dX10_caughtIn_5 : decode cX10_caughtIn 5 = .ok (.aload_n 0, 1) := by decide +kernel
theorem dX10_caughtIn_6 : decode cX10_caughtIn 6 = .ok (.getfield 21, 3) := by decide +kernel
theorem dX10_caughtIn_9 : decode cX10_caughtIn 9 = .ok (.getfield 29, 3) := by decide +kernel
theorem dX10_caughtIn_12 : decode cX10_caughtIn 12 = .ok (.if_icmp .ge 28, 3) := by decide +kernel
theorem dX10_caughtIn_15 : decode cX10_caughtIn 15 = .ok (.aload_n 0, 1) := by decide +kernel
theorem dX10_caughtIn_16 : decode cX10_caughtIn 16 = .ok (.getfield 11, 3) := by decide +kernel
theorem dX10_caughtIn_19 : decode cX10_caughtIn 19 = .ok (.iload_n 3, 1) := by decide +kernel
theorem dX10_caughtIn_20 : decode cX10_caughtIn 20 = .ok (.aaload, 1) := by decide +kernel
theorem dX10_caughtIn_21 : decode cX10_caughtIn 21 = .ok (.getfield 93, 3) := by decide +kernel
theorem dX10_caughtIn_24 : decode cX10_caughtIn 24 = .ok (.iload_n 1, 1) := by decide +kernel
theorem dX10_caughtIn_25 : decode cX10_caughtIn 25 = .ok (.if_icmp .ne 9, 3) := by decide +kernel
theorem dX10_caughtIn_28 : decode cX10_caughtIn 28 = .ok (.iload_n 2, 1) := by decide +kernel
theorem dX10_caughtIn_29 : decode cX10_caughtIn 29 = .ok (.iconst 1, 1) := by decide +kernel
theorem dX10_caughtIn_30 : decode cX10_caughtIn 30 = .ok (.iload_n 3, 1) := by decide +kernel
theorem dX10_caughtIn_31 : decode cX10_caughtIn 31 = .ok (.ishl, 1) := by decide +kernel
theorem dX10_caughtIn_32 : decode cX10_caughtIn 32 = .ok (.ior, 1) := by decide +kernel
theorem dX10_caughtIn_33 : decode cX10_caughtIn 33 = .ok (.istore_n 2, 1) := by decide +kernel
theorem dX10_caughtIn_34 : decode cX10_caughtIn 34 = .ok (.iinc 3 1, 3) := by decide +kernel
theorem dX10_caughtIn_37 : decode cX10_caughtIn 37 = .ok (.goto (-33), 3) := by decide +kernel
theorem dX10_caughtIn_40 : decode cX10_caughtIn 40 = .ok (.iload_n 2, 1) := by decide +kernel
theorem dX10_caughtIn_41 : decode cX10_caughtIn 41 = .ok (.ireturn, 1) := by decide +kernel
theorem dX11_init_0 : decode cX11_init 0 = .ok (.aload_n 0, 1) := by decide +kernel
theorem dX11_init_1 : decode cX11_init 1 = .ok (.invokespecial 1, 3) := by decide +kernel
theorem dX11_init_4 : decode cX11_init 4 = .ok (.aload_n 0, 1) := by decide +kernel
theorem dX11_init_5 : decode cX11_init 5 = .ok (.bipush 48, 2) := by decide +kernel
theorem dX11_init_7 : decode cX11_init 7 = .ok (.newarray .int, 2) := by decide +kernel
theorem dX11_init_9 : decode cX11_init 9 = .ok (.putfield 9, 3) := by decide +kernel
theorem dX11_init_12 : decode cX11_init 12 = .ok (.aload_n 0, 1) := by decide +kernel
theorem dX11_init_13 : decode cX11_init 13 = .ok (.new 13, 3) := by decide +kernel
theorem dX11_init_16 : decode cX11_init 16 = .ok (.dup, 1) := by decide +kernel
theorem dX11_init_17 : decode cX11_init 17 = .ok (.invokespecial 15, 3) := by decide +kernel
theorem dX11_init_20 : decode cX11_init 20 = .ok (.putfield 16, 3) := by decide +kernel
theorem dX11_init_23 : decode cX11_init 23 = .ok (.aload_n 0, 1) := by decide +kernel
theorem dX11_init_24 : decode cX11_init 24 = .ok (.new 20, 3) := by decide +kernel
theorem dX11_init_27 : decode cX11_init 27 = .ok (.dup, 1) := by decide +kernel
theorem dX11_init_28 : decode cX11_init 28 = .ok (.aload_n 0, 1) := by decide +kernel
theorem dX11_init_29 : decode cX11_init 29 = .ok (.getfield 16, 3) := by decide +kernel
theorem dX11_init_32 : decode cX11_init 32 = .ok (.invokespecial 22, 3) := by decide +kernel
theorem dX11_init_35 : decode cX11_init 35 = .ok (.putfield 25, 3) := by decide +kernel
theorem dX11_init_38 : decode cX11_init 38 = .ok (.aload_n 0, 1) := by decide +kernel
theorem dX11_init_39 : decode cX11_init 39 = .ok (.new 20, 3) := by decide +kernel
theorem dX11_init_42 : decode cX11_init 42 = .ok (.dup, 1) := by decide +kernel
theorem dX11_init_43 : decode cX11_init 43 = .ok (.new 13, 3) := by decide +kernel
theorem dX11_init_46 : decode cX11_init 46 = .ok (.dup, 1) := by decide +kernel
theorem dX11_init_47 : decode cX11_init 47 = .ok (.invokespecial 15, 3) := by decide +kernel
theorem dX11_init_50 : decode cX11_init 50 = .ok (.invokespecial 22, 3) := by decide +kernel
theorem dX11_init_53 : decode cX11_init 53 = .ok (.putfield 29, 3) := by decide +kernel
theorem dX11_init_56 : decode cX11_init 56 = .ok (.aload_n 0, 1) := by decide +kernel
theorem dX11_init_57 : decode cX11_init 57 = .ok (.new 32, 3) := by decide +kernel
theorem dX11_init_60 : decode cX11_init 60 = .ok (.dup, 1) := by decide +kernel
theorem dX11_init_61 : decode cX11_init 61 = .ok (.aload_n 0, 1) := by decide +kernel
theorem dX11_init_62 : decode cX11_init 62 = .ok (.getfield 16, 3) := by decide +kernel
theorem dX11_init_65 : decode cX11_init 65 = .ok (.invokespecial 34, 3) := by decide +kernel
theorem dX11_init_68 : decode cX11_init 68 = .ok (.putfield 35, 3) := by decide +kernel
theorem dX11_init_71 : decode cX11_init 71 = .ok (.aload_n 0, 1) := by decide +kernel
theorem dX11_init_72 : decode cX11_init 72 = .ok (.new 32, 3) := by decide +kernel
theorem dX11_init_75 : decode cX11_init 75 = .ok (.dup, 1) := by decide +kernel
theorem dX11_init_76 : decode cX11_init 76 = .ok (.aload_n 0, 1) := by decide +kernel
theorem dX11_init_77 : decode cX11_init 77 = .ok (.getfield 16, 3) := by decide +kernel
theorem dX11_init_80 : decode cX11_init 80 = .ok (.invokespecial 34, 3) := by decide +kernel
theorem dX11_init_83 : decode cX11_init 83 = .ok (.putfield 39, 3) := by decide +kernel
theorem dX11_init_86 : decode cX11_init 86 = .ok (.aload_n 0, 1) := by decide +kernel
theorem dX11_init_87 : decode cX11_init 87 = .ok (.new 42, 3) := by decide +kernel
theorem dX11_init_90 : decode cX11_init 90 = .ok (.dup, 1) := by decide +kernel
theorem dX11_init_91 : decode cX11_init 91 = .ok (.aload_n 0, 1) := by decide +kernel
theorem dX11_init_92 : decode cX11_init 92 = .ok (.getfield 16, 3) := by decide +kernel
theorem dX11_init_95 : decode cX11_init 95 = .ok (.invokespecial 44, 3) := by decide +kernel
theorem dX11_init_98 : decode cX11_init 98 = .ok (.putfield 45, 3) := by decide +kernel
theorem dX11_init_101 : decode cX11_init 101 = .ok (.aload_n 0, 1) := by decide +kernel
theorem dX11_init_102 : decode cX11_init 102 = .ok (.iconst 2, 1) := by decide +kernel
theorem dX11_init_103 : decode cX11_init 103 = .ok (.anewarray 32, 3) := by decide +kernel
theorem dX11_init_106 : decode cX11_init 106 = .ok (.putfield 49, 3) := by decide +kernel
theorem dX11_init_109 : decode cX11_init 109 = .ok (.aload_n 0, 1) := by decide +kernel
theorem dX11_init_110 : decode cX11_init 110 = .ok (.iconst 2, 1) := by decide +kernel
theorem dX11_init_111 : decode cX11_init 111 = .ok (.newarray .boolean, 2) := by decide +kernel
theorem dX11_init_113 : decode cX11_init 113 = .ok (.putfield 53, 3) := by decide +kernel
theorem dX11_init_116 : decode cX11_init 116 = .ok (.aload_n 0, 1) := by decide +kernel
theorem dX11_init_117 : decode cX11_init 117 = .ok (.new 57, 3) := by decide +kernel
theorem dX11_init_120 : decode cX11_init 120 = .ok (.dup, 1) := by decide +kernel
theorem dX11_init_121 : decode cX11_init 121 = .ok (.aload_n 0, 1) := by decide +kernel
theorem dX11_init_122 : decode cX11_init 122 = .ok (.getfield 35, 3) := by decide +kernel
theorem dX11_init_125 : decode cX11_init 125 = .ok (.aload_n 0, 1) := by decide +kernel
theorem dX11_init_126 : decode cX11_init 126 = .ok (.getfield 39, 3) := by decide +kernel
theorem dX11_init_129 : decode cX11_init 129 = .ok (.invokespecial 59, 3) := by decide +kernel
theorem dX11_init_132 : decode cX11_init 132 = .ok (.putfield 62, 3) := by decide +kernel
theorem dX11_init_135 : decode cX11_init 135 = .ok (.aload_n 0, 1) := by decide +kernel
theorem dX11_init_136 : decode cX11_init 136 = .ok (.new 66, 3) := by decide +kernel
theorem dX11_init_139 : decode cX11_init 139 = .ok (.dup, 1) := by decide +kernel
theorem dX11_init_140 : decode cX11_init 140 = .ok (.aload_n 0, 1) := by decide +kernel
theorem dX11_init_141 : decode cX11_init 141 = .ok (.getfield 39, 3) := by decide +kernel
theorem dX11_init_144 : decode cX11_init 144 = .ok (.invokespecial 68, 3) := by decide +kernel
theorem dX11_init_147 : decode cX11_init 147 = .ok (.putfield 71, 3) := by decide +kernel
theorem dX11_init_150 : decode cX11_init 150 = .ok (.aload_n 0, 1) := by decide +kernel
theorem dX11_init_151 : decode cX11_init 151 = .ok (.new 75, 3) := by decide +kernel
theorem dX11_init_154 : decode cX11_init 154 = .ok (.dup, 1) := by decide +kernel
theorem dX11_init_155 : decode cX11_init 155 = .ok (.aload_n 0, 1) := by decide +kernel
theorem dX11_init_156 : decode cX11_init 156 = .ok (.getfield 16, 3) := by decide +kernel
theorem dX11_init_159 : decode cX11_init 159 = .ok (.invokespecial 77, 3) := by decide +kernel
theorem dX11_init_162 : decode cX11_init 162 = .ok (.putfield 78, 3) := by decide +kernel
theorem dX11_init_165 : decode cX11_init 165 = .ok (.aload_n 0, 1) := by decide +kernel
theorem dX11_init_166 : decode cX11_init 166 = .ok (.new 82, 3) := by decide +kernel
theorem dX11_init_169 : decode cX11_init 169 = .ok (.dup, 1) := by decide +kernel
theorem dX11_init_170 : decode cX11_init 170 = .ok (.aload_n 0, 1) := by decide +kernel
theorem dX11_init_171 : decode cX11_init 171 = .ok (.getfield 35, 3) := by decide +kernel
theorem dX11_init_174 : decode cX11_init 174 = .ok (.aload_n 0, 1) := by decide +kernel
theorem dX11_init_175 : decode cX11_init 175 = .ok (.getfield 39, 3) := by decide +kernel
theorem dX11_init_178 : decode cX11_init 178 = .ok (.invokespecial 84, 3) := by decide +kernel
theorem dX11_init_181 : decode cX11_init 181 = .ok (.putfield 85, 3) := by decide +kernel
theorem dX11_init_184 : decode cX11_init 184 = .ok (.aload_n 0, 1) := by decide +kernel
theorem dX11_init_185 : decode cX11_init 185 = .ok (.new 89, 3) := by decide +kernel
theorem dX11_init_188 : decode cX11_init 188 = .ok (.dup, 1) := by decide +kernel
theorem dX11_init_189 : decode cX11_init 189 = .ok (.aload_n 0, 1) := by decide +kernel
theorem dX11_init_190 : decode cX11_init 190 = .ok (.getfield 35, 3) := by decide +kernel
theorem dX11_init_193 : decode cX11_init 193 = .ok (.aload_n 0, 1) := by decide +kernel
theorem dX11_init_194 : decode cX11_init 194 = .ok (.getfield 39, 3) := by decide +kernel
theorem dX11_init_197 : decode cX11_init 197 = .ok (.invokespecial 91, 3) := by decide +kernel
theorem dX11_init_200 : decode cX11_init 200 = .ok (.putfield 92, 3) := by decide +kernel
theorem dX11_init_203 : decode cX11_init 203 = .ok (.aload_n 0, 1) := by decide +kernel
theorem dX11_init_204 : decode cX11_init 204 = .ok (.new 96, 3) := by decide +kernel
theorem dX11_init_207 : decode cX11_init 207 = .ok (.dup, 1) := by decide +kernel
theorem dX11_init_208 : decode cX11_init 208 = .ok (.aload_n 0, 1) := by decide +kernel
theorem dX11_init_209 : decode cX11_init 209 = .ok (.getfield 35, 3) := by decide +kernel
theorem dX11_init_212 : decode cX11_init 212 = .ok (.aload_n 0, 1) := by decide +kernel
theorem dX11_init_213 : decode cX11_init 213 = .ok (.getfield 39, 3) := by decide +kernel
theorem dX11_init_216 : decode cX11_init 216 = .ok (.invokespecial 98, 3) := by decide +kernel
theorem dX11_init_219 : decode cX11_init 219 = .ok (.putfield 99, 3) := by decide +kernel
theorem dX11_init_222 : decode cX11_init 222 = .ok (.iconst 0, 1) := by decide +kernel
theorem dX11_init_223 : decode cX11_init 223 = .ok (.istore_n 1, 1) := by decide +kernel
theorem dX11_init_224 : decode cX11_init 224 = .ok (.iload_n 1, 1) := by decide +kernel
theorem dX11_init_225 : decode cX11_init 225 = .ok (.iconst 2, 1) := by decide +kernel
theorem dX11_init_226 : decode cX11_init 226 = .ok (.if_icmp .ge 26, 3) := by decide +kernel
theorem dX11_init_229 : decode cX11_init 229 = .ok (.aload_n 0, 1) := by decide +kernel
theorem dX11_init_230 : decode cX11_init 230 = .ok (.getfield 49, 3) := by decide +kernel
theorem dX11_init_233 : decode cX11_init 233 = .ok (.iload_n 1, 1) := by decide +kernel
theorem dX11_init_234 : decode cX11_init 234 = .ok (.new 32, 3) := by decide +kernel
theorem dX11_init_237 : decode cX11_init 237 = .ok (.dup, 1) := by decide +kernel
theorem dX11_init_238 : decode cX11_init 238 = .ok (.aload_n 0, 1) := by decide +kernel
theorem dX11_init_239 : decode cX11_init 239 = .ok (.getfield 16, 3) := by decide +kernel
theorem dX11_init_242 : decode cX11_init 242 = .ok (.invokespecial 34, 3) := by decide +kernel
theorem dX11_init_245 : decode cX11_init 245 = .ok (.aastore, 1) := by decide +kernel
theorem dX11_init_246 : decode cX11_init 246 = .ok (.iinc 1 1, 3) := by decide +kernel
theorem dX11_init_249 : decode cX11_init 249 = .ok (.goto (-25), 3) := by decide +kernel
theorem dX11_init_252 : decode cX11_init 252 = .ok (.return_, 1) := by decide +kernel
theorem dX11_write_0 : decode cX11_write 0 = .ok (.iload_n 1, 1) := by decide +kernel
theorem dX11_write_1 : decode cX11_write 1 = .ok (.ifCond .lt 10, 3) := by decide +kernel
theorem dX11_write_4 : decode cX11_write 4 = .ok (.iload_n 1, 1) := by decide +kernel
theorem dX11_write_5 : decode cX11_write 5 = .ok (.sipush 255, 3) := by decide +kernel
