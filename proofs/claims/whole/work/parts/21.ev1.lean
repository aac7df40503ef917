theorem eX11_write_35 (L : pmL) (S : List Value) (g : pmH) : pmV mX11_write 35 L S g = zIast mX11_write 36 L S g := ez_iastore kcX11_write dX11_write_35 rfl L S g
theorem eX11_write_36 (L : pmL) (S : List Value) (g : pmH) : pmV mX11_write 36 L S g = zLdA mX11_write 37 0 L S g := ez_aload_n kcX11_write dX11_write_36 rfl rfl L S g
theorem eX11_write_37 (L : pmL) (S : List Value) (g : pmH) : pmV mX11_write 37 L S g = zDup mX11_write 38 L S g := ez_dup kcX11_write dX11_write_37 rfl L S g
theorem eX11_write_38 (L : pmL) (S : List Value) (g : pmH) : pmV mX11_write 38 L S g = zGet mX11_write 41 11 1 L S g := ez_getfield kcX11_write dX11_write_38 fl_11_103 rfl L S g
theorem eX11_write_41 (L : pmL) (S : List Value) (g : pmH) : pmV mX11_write 41 L S g = zPush mX11_write 42 (.int (nI 1)) L S g := ez_iconst kcX11_write dX11_write_41 (by decide) rfl L S g
theorem eX11_write_42 (L : pmL) (S : List Value) (g : pmH) : pmV mX11_write 42 L S g = zAdd mX11_write 43 L S g := ez_iadd kcX11_write dX11_write_42 rfl L S g
theorem eX11_write_43 (L : pmL) (S : List Value) (g : pmH) : pmV mX11_write 43 L S g = zPut mX11_write 46 11 1 L S g := ez_putfield kcX11_write dX11_write_43 fl_11_103 rfl L S g
theorem eX11_write_46 (L : pmL) (S : List Value) (g : pmH) : pmV mX11_write 46 L S g = zLdA mX11_write 47 0 L S g := ez_aload_n kcX11_write dX11_write_46 rfl rfl L S g
theorem eX11_write_47 (L : pmL) (S : List Value) (g : pmH) : pmV mX11_write 47 L S g = zGet mX11_write 50 11 1 L S g := ez_getfield kcX11_write dX11_write_47 fl_11_103 rfl L S g
theorem eX11_write_50 (L : pmL) (S : List Value) (g : pmH) : pmV mX11_write 50 L S g = zIret mX11_write S g := ez_ireturn kcX11_write dX11_write_50 L S g
theorem eX11_wipe_0 (L : pmL) (S : List Value) (g : pmH) : pmV mX11_wipe 0 L S g = zLdA mX11_wipe 1 0 L S g := ez_aload_n kcX11_wipe dX11_wipe_0 rfl rfl L S g
theorem eX11_wipe_1 (L : pmL) (S : List Value) (g : pmH) : pmV mX11_wipe 1 L S g = zGet mX11_wipe 4 11 1 L S g := ez_getfield kcX11_wipe dX11_wipe_1 fl_11_103 rfl L S g
theorem eX11_wipe_4 (L : pmL) (S : List Value) (g : pmH) : pmV mX11_wipe 4 L S g = zStI mX11_wipe 5 1 L S g := ez_istore_n kcX11_wipe dX11_wipe_4 rfl rfl L S g
theorem eX11_wipe_5 (L : pmL) (S : List Value) (g : pmH) : pmV mX11_wipe 5 L S g = zLdA mX11_wipe 6 0 L S g := ez_aload_n kcX11_wipe dX11_wipe_5 rfl rfl L S g
theorem eX11_wipe_6 (L : pmL) (S : List Value) (g : pmH) : pmV mX11_wipe 6 L S g = zPush mX11_wipe 7 (.int (nI 0)) L S g := ez_iconst kcX11_wipe dX11_wipe_6 (by decide) rfl L S g
theorem eX11_wipe_7 (L : pmL) (S : List Value) (g : pmH) : pmV mX11_wipe 7 L S g = zPut mX11_wipe 10 11 1 L S g := ez_putfield kcX11_wipe dX11_wipe_7 fl_11_103 rfl L S g
theorem eX11_wipe_10 (L : pmL) (S : List Value) (g : pmH) : pmV mX11_wipe 10 L S g = zLdI mX11_wipe 11 1 L S g := ez_iload_n kcX11_wipe dX11_wipe_10 rfl rfl L S g
theorem eX11_wipe_11 (L : pmL) (S : List Value) (g : pmH) : pmV mX11_wipe 11 L S g = zIret mX11_wipe S g := ez_ireturn kcX11_wipe dX11_wipe_11 L S g
theorem eX11_fault_0 (L : pmL) (S : List Value) (g : pmH) : pmV mX11_fault 0 L S g = zLdA mX11_fault 1 0 L S g := ez_aload_n kcX11_fault dX11_fault_0 rfl rfl L S g
theorem eX11_fault_1 (L : pmL) (S : List Value) (g : pmH) : pmV mX11_fault 1 L S g = zGet mX11_fault 4 11 4 L S g := ez_getfield kcX11_fault dX11_fault_1 fl_11_29 rfl L S g
theorem eX11_fault_4 (L : pmL) (S : List Value) (g : pmH) : pmV mX11_fault 4 L S g = zLdA mX11_fault 5 0 L S g := ez_aload_n kcX11_fault dX11_fault_4 rfl rfl L S g
theorem eX11_fault_5 (L : pmL) (S : List Value) (g : pmH) : pmV mX11_fault 5 L S g = zGet mX11_fault 8 11 0 L S g := ez_getfield kcX11_fault dX11_fault_5 fl_11_9 rfl L S g
theorem eX11_fault_8 (L : pmL) (S : List Value) (g : pmH) : pmV mX11_fault 8 L S g = zLdA mX11_fault 9 0 L S g := ez_aload_n kcX11_fault dX11_fault_8 rfl rfl L S g
theorem eX11_fault_9 (L : pmL) (S : List Value) (g : pmH) : pmV mX11_fault 9 L S g = zGet mX11_fault 12 11 1 L S g := ez_getfield kcX11_fault dX11_fault_9 fl_11_103 rfl L S g
theorem eX11_fault_12 (L : pmL) (S : List Value) (g : pmH) : pmV mX11_fault 12 L S g = yV mX11_fault 15 2 mX7_read 7 4 L S g := (ez_virtual kcX11_fault dX11_fault_12 ml_11_107 rfl L S g).trans (zCallV_y rfl rfl (by decide) L S g)
theorem eX11_fault_15 (L : pmL) (S : List Value) (g : pmH) : pmV mX11_fault 15 L S g = zIret mX11_fault S g := ez_ireturn kcX11_fault dX11_fault_15 L S g
theorem eX11_city_0 (L : pmL) (S : List Value) (g : pmH) : pmV mX11_city 0 L S g = zLdA mX11_city 1 0 L S g := ez_aload_n kcX11_city dX11_city_0 rfl rfl L S g
theorem eX11_city_1 (L : pmL) (S : List Value) (g : pmH) : pmV mX11_city 1 L S g = zGet mX11_city 4 11 4 L S g := ez_getfield kcX11_city dX11_city_1 fl_11_29 rfl L S g
theorem eX11_city_4 (L : pmL) (S : List Value) (g : pmH) : pmV mX11_city 4 L S g = zLdA mX11_city 5 0 L S g := ez_aload_n kcX11_city dX11_city_4 rfl rfl L S g
theorem eX11_city_5 (L : pmL) (S : List Value) (g : pmH) : pmV mX11_city 5 L S g = zGet mX11_city 8 11 0 L S g := ez_getfield kcX11_city dX11_city_5 fl_11_9 rfl L S g
theorem eX11_city_8 (L : pmL) (S : List Value) (g : pmH) : pmV mX11_city 8 L S g = zLdA mX11_city 9 0 L S g := ez_aload_n kcX11_city dX11_city_8 rfl rfl L S g
theorem eX11_city_9 (L : pmL) (S : List Value) (g : pmH) : pmV mX11_city 9 L S g = zGet mX11_city 12 11 1 L S g := ez_getfield kcX11_city dX11_city_9 fl_11_103 rfl L S g
theorem eX11_city_12 (L : pmL) (S : List Value) (g : pmH) : pmV mX11_city 12 L S g = yV mX11_city 15 2 mX7_read 7 4 L S g := (ez_virtual kcX11_city dX11_city_12 ml_11_107 rfl L S g).trans (zCallV_y rfl rfl (by decide) L S g)
theorem eX11_city_15 (L : pmL) (S : List Value) (g : pmH) : pmV mX11_city 15 L S g = zPush mX11_city 17 (.int (-9)) L S g := ez_bipush kcX11_city dX11_city_15 (by decide) rfl L S g
theorem eX11_city_17 (L : pmL) (S : List Value) (g : pmH) : pmV mX11_city 17 L S g = zBeq mX11_city 20 23 L S g := ez_icmp_eq kcX11_city dX11_city_17 (by decide) rfl L S g
theorem eX11_city_20 (L : pmL) (S : List Value) (g : pmH) : pmV mX11_city 20 L S g = zPush mX11_city 22 (.int (-3)) L S g := ez_bipush kcX11_city dX11_city_20 (by decide) rfl L S g
theorem eX11_city_22 (L : pmL) (S : List Value) (g : pmH) : pmV mX11_city 22 L S g = zIret mX11_city S g := ez_ireturn kcX11_city dX11_city_22 L S g
theorem eX11_city_23 (L : pmL) (S : List Value) (g : pmH) : pmV mX11_city 23 L S g = zLdA mX11_city 24 0 L S g := ez_aload_n kcX11_city dX11_city_23 rfl rfl L S g
theorem eX11_city_24 (L : pmL) (S : List Value) (g : pmH) : pmV mX11_city 24 L S g = zGet mX11_city 27 11 3 L S g := ez_getfield kcX11_city dX11_city_24 fl_11_25 rfl L S g
theorem eX11_city_27 (L : pmL) (S : List Value) (g : pmH) : pmV mX11_city 27 L S g = zLdA mX11_city 28 0 L S g := ez_aload_n kcX11_city dX11_city_27 rfl rfl L S g
theorem eX11_city_28 (L : pmL) (S : List Value) (g : pmH) : pmV mX11_city 28 L S g = zGet mX11_city 31 11 0 L S g := ez_getfield kcX11_city dX11_city_28 fl_11_9 rfl L S g
theorem eX11_city_31 (L : pmL) (S : List Value) (g : pmH) : pmV mX11_city 31 L S g = zLdA mX11_city 32 0 L S g := ez_aload_n kcX11_city dX11_city_31 rfl rfl L S g
theorem eX11_city_32 (L : pmL) (S : List Value) (g : pmH) : pmV mX11_city 32 L S g = zGet mX11_city 35 11 1 L S g := ez_getfield kcX11_city dX11_city_32 fl_11_103 rfl L S g
theorem eX11_city_35 (L : pmL) (S : List Value) (g : pmH) : pmV mX11_city 35 L S g = yV mX11_city 38 2 mX7_read 7 4 L S g := (ez_virtual kcX11_city dX11_city_35 ml_11_107 rfl L S g).trans (zCallV_y rfl rfl (by decide) L S g)
theorem eX11_city_38 (L : pmL) (S : List Value) (g : pmH) : pmV mX11_city 38 L S g = zPop mX11_city 39 L S g := ez_pop kcX11_city dX11_city_38 rfl L S g
theorem eX11_city_39 (L : pmL) (S : List Value) (g : pmH) : pmV mX11_city 39 L S g = zLdA mX11_city 40 0 L S g := ez_aload_n kcX11_city dX11_city_39 rfl rfl L S g
theorem eX11_city_40 (L : pmL) (S : List Value) (g : pmH) : pmV mX11_city 40 L S g = zGet mX11_city 43 11 5 L S g := ez_getfield kcX11_city dX11_city_40 fl_11_35 rfl L S g
theorem eX11_city_43 (L : pmL) (S : List Value) (g : pmH) : pmV mX11_city 43 L S g = yV mX11_city 46 0 mX10_begin 10 2 L S g := (ez_virtual kcX11_city dX11_city_43 ml_11_111 rfl L S g).trans (zCallV_y rfl rfl (by decide) L S g)
theorem eX11_city_46 (L : pmL) (S : List Value) (g : pmH) : pmV mX11_city 46 L S g = zLdA mX11_city 47 0 L S g := ez_aload_n kcX11_city dX11_city_46 rfl rfl L S g
theorem eX11_city_47 (L : pmL) (S : List Value) (g : pmH) : pmV mX11_city 47 L S g = zGet mX11_city 50 11 7 L S g := ez_getfield kcX11_city dX11_city_47 fl_11_45 rfl L S g
theorem eX11_city_50 (L : pmL) (S : List Value) (g : pmH) : pmV mX11_city 50 L S g = yV mX11_city 53 0 mX0_forget 0 1 L S g := (ez_virtual kcX11_city dX11_city_50 ml_11_114 rfl L S g).trans (zCallV_y rfl rfl (by decide) L S g)
theorem eX11_city_53 (L : pmL) (S : List Value) (g : pmH) : pmV mX11_city 53 L S g = zPush mX11_city 54 (.int (nI 0)) L S g := ez_iconst kcX11_city dX11_city_53 (by decide) rfl L S g
theorem eX11_city_54 (L : pmL) (S : List Value) (g : pmH) : pmV mX11_city 54 L S g = zStI mX11_city 55 1 L S g := ez_istore_n kcX11_city dX11_city_54 rfl rfl L S g
theorem eX11_city_55 (L : pmL) (S : List Value) (g : pmH) : pmV mX11_city 55 L S g = zLdI mX11_city 56 1 L S g := ez_iload_n kcX11_city dX11_city_55 rfl rfl L S g
theorem eX11_city_56 (L : pmL) (S : List Value) (g : pmH) : pmV mX11_city 56 L S g = zPush mX11_city 57 (.int (nI 2)) L S g := ez_iconst kcX11_city dX11_city_56 (by decide) rfl L S g
theorem eX11_city_57 (L : pmL) (S : List Value) (g : pmH) : pmV mX11_city 57 L S g = zBge mX11_city 60 73 L S g := ez_icmp_ge kcX11_city dX11_city_57 (by decide) rfl L S g
theorem eX11_city_60 (L : pmL) (S : List Value) (g : pmH) : pmV mX11_city 60 L S g = zLdA mX11_city 61 0 L S g := ez_aload_n kcX11_city dX11_city_60 rfl rfl L S g
theorem eX11_city_61 (L : pmL) (S : List Value) (g : pmH) : pmV mX11_city 61 L S g = zGet mX11_city 64 11 9 L S g := ez_getfield kcX11_city dX11_city_61 fl_11_53 rfl L S g
theorem eX11_city_64 (L : pmL) (S : List Value) (g : pmH) : pmV mX11_city 64 L S g = zLdI mX11_city 65 1 L S g := ez_iload_n kcX11_city dX11_city_64 rfl rfl L S g
theorem eX11_city_65 (L : pmL) (S : List Value) (g : pmH) : pmV mX11_city 65 L S g = zPush mX11_city 66 (.int (nI 0)) L S g := ez_iconst kcX11_city dX11_city_65 (by decide) rfl L S g
theorem eX11_city_66 (L : pmL) (S : List Value) (g : pmH) : pmV mX11_city 66 L S g = zBast mX11_city 67 L S g := ez_bastore kcX11_city dX11_city_66 rfl L S g
theorem eX11_city_67 (L : pmL) (S : List Value) (g : pmH) : pmV mX11_city 67 L S g = zInc mX11_city 70 1 (nI 1) L S g := ez_iinc kcX11_city dX11_city_67 (by decide) rfl L S g
theorem eX11_city_70 (L : pmL) (S : List Value) (g : pmH) : pmV mX11_city 70 L S g = zNx mX11_city 55 L S g := ez_goto kcX11_city dX11_city_70 (by decide) L S g
theorem eX11_city_73 (L : pmL) (S : List Value) (g : pmH) : pmV mX11_city 73 L S g = zPush mX11_city 75 (.int (nI 100)) L S g := ez_bipush kcX11_city dX11_city_73 (by decide) rfl L S g
theorem eX11_city_75 (L : pmL) (S : List Value) (g : pmH) : pmV mX11_city 75 L S g = zLdA mX11_city 76 0 L S g := ez_aload_n kcX11_city dX11_city_75 rfl rfl L S g
theorem eX11_city_76 (L : pmL) (S : List Value) (g : pmH) : pmV mX11_city 76 L S g = zGet mX11_city 79 11 2 L S g := ez_getfield kcX11_city dX11_city_76 fl_11_16 rfl L S g
theorem eX11_city_79 (L : pmL) (S : List Value) (g : pmH) : pmV mX11_city 79 L S g = zGet mX11_city 82 4 7 L S g := ez_getfield kcX11_city dX11_city_79 fl_11_117 rfl L S g
theorem eX11_city_82 (L : pmL) (S : List Value) (g : pmH) : pmV mX11_city 82 L S g = zMul mX11_city 83 L S g := ez_imul kcX11_city dX11_city_82 rfl L S g
theorem eX11_city_83 (L : pmL) (S : List Value) (g : pmH) : pmV mX11_city 83 L S g = zPush mX11_city 85 (.int (nI 10)) L S g := ez_bipush kcX11_city dX11_city_83 (by decide) rfl L S g
theorem eX11_city_85 (L : pmL) (S : List Value) (g : pmH) : pmV mX11_city 85 L S g = zLdA mX11_city 86 0 L S g := ez_aload_n kcX11_city dX11_city_85 rfl rfl L S g
theorem eX11_city_86 (L : pmL) (S : List Value) (g : pmH) : pmV mX11_city 86 L S g = zGet mX11_city 89 11 2 L S g := ez_getfield kcX11_city dX11_city_86 fl_11_16 rfl L S g
theorem eX11_city_89 (L : pmL) (S : List Value) (g : pmH) : pmV mX11_city 89 L S g = zGet mX11_city 92 4 8 L S g := ez_getfield kcX11_city dX11_city_89 fl_11_120 rfl L S g
theorem eX11_city_92 (L : pmL) (S : List Value) (g : pmH) : pmV mX11_city 92 L S g = zMul mX11_city 93 L S g := ez_imul kcX11_city dX11_city_92 rfl L S g
theorem eX11_city_93 (L : pmL) (S : List Value) (g : pmH) : pmV mX11_city 93 L S g = zAdd mX11_city 94 L S g := ez_iadd kcX11_city dX11_city_93 rfl L S g
theorem eX11_city_94 (L : pmL) (S : List Value) (g : pmH) : pmV mX11_city 94 L S g = zLdA mX11_city 95 0 L S g := ez_aload_n kcX11_city dX11_city_94 rfl rfl L S g
theorem eX11_city_95 (L : pmL) (S : List Value) (g : pmH) : pmV mX11_city 95 L S g = zGet mX11_city 98 11 2 L S g := ez_getfield kcX11_city dX11_city_95 fl_11_16 rfl L S g
theorem eX11_city_98 (L : pmL) (S : List Value) (g : pmH) : pmV mX11_city 98 L S g = zGet mX11_city 101 4 9 L S g := ez_getfield kcX11_city dX11_city_98 fl_11_123 rfl L S g
theorem eX11_city_101 (L : pmL) (S : List Value) (g : pmH) : pmV mX11_city 101 L S g = zAdd mX11_city 102 L S g := ez_iadd kcX11_city dX11_city_101 rfl L S g
theorem eX11_city_102 (L : pmL) (S : List Value) (g : pmH) : pmV mX11_city 102 L S g = zIret mX11_city S g := ez_ireturn kcX11_city dX11_city_102 L S g
theorem eX11_balloon_0 (L : pmL) (S : List Value) (g : pmH) : pmV mX11_balloon 0 L S g = zLdA mX11_balloon 1 0 L S g := ez_aload_n kcX11_balloon dX11_balloon_0 rfl rfl L S g
theorem eX11_balloon_1 (L : pmL) (S : List Value) (g : pmH) : pmV mX11_balloon 1 L S g = zGet mX11_balloon 4 11 5 L S g := ez_getfield kcX11_balloon dX11_balloon_1 fl_11_35 rfl L S g
theorem eX11_balloon_4 (L : pmL) (S : List Value) (g : pmH) : pmV mX11_balloon 4 L S g = zLdI mX11_balloon 5 1 L S g := ez_iload_n kcX11_balloon dX11_balloon_4 rfl rfl L S g
theorem eX11_balloon_5 (L : pmL) (S : List Value) (g : pmH) : pmV mX11_balloon 5 L S g = yV mX11_balloon 8 1 mX10_hasBalloon 10 2 L S g := (ez_virtual kcX11_balloon dX11_balloon_5 ml_11_126 rfl L S g).trans (zCallV_y rfl rfl (by decide) L S g)
theorem eX11_balloon_8 (L : pmL) (S : List Value) (g : pmH) : pmV mX11_balloon 8 L S g = zCne mX11_balloon 11 13 L S g := ez_if_ne kcX11_balloon dX11_balloon_8 (by decide) rfl L S g
theorem eX11_balloon_11 (L : pmL) (S : List Value) (g : pmH) : pmV mX11_balloon 11 L S g = zPush mX11_balloon 12 (.int (-1)) L S g := ez_iconst kcX11_balloon dX11_balloon_11 (by decide) rfl L S g
theorem eX11_balloon_12 (L : pmL) (S : List Value) (g : pmH) : pmV mX11_balloon 12 L S g = zIret mX11_balloon S g := ez_ireturn kcX11_balloon dX11_balloon_12 L S g
theorem eX11_balloon_13 (L : pmL) (S : List Value) (g : pmH) : pmV mX11_balloon 13 L S g = zLdI mX11_balloon 14 2 L S g := ez_iload_n kcX11_balloon dX11_balloon_13 rfl rfl L S g
theorem eX11_balloon_14 (L : pmL) (S : List Value) (g : pmH) : pmV mX11_balloon 14 L S g = zClt mX11_balloon 17 23 L S g := ez_if_lt kcX11_balloon dX11_balloon_14 (by decide) rfl L S g
theorem eX11_balloon_17 (L : pmL) (S : List Value) (g : pmH) : pmV mX11_balloon 17 L S g = zLdI mX11_balloon 18 2 L S g := ez_iload_n kcX11_balloon dX11_balloon_17 rfl rfl L S g
theorem eX11_balloon_18 (L : pmL) (S : List Value) (g : pmH) : pmV mX11_balloon 18 L S g = zPush mX11_balloon 20 (.int (nI 7)) L S g := ez_bipush kcX11_balloon dX11_balloon_18 (by decide) rfl L S g
theorem eX11_balloon_20 (L : pmL) (S : List Value) (g : pmH) : pmV mX11_balloon 20 L S g = zBle mX11_balloon 23 26 L S g := ez_icmp_le kcX11_balloon dX11_balloon_20 (by decide) rfl L S g
theorem eX11_balloon_23 (L : pmL) (S : List Value) (g : pmH) : pmV mX11_balloon 23 L S g = zPush mX11_balloon 25 (.int (-2)) L S g := ez_bipush kcX11_balloon dX11_balloon_23 (by decide) rfl L S g
theorem eX11_balloon_25 (L : pmL) (S : List Value) (g : pmH) : pmV mX11_balloon 25 L S g = zIret mX11_balloon S g := ez_ireturn kcX11_balloon dX11_balloon_25 L S g
theorem eX11_balloon_26 (L : pmL) (S : List Value) (g : pmH) : pmV mX11_balloon 26 L S g = zLdA mX11_balloon 27 0 L S g := ez_aload_n kcX11_balloon dX11_balloon_26 rfl rfl L S g
theorem eX11_balloon_27 (L : pmL) (S : List Value) (g : pmH) : pmV mX11_balloon 27 L S g = zGet mX11_balloon 30 11 5 L S g := ez_getfield kcX11_balloon dX11_balloon_27 fl_11_35 rfl L S g
theorem eX11_balloon_30 (L : pmL) (S : List Value) (g : pmH) : pmV mX11_balloon 30 L S g = zGet mX11_balloon 33 10 1 L S g := ez_getfield kcX11_balloon dX11_balloon_30 fl_11_130 rfl L S g
theorem eX11_balloon_33 (L : pmL) (S : List Value) (g : pmH) : pmV mX11_balloon 33 L S g = zLdI mX11_balloon 34 1 L S g := ez_iload_n kcX11_balloon dX11_balloon_33 rfl rfl L S g
theorem eX11_balloon_34 (L : pmL) (S : List Value) (g : pmH) : pmV mX11_balloon 34 L S g = zAald mX11_balloon 35 L S g := ez_aaload kcX11_balloon dX11_balloon_34 rfl L S g
theorem eX11_balloon_35 (L : pmL) (S : List Value) (g : pmH) : pmV mX11_balloon 35 L S g = zStA mX11_balloon 36 3 L S g := ez_astore_n kcX11_balloon dX11_balloon_35 rfl rfl L S g
theorem eX11_balloon_36 (L : pmL) (S : List Value) (g : pmH) : pmV mX11_balloon 36 L S g = zLdI mX11_balloon 37 2 L S g := ez_iload_n kcX11_balloon dX11_balloon_36 rfl rfl L S g
theorem eX11_balloon_37 (L : pmL) (S : List Value) (g : pmH) : pmV mX11_balloon 37 L S g = zTab mX11_balloon 37 95 0 6 #[43, 48, 53, 63, 68, 73, 78] L S g := ez_tab kcX11_balloon dX11_balloon_37 L S g
theorem eX11_balloon_80 (L : pmL) (S : List Value) (g : pmH) : pmV mX11_balloon 80 L S g = zLdA mX11_balloon 81 3 L S g := ez_aload_n kcX11_balloon dX11_balloon_80 rfl rfl L S g
theorem eX11_balloon_81 (L : pmL) (S : List Value) (g : pmH) : pmV mX11_balloon 81 L S g = zGet mX11_balloon 84 1 1 L S g := ez_getfield kcX11_balloon dX11_balloon_81 fl_11_133 rfl L S g
theorem eX11_balloon_84 (L : pmL) (S : List Value) (g : pmH) : pmV mX11_balloon 84 L S g = zIret mX11_balloon S g := ez_ireturn kcX11_balloon dX11_balloon_84 L S g
theorem eX11_balloon_85 (L : pmL) (S : List Value) (g : pmH) : pmV mX11_balloon 85 L S g = zLdA mX11_balloon 86 3 L S g := ez_aload_n kcX11_balloon dX11_balloon_85 rfl rfl L S g
theorem eX11_balloon_86 (L : pmL) (S : List Value) (g : pmH) : pmV mX11_balloon 86 L S g = zGet mX11_balloon 89 1 0 L S g := ez_getfield kcX11_balloon dX11_balloon_86 fl_11_138 rfl L S g
theorem eX11_balloon_89 (L : pmL) (S : List Value) (g : pmH) : pmV mX11_balloon 89 L S g = zIret mX11_balloon S g := ez_ireturn kcX11_balloon dX11_balloon_89 L S g
theorem eX11_balloon_90 (L : pmL) (S : List Value) (g : pmH) : pmV mX11_balloon 90 L S g = zLdA mX11_balloon 91 0 L S g := ez_aload_n kcX11_balloon dX11_balloon_90 rfl rfl L S g
theorem eX11_balloon_91 (L : pmL) (S : List Value) (g : pmH) : pmV mX11_balloon 91 L S g = zGet mX11_balloon 94 11 2 L S g := ez_getfield kcX11_balloon dX11_balloon_91 fl_11_16 rfl L S g
theorem eX11_balloon_94 (L : pmL) (S : List Value) (g : pmH) : pmV mX11_balloon 94 L S g = zGet mX11_balloon 97 4 3 L S g := ez_getfield kcX11_balloon dX11_balloon_94 fl_11_141 rfl L S g
theorem eX11_balloon_97 (L : pmL) (S : List Value) (g : pmH) : pmV mX11_balloon 97 L S g = zLdI mX11_balloon 98 1 L S g := ez_iload_n kcX11_balloon dX11_balloon_97 rfl rfl L S g
theorem eX11_balloon_98 (L : pmL) (S : List Value) (g : pmH) : pmV mX11_balloon 98 L S g = zIald mX11_balloon 99 L S g := ez_iaload kcX11_balloon dX11_balloon_98 rfl L S g
theorem eX11_balloon_99 (L : pmL) (S : List Value) (g : pmH) : pmV mX11_balloon 99 L S g = zIret mX11_balloon S g := ez_ireturn kcX11_balloon dX11_balloon_99 L S g
theorem eX11_balloon_100 (L : pmL) (S : List Value) (g : pmH) : pmV mX11_balloon 100 L S g = zLdA mX11_balloon 101 3 L S g := ez_aload_n kcX11_balloon dX11_balloon_100 rfl rfl L S g
theorem eX11_balloon_101 (L : pmL) (S : List Value) (g : pmH) : pmV mX11_balloon 101 L S g = zGet mX11_balloon 104 1 2 L S g := ez_getfield kcX11_balloon dX11_balloon_101 fl_11_144 rfl L S g
theorem eX11_balloon_104 (L : pmL) (S : List Value) (g : pmH) : pmV mX11_balloon 104 L S g = zIret mX11_balloon S g := ez_ireturn kcX11_balloon dX11_balloon_104 L S g
theorem eX11_balloon_105 (L : pmL) (S : List Value) (g : pmH) : pmV mX11_balloon 105 L S g = zLdA mX11_balloon 106 3 L S g := ez_aload_n kcX11_balloon dX11_balloon_105 rfl rfl L S g
theorem eX11_balloon_106 (L : pmL) (S : List Value) (g : pmH) : pmV mX11_balloon 106 L S g = zGet mX11_balloon 109 1 3 L S g := ez_getfield kcX11_balloon dX11_balloon_106 fl_11_147 rfl L S g
theorem eX11_balloon_109 (L : pmL) (S : List Value) (g : pmH) : pmV mX11_balloon 109 L S g = zIret mX11_balloon S g := ez_ireturn kcX11_balloon dX11_balloon_109 L S g
theorem eX11_balloon_110 (L : pmL) (S : List Value) (g : pmH) : pmV mX11_balloon 110 L S g = zLdA mX11_balloon 111 3 L S g := ez_aload_n kcX11_balloon dX11_balloon_110 rfl rfl L S g
theorem eX11_balloon_111 (L : pmL) (S : List Value) (g : pmH) : pmV mX11_balloon 111 L S g = zGet mX11_balloon 114 1 6 L S g := ez_getfield kcX11_balloon dX11_balloon_111 fl_11_150 rfl L S g
theorem eX11_balloon_114 (L : pmL) (S : List Value) (g : pmH) : pmV mX11_balloon 114 L S g = zIret mX11_balloon S g := ez_ireturn kcX11_balloon dX11_balloon_114 L S g
theorem eX11_balloon_115 (L : pmL) (S : List Value) (g : pmH) : pmV mX11_balloon 115 L S g = zLdA mX11_balloon 116 0 L S g := ez_aload_n kcX11_balloon dX11_balloon_115 rfl rfl L S g
theorem eX11_balloon_116 (L : pmL) (S : List Value) (g : pmH) : pmV mX11_balloon 116 L S g = zGet mX11_balloon 119 11 5 L S g := ez_getfield kcX11_balloon dX11_balloon_116 fl_11_35 rfl L S g
theorem eX11_balloon_119 (L : pmL) (S : List Value) (g : pmH) : pmV mX11_balloon 119 L S g = zLdI mX11_balloon 120 1 L S g := ez_iload_n kcX11_balloon dX11_balloon_119 rfl rfl L S g
theorem eX11_balloon_120 (L : pmL) (S : List Value) (g : pmH) : pmV mX11_balloon 120 L S g = yV mX11_balloon 123 1 mX10_isAnswered 10 2 L S g := (ez_virtual kcX11_balloon dX11_balloon_120 ml_11_153 rfl L S g).trans (zCallV_y rfl rfl (by decide) L S g)
theorem eX11_balloon_123 (L : pmL) (S : List Value) (g : pmH) : pmV mX11_balloon 123 L S g = zCeq mX11_balloon 126 130 L S g := ez_if_eq kcX11_balloon dX11_balloon_123 (by decide) rfl L S g
theorem eX11_balloon_126 (L : pmL) (S : List Value) (g : pmH) : pmV mX11_balloon 126 L S g = zPush mX11_balloon 127 (.int (nI 1)) L S g := ez_iconst kcX11_balloon dX11_balloon_126 (by decide) rfl L S g
theorem eX11_balloon_127 (L : pmL) (S : List Value) (g : pmH) : pmV mX11_balloon 127 L S g = zNx mX11_balloon 131 L S g := ez_goto kcX11_balloon dX11_balloon_127 (by decide) L S g
theorem eX11_balloon_130 (L : pmL) (S : List Value) (g : pmH) : pmV mX11_balloon 130 L S g = zPush mX11_balloon 131 (.int (nI 0)) L S g := ez_iconst kcX11_balloon dX11_balloon_130 (by decide) rfl L S g
theorem eX11_balloon_131 (L : pmL) (S : List Value) (g : pmH) : pmV mX11_balloon 131 L S g = zIret mX11_balloon S g := ez_ireturn kcX11_balloon dX11_balloon_131 L S g
theorem eX11_balloon_132 (L : pmL) (S : List Value) (g : pmH) : pmV mX11_balloon 132 L S g = zLdA mX11_balloon 133 0 L S g := ez_aload_n kcX11_balloon dX11_balloon_132 rfl rfl L S g
theorem eX11_balloon_133 (L : pmL) (S : List Value) (g : pmH) : pmV mX11_balloon 133 L S g = zGet mX11_balloon 136 11 5 L S g := ez_getfield kcX11_balloon dX11_balloon_133 fl_11_35 rfl L S g
theorem eX11_balloon_136 (L : pmL) (S : List Value) (g : pmH) : pmV mX11_balloon 136 L S g = zLdI mX11_balloon 137 1 L S g := ez_iload_n kcX11_balloon dX11_balloon_136 rfl rfl L S g
theorem eX11_balloon_137 (L : pmL) (S : List Value) (g : pmH) : pmV mX11_balloon 137 L S g = yV mX11_balloon 140 1 mX10_isGlad 10 2 L S g := (ez_virtual kcX11_balloon dX11_balloon_137 ml_11_156 rfl L S g).trans (zCallV_y rfl rfl (by decide) L S g)
theorem eX11_balloon_140 (L : pmL) (S : List Value) (g : pmH) : pmV mX11_balloon 140 L S g = zCeq mX11_balloon 143 147 L S g := ez_if_eq kcX11_balloon dX11_balloon_140 (by decide) rfl L S g
theorem eX11_balloon_143 (L : pmL) (S : List Value) (g : pmH) : pmV mX11_balloon 143 L S g = zPush mX11_balloon 144 (.int (nI 1)) L S g := ez_iconst kcX11_balloon dX11_balloon_143 (by decide) rfl L S g
theorem eX11_balloon_144 (L : pmL) (S : List Value) (g : pmH) : pmV mX11_balloon 144 L S g = zNx mX11_balloon 148 L S g := ez_goto kcX11_balloon dX11_balloon_144 (by decide) L S g
theorem eX11_balloon_147 (L : pmL) (S : List Value) (g : pmH) : pmV mX11_balloon 147 L S g = zPush mX11_balloon 148 (.int (nI 0)) L S g := ez_iconst kcX11_balloon dX11_balloon_147 (by decide) rfl L S g
theorem eX11_balloon_148 (L : pmL) (S : List Value) (g : pmH) : pmV mX11_balloon 148 L S g = zIret mX11_balloon S g := ez_ireturn kcX11_balloon dX11_balloon_148 L S g
theorem eX11_hedge_0 (L : pmL) (S : List Value) (g : pmH) : pmV mX11_hedge 0 L S g = zLdA mX11_hedge 1 0 L S g := ez_aload_n kcX11_hedge dX11_hedge_0 rfl rfl L S g
theorem eX11_hedge_1 (L : pmL) (S : List Value) (g : pmH) : pmV mX11_hedge 1 L S g = zGet mX11_hedge 4 11 2 L S g := ez_getfield kcX11_hedge dX11_hedge_1 fl_11_16 rfl L S g
theorem eX11_hedge_4 (L : pmL) (S : List Value) (g : pmH) : pmV mX11_hedge 4 L S g = zLdI mX11_hedge 5 1 L S g := ez_iload_n kcX11_hedge dX11_hedge_4 rfl rfl L S g
theorem eX11_hedge_5 (L : pmL) (S : List Value) (g : pmH) : pmV mX11_hedge 5 L S g = yV mX11_hedge 8 1 mX4_hasHedge 4 2 L S g := (ez_virtual kcX11_hedge dX11_hedge_5 ml_11_159 rfl L S g).trans (zCallV_y rfl rfl (by decide) L S g)
theorem eX11_hedge_8 (L : pmL) (S : List Value) (g : pmH) : pmV mX11_hedge 8 L S g = zCne mX11_hedge 11 13 L S g := ez_if_ne kcX11_hedge dX11_hedge_8 (by decide) rfl L S g
theorem eX11_hedge_11 (L : pmL) (S : List Value) (g : pmH) : pmV mX11_hedge 11 L S g = zPush mX11_hedge 12 (.int (-1)) L S g := ez_iconst kcX11_hedge dX11_hedge_11 (by decide) rfl L S g
theorem eX11_hedge_12 (L : pmL) (S : List Value) (g : pmH) : pmV mX11_hedge 12 L S g = zIret mX11_hedge S g := ez_ireturn kcX11_hedge dX11_hedge_12 L S g
theorem eX11_hedge_13 (L : pmL) (S : List Value) (g : pmH) : pmV mX11_hedge 13 L S g = zLdI mX11_hedge 14 2 L S g := ez_iload_n kcX11_hedge dX11_hedge_13 rfl rfl L S g
theorem eX11_hedge_14 (L : pmL) (S : List Value) (g : pmH) : pmV mX11_hedge 14 L S g = zClt mX11_hedge 17 22 L S g := ez_if_lt kcX11_hedge dX11_hedge_14 (by decide) rfl L S g
theorem eX11_hedge_17 (L : pmL) (S : List Value) (g : pmH) : pmV mX11_hedge 17 L S g = zLdI mX11_hedge 18 2 L S g := ez_iload_n kcX11_hedge dX11_hedge_17 rfl rfl L S g
theorem eX11_hedge_18 (L : pmL) (S : List Value) (g : pmH) : pmV mX11_hedge 18 L S g = zPush mX11_hedge 19 (.int (nI 3)) L S g := ez_iconst kcX11_hedge dX11_hedge_18 (by decide) rfl L S g
theorem eX11_hedge_19 (L : pmL) (S : List Value) (g : pmH) : pmV mX11_hedge 19 L S g = zBle mX11_hedge 22 25 L S g := ez_icmp_le kcX11_hedge dX11_hedge_19 (by decide) rfl L S g
theorem eX11_hedge_22 (L : pmL) (S : List Value) (g : pmH) : pmV mX11_hedge 22 L S g = zPush mX11_hedge 24 (.int (-2)) L S g := ez_bipush kcX11_hedge dX11_hedge_22 (by decide) rfl L S g
theorem eX11_hedge_24 (L : pmL) (S : List Value) (g : pmH) : pmV mX11_hedge 24 L S g = zIret mX11_hedge S g := ez_ireturn kcX11_hedge dX11_hedge_24 L S g
theorem eX11_hedge_25 (L : pmL) (S : List Value) (g : pmH) : pmV mX11_hedge 25 L S g = zLdI mX11_hedge 26 2 L S g := ez_iload_n kcX11_hedge dX11_hedge_25 rfl rfl L S g
theorem eX11_hedge_26 (L : pmL) (S : List Value) (g : pmH) : pmV mX11_hedge 26 L S g = zTab mX11_hedge 26 56 0 2 #[26, 36, 46] L S g := ez_tab kcX11_hedge dX11_hedge_26 L S g
theorem eX11_hedge_52 (L : pmL) (S : List Value) (g : pmH) : pmV mX11_hedge 52 L S g = zLdA mX11_hedge 53 0 L S g := ez_aload_n kcX11_hedge dX11_hedge_52 rfl rfl L S g
theorem eX11_hedge_53 (L : pmL) (S : List Value) (g : pmH) : pmV mX11_hedge 53 L S g = zGet mX11_hedge 56 11 2 L S g := ez_getfield kcX11_hedge dX11_hedge_53 fl_11_16 rfl L S g
theorem eX11_hedge_56 (L : pmL) (S : List Value) (g : pmH) : pmV mX11_hedge 56 L S g = zGet mX11_hedge 59 4 4 L S g := ez_getfield kcX11_hedge dX11_hedge_56 fl_11_162 rfl L S g
theorem eX11_hedge_59 (L : pmL) (S : List Value) (g : pmH) : pmV mX11_hedge 59 L S g = zLdI mX11_hedge 60 1 L S g := ez_iload_n kcX11_hedge dX11_hedge_59 rfl rfl L S g
theorem eX11_hedge_60 (L : pmL) (S : List Value) (g : pmH) : pmV mX11_hedge 60 L S g = zIald mX11_hedge 61 L S g := ez_iaload kcX11_hedge dX11_hedge_60 rfl L S g
theorem eX11_hedge_61 (L : pmL) (S : List Value) (g : pmH) : pmV mX11_hedge 61 L S g = zIret mX11_hedge S g := ez_ireturn kcX11_hedge dX11_hedge_61 L S g
theorem eX11_hedge_62 (L : pmL) (S : List Value) (g : pmH) : pmV mX11_hedge 62 L S g = zLdA mX11_hedge 63 0 L S g := ez_aload_n kcX11_hedge dX11_hedge_62 rfl rfl L S g
theorem eX11_hedge_63 (L : pmL) (S : List Value) (g : pmH) : pmV mX11_hedge 63 L S g = zGet mX11_hedge 66 11 2 L S g := ez_getfield kcX11_hedge dX11_hedge_63 fl_11_16 rfl L S g
theorem eX11_hedge_66 (L : pmL) (S : List Value) (g : pmH) : pmV mX11_hedge 66 L S g = zGet mX11_hedge 69 4 5 L S g := ez_getfield kcX11_hedge dX11_hedge_66 fl_11_165 rfl L S g
theorem eX11_hedge_69 (L : pmL) (S : List Value) (g : pmH) : pmV mX11_hedge 69 L S g = zLdI mX11_hedge 70 1 L S g := ez_iload_n kcX11_hedge dX11_hedge_69 rfl rfl L S g
theorem eX11_hedge_70 (L : pmL) (S : List Value) (g : pmH) : pmV mX11_hedge 70 L S g = zIald mX11_hedge 71 L S g := ez_iaload kcX11_hedge dX11_hedge_70 rfl L S g
theorem eX11_hedge_71 (L : pmL) (S : List Value) (g : pmH) : pmV mX11_hedge 71 L S g = zIret mX11_hedge S g := ez_ireturn kcX11_hedge dX11_hedge_71 L S g
theorem eX11_hedge_72 (L : pmL) (S : List Value) (g : pmH) : pmV mX11_hedge 72 L S g = zLdA mX11_hedge 73 0 L S g := ez_aload_n kcX11_hedge dX11_hedge_72 rfl rfl L S g
theorem eX11_hedge_73 (L : pmL) (S : List Value) (g : pmH) : pmV mX11_hedge 73 L S g = zGet mX11_hedge 76 11 2 L S g := ez_getfield kcX11_hedge dX11_hedge_73 fl_11_16 rfl L S g
theorem eX11_hedge_76 (L : pmL) (S : List Value) (g : pmH) : pmV mX11_hedge 76 L S g = zGet mX11_hedge 79 4 6 L S g := ez_getfield kcX11_hedge dX11_hedge_76 fl_11_168 rfl L S g
theorem eX11_hedge_79 (L : pmL) (S : List Value) (g : pmH) : pmV mX11_hedge 79 L S g = zLdI mX11_hedge 80 1 L S g := ez_iload_n kcX11_hedge dX11_hedge_79 rfl rfl L S g
theorem eX11_hedge_80 (L : pmL) (S : List Value) (g : pmH) : pmV mX11_hedge 80 L S g = zIald mX11_hedge 81 L S g := ez_iaload kcX11_hedge dX11_hedge_80 rfl L S g
theorem eX11_hedge_81 (L : pmL) (S : List Value) (g : pmH) : pmV mX11_hedge 81 L S g = zIret mX11_hedge S g := ez_ireturn kcX11_hedge dX11_hedge_81 L S g
theorem eX11_hedge_82 (L : pmL) (S : List Value) (g : pmH) : pmV mX11_hedge 82 L S g = zLdA mX11_hedge 83 0 L S g := ez_aload_n kcX11_hedge dX11_hedge_82 rfl rfl L S g
theorem eX11_hedge_83 (L : pmL) (S : List Value) (g : pmH) : pmV mX11_hedge 83 L S g = zGet mX11_hedge 86 11 5 L S g := ez_getfield kcX11_hedge dX11_hedge_83 fl_11_35 rfl L S g
theorem eX11_hedge_86 (L : pmL) (S : List Value) (g : pmH) : pmV mX11_hedge 86 L S g = zLdI mX11_hedge 87 1 L S g := ez_iload_n kcX11_hedge dX11_hedge_86 rfl rfl L S g
theorem eX11_hedge_87 (L : pmL) (S : List Value) (g : pmH) : pmV mX11_hedge 87 L S g = yV mX11_hedge 90 1 mX10_caughtIn 10 4 L S g := (ez_virtual kcX11_hedge dX11_hedge_87 ml_11_171 rfl L S g).trans (zCallV_y rfl rfl (by decide) L S g)
theorem eX11_hedge_90 (L : pmL) (S : List Value) (g : pmH) : pmV mX11_hedge 90 L S g = zIret mX11_hedge S g := ez_ireturn kcX11_hedge dX11_hedge_90 L S g
theorem eX11_let_0 (L : pmL) (S : List Value) (g : pmH) : pmV mX11_let 0 L S g = zLdA mX11_let 1 0 L S g := ez_aload_n kcX11_let dX11_let_0 rfl rfl L S g
theorem eX11_let_1 (L : pmL) (S : List Value) (g : pmH) : pmV mX11_let 1 L S g = zGet mX11_let 4 11 5 L S g := ez_getfield kcX11_let dX11_let_1 fl_11_35 rfl L S g
theorem eX11_let_4 (L : pmL) (S : List Value) (g : pmH) : pmV mX11_let 4 L S g = zLdI mX11_let 5 1 L S g := ez_iload_n kcX11_let dX11_let_4 rfl rfl L S g
theorem eX11_let_5 (L : pmL) (S : List Value) (g : pmH) : pmV mX11_let 5 L S g = yV mX11_let 8 1 mX10_hasBalloon 10 2 L S g := (ez_virtual kcX11_let dX11_let_5 ml_11_126 rfl L S g).trans (zCallV_y rfl rfl (by decide) L S g)
theorem eX11_let_8 (L : pmL) (S : List Value) (g : pmH) : pmV mX11_let 8 L S g = zCne mX11_let 11 13 L S g := ez_if_ne kcX11_let dX11_let_8 (by decide) rfl L S g
theorem eX11_let_11 (L : pmL) (S : List Value) (g : pmH) : pmV mX11_let 11 L S g = zPush mX11_let 12 (.int (-1)) L S g := ez_iconst kcX11_let dX11_let_11 (by decide) rfl L S g
theorem eX11_let_12 (L : pmL) (S : List Value) (g : pmH) : pmV mX11_let 12 L S g = zIret mX11_let S g := ez_ireturn kcX11_let dX11_let_12 L S g
theorem eX11_let_13 (L : pmL) (S : List Value) (g : pmH) : pmV mX11_let 13 L S g = zLdA mX11_let 14 0 L S g := ez_aload_n kcX11_let dX11_let_13 rfl rfl L S g
theorem eX11_let_14 (L : pmL) (S : List Value) (g : pmH) : pmV mX11_let 14 L S g = zGet mX11_let 17 11 5 L S g := ez_getfield kcX11_let dX11_let_14 fl_11_35 rfl L S g
theorem eX11_let_17 (L : pmL) (S : List Value) (g : pmH) : pmV mX11_let 17 L S g = zLdI mX11_let 18 1 L S g := ez_iload_n kcX11_let dX11_let_17 rfl rfl L S g
theorem eX11_let_18 (L : pmL) (S : List Value) (g : pmH) : pmV mX11_let 18 L S g = zPush mX11_let 19 (.int (nI 0)) L S g := ez_iconst kcX11_let dX11_let_18 (by decide) rfl L S g
theorem eX11_let_19 (L : pmL) (S : List Value) (g : pmH) : pmV mX11_let 19 L S g = yV mX11_let 22 2 mX10_is 10 3 L S g := (ez_virtual kcX11_let dX11_let_19 ml_11_175 rfl L S g).trans (zCallV_y rfl rfl (by decide) L S g)
theorem eX11_let_22 (L : pmL) (S : List Value) (g : pmH) : pmV mX11_let 22 L S g = zCne mX11_let 25 28 L S g := ez_if_ne kcX11_let dX11_let_22 (by decide) rfl L S g
theorem eX11_let_25 (L : pmL) (S : List Value) (g : pmH) : pmV mX11_let 25 L S g = zPush mX11_let 27 (.int (-3)) L S g := ez_bipush kcX11_let dX11_let_25 (by decide) rfl L S g
theorem eX11_let_27 (L : pmL) (S : List Value) (g : pmH) : pmV mX11_let 27 L S g = zIret mX11_let S g := ez_ireturn kcX11_let dX11_let_27 L S g
theorem eX11_let_28 (L : pmL) (S : List Value) (g : pmH) : pmV mX11_let 28 L S g = zLdA mX11_let 29 0 L S g := ez_aload_n kcX11_let dX11_let_28 rfl rfl L S g
theorem eX11_let_29 (L : pmL) (S : List Value) (g : pmH) : pmV mX11_let 29 L S g = zGet mX11_let 32 11 7 L S g := ez_getfield kcX11_let dX11_let_29 fl_11_45 rfl L S g
theorem eX11_let_32 (L : pmL) (S : List Value) (g : pmH) : pmV mX11_let 32 L S g = zLdA mX11_let 33 0 L S g := ez_aload_n kcX11_let dX11_let_32 rfl rfl L S g
theorem eX11_let_33 (L : pmL) (S : List Value) (g : pmH) : pmV mX11_let 33 L S g = zGet mX11_let 36 11 5 L S g := ez_getfield kcX11_let dX11_let_33 fl_11_35 rfl L S g
theorem eX11_let_36 (L : pmL) (S : List Value) (g : pmH) : pmV mX11_let 36 L S g = yV mX11_let 39 1 mX0_remember 0 2 L S g := (ez_virtual kcX11_let dX11_let_36 ml_11_179 rfl L S g).trans (zCallV_y rfl rfl (by decide) L S g)
theorem eX11_let_39 (L : pmL) (S : List Value) (g : pmH) : pmV mX11_let 39 L S g = zLdA mX11_let 40 0 L S g := ez_aload_n kcX11_let dX11_let_39 rfl rfl L S g
theorem eX11_let_40 (L : pmL) (S : List Value) (g : pmH) : pmV mX11_let 40 L S g = zGet mX11_let 43 11 5 L S g := ez_getfield kcX11_let dX11_let_40 fl_11_35 rfl L S g
theorem eX11_let_43 (L : pmL) (S : List Value) (g : pmH) : pmV mX11_let 43 L S g = zLdI mX11_let 44 1 L S g := ez_iload_n kcX11_let dX11_let_43 rfl rfl L S g
theorem eX11_let_44 (L : pmL) (S : List Value) (g : pmH) : pmV mX11_let 44 L S g = yV mX11_let 47 1 mX10_letGo 10 2 L S g := (ez_virtual kcX11_let dX11_let_44 ml_11_182 rfl L S g).trans (zCallV_y rfl rfl (by decide) L S g)
theorem eX11_let_47 (L : pmL) (S : List Value) (g : pmH) : pmV mX11_let 47 L S g = zPop mX11_let 48 L S g := ez_pop kcX11_let dX11_let_47 rfl L S g
theorem eX11_let_48 (L : pmL) (S : List Value) (g : pmH) : pmV mX11_let 48 L S g = zLdA mX11_let 49 0 L S g := ez_aload_n kcX11_let dX11_let_48 rfl rfl L S g
theorem eX11_let_49 (L : pmL) (S : List Value) (g : pmH) : pmV mX11_let 49 L S g = zGet mX11_let 52 11 5 L S g := ez_getfield kcX11_let dX11_let_49 fl_11_35 rfl L S g
theorem eX11_let_52 (L : pmL) (S : List Value) (g : pmH) : pmV mX11_let 52 L S g = zPush mX11_let 53 (.int (nI 1)) L S g := ez_iconst kcX11_let dX11_let_52 (by decide) rfl L S g
theorem eX11_let_53 (L : pmL) (S : List Value) (g : pmH) : pmV mX11_let 53 L S g = yV mX11_let 56 1 mX10_allThatAre 10 4 L S g := (ez_virtual kcX11_let dX11_let_53 ml_11_185 rfl L S g).trans (zCallV_y rfl rfl (by decide) L S g)
theorem eX11_let_56 (L : pmL) (S : List Value) (g : pmH) : pmV mX11_let 56 L S g = yS mX11_let 59 1 mJ6_bitCount_0f7a4 1 L S g := (ez_static kcX11_let dX11_let_56 ml_11_188 (by decide) rfl L S g).trans (zCall_y rfl (by decide) L S g)
theorem eX11_let_59 (L : pmL) (S : List Value) (g : pmH) : pmV mX11_let 59 L S g = zIret mX11_let S g := ez_ireturn kcX11_let dX11_let_59 L S g
theorem eX11_hour_0 (L : pmL) (S : List Value) (g : pmH) : pmV mX11_hour 0 L S g = zLdA mX11_hour 1 0 L S g := ez_aload_n kcX11_hour dX11_hour_0 rfl rfl L S g
theorem eX11_hour_1 (L : pmL) (S : List Value) (g : pmH) : pmV mX11_hour 1 L S g = zGet mX11_hour 4 11 7 L S g := ez_getfield kcX11_hour dX11_hour_1 fl_11_45 rfl L S g
theorem eX11_hour_4 (L : pmL) (S : List Value) (g : pmH) : pmV mX11_hour 4 L S g = zLdA mX11_hour 5 0 L S g := ez_aload_n kcX11_hour dX11_hour_4 rfl rfl L S g
theorem eX11_hour_5 (L : pmL) (S : List Value) (g : pmH) : pmV mX11_hour 5 L S g = zGet mX11_hour 8 11 5 L S g := ez_getfield kcX11_hour dX11_hour_5 fl_11_35 rfl L S g
theorem eX11_hour_8 (L : pmL) (S : List Value) (g : pmH) : pmV mX11_hour 8 L S g = yV mX11_hour 11 1 mX0_remember 0 2 L S g := (ez_virtual kcX11_hour dX11_hour_8 ml_11_179 rfl L S g).trans (zCallV_y rfl rfl (by decide) L S g)
theorem eX11_hour_11 (L : pmL) (S : List Value) (g : pmH) : pmV mX11_hour 11 L S g = zLdA mX11_hour 12 0 L S g := ez_aload_n kcX11_hour dX11_hour_11 rfl rfl L S g
theorem eX11_hour_12 (L : pmL) (S : List Value) (g : pmH) : pmV mX11_hour 12 L S g = zGet mX11_hour 15 11 5 L S g := ez_getfield kcX11_hour dX11_hour_12 fl_11_35 rfl L S g
theorem eX11_hour_15 (L : pmL) (S : List Value) (g : pmH) : pmV mX11_hour 15 L S g = yV mX11_hour 18 0 mX10_passHour 10 1 L S g := (ez_virtual kcX11_hour dX11_hour_15 ml_11_193 rfl L S g).trans (zCallV_y rfl rfl (by decide) L S g)
theorem eX11_hour_18 (L : pmL) (S : List Value) (g : pmH) : pmV mX11_hour 18 L S g = zIret mX11_hour S g := ez_ireturn kcX11_hour dX11_hour_18 L S g
theorem eX11_free_0 (L : pmL) (S : List Value) (g : pmH) : pmV mX11_free 0 L S g = zLdA mX11_free 1 0 L S g := ez_aload_n kcX11_free dX11_free_0 rfl rfl L S g
theorem eX11_free_1 (L : pmL) (S : List Value) (g : pmH) : pmV mX11_free 1 L S g = zGet mX11_free 4 11 5 L S g := ez_getfield kcX11_free dX11_free_1 fl_11_35 rfl L S g
theorem eX11_free_4 (L : pmL) (S : List Value) (g : pmH) : pmV mX11_free 4 L S g = zLdI mX11_free 5 1 L S g := ez_iload_n kcX11_free dX11_free_4 rfl rfl L S g
theorem eX11_free_5 (L : pmL) (S : List Value) (g : pmH) : pmV mX11_free 5 L S g = yV mX11_free 8 1 mX10_hasBalloon 10 2 L S g := (ez_virtual kcX11_free dX11_free_5 ml_11_126 rfl L S g).trans (zCallV_y rfl rfl (by decide) L S g)
theorem eX11_free_8 (L : pmL) (S : List Value) (g : pmH) : pmV mX11_free 8 L S g = zCne mX11_free 11 13 L S g := ez_if_ne kcX11_free dX11_free_8 (by decide) rfl L S g
theorem eX11_free_11 (L : pmL) (S : List Value) (g : pmH) : pmV mX11_free 11 L S g = zPush mX11_free 12 (.int (-1)) L S g := ez_iconst kcX11_free dX11_free_11 (by decide) rfl L S g
theorem eX11_free_12 (L : pmL) (S : List Value) (g : pmH) : pmV mX11_free 12 L S g = zIret mX11_free S g := ez_ireturn kcX11_free dX11_free_12 L S g
theorem eX11_free_13 (L : pmL) (S : List Value) (g : pmH) : pmV mX11_free 13 L S g = zLdA mX11_free 14 0 L S g := ez_aload_n kcX11_free dX11_free_13 rfl rfl L S g
theorem eX11_free_14 (L : pmL) (S : List Value) (g : pmH) : pmV mX11_free 14 L S g = zGet mX11_free 17 11 5 L S g := ez_getfield kcX11_free dX11_free_14 fl_11_35 rfl L S g
theorem eX11_free_17 (L : pmL) (S : List Value) (g : pmH) : pmV mX11_free 17 L S g = zLdI mX11_free 18 1 L S g := ez_iload_n kcX11_free dX11_free_17 rfl rfl L S g
theorem eX11_free_18 (L : pmL) (S : List Value) (g : pmH) : pmV mX11_free 18 L S g = zPush mX11_free 19 (.int (nI 2)) L S g := ez_iconst kcX11_free dX11_free_18 (by decide) rfl L S g
theorem eX11_free_19 (L : pmL) (S : List Value) (g : pmH) : pmV mX11_free 19 L S g = yV mX11_free 22 2 mX10_is 10 3 L S g := (ez_virtual kcX11_free dX11_free_19 ml_11_175 rfl L S g).trans (zCallV_y rfl rfl (by decide) L S g)
theorem eX11_free_22 (L : pmL) (S : List Value) (g : pmH) : pmV mX11_free 22 L S g = zCne mX11_free 25 28 L S g := ez_if_ne kcX11_free dX11_free_22 (by decide) rfl L S g
theorem eX11_free_25 (L : pmL) (S : List Value) (g : pmH) : pmV mX11_free 25 L S g = zPush mX11_free 27 (.int (-3)) L S g := ez_bipush kcX11_free dX11_free_25 (by decide) rfl L S g
theorem eX11_free_27 (L : pmL) (S : List Value) (g : pmH) : pmV mX11_free 27 L S g = zIret mX11_free S g := ez_ireturn kcX11_free dX11_free_27 L S g
theorem eX11_free_28 (L : pmL) (S : List Value) (g : pmH) : pmV mX11_free 28 L S g = zLdA mX11_free 29 0 L S g := ez_aload_n kcX11_free dX11_free_28 rfl rfl L S g
theorem eX11_free_29 (L : pmL) (S : List Value) (g : pmH) : pmV mX11_free 29 L S g = zGet mX11_free 32 11 5 L S g := ez_getfield kcX11_free dX11_free_29 fl_11_35 rfl L S g
theorem eX11_free_32 (L : pmL) (S : List Value) (g : pmH) : pmV mX11_free 32 L S g = zGet mX11_free 35 10 1 L S g := ez_getfield kcX11_free dX11_free_32 fl_11_130 rfl L S g
theorem eX11_free_35 (L : pmL) (S : List Value) (g : pmH) : pmV mX11_free 35 L S g = zLdI mX11_free 36 1 L S g := ez_iload_n kcX11_free dX11_free_35 rfl rfl L S g
theorem eX11_free_36 (L : pmL) (S : List Value) (g : pmH) : pmV mX11_free 36 L S g = zAald mX11_free 37 L S g := ez_aaload kcX11_free dX11_free_36 rfl L S g
theorem eX11_free_37 (L : pmL) (S : List Value) (g : pmH) : pmV mX11_free 37 L S g = zGet mX11_free 40 1 3 L S g := ez_getfield kcX11_free dX11_free_37 fl_11_147 rfl L S g
theorem eX11_free_40 (L : pmL) (S : List Value) (g : pmH) : pmV mX11_free 40 L S g = zStI mX11_free 41 2 L S g := ez_istore_n kcX11_free dX11_free_40 rfl rfl L S g
theorem eX11_free_41 (L : pmL) (S : List Value) (g : pmH) : pmV mX11_free 41 L S g = zLdA mX11_free 42 0 L S g := ez_aload_n kcX11_free dX11_free_41 rfl rfl L S g
theorem eX11_free_42 (L : pmL) (S : List Value) (g : pmH) : pmV mX11_free 42 L S g = zGet mX11_free 45 11 7 L S g := ez_getfield kcX11_free dX11_free_42 fl_11_45 rfl L S g
theorem eX11_free_45 (L : pmL) (S : List Value) (g : pmH) : pmV mX11_free 45 L S g = zLdA mX11_free 46 0 L S g := ez_aload_n kcX11_free dX11_free_45 rfl rfl L S g
theorem eX11_free_46 (L : pmL) (S : List Value) (g : pmH) : pmV mX11_free 46 L S g = zGet mX11_free 49 11 5 L S g := ez_getfield kcX11_free dX11_free_46 fl_11_35 rfl L S g
theorem eX11_free_49 (L : pmL) (S : List Value) (g : pmH) : pmV mX11_free 49 L S g = yV mX11_free 52 1 mX0_remember 0 2 L S g := (ez_virtual kcX11_free dX11_free_49 ml_11_179 rfl L S g).trans (zCallV_y rfl rfl (by decide) L S g)
theorem eX11_free_52 (L : pmL) (S : List Value) (g : pmH) : pmV mX11_free 52 L S g = zLdA mX11_free 53 0 L S g := ez_aload_n kcX11_free dX11_free_52 rfl rfl L S g
theorem eX11_free_53 (L : pmL) (S : List Value) (g : pmH) : pmV mX11_free 53 L S g = zGet mX11_free 56 11 5 L S g := ez_getfield kcX11_free dX11_free_53 fl_11_35 rfl L S g
theorem eX11_free_56 (L : pmL) (S : List Value) (g : pmH) : pmV mX11_free 56 L S g = zLdI mX11_free 57 1 L S g := ez_iload_n kcX11_free dX11_free_56 rfl rfl L S g
theorem eX11_free_57 (L : pmL) (S : List Value) (g : pmH) : pmV mX11_free 57 L S g = yV mX11_free 60 1 mX10_setFree 10 2 L S g := (ez_virtual kcX11_free dX11_free_57 ml_11_197 rfl L S g).trans (zCallV_y rfl rfl (by decide) L S g)
theorem eX11_free_60 (L : pmL) (S : List Value) (g : pmH) : pmV mX11_free 60 L S g = zPop mX11_free 61 L S g := ez_pop kcX11_free dX11_free_60 rfl L S g
theorem eX11_free_61 (L : pmL) (S : List Value) (g : pmH) : pmV mX11_free 61 L S g = zLdI mX11_free 62 2 L S g := ez_iload_n kcX11_free dX11_free_61 rfl rfl L S g
theorem eX11_free_62 (L : pmL) (S : List Value) (g : pmH) : pmV mX11_free 62 L S g = zIret mX11_free S g := ez_ireturn kcX11_free dX11_free_62 L S g
theorem eX11_right_0 (L : pmL) (S : List Value) (g : pmH) : pmV mX11_right 0 L S g = zLdA mX11_right 1 0 L S g := ez_aload_n kcX11_right dX11_right_0 rfl rfl L S g
theorem eX11_right_1 (L : pmL) (S : List Value) (g : pmH) : pmV mX11_right 1 L S g = zGet mX11_right 4 11 5 L S g := ez_getfield kcX11_right dX11_right_1 fl_11_35 rfl L S g
theorem eX11_right_4 (L : pmL) (S : List Value) (g : pmH) : pmV mX11_right 4 L S g = zLdI mX11_right 5 1 L S g := ez_iload_n kcX11_right dX11_right_4 rfl rfl L S g
theorem eX11_right_5 (L : pmL) (S : List Value) (g : pmH) : pmV mX11_right 5 L S g = yV mX11_right 8 1 mX10_hasBalloon 10 2 L S g := (ez_virtual kcX11_right dX11_right_5 ml_11_126 rfl L S g).trans (zCallV_y rfl rfl (by decide) L S g)
theorem eX11_right_8 (L : pmL) (S : List Value) (g : pmH) : pmV mX11_right 8 L S g = zCeq mX11_right 11 22 L S g := ez_if_eq kcX11_right dX11_right_8 (by decide) rfl L S g
theorem eX11_right_11 (L : pmL) (S : List Value) (g : pmH) : pmV mX11_right 11 L S g = zLdA mX11_right 12 0 L S g := ez_aload_n kcX11_right dX11_right_11 rfl rfl L S g
theorem eX11_right_12 (L : pmL) (S : List Value) (g : pmH) : pmV mX11_right 12 L S g = zGet mX11_right 15 11 5 L S g := ez_getfield kcX11_right dX11_right_12 fl_11_35 rfl L S g
theorem eX11_right_15 (L : pmL) (S : List Value) (g : pmH) : pmV mX11_right 15 L S g = zLdI mX11_right 16 2 L S g := ez_iload_n kcX11_right dX11_right_15 rfl rfl L S g
theorem eX11_right_16 (L : pmL) (S : List Value) (g : pmH) : pmV mX11_right 16 L S g = yV mX11_right 19 1 mX10_hasBalloon 10 2 L S g := (ez_virtual kcX11_right dX11_right_16 ml_11_126 rfl L S g).trans (zCallV_y rfl rfl (by decide) L S g)
theorem eX11_right_19 (L : pmL) (S : List Value) (g : pmH) : pmV mX11_right 19 L S g = zCne mX11_right 22 24 L S g := ez_if_ne kcX11_right dX11_right_19 (by decide) rfl L S g
theorem eX11_right_22 (L : pmL) (S : List Value) (g : pmH) : pmV mX11_right 22 L S g = zPush mX11_right 23 (.int (-1)) L S g := ez_iconst kcX11_right dX11_right_22 (by decide) rfl L S g
theorem eX11_right_23 (L : pmL) (S : List Value) (g : pmH) : pmV mX11_right 23 L S g = zIret mX11_right S g := ez_ireturn kcX11_right dX11_right_23 L S g
theorem eX11_right_24 (L : pmL) (S : List Value) (g : pmH) : pmV mX11_right 24 L S g = zLdI mX11_right 25 1 L S g := ez_iload_n kcX11_right dX11_right_24 rfl rfl L S g
theorem eX11_right_25 (L : pmL) (S : List Value) (g : pmH) : pmV mX11_right 25 L S g = zLdI mX11_right 26 2 L S g := ez_iload_n kcX11_right dX11_right_25 rfl rfl L S g
theorem eX11_right_26 (L : pmL) (S : List Value) (g : pmH) : pmV mX11_right 26 L S g = zBne mX11_right 29 32 L S g := ez_icmp_ne kcX11_right dX11_right_26 (by decide) rfl L S g
theorem eX11_right_29 (L : pmL) (S : List Value) (g : pmH) : pmV mX11_right 29 L S g = zPush mX11_right 31 (.int (-2)) L S g := ez_bipush kcX11_right dX11_right_29 (by decide) rfl L S g
theorem eX11_right_31 (L : pmL) (S : List Value) (g : pmH) : pmV mX11_right 31 L S g = zIret mX11_right S g := ez_ireturn kcX11_right dX11_right_31 L S g
theorem eX11_right_32 (L : pmL) (S : List Value) (g : pmH) : pmV mX11_right 32 L S g = zLdA mX11_right 33 0 L S g := ez_aload_n kcX11_right dX11_right_32 rfl rfl L S g
theorem eX11_right_33 (L : pmL) (S : List Value) (g : pmH) : pmV mX11_right 33 L S g = zGet mX11_right 36 11 7 L S g := ez_getfield kcX11_right dX11_right_33 fl_11_45 rfl L S g
theorem eX11_right_36 (L : pmL) (S : List Value) (g : pmH) : pmV mX11_right 36 L S g = zLdA mX11_right 37 0 L S g := ez_aload_n kcX11_right dX11_right_36 rfl rfl L S g
theorem eX11_right_37 (L : pmL) (S : List Value) (g : pmH) : pmV mX11_right 37 L S g = zGet mX11_right 40 11 5 L S g := ez_getfield kcX11_right dX11_right_37 fl_11_35 rfl L S g
theorem eX11_right_40 (L : pmL) (S : List Value) (g : pmH) : pmV mX11_right 40 L S g = yV mX11_right 43 1 mX0_remember 0 2 L S g := (ez_virtual kcX11_right dX11_right_40 ml_11_179 rfl L S g).trans (zCallV_y rfl rfl (by decide) L S g)
theorem eX11_right_43 (L : pmL) (S : List Value) (g : pmH) : pmV mX11_right 43 L S g = zLdA mX11_right 44 0 L S g := ez_aload_n kcX11_right dX11_right_43 rfl rfl L S g
theorem eX11_right_44 (L : pmL) (S : List Value) (g : pmH) : pmV mX11_right 44 L S g = zGet mX11_right 47 11 5 L S g := ez_getfield kcX11_right dX11_right_44 fl_11_35 rfl L S g
theorem eX11_right_47 (L : pmL) (S : List Value) (g : pmH) : pmV mX11_right 47 L S g = zLdI mX11_right 48 1 L S g := ez_iload_n kcX11_right dX11_right_47 rfl rfl L S g
theorem eX11_right_48 (L : pmL) (S : List Value) (g : pmH) : pmV mX11_right 48 L S g = zLdI mX11_right 49 2 L S g := ez_iload_n kcX11_right dX11_right_48 rfl rfl L S g
theorem eX11_right_49 (L : pmL) (S : List Value) (g : pmH) : pmV mX11_right 49 L S g = yV mX11_right 52 2 mX10_putRight 10 4 L S g := (ez_virtual kcX11_right dX11_right_49 ml_11_200 rfl L S g).trans (zCallV_y rfl rfl (by decide) L S g)
theorem eX11_right_52 (L : pmL) (S : List Value) (g : pmH) : pmV mX11_right 52 L S g = zPop mX11_right 53 L S g := ez_pop kcX11_right dX11_right_52 rfl L S g
theorem eX11_right_53 (L : pmL) (S : List Value) (g : pmH) : pmV mX11_right 53 L S g = zLdA mX11_right 54 0 L S g := ez_aload_n kcX11_right dX11_right_53 rfl rfl L S g
theorem eX11_right_54 (L : pmL) (S : List Value) (g : pmH) : pmV mX11_right 54 L S g = zGet mX11_right 57 11 5 L S g := ez_getfield kcX11_right dX11_right_54 fl_11_35 rfl L S g
theorem eX11_right_57 (L : pmL) (S : List Value) (g : pmH) : pmV mX11_right 57 L S g = yV mX11_right 60 0 mX10_gladChildren 10 3 L S g := (ez_virtual kcX11_right dX11_right_57 ml_11_203 rfl L S g).trans (zCallV_y rfl rfl (by decide) L S g)
theorem eX11_right_60 (L : pmL) (S : List Value) (g : pmH) : pmV mX11_right 60 L S g = yS mX11_right 63 1 mJ6_bitCount_0f7a4 1 L S g := (ez_static kcX11_right dX11_right_60 ml_11_188 (by decide) rfl L S g).trans (zCall_y rfl (by decide) L S g)
theorem eX11_right_63 (L : pmL) (S : List Value) (g : pmH) : pmV mX11_right 63 L S g = zIret mX11_right S g := ez_ireturn kcX11_right dX11_right_63 L S g
theorem eX11_undo_0 (L : pmL) (S : List Value) (g : pmH) : pmV mX11_undo 0 L S g = zLdA mX11_undo 1 0 L S g := ez_aload_n kcX11_undo dX11_undo_0 rfl rfl L S g
theorem eX11_undo_1 (L : pmL) (S : List Value) (g : pmH) : pmV mX11_undo 1 L S g = zGet mX11_undo 4 11 7 L S g := ez_getfield kcX11_undo dX11_undo_1 fl_11_45 rfl L S g
theorem eX11_undo_4 (L : pmL) (S : List Value) (g : pmH) : pmV mX11_undo 4 L S g = zGet mX11_undo 7 0 2 L S g := ez_getfield kcX11_undo dX11_undo_4 fl_11_206 rfl L S g
theorem eX11_undo_7 (L : pmL) (S : List Value) (g : pmH) : pmV mX11_undo 7 L S g = zCne mX11_undo 10 13 L S g := ez_if_ne kcX11_undo dX11_undo_7 (by decide) rfl L S g
theorem eX11_undo_10 (L : pmL) (S : List Value) (g : pmH) : pmV mX11_undo 10 L S g = zPush mX11_undo 12 (.int (-3)) L S g := ez_bipush kcX11_undo dX11_undo_10 (by decide) rfl L S g
theorem eX11_undo_12 (L : pmL) (S : List Value) (g : pmH) : pmV mX11_undo 12 L S g = zIret mX11_undo S g := ez_ireturn kcX11_undo dX11_undo_12 L S g
theorem eX11_undo_13 (L : pmL) (S : List Value) (g : pmH) : pmV mX11_undo 13 L S g = zLdA mX11_undo 14 0 L S g := ez_aload_n kcX11_undo dX11_undo_13 rfl rfl L S g
theorem eX11_undo_14 (L : pmL) (S : List Value) (g : pmH) : pmV mX11_undo 14 L S g = zGet mX11_undo 17 11 7 L S g := ez_getfield kcX11_undo dX11_undo_14 fl_11_45 rfl L S g
theorem eX11_undo_17 (L : pmL) (S : List Value) (g : pmH) : pmV mX11_undo 17 L S g = zLdA mX11_undo 18 0 L S g := ez_aload_n kcX11_undo dX11_undo_17 rfl rfl L S g
theorem eX11_undo_18 (L : pmL) (S : List Value) (g : pmH) : pmV mX11_undo 18 L S g = zGet mX11_undo 21 11 5 L S g := ez_getfield kcX11_undo dX11_undo_18 fl_11_35 rfl L S g
theorem eX11_undo_21 (L : pmL) (S : List Value) (g : pmH) : pmV mX11_undo 21 L S g = yV mX11_undo 24 1 mX0_takeBack 0 2 L S g := (ez_virtual kcX11_undo dX11_undo_21 ml_11_209 rfl L S g).trans (zCallV_y rfl rfl (by decide) L S g)
theorem eX11_undo_24 (L : pmL) (S : List Value) (g : pmH) : pmV mX11_undo 24 L S g = zLdA mX11_undo 25 0 L S g := ez_aload_n kcX11_undo dX11_undo_24 rfl rfl L S g
theorem eX11_undo_25 (L : pmL) (S : List Value) (g : pmH) : pmV mX11_undo 25 L S g = zGet mX11_undo 28 11 7 L S g := ez_getfield kcX11_undo dX11_undo_25 fl_11_45 rfl L S g
theorem eX11_undo_28 (L : pmL) (S : List Value) (g : pmH) : pmV mX11_undo 28 L S g = zGet mX11_undo 31 0 2 L S g := ez_getfield kcX11_undo dX11_undo_28 fl_11_206 rfl L S g
theorem eX11_undo_31 (L : pmL) (S : List Value) (g : pmH) : pmV mX11_undo 31 L S g = zIret mX11_undo S g := ez_ireturn kcX11_undo dX11_undo_31 L S g
theorem eX11_later_0 (L : pmL) (S : List Value) (g : pmH) : pmV mX11_later 0 L S g = zLdA mX11_later 1 0 L S g := ez_aload_n kcX11_later dX11_later_0 rfl rfl L S g
theorem eX11_later_1 (L : pmL) (S : List Value) (g : pmH) : pmV mX11_later 1 L S g = zGet mX11_later 4 11 5 L S g := ez_getfield kcX11_later dX11_later_1 fl_11_35 rfl L S g
theorem eX11_later_4 (L : pmL) (S : List Value) (g : pmH) : pmV mX11_later 4 L S g = zLdI mX11_later 5 1 L S g := ez_iload_n kcX11_later dX11_later_4 rfl rfl L S g
theorem eX11_later_5 (L : pmL) (S : List Value) (g : pmH) : pmV mX11_later 5 L S g = yV mX11_later 8 1 mX10_hasBalloon 10 2 L S g := (ez_virtual kcX11_later dX11_later_5 ml_11_126 rfl L S g).trans (zCallV_y rfl rfl (by decide) L S g)
theorem eX11_later_8 (L : pmL) (S : List Value) (g : pmH) : pmV mX11_later 8 L S g = zCne mX11_later 11 13 L S g := ez_if_ne kcX11_later dX11_later_8 (by decide) rfl L S g
theorem eX11_later_11 (L : pmL) (S : List Value) (g : pmH) : pmV mX11_later 11 L S g = zPush mX11_later 12 (.int (-1)) L S g := ez_iconst kcX11_later dX11_later_11 (by decide) rfl L S g
theorem eX11_later_12 (L : pmL) (S : List Value) (g : pmH) : pmV mX11_later 12 L S g = zIret mX11_later S g := ez_ireturn kcX11_later dX11_later_12 L S g
theorem eX11_later_13 (L : pmL) (S : List Value) (g : pmH) : pmV mX11_later 13 L S g = zLdI mX11_later 14 2 L S g := ez_iload_n kcX11_later dX11_later_13 rfl rfl L S g
theorem eX11_later_14 (L : pmL) (S : List Value) (g : pmH) : pmV mX11_later 14 L S g = zClt mX11_later 17 32 L S g := ez_if_lt kcX11_later dX11_later_14 (by decide) rfl L S g
theorem eX11_later_17 (L : pmL) (S : List Value) (g : pmH) : pmV mX11_later 17 L S g = zLdI mX11_later 18 2 L S g := ez_iload_n kcX11_later dX11_later_17 rfl rfl L S g
theorem eX11_later_18 (L : pmL) (S : List Value) (g : pmH) : pmV mX11_later 18 L S g = zPush mX11_later 20 (.int (nI 20)) L S g := ez_bipush kcX11_later dX11_later_18 (by decide) rfl L S g
theorem eX11_later_20 (L : pmL) (S : List Value) (g : pmH) : pmV mX11_later 20 L S g = zBgt mX11_later 23 32 L S g := ez_icmp_gt kcX11_later dX11_later_20 (by decide) rfl L S g
theorem eX11_later_23 (L : pmL) (S : List Value) (g : pmH) : pmV mX11_later 23 L S g = zLdI mX11_later 24 3 L S g := ez_iload_n kcX11_later dX11_later_23 rfl rfl L S g
theorem eX11_later_24 (L : pmL) (S : List Value) (g : pmH) : pmV mX11_later 24 L S g = zClt mX11_later 27 32 L S g := ez_if_lt kcX11_later dX11_later_24 (by decide) rfl L S g
theorem eX11_later_27 (L : pmL) (S : List Value) (g : pmH) : pmV mX11_later 27 L S g = zLdI mX11_later 28 3 L S g := ez_iload_n kcX11_later dX11_later_27 rfl rfl L S g
theorem eX11_later_28 (L : pmL) (S : List Value) (g : pmH) : pmV mX11_later 28 L S g = zPush mX11_later 29 (.int (nI 1)) L S g := ez_iconst kcX11_later dX11_later_28 (by decide) rfl L S g
theorem eX11_later_29 (L : pmL) (S : List Value) (g : pmH) : pmV mX11_later 29 L S g = zBle mX11_later 32 35 L S g := ez_icmp_le kcX11_later dX11_later_29 (by decide) rfl L S g
theorem eX11_later_32 (L : pmL) (S : List Value) (g : pmH) : pmV mX11_later 32 L S g = zPush mX11_later 34 (.int (-2)) L S g := ez_bipush kcX11_later dX11_later_32 (by decide) rfl L S g
theorem eX11_later_34 (L : pmL) (S : List Value) (g : pmH) : pmV mX11_later 34 L S g = zIret mX11_later S g := ez_ireturn kcX11_later dX11_later_34 L S g
theorem eX11_later_35 (L : pmL) (S : List Value) (g : pmH) : pmV mX11_later 35 L S g = zLdA mX11_later 36 0 L S g := ez_aload_n kcX11_later dX11_later_35 rfl rfl L S g
theorem eX11_later_36 (L : pmL) (S : List Value) (g : pmH) : pmV mX11_later 36 L S g = zGet mX11_later 39 11 10 L S g := ez_getfield kcX11_later dX11_later_36 fl_11_62 rfl L S g
theorem eX11_later_39 (L : pmL) (S : List Value) (g : pmH) : pmV mX11_later 39 L S g = zLdI mX11_later 40 2 L S g := ez_iload_n kcX11_later dX11_later_39 rfl rfl L S g
theorem eX11_later_40 (L : pmL) (S : List Value) (g : pmH) : pmV mX11_later 40 L S g = yV mX11_later 43 1 mX6_lookAhead 6 2 L S g := (ez_virtual kcX11_later dX11_later_40 ml_11_212 rfl L S g).trans (zCallV_y rfl rfl (by decide) L S g)
theorem eX11_later_43 (L : pmL) (S : List Value) (g : pmH) : pmV mX11_later 43 L S g = zLdA mX11_later 44 0 L S g := ez_aload_n kcX11_later dX11_later_43 rfl rfl L S g
theorem eX11_later_44 (L : pmL) (S : List Value) (g : pmH) : pmV mX11_later 44 L S g = zGet mX11_later 47 11 6 L S g := ez_getfield kcX11_later dX11_later_44 fl_11_39 rfl L S g
theorem eX11_later_47 (L : pmL) (S : List Value) (g : pmH) : pmV mX11_later 47 L S g = zGet mX11_later 50 10 1 L S g := ez_getfield kcX11_later dX11_later_47 fl_11_130 rfl L S g
theorem eX11_later_50 (L : pmL) (S : List Value) (g : pmH) : pmV mX11_later 50 L S g = zLdI mX11_later 51 1 L S g := ez_iload_n kcX11_later dX11_later_50 rfl rfl L S g
theorem eX11_later_51 (L : pmL) (S : List Value) (g : pmH) : pmV mX11_later 51 L S g = zAald mX11_later 52 L S g := ez_aaload kcX11_later dX11_later_51 rfl L S g
theorem eX11_later_52 (L : pmL) (S : List Value) (g : pmH) : pmV mX11_later 52 L S g = zStA mX11_later 54 4 L S g := ez_astore kcX11_later dX11_later_52 rfl L S g
theorem eX11_later_54 (L : pmL) (S : List Value) (g : pmH) : pmV mX11_later 54 L S g = zLdI mX11_later 55 3 L S g := ez_iload_n kcX11_later dX11_later_54 rfl rfl L S g
theorem eX11_later_55 (L : pmL) (S : List Value) (g : pmH) : pmV mX11_later 55 L S g = zCne mX11_later 58 66 L S g := ez_if_ne kcX11_later dX11_later_55 (by decide) rfl L S g
theorem eX11_later_58 (L : pmL) (S : List Value) (g : pmH) : pmV mX11_later 58 L S g = zLdA mX11_later 60 4 L S g := ez_aload kcX11_later dX11_later_58 rfl L S g
theorem eX11_later_60 (L : pmL) (S : List Value) (g : pmH) : pmV mX11_later 60 L S g = zGet mX11_later 63 1 1 L S g := ez_getfield kcX11_later dX11_later_60 fl_11_133 rfl L S g
theorem eX11_later_63 (L : pmL) (S : List Value) (g : pmH) : pmV mX11_later 63 L S g = zNx mX11_later 71 L S g := ez_goto kcX11_later dX11_later_63 (by decide) L S g
theorem eX11_later_66 (L : pmL) (S : List Value) (g : pmH) : pmV mX11_later 66 L S g = zLdA mX11_later 68 4 L S g := ez_aload kcX11_later dX11_later_66 rfl L S g
theorem eX11_later_68 (L : pmL) (S : List Value) (g : pmH) : pmV mX11_later 68 L S g = zGet mX11_later 71 1 2 L S g := ez_getfield kcX11_later dX11_later_68 fl_11_144 rfl L S g
theorem eX11_later_71 (L : pmL) (S : List Value) (g : pmH) : pmV mX11_later 71 L S g = zIret mX11_later S g := ez_ireturn kcX11_later dX11_later_71 L S g
theorem eX11_comes_0 (L : pmL) (S : List Value) (g : pmH) : pmV mX11_comes 0 L S g = zLdA mX11_comes 1 0 L S g := ez_aload_n kcX11_comes dX11_comes_0 rfl rfl L S g
theorem eX11_comes_1 (L : pmL) (S : List Value) (g : pmH) : pmV mX11_comes 1 L S g = zGet mX11_comes 4 11 5 L S g := ez_getfield kcX11_comes dX11_comes_1 fl_11_35 rfl L S g
theorem eX11_comes_4 (L : pmL) (S : List Value) (g : pmH) : pmV mX11_comes 4 L S g = zLdI mX11_comes 5 1 L S g := ez_iload_n kcX11_comes dX11_comes_4 rfl rfl L S g
theorem eX11_comes_5 (L : pmL) (S : List Value) (g : pmH) : pmV mX11_comes 5 L S g = yV mX11_comes 8 1 mX10_hasBalloon 10 2 L S g := (ez_virtual kcX11_comes dX11_comes_5 ml_11_126 rfl L S g).trans (zCallV_y rfl rfl (by decide) L S g)
theorem eX11_comes_8 (L : pmL) (S : List Value) (g : pmH) : pmV mX11_comes 8 L S g = zCne mX11_comes 11 13 L S g := ez_if_ne kcX11_comes dX11_comes_8 (by decide) rfl L S g
theorem eX11_comes_11 (L : pmL) (S : List Value) (g : pmH) : pmV mX11_comes 11 L S g = zPush mX11_comes 12 (.int (-1)) L S g := ez_iconst kcX11_comes dX11_comes_11 (by decide) rfl L S g
theorem eX11_comes_12 (L : pmL) (S : List Value) (g : pmH) : pmV mX11_comes 12 L S g = zIret mX11_comes S g := ez_ireturn kcX11_comes dX11_comes_12 L S g
theorem eX11_comes_13 (L : pmL) (S : List Value) (g : pmH) : pmV mX11_comes 13 L S g = zLdA mX11_comes 14 0 L S g := ez_aload_n kcX11_comes dX11_comes_13 rfl rfl L S g
theorem eX11_comes_14 (L : pmL) (S : List Value) (g : pmH) : pmV mX11_comes 14 L S g = zGet mX11_comes 17 11 10 L S g := ez_getfield kcX11_comes dX11_comes_14 fl_11_62 rfl L S g
theorem eX11_comes_17 (L : pmL) (S : List Value) (g : pmH) : pmV mX11_comes 17 L S g = zLdI mX11_comes 18 1 L S g := ez_iload_n kcX11_comes dX11_comes_17 rfl rfl L S g
theorem eX11_comes_18 (L : pmL) (S : List Value) (g : pmH) : pmV mX11_comes 18 L S g = yV mX11_comes 21 1 mX6_hoursToAnswer 6 3 L S g := (ez_virtual kcX11_comes dX11_comes_18 ml_11_216 rfl L S g).trans (zCallV_y rfl rfl (by decide) L S g)
theorem eX11_comes_21 (L : pmL) (S : List Value) (g : pmH) : pmV mX11_comes 21 L S g = zIret mX11_comes S g := ez_ireturn kcX11_comes dX11_comes_21 L S g
theorem eX11_best_0 (L : pmL) (S : List Value) (g : pmH) : pmV mX11_best 0 L S g = zLdA mX11_best 1 0 L S g := ez_aload_n kcX11_best dX11_best_0 rfl rfl L S g
theorem eX11_best_1 (L : pmL) (S : List Value) (g : pmH) : pmV mX11_best 1 L S g = zGet mX11_best 4 11 5 L S g := ez_getfield kcX11_best dX11_best_1 fl_11_35 rfl L S g
theorem eX11_best_4 (L : pmL) (S : List Value) (g : pmH) : pmV mX11_best 4 L S g = zLdI mX11_best 5 1 L S g := ez_iload_n kcX11_best dX11_best_4 rfl rfl L S g
theorem eX11_best_5 (L : pmL) (S : List Value) (g : pmH) : pmV mX11_best 5 L S g = yV mX11_best 8 1 mX10_hasBalloon 10 2 L S g := (ez_virtual kcX11_best dX11_best_5 ml_11_126 rfl L S g).trans (zCallV_y rfl rfl (by decide) L S g)
theorem eX11_best_8 (L : pmL) (S : List Value) (g : pmH) : pmV mX11_best 8 L S g = zCne mX11_best 11 13 L S g := ez_if_ne kcX11_best dX11_best_8 (by decide) rfl L S g
theorem eX11_best_11 (L : pmL) (S : List Value) (g : pmH) : pmV mX11_best 11 L S g = zPush mX11_best 12 (.int (-1)) L S g := ez_iconst kcX11_best dX11_best_11 (by decide) rfl L S g
theorem eX11_best_12 (L : pmL) (S : List Value) (g : pmH) : pmV mX11_best 12 L S g = zIret mX11_best S g := ez_ireturn kcX11_best dX11_best_12 L S g
theorem eX11_best_13 (L : pmL) (S : List Value) (g : pmH) : pmV mX11_best 13 L S g = zLdA mX11_best 14 0 L S g := ez_aload_n kcX11_best dX11_best_13 rfl rfl L S g
theorem eX11_best_14 (L : pmL) (S : List Value) (g : pmH) : pmV mX11_best 14 L S g = zGet mX11_best 17 11 5 L S g := ez_getfield kcX11_best dX11_best_14 fl_11_35 rfl L S g
theorem eX11_best_17 (L : pmL) (S : List Value) (g : pmH) : pmV mX11_best 17 L S g = zLdI mX11_best 18 1 L S g := ez_iload_n kcX11_best dX11_best_17 rfl rfl L S g
theorem eX11_best_18 (L : pmL) (S : List Value) (g : pmH) : pmV mX11_best 18 L S g = zPush mX11_best 19 (.int (nI 0)) L S g := ez_iconst kcX11_best dX11_best_18 (by decide) rfl L S g
theorem eX11_best_19 (L : pmL) (S : List Value) (g : pmH) : pmV mX11_best 19 L S g = yV mX11_best 22 2 mX10_is 10 3 L S g := (ez_virtual kcX11_best dX11_best_19 ml_11_175 rfl L S g).trans (zCallV_y rfl rfl (by decide) L S g)
theorem eX11_best_22 (L : pmL) (S : List Value) (g : pmH) : pmV mX11_best 22 L S g = zCne mX11_best 25 28 L S g := ez_if_ne kcX11_best dX11_best_22 (by decide) rfl L S g
theorem eX11_best_25 (L : pmL) (S : List Value) (g : pmH) : pmV mX11_best 25 L S g = zPush mX11_best 27 (.int (-3)) L S g := ez_bipush kcX11_best dX11_best_25 (by decide) rfl L S g
theorem eX11_best_27 (L : pmL) (S : List Value) (g : pmH) : pmV mX11_best 27 L S g = zIret mX11_best S g := ez_ireturn kcX11_best dX11_best_27 L S g
theorem eX11_best_28 (L : pmL) (S : List Value) (g : pmH) : pmV mX11_best 28 L S g = zLdA mX11_best 29 0 L S g := ez_aload_n kcX11_best dX11_best_28 rfl rfl L S g
theorem eX11_best_29 (L : pmL) (S : List Value) (g : pmH) : pmV mX11_best 29 L S g = zGet mX11_best 32 11 10 L S g := ez_getfield kcX11_best dX11_best_29 fl_11_62 rfl L S g
theorem eX11_best_32 (L : pmL) (S : List Value) (g : pmH) : pmV mX11_best 32 L S g = zLdI mX11_best 33 1 L S g := ez_iload_n kcX11_best dX11_best_32 rfl rfl L S g
theorem eX11_best_33 (L : pmL) (S : List Value) (g : pmH) : pmV mX11_best 33 L S g = yV mX11_best 36 1 mX6_hoursToLetting 6 3 L S g := (ez_virtual kcX11_best dX11_best_33 ml_11_219 rfl L S g).trans (zCallV_y rfl rfl (by decide) L S g)
theorem eX11_best_36 (L : pmL) (S : List Value) (g : pmH) : pmV mX11_best 36 L S g = zIret mX11_best S g := ez_ireturn kcX11_best dX11_best_36 L S g
theorem eX11_most_0 (L : pmL) (S : List Value) (g : pmH) : pmV mX11_most 0 L S g = zLdI mX11_most 1 1 L S g := ez_iload_n kcX11_most dX11_most_0 rfl rfl L S g
theorem eX11_most_1 (L : pmL) (S : List Value) (g : pmH) : pmV mX11_most 1 L S g = zClt mX11_most 4 9 L S g := ez_if_lt kcX11_most dX11_most_1 (by decide) rfl L S g
theorem eX11_most_4 (L : pmL) (S : List Value) (g : pmH) : pmV mX11_most 4 L S g = zLdI mX11_most 5 1 L S g := ez_iload_n kcX11_most dX11_most_4 rfl rfl L S g
theorem eX11_most_5 (L : pmL) (S : List Value) (g : pmH) : pmV mX11_most 5 L S g = zPush mX11_most 6 (.int (nI 1)) L S g := ez_iconst kcX11_most dX11_most_5 (by decide) rfl L S g
theorem eX11_most_6 (L : pmL) (S : List Value) (g : pmH) : pmV mX11_most 6 L S g = zBle mX11_most 9 12 L S g := ez_icmp_le kcX11_most dX11_most_6 (by decide) rfl L S g
theorem eX11_most_9 (L : pmL) (S : List Value) (g : pmH) : pmV mX11_most 9 L S g = zPush mX11_most 11 (.int (-2)) L S g := ez_bipush kcX11_most dX11_most_9 (by decide) rfl L S g
theorem eX11_most_11 (L : pmL) (S : List Value) (g : pmH) : pmV mX11_most 11 L S g = zIret mX11_most S g := ez_ireturn kcX11_most dX11_most_11 L S g
theorem eX11_most_12 (L : pmL) (S : List Value) (g : pmH) : pmV mX11_most 12 L S g = zLdA mX11_most 13 0 L S g := ez_aload_n kcX11_most dX11_most_12 rfl rfl L S g
theorem eX11_most_13 (L : pmL) (S : List Value) (g : pmH) : pmV mX11_most 13 L S g = zGet mX11_most 16 11 10 L S g := ez_getfield kcX11_most dX11_most_13 fl_11_62 rfl L S g
theorem eX11_most_16 (L : pmL) (S : List Value) (g : pmH) : pmV mX11_most 16 L S g = zPush mX11_most 18 (.int (nI 30)) L S g := ez_bipush kcX11_most dX11_most_16 (by decide) rfl L S g
theorem eX11_most_18 (L : pmL) (S : List Value) (g : pmH) : pmV mX11_most 18 L S g = yV mX11_most 21 1 mX6_lookAhead 6 2 L S g := (ez_virtual kcX11_most dX11_most_18 ml_11_212 rfl L S g).trans (zCallV_y rfl rfl (by decide) L S g)
theorem eX11_most_21 (L : pmL) (S : List Value) (g : pmH) : pmV mX11_most 21 L S g = zLdA mX11_most 22 0 L S g := ez_aload_n kcX11_most dX11_most_21 rfl rfl L S g
theorem eX11_most_22 (L : pmL) (S : List Value) (g : pmH) : pmV mX11_most 22 L S g = zGet mX11_most 25 11 11 L S g := ez_getfield kcX11_most dX11_most_22 fl_11_71 rfl L S g
theorem eX11_most_25 (L : pmL) (S : List Value) (g : pmH) : pmV mX11_most 25 L S g = yV mX11_most 28 0 mX9_tryAllOrders 9 5 L S g := (ez_virtual kcX11_most dX11_most_25 ml_11_222 rfl L S g).trans (zCallV_y rfl rfl (by decide) L S g)
theorem eX11_most_28 (L : pmL) (S : List Value) (g : pmH) : pmV mX11_most 28 L S g = zLdI mX11_most 29 1 L S g := ez_iload_n kcX11_most dX11_most_28 rfl rfl L S g
theorem eX11_most_29 (L : pmL) (S : List Value) (g : pmH) : pmV mX11_most 29 L S g = zCne mX11_most 32 42 L S g := ez_if_ne kcX11_most dX11_most_29 (by decide) rfl L S g
theorem eX11_most_32 (L : pmL) (S : List Value) (g : pmH) : pmV mX11_most 32 L S g = zLdA mX11_most 33 0 L S g := ez_aload_n kcX11_most dX11_most_32 rfl rfl L S g
theorem eX11_most_33 (L : pmL) (S : List Value) (g : pmH) : pmV mX11_most 33 L S g = zGet mX11_most 36 11 11 L S g := ez_getfield kcX11_most dX11_most_33 fl_11_71 rfl L S g
theorem eX11_most_36 (L : pmL) (S : List Value) (g : pmH) : pmV mX11_most 36 L S g = zGet mX11_most 39 9 2 L S g := ez_getfield kcX11_most dX11_most_36 fl_11_225 rfl L S g
theorem eX11_most_39 (L : pmL) (S : List Value) (g : pmH) : pmV mX11_most 39 L S g = zNx mX11_most 49 L S g := ez_goto kcX11_most dX11_most_39 (by decide) L S g
theorem eX11_most_42 (L : pmL) (S : List Value) (g : pmH) : pmV mX11_most 42 L S g = zLdA mX11_most 43 0 L S g := ez_aload_n kcX11_most dX11_most_42 rfl rfl L S g
theorem eX11_most_43 (L : pmL) (S : List Value) (g : pmH) : pmV mX11_most 43 L S g = zGet mX11_most 46 11 11 L S g := ez_getfield kcX11_most dX11_most_43 fl_11_71 rfl L S g
theorem eX11_most_46 (L : pmL) (S : List Value) (g : pmH) : pmV mX11_most 46 L S g = zGet mX11_most 49 9 3 L S g := ez_getfield kcX11_most dX11_most_46 fl_11_228 rfl L S g
theorem eX11_most_49 (L : pmL) (S : List Value) (g : pmH) : pmV mX11_most 49 L S g = zIret mX11_most S g := ez_ireturn kcX11_most dX11_most_49 L S g
theorem eX11_judge_0 (L : pmL) (S : List Value) (g : pmH) : pmV mX11_judge 0 L S g = zLdI mX11_judge 1 1 L S g := ez_iload_n kcX11_judge dX11_judge_0 rfl rfl L S g
theorem eX11_judge_1 (L : pmL) (S : List Value) (g : pmH) : pmV mX11_judge 1 L S g = zPush mX11_judge 2 (.int (nI 1)) L S g := ez_iconst kcX11_judge dX11_judge_1 (by decide) rfl L S g
theorem eX11_judge_2 (L : pmL) (S : List Value) (g : pmH) : pmV mX11_judge 2 L S g = zBlt mX11_judge 5 26 L S g := ez_icmp_lt kcX11_judge dX11_judge_2 (by decide) rfl L S g
theorem eX11_judge_5 (L : pmL) (S : List Value) (g : pmH) : pmV mX11_judge 5 L S g = zLdI mX11_judge 6 1 L S g := ez_iload_n kcX11_judge dX11_judge_5 rfl rfl L S g
theorem eX11_judge_6 (L : pmL) (S : List Value) (g : pmH) : pmV mX11_judge 6 L S g = zPush mX11_judge 7 (.int (nI 4)) L S g := ez_iconst kcX11_judge dX11_judge_6 (by decide) rfl L S g
theorem eX11_judge_7 (L : pmL) (S : List Value) (g : pmH) : pmV mX11_judge 7 L S g = zBgt mX11_judge 10 26 L S g := ez_icmp_gt kcX11_judge dX11_judge_7 (by decide) rfl L S g
theorem eX11_judge_10 (L : pmL) (S : List Value) (g : pmH) : pmV mX11_judge 10 L S g = zLdJ mX11_judge 11 2 L S g := ez_lload_n kcX11_judge dX11_judge_10 rfl rfl L S g
theorem eX11_judge_11 (L : pmL) (S : List Value) (g : pmH) : pmV mX11_judge 11 L S g = zPush mX11_judge 12 (.long (lN 0)) L S g := ez_lconst kcX11_judge dX11_judge_11 rfl rfl L S g
theorem eX11_judge_12 (L : pmL) (S : List Value) (g : pmH) : pmV mX11_judge 12 L S g = zLcmp mX11_judge 13 L S g := ez_lcmp kcX11_judge dX11_judge_12 rfl L S g
theorem eX11_judge_13 (L : pmL) (S : List Value) (g : pmH) : pmV mX11_judge 13 L S g = zClt mX11_judge 16 26 L S g := ez_if_lt kcX11_judge dX11_judge_13 (by decide) rfl L S g
theorem eX11_judge_16 (L : pmL) (S : List Value) (g : pmH) : pmV mX11_judge 16 L S g = zLdJ mX11_judge 17 2 L S g := ez_lload_n kcX11_judge dX11_judge_16 rfl rfl L S g
theorem eX11_judge_17 (L : pmL) (S : List Value) (g : pmH) : pmV mX11_judge 17 L S g = zPush mX11_judge 20 (.ref 2) L S g := ez_getstatic kcX11_judge dX11_judge_17 sl_11_231 rfl L S g
theorem eX11_judge_20 (L : pmL) (S : List Value) (g : pmH) : pmV mX11_judge 20 L S g = zLdI mX11_judge 21 1 L S g := ez_iload_n kcX11_judge dX11_judge_20 rfl rfl L S g
theorem eX11_judge_21 (L : pmL) (S : List Value) (g : pmH) : pmV mX11_judge 21 L S g = zLald mX11_judge 22 L S g := ez_laload kcX11_judge dX11_judge_21 rfl L S g
theorem eX11_judge_22 (L : pmL) (S : List Value) (g : pmH) : pmV mX11_judge 22 L S g = zLcmp mX11_judge 23 L S g := ez_lcmp kcX11_judge dX11_judge_22 rfl L S g
theorem eX11_judge_23 (L : pmL) (S : List Value) (g : pmH) : pmV mX11_judge 23 L S g = zClt mX11_judge 26 29 L S g := ez_if_lt kcX11_judge dX11_judge_23 (by decide) rfl L S g
theorem eX11_judge_26 (L : pmL) (S : List Value) (g : pmH) : pmV mX11_judge 26 L S g = zPush mX11_judge 28 (.int (-2)) L S g := ez_bipush kcX11_judge dX11_judge_26 (by decide) rfl L S g
theorem eX11_judge_28 (L : pmL) (S : List Value) (g : pmH) : pmV mX11_judge 28 L S g = zIret mX11_judge S g := ez_ireturn kcX11_judge dX11_judge_28 L S g
theorem eX11_judge_29 (L : pmL) (S : List Value) (g : pmH) : pmV mX11_judge 29 L S g = zLdA mX11_judge 30 0 L S g := ez_aload_n kcX11_judge dX11_judge_29 rfl rfl L S g
theorem eX11_judge_30 (L : pmL) (S : List Value) (g : pmH) : pmV mX11_judge 30 L S g = zGet mX11_judge 33 11 10 L S g := ez_getfield kcX11_judge dX11_judge_30 fl_11_62 rfl L S g
theorem eX11_judge_33 (L : pmL) (S : List Value) (g : pmH) : pmV mX11_judge 33 L S g = zLdI mX11_judge 34 1 L S g := ez_iload_n kcX11_judge dX11_judge_33 rfl rfl L S g
theorem eX11_judge_34 (L : pmL) (S : List Value) (g : pmH) : pmV mX11_judge 34 L S g = zLdJ mX11_judge 35 2 L S g := ez_lload_n kcX11_judge dX11_judge_34 rfl rfl L S g
theorem eX11_judge_35 (L : pmL) (S : List Value) (g : pmH) : pmV mX11_judge 35 L S g = yV mX11_judge 38 2 mX6_firstThatCannotBe 6 6 L S g := (ez_virtual kcX11_judge dX11_judge_35 ml_11_235 rfl L S g).trans (zCallV_y rfl rfl (by decide) L S g)
theorem eX11_judge_38 (L : pmL) (S : List Value) (g : pmH) : pmV mX11_judge 38 L S g = zIret mX11_judge S g := ez_ireturn kcX11_judge dX11_judge_38 L S g
theorem eX11_find_0 (L : pmL) (S : List Value) (g : pmH) : pmV mX11_find 0 L S g = zLdI mX11_find 1 1 L S g := ez_iload_n kcX11_find dX11_find_0 rfl rfl L S g
theorem eX11_find_1 (L : pmL) (S : List Value) (g : pmH) : pmV mX11_find 1 L S g = zClt mX11_find 4 10 L S g := ez_if_lt kcX11_find dX11_find_1 (by decide) rfl L S g
theorem eX11_find_4 (L : pmL) (S : List Value) (g : pmH) : pmV mX11_find 4 L S g = zLdI mX11_find 5 1 L S g := ez_iload_n kcX11_find dX11_find_4 rfl rfl L S g
theorem eX11_find_5 (L : pmL) (S : List Value) (g : pmH) : pmV mX11_find 5 L S g = zPush mX11_find 7 (.int (nI 20)) L S g := ez_bipush kcX11_find dX11_find_5 (by decide) rfl L S g
theorem eX11_find_7 (L : pmL) (S : List Value) (g : pmH) : pmV mX11_find 7 L S g = zBlt mX11_find 10 12 L S g := ez_icmp_lt kcX11_find dX11_find_7 (by decide) rfl L S g
theorem eX11_find_10 (L : pmL) (S : List Value) (g : pmH) : pmV mX11_find 10 L S g = zPush mX11_find 11 (.int (-1)) L S g := ez_iconst kcX11_find dX11_find_10 (by decide) rfl L S g
theorem eX11_find_11 (L : pmL) (S : List Value) (g : pmH) : pmV mX11_find 11 L S g = zIret mX11_find S g := ez_ireturn kcX11_find dX11_find_11 L S g
theorem eX11_find_12 (L : pmL) (S : List Value) (g : pmH) : pmV mX11_find 12 L S g = zLdI mX11_find 13 2 L S g := ez_iload_n kcX11_find dX11_find_12 rfl rfl L S g
theorem eX11_find_13 (L : pmL) (S : List Value) (g : pmH) : pmV mX11_find 13 L S g = zClt mX11_find 16 22 L S g := ez_if_lt kcX11_find dX11_find_13 (by decide) rfl L S g
theorem eX11_find_16 (L : pmL) (S : List Value) (g : pmH) : pmV mX11_find 16 L S g = zLdI mX11_find 17 2 L S g := ez_iload_n kcX11_find dX11_find_16 rfl rfl L S g
theorem eX11_find_17 (L : pmL) (S : List Value) (g : pmH) : pmV mX11_find 17 L S g = zPush mX11_find 19 (.int (nI 9)) L S g := ez_bipush kcX11_find dX11_find_17 (by decide) rfl L S g
theorem eX11_find_19 (L : pmL) (S : List Value) (g : pmH) : pmV mX11_find 19 L S g = zBle mX11_find 22 25 L S g := ez_icmp_le kcX11_find dX11_find_19 (by decide) rfl L S g
theorem eX11_find_22 (L : pmL) (S : List Value) (g : pmH) : pmV mX11_find 22 L S g = zPush mX11_find 24 (.int (-2)) L S g := ez_bipush kcX11_find dX11_find_22 (by decide) rfl L S g
theorem eX11_find_24 (L : pmL) (S : List Value) (g : pmH) : pmV mX11_find 24 L S g = zIret mX11_find S g := ez_ireturn kcX11_find dX11_find_24 L S g
theorem eX11_find_25 (L : pmL) (S : List Value) (g : pmH) : pmV mX11_find 25 L S g = zLdA mX11_find 26 0 L S g := ez_aload_n kcX11_find dX11_find_25 rfl rfl L S g
theorem eX11_find_26 (L : pmL) (S : List Value) (g : pmH) : pmV mX11_find 26 L S g = zGet mX11_find 29 11 12 L S g := ez_getfield kcX11_find dX11_find_26 fl_11_78 rfl L S g
theorem eX11_find_29 (L : pmL) (S : List Value) (g : pmH) : pmV mX11_find 29 L S g = zGet mX11_find 32 5 4 L S g := ez_getfield kcX11_find dX11_find_29 fl_11_239 rfl L S g
theorem eX11_find_32 (L : pmL) (S : List Value) (g : pmH) : pmV mX11_find 32 L S g = zPush mX11_find 34 (.int (nI 6)) L S g := ez_bipush kcX11_find dX11_find_32 (by decide) rfl L S g
theorem eX11_find_34 (L : pmL) (S : List Value) (g : pmH) : pmV mX11_find 34 L S g = zBlt mX11_find 37 40 L S g := ez_icmp_lt kcX11_find dX11_find_34 (by decide) rfl L S g
theorem eX11_find_37 (L : pmL) (S : List Value) (g : pmH) : pmV mX11_find 37 L S g = zPush mX11_find 39 (.int (-4)) L S g := ez_bipush kcX11_find dX11_find_37 (by decide) rfl L S g
theorem eX11_find_39 (L : pmL) (S : List Value) (g : pmH) : pmV mX11_find 39 L S g = zIret mX11_find S g := ez_ireturn kcX11_find dX11_find_39 L S g
theorem eX11_find_40 (L : pmL) (S : List Value) (g : pmH) : pmV mX11_find 40 L S g = zLdA mX11_find 41 0 L S g := ez_aload_n kcX11_find dX11_find_40 rfl rfl L S g
theorem eX11_find_41 (L : pmL) (S : List Value) (g : pmH) : pmV mX11_find 41 L S g = zGet mX11_find 44 11 12 L S g := ez_getfield kcX11_find dX11_find_41 fl_11_78 rfl L S g
theorem eX11_find_44 (L : pmL) (S : List Value) (g : pmH) : pmV mX11_find 44 L S g = zLdI mX11_find 45 1 L S g := ez_iload_n kcX11_find dX11_find_44 rfl rfl L S g
theorem eX11_find_45 (L : pmL) (S : List Value) (g : pmH) : pmV mX11_find 45 L S g = zLdI mX11_find 46 2 L S g := ez_iload_n kcX11_find dX11_find_45 rfl rfl L S g
theorem eX11_find_46 (L : pmL) (S : List Value) (g : pmH) : pmV mX11_find 46 L S g = yV mX11_find 49 2 mX5_add 5 3 L S g := (ez_virtual kcX11_find dX11_find_46 ml_11_240 rfl L S g).trans (zCallV_y rfl rfl (by decide) L S g)
theorem eX11_find_49 (L : pmL) (S : List Value) (g : pmH) : pmV mX11_find 49 L S g = zLdA mX11_find 50 0 L S g := ez_aload_n kcX11_find dX11_find_49 rfl rfl L S g
theorem eX11_find_50 (L : pmL) (S : List Value) (g : pmH) : pmV mX11_find 50 L S g = zGet mX11_find 53 11 12 L S g := ez_getfield kcX11_find dX11_find_50 fl_11_78 rfl L S g
theorem eX11_find_53 (L : pmL) (S : List Value) (g : pmH) : pmV mX11_find 53 L S g = zGet mX11_find 56 5 4 L S g := ez_getfield kcX11_find dX11_find_53 fl_11_239 rfl L S g
theorem eX11_find_56 (L : pmL) (S : List Value) (g : pmH) : pmV mX11_find 56 L S g = zIret mX11_find S g := ez_ireturn kcX11_find dX11_find_56 L S g
theorem eX11_lose_0 (L : pmL) (S : List Value) (g : pmH) : pmV mX11_lose 0 L S g = zLdA mX11_lose 1 0 L S g := ez_aload_n kcX11_lose dX11_lose_0 rfl rfl L S g
theorem eX11_lose_1 (L : pmL) (S : List Value) (g : pmH) : pmV mX11_lose 1 L S g = zGet mX11_lose 4 11 12 L S g := ez_getfield kcX11_lose dX11_lose_1 fl_11_78 rfl L S g
theorem eX11_lose_4 (L : pmL) (S : List Value) (g : pmH) : pmV mX11_lose 4 L S g = zGet mX11_lose 7 5 4 L S g := ez_getfield kcX11_lose dX11_lose_4 fl_11_239 rfl L S g
theorem eX11_lose_7 (L : pmL) (S : List Value) (g : pmH) : pmV mX11_lose 7 L S g = zStI mX11_lose 8 1 L S g := ez_istore_n kcX11_lose dX11_lose_7 rfl rfl L S g
theorem eX11_lose_8 (L : pmL) (S : List Value) (g : pmH) : pmV mX11_lose 8 L S g = zLdA mX11_lose 9 0 L S g := ez_aload_n kcX11_lose dX11_lose_8 rfl rfl L S g
theorem eX11_lose_9 (L : pmL) (S : List Value) (g : pmH) : pmV mX11_lose 9 L S g = zGet mX11_lose 12 11 12 L S g := ez_getfield kcX11_lose dX11_lose_9 fl_11_78 rfl L S g
theorem eX11_lose_12 (L : pmL) (S : List Value) (g : pmH) : pmV mX11_lose 12 L S g = zPush mX11_lose 13 (.int (nI 0)) L S g := ez_iconst kcX11_lose dX11_lose_12 (by decide) rfl L S g
theorem eX11_lose_13 (L : pmL) (S : List Value) (g : pmH) : pmV mX11_lose 13 L S g = zPut mX11_lose 16 5 4 L S g := ez_putfield kcX11_lose dX11_lose_13 fl_11_239 rfl L S g
theorem eX11_lose_16 (L : pmL) (S : List Value) (g : pmH) : pmV mX11_lose 16 L S g = zLdI mX11_lose 17 1 L S g := ez_iload_n kcX11_lose dX11_lose_16 rfl rfl L S g
theorem eX11_lose_17 (L : pmL) (S : List Value) (g : pmH) : pmV mX11_lose 17 L S g = zIret mX11_lose S g := ez_ireturn kcX11_lose dX11_lose_17 L S g
theorem eX11_began_0 (L : pmL) (S : List Value) (g : pmH) : pmV mX11_began 0 L S g = zLdI mX11_began 1 1 L S g := ez_iload_n kcX11_began dX11_began_0 rfl rfl L S g
theorem eX11_began_1 (L : pmL) (S : List Value) (g : pmH) : pmV mX11_began 1 L S g = zClt mX11_began 4 9 L S g := ez_if_lt kcX11_began dX11_began_1 (by decide) rfl L S g
theorem eX11_began_4 (L : pmL) (S : List Value) (g : pmH) : pmV mX11_began 4 L S g = zLdI mX11_began 5 1 L S g := ez_iload_n kcX11_began dX11_began_4 rfl rfl L S g
theorem eX11_began_5 (L : pmL) (S : List Value) (g : pmH) : pmV mX11_began 5 L S g = zPush mX11_began 6 (.int (nI 3)) L S g := ez_iconst kcX11_began dX11_began_5 (by decide) rfl L S g
theorem eX11_began_6 (L : pmL) (S : List Value) (g : pmH) : pmV mX11_began 6 L S g = zBle mX11_began 9 12 L S g := ez_icmp_le kcX11_began dX11_began_6 (by decide) rfl L S g
theorem eX11_began_9 (L : pmL) (S : List Value) (g : pmH) : pmV mX11_began 9 L S g = zPush mX11_began 11 (.int (-2)) L S g := ez_bipush kcX11_began dX11_began_9 (by decide) rfl L S g
theorem eX11_began_11 (L : pmL) (S : List Value) (g : pmH) : pmV mX11_began 11 L S g = zIret mX11_began S g := ez_ireturn kcX11_began dX11_began_11 L S g
theorem eX11_began_12 (L : pmL) (S : List Value) (g : pmH) : pmV mX11_began 12 L S g = zLdA mX11_began 13 0 L S g := ez_aload_n kcX11_began dX11_began_12 rfl rfl L S g
theorem eX11_began_13 (L : pmL) (S : List Value) (g : pmH) : pmV mX11_began 13 L S g = zGet mX11_began 16 11 12 L S g := ez_getfield kcX11_began dX11_began_13 fl_11_78 rfl L S g
theorem eX11_began_16 (L : pmL) (S : List Value) (g : pmH) : pmV mX11_began 16 L S g = zLdI mX11_began 17 1 L S g := ez_iload_n kcX11_began dX11_began_16 rfl rfl L S g
theorem eX11_began_17 (L : pmL) (S : List Value) (g : pmH) : pmV mX11_began 17 L S g = yV mX11_began 20 1 mX5_cellsOfLetting 5 4 L S g := (ez_virtual kcX11_began dX11_began_17 ml_11_244 rfl L S g).trans (zCallV_y rfl rfl (by decide) L S g)
theorem eX11_began_20 (L : pmL) (S : List Value) (g : pmH) : pmV mX11_began 20 L S g = zIret mX11_began S g := ez_ireturn kcX11_began dX11_began_20 L S g
theorem eX11_share_0 (L : pmL) (S : List Value) (g : pmH) : pmV mX11_share 0 L S g = zLdA mX11_share 1 0 L S g := ez_aload_n kcX11_share dX11_share_0 rfl rfl L S g
theorem eX11_share_1 (L : pmL) (S : List Value) (g : pmH) : pmV mX11_share 1 L S g = zGet mX11_share 4 11 2 L S g := ez_getfield kcX11_share dX11_share_1 fl_11_16 rfl L S g
theorem eX11_share_4 (L : pmL) (S : List Value) (g : pmH) : pmV mX11_share 4 L S g = zLdI mX11_share 5 1 L S g := ez_iload_n kcX11_share dX11_share_4 rfl rfl L S g
theorem eX11_share_5 (L : pmL) (S : List Value) (g : pmH) : pmV mX11_share 5 L S g = yV mX11_share 8 1 mX4_hasHedge 4 2 L S g := (ez_virtual kcX11_share dX11_share_5 ml_11_159 rfl L S g).trans (zCallV_y rfl rfl (by decide) L S g)
theorem eX11_share_8 (L : pmL) (S : List Value) (g : pmH) : pmV mX11_share 8 L S g = zCne mX11_share 11 13 L S g := ez_if_ne kcX11_share dX11_share_8 (by decide) rfl L S g
theorem eX11_share_11 (L : pmL) (S : List Value) (g : pmH) : pmV mX11_share 11 L S g = zPush mX11_share 12 (.int (-1)) L S g := ez_iconst kcX11_share dX11_share_11 (by decide) rfl L S g
theorem eX11_share_12 (L : pmL) (S : List Value) (g : pmH) : pmV mX11_share 12 L S g = zIret mX11_share S g := ez_ireturn kcX11_share dX11_share_12 L S g
theorem eX11_share_13 (L : pmL) (S : List Value) (g : pmH) : pmV mX11_share 13 L S g = zLdA mX11_share 14 0 L S g := ez_aload_n kcX11_share dX11_share_13 rfl rfl L S g
theorem eX11_share_14 (L : pmL) (S : List Value) (g : pmH) : pmV mX11_share 14 L S g = zGet mX11_share 17 11 13 L S g := ez_getfield kcX11_share dX11_share_14 fl_11_85 rfl L S g
theorem eX11_share_17 (L : pmL) (S : List Value) (g : pmH) : pmV mX11_share 17 L S g = zLdI mX11_share 18 1 L S g := ez_iload_n kcX11_share dX11_share_17 rfl rfl L S g
theorem eX11_share_18 (L : pmL) (S : List Value) (g : pmH) : pmV mX11_share 18 L S g = yV mX11_share 21 1 mX8_sumOverOrders 8 7 L S g := (ez_virtual kcX11_share dX11_share_18 ml_11_247 rfl L S g).trans (zCallV_y rfl rfl (by decide) L S g)
theorem eX11_share_21 (L : pmL) (S : List Value) (g : pmH) : pmV mX11_share 21 L S g = zStI mX11_share 22 3 L S g := ez_istore_n kcX11_share dX11_share_21 rfl rfl L S g
theorem eX11_share_22 (L : pmL) (S : List Value) (g : pmH) : pmV mX11_share 22 L S g = zLdI mX11_share 23 3 L S g := ez_iload_n kcX11_share dX11_share_22 rfl rfl L S g
theorem eX11_share_23 (L : pmL) (S : List Value) (g : pmH) : pmV mX11_share 23 L S g = zPush mX11_share 26 (.ref 1) L S g := ez_getstatic kcX11_share dX11_share_23 sl_11_250 rfl L S g
theorem eX11_share_26 (L : pmL) (S : List Value) (g : pmH) : pmV mX11_share 26 L S g = zLdA mX11_share 27 0 L S g := ez_aload_n kcX11_share dX11_share_26 rfl rfl L S g
theorem eX11_share_27 (L : pmL) (S : List Value) (g : pmH) : pmV mX11_share 27 L S g = zGet mX11_share 30 11 2 L S g := ez_getfield kcX11_share dX11_share_27 fl_11_16 rfl L S g
theorem eX11_share_30 (L : pmL) (S : List Value) (g : pmH) : pmV mX11_share 30 L S g = zGet mX11_share 33 4 9 L S g := ez_getfield kcX11_share dX11_share_30 fl_11_123 rfl L S g
theorem eX11_share_33 (L : pmL) (S : List Value) (g : pmH) : pmV mX11_share 33 L S g = zIald mX11_share 34 L S g := ez_iaload kcX11_share dX11_share_33 rfl L S g
theorem eX11_share_34 (L : pmL) (S : List Value) (g : pmH) : pmV mX11_share 34 L S g = zLdI mX11_share 35 2 L S g := ez_iload_n kcX11_share dX11_share_34 rfl rfl L S g
theorem eX11_share_35 (L : pmL) (S : List Value) (g : pmH) : pmV mX11_share 35 L S g = yS mX11_share 38 3 mX11_inLeastTerms 4 L S g := (ez_static kcX11_share dX11_share_35 ml_11_253 (by decide) rfl L S g).trans (zCall_y rfl (by decide) L S g)
theorem eX11_share_38 (L : pmL) (S : List Value) (g : pmH) : pmV mX11_share 38 L S g = zIret mX11_share S g := ez_ireturn kcX11_share dX11_share_38 L S g
theorem eX11_rests_0 (L : pmL) (S : List Value) (g : pmH) : pmV mX11_rests 0 L S g = zLdA mX11_rests 1 0 L S g := ez_aload_n kcX11_rests dX11_rests_0 rfl rfl L S g
theorem eX11_rests_1 (L : pmL) (S : List Value) (g : pmH) : pmV mX11_rests 1 L S g = zGet mX11_rests 4 11 5 L S g := ez_getfield kcX11_rests dX11_rests_1 fl_11_35 rfl L S g
theorem eX11_rests_4 (L : pmL) (S : List Value) (g : pmH) : pmV mX11_rests 4 L S g = zLdI mX11_rests 5 1 L S g := ez_iload_n kcX11_rests dX11_rests_4 rfl rfl L S g
theorem eX11_rests_5 (L : pmL) (S : List Value) (g : pmH) : pmV mX11_rests 5 L S g = yV mX11_rests 8 1 mX10_hasBalloon 10 2 L S g := (ez_virtual kcX11_rests dX11_rests_5 ml_11_126 rfl L S g).trans (zCallV_y rfl rfl (by decide) L S g)
theorem eX11_rests_8 (L : pmL) (S : List Value) (g : pmH) : pmV mX11_rests 8 L S g = zCeq mX11_rests 11 22 L S g := ez_if_eq kcX11_rests dX11_rests_8 (by decide) rfl L S g
theorem eX11_rests_11 (L : pmL) (S : List Value) (g : pmH) : pmV mX11_rests 11 L S g = zLdA mX11_rests 12 0 L S g := ez_aload_n kcX11_rests dX11_rests_11 rfl rfl L S g
theorem eX11_rests_12 (L : pmL) (S : List Value) (g : pmH) : pmV mX11_rests 12 L S g = zGet mX11_rests 15 11 5 L S g := ez_getfield kcX11_rests dX11_rests_12 fl_11_35 rfl L S g
theorem eX11_rests_15 (L : pmL) (S : List Value) (g : pmH) : pmV mX11_rests 15 L S g = zLdI mX11_rests 16 2 L S g := ez_iload_n kcX11_rests dX11_rests_15 rfl rfl L S g
theorem eX11_rests_16 (L : pmL) (S : List Value) (g : pmH) : pmV mX11_rests 16 L S g = yV mX11_rests 19 1 mX10_hasBalloon 10 2 L S g := (ez_virtual kcX11_rests dX11_rests_16 ml_11_126 rfl L S g).trans (zCallV_y rfl rfl (by decide) L S g)
theorem eX11_rests_19 (L : pmL) (S : List Value) (g : pmH) : pmV mX11_rests 19 L S g = zCne mX11_rests 22 24 L S g := ez_if_ne kcX11_rests dX11_rests_19 (by decide) rfl L S g
theorem eX11_rests_22 (L : pmL) (S : List Value) (g : pmH) : pmV mX11_rests 22 L S g = zPush mX11_rests 23 (.int (-1)) L S g := ez_iconst kcX11_rests dX11_rests_22 (by decide) rfl L S g
theorem eX11_rests_23 (L : pmL) (S : List Value) (g : pmH) : pmV mX11_rests 23 L S g = zIret mX11_rests S g := ez_ireturn kcX11_rests dX11_rests_23 L S g
theorem eX11_rests_24 (L : pmL) (S : List Value) (g : pmH) : pmV mX11_rests 24 L S g = zLdI mX11_rests 25 1 L S g := ez_iload_n kcX11_rests dX11_rests_24 rfl rfl L S g
theorem eX11_rests_25 (L : pmL) (S : List Value) (g : pmH) : pmV mX11_rests 25 L S g = zLdI mX11_rests 26 2 L S g := ez_iload_n kcX11_rests dX11_rests_25 rfl rfl L S g
theorem eX11_rests_26 (L : pmL) (S : List Value) (g : pmH) : pmV mX11_rests 26 L S g = zBeq mX11_rests 29 38 L S g := ez_icmp_eq kcX11_rests dX11_rests_26 (by decide) rfl L S g
theorem eX11_rests_29 (L : pmL) (S : List Value) (g : pmH) : pmV mX11_rests 29 L S g = zLdI mX11_rests 30 3 L S g := ez_iload_n kcX11_rests dX11_rests_29 rfl rfl L S g
theorem eX11_rests_30 (L : pmL) (S : List Value) (g : pmH) : pmV mX11_rests 30 L S g = zClt mX11_rests 33 38 L S g := ez_if_lt kcX11_rests dX11_rests_30 (by decide) rfl L S g
theorem eX11_rests_33 (L : pmL) (S : List Value) (g : pmH) : pmV mX11_rests 33 L S g = zLdI mX11_rests 34 3 L S g := ez_iload_n kcX11_rests dX11_rests_33 rfl rfl L S g
theorem eX11_rests_34 (L : pmL) (S : List Value) (g : pmH) : pmV mX11_rests 34 L S g = zPush mX11_rests 35 (.int (nI 1)) L S g := ez_iconst kcX11_rests dX11_rests_34 (by decide) rfl L S g
theorem eX11_rests_35 (L : pmL) (S : List Value) (g : pmH) : pmV mX11_rests 35 L S g = zBle mX11_rests 38 41 L S g := ez_icmp_le kcX11_rests dX11_rests_35 (by decide) rfl L S g
theorem eX11_rests_38 (L : pmL) (S : List Value) (g : pmH) : pmV mX11_rests 38 L S g = zPush mX11_rests 40 (.int (-2)) L S g := ez_bipush kcX11_rests dX11_rests_38 (by decide) rfl L S g
theorem eX11_rests_40 (L : pmL) (S : List Value) (g : pmH) : pmV mX11_rests 40 L S g = zIret mX11_rests S g := ez_ireturn kcX11_rests dX11_rests_40 L S g
theorem eX11_rests_41 (L : pmL) (S : List Value) (g : pmH) : pmV mX11_rests 41 L S g = zLdA mX11_rests 42 0 L S g := ez_aload_n kcX11_rests dX11_rests_41 rfl rfl L S g
theorem eX11_rests_42 (L : pmL) (S : List Value) (g : pmH) : pmV mX11_rests 42 L S g = zGet mX11_rests 45 11 5 L S g := ez_getfield kcX11_rests dX11_rests_42 fl_11_35 rfl L S g
theorem eX11_rests_45 (L : pmL) (S : List Value) (g : pmH) : pmV mX11_rests 45 L S g = zLdI mX11_rests 46 1 L S g := ez_iload_n kcX11_rests dX11_rests_45 rfl rfl L S g
theorem eX11_rests_46 (L : pmL) (S : List Value) (g : pmH) : pmV mX11_rests 46 L S g = zPush mX11_rests 47 (.int (nI 0)) L S g := ez_iconst kcX11_rests dX11_rests_46 (by decide) rfl L S g
theorem eX11_rests_47 (L : pmL) (S : List Value) (g : pmH) : pmV mX11_rests 47 L S g = yV mX11_rests 50 2 mX10_is 10 3 L S g := (ez_virtual kcX11_rests dX11_rests_47 ml_11_175 rfl L S g).trans (zCallV_y rfl rfl (by decide) L S g)
theorem eX11_rests_50 (L : pmL) (S : List Value) (g : pmH) : pmV mX11_rests 50 L S g = zCeq mX11_rests 53 65 L S g := ez_if_eq kcX11_rests dX11_rests_50 (by decide) rfl L S g
theorem eX11_rests_53 (L : pmL) (S : List Value) (g : pmH) : pmV mX11_rests 53 L S g = zLdA mX11_rests 54 0 L S g := ez_aload_n kcX11_rests dX11_rests_53 rfl rfl L S g
theorem eX11_rests_54 (L : pmL) (S : List Value) (g : pmH) : pmV mX11_rests 54 L S g = zGet mX11_rests 57 11 5 L S g := ez_getfield kcX11_rests dX11_rests_54 fl_11_35 rfl L S g
theorem eX11_rests_57 (L : pmL) (S : List Value) (g : pmH) : pmV mX11_rests 57 L S g = zLdI mX11_rests 58 2 L S g := ez_iload_n kcX11_rests dX11_rests_57 rfl rfl L S g
theorem eX11_rests_58 (L : pmL) (S : List Value) (g : pmH) : pmV mX11_rests 58 L S g = zPush mX11_rests 59 (.int (nI 0)) L S g := ez_iconst kcX11_rests dX11_rests_58 (by decide) rfl L S g
theorem eX11_rests_59 (L : pmL) (S : List Value) (g : pmH) : pmV mX11_rests 59 L S g = yV mX11_rests 62 2 mX10_is 10 3 L S g := (ez_virtual kcX11_rests dX11_rests_59 ml_11_175 rfl L S g).trans (zCallV_y rfl rfl (by decide) L S g)
theorem eX11_rests_62 (L : pmL) (S : List Value) (g : pmH) : pmV mX11_rests 62 L S g = zCne mX11_rests 65 68 L S g := ez_if_ne kcX11_rests dX11_rests_62 (by decide) rfl L S g
theorem eX11_rests_65 (L : pmL) (S : List Value) (g : pmH) : pmV mX11_rests 65 L S g = zPush mX11_rests 67 (.int (-3)) L S g := ez_bipush kcX11_rests dX11_rests_65 (by decide) rfl L S g
theorem eX11_rests_67 (L : pmL) (S : List Value) (g : pmH) : pmV mX11_rests 67 L S g = zIret mX11_rests S g := ez_ireturn kcX11_rests dX11_rests_67 L S g
theorem eX11_rests_68 (L : pmL) (S : List Value) (g : pmH) : pmV mX11_rests 68 L S g = zLdA mX11_rests 69 0 L S g := ez_aload_n kcX11_rests dX11_rests_68 rfl rfl L S g
theorem eX11_rests_69 (L : pmL) (S : List Value) (g : pmH) : pmV mX11_rests 69 L S g = zGet mX11_rests 72 11 14 L S g := ez_getfield kcX11_rests dX11_rests_69 fl_11_92 rfl L S g
theorem eX11_rests_72 (L : pmL) (S : List Value) (g : pmH) : pmV mX11_rests 72 L S g = zLdI mX11_rests 73 1 L S g := ez_iload_n kcX11_rests dX11_rests_72 rfl rfl L S g
theorem eX11_rests_73 (L : pmL) (S : List Value) (g : pmH) : pmV mX11_rests 73 L S g = zLdI mX11_rests 74 2 L S g := ez_iload_n kcX11_rests dX11_rests_73 rfl rfl L S g
theorem eX11_rests_74 (L : pmL) (S : List Value) (g : pmH) : pmV mX11_rests 74 L S g = yV mX11_rests 77 2 mX2_tryAllPairs 2 5 L S g := (ez_virtual kcX11_rests dX11_rests_74 ml_11_257 rfl L S g).trans (zCallV_y rfl rfl (by decide) L S g)
theorem eX11_rests_77 (L : pmL) (S : List Value) (g : pmH) : pmV mX11_rests 77 L S g = zLdI mX11_rests 78 3 L S g := ez_iload_n kcX11_rests dX11_rests_77 rfl rfl L S g
theorem eX11_rests_78 (L : pmL) (S : List Value) (g : pmH) : pmV mX11_rests 78 L S g = zCne mX11_rests 81 91 L S g := ez_if_ne kcX11_rests dX11_rests_78 (by decide) rfl L S g
theorem eX11_rests_81 (L : pmL) (S : List Value) (g : pmH) : pmV mX11_rests 81 L S g = zLdA mX11_rests 82 0 L S g := ez_aload_n kcX11_rests dX11_rests_81 rfl rfl L S g
theorem eX11_rests_82 (L : pmL) (S : List Value) (g : pmH) : pmV mX11_rests 82 L S g = zGet mX11_rests 85 11 14 L S g := ez_getfield kcX11_rests dX11_rests_82 fl_11_92 rfl L S g
theorem eX11_rests_85 (L : pmL) (S : List Value) (g : pmH) : pmV mX11_rests 85 L S g = yV mX11_rests 88 0 mX2_howManyRest 2 3 L S g := (ez_virtual kcX11_rests dX11_rests_85 ml_11_260 rfl L S g).trans (zCallV_y rfl rfl (by decide) L S g)
theorem eX11_rests_88 (L : pmL) (S : List Value) (g : pmH) : pmV mX11_rests 88 L S g = zNx mX11_rests 98 L S g := ez_goto kcX11_rests dX11_rests_88 (by decide) L S g
theorem eX11_rests_91 (L : pmL) (S : List Value) (g : pmH) : pmV mX11_rests 91 L S g = zLdA mX11_rests 92 0 L S g := ez_aload_n kcX11_rests dX11_rests_91 rfl rfl L S g
theorem eX11_rests_92 (L : pmL) (S : List Value) (g : pmH) : pmV mX11_rests 92 L S g = zGet mX11_rests 95 11 14 L S g := ez_getfield kcX11_rests dX11_rests_92 fl_11_92 rfl L S g
theorem eX11_rests_95 (L : pmL) (S : List Value) (g : pmH) : pmV mX11_rests 95 L S g = yV mX11_rests 98 0 mX2_firstAtRest 2 2 L S g := (ez_virtual kcX11_rests dX11_rests_95 ml_11_263 rfl L S g).trans (zCallV_y rfl rfl (by decide) L S g)
theorem eX11_rests_98 (L : pmL) (S : List Value) (g : pmH) : pmV mX11_rests 98 L S g = zIret mX11_rests S g := ez_ireturn kcX11_rests dX11_rests_98 L S g
theorem eX11_fails_0 (L : pmL) (S : List Value) (g : pmH) : pmV mX11_fails 0 L S g = zLdA mX11_fails 1 0 L S g := ez_aload_n kcX11_fails dX11_fails_0 rfl rfl L S g
theorem eX11_fails_1 (L : pmL) (S : List Value) (g : pmH) : pmV mX11_fails 1 L S g = zGet mX11_fails 4 11 5 L S g := ez_getfield kcX11_fails dX11_fails_1 fl_11_35 rfl L S g
theorem eX11_fails_4 (L : pmL) (S : List Value) (g : pmH) : pmV mX11_fails 4 L S g = zLdI mX11_fails 5 1 L S g := ez_iload_n kcX11_fails dX11_fails_4 rfl rfl L S g
theorem eX11_fails_5 (L : pmL) (S : List Value) (g : pmH) : pmV mX11_fails 5 L S g = yV mX11_fails 8 1 mX10_hasBalloon 10 2 L S g := (ez_virtual kcX11_fails dX11_fails_5 ml_11_126 rfl L S g).trans (zCallV_y rfl rfl (by decide) L S g)
theorem eX11_fails_8 (L : pmL) (S : List Value) (g : pmH) : pmV mX11_fails 8 L S g = zCeq mX11_fails 11 22 L S g := ez_if_eq kcX11_fails dX11_fails_8 (by decide) rfl L S g
theorem eX11_fails_11 (L : pmL) (S : List Value) (g : pmH) : pmV mX11_fails 11 L S g = zLdA mX11_fails 12 0 L S g := ez_aload_n kcX11_fails dX11_fails_11 rfl rfl L S g
theorem eX11_fails_12 (L : pmL) (S : List Value) (g : pmH) : pmV mX11_fails 12 L S g = zGet mX11_fails 15 11 2 L S g := ez_getfield kcX11_fails dX11_fails_12 fl_11_16 rfl L S g
theorem eX11_fails_15 (L : pmL) (S : List Value) (g : pmH) : pmV mX11_fails 15 L S g = zLdI mX11_fails 16 2 L S g := ez_iload_n kcX11_fails dX11_fails_15 rfl rfl L S g
theorem eX11_fails_16 (L : pmL) (S : List Value) (g : pmH) : pmV mX11_fails 16 L S g = yV mX11_fails 19 1 mX4_hasHedge 4 2 L S g := (ez_virtual kcX11_fails dX11_fails_16 ml_11_159 rfl L S g).trans (zCallV_y rfl rfl (by decide) L S g)
theorem eX11_fails_19 (L : pmL) (S : List Value) (g : pmH) : pmV mX11_fails 19 L S g = zCne mX11_fails 22 24 L S g := ez_if_ne kcX11_fails dX11_fails_19 (by decide) rfl L S g
theorem eX11_fails_22 (L : pmL) (S : List Value) (g : pmH) : pmV mX11_fails 22 L S g = zPush mX11_fails 23 (.int (-1)) L S g := ez_iconst kcX11_fails dX11_fails_22 (by decide) rfl L S g
theorem eX11_fails_23 (L : pmL) (S : List Value) (g : pmH) : pmV mX11_fails 23 L S g = zIret mX11_fails S g := ez_ireturn kcX11_fails dX11_fails_23 L S g
theorem eX11_fails_24 (L : pmL) (S : List Value) (g : pmH) : pmV mX11_fails 24 L S g = zLdI mX11_fails 25 3 L S g := ez_iload_n kcX11_fails dX11_fails_24 rfl rfl L S g
theorem eX11_fails_25 (L : pmL) (S : List Value) (g : pmH) : pmV mX11_fails 25 L S g = zPush mX11_fails 26 (.int (nI 1)) L S g := ez_iconst kcX11_fails dX11_fails_25 (by decide) rfl L S g
theorem eX11_fails_26 (L : pmL) (S : List Value) (g : pmH) : pmV mX11_fails 26 L S g = zBlt mX11_fails 29 47 L S g := ez_icmp_lt kcX11_fails dX11_fails_26 (by decide) rfl L S g
theorem eX11_fails_29 (L : pmL) (S : List Value) (g : pmH) : pmV mX11_fails 29 L S g = zLdI mX11_fails 30 3 L S g := ez_iload_n kcX11_fails dX11_fails_29 rfl rfl L S g
theorem eX11_fails_30 (L : pmL) (S : List Value) (g : pmH) : pmV mX11_fails 30 L S g = zPush mX11_fails 32 (.int (nI 6)) L S g := ez_bipush kcX11_fails dX11_fails_30 (by decide) rfl L S g
theorem eX11_fails_32 (L : pmL) (S : List Value) (g : pmH) : pmV mX11_fails 32 L S g = zBgt mX11_fails 35 47 L S g := ez_icmp_gt kcX11_fails dX11_fails_32 (by decide) rfl L S g
theorem eX11_fails_35 (L : pmL) (S : List Value) (g : pmH) : pmV mX11_fails 35 L S g = zLdI mX11_fails 37 4 L S g := ez_iload kcX11_fails dX11_fails_35 rfl L S g
theorem eX11_fails_37 (L : pmL) (S : List Value) (g : pmH) : pmV mX11_fails 37 L S g = zClt mX11_fails 40 47 L S g := ez_if_lt kcX11_fails dX11_fails_37 (by decide) rfl L S g
theorem eX11_fails_40 (L : pmL) (S : List Value) (g : pmH) : pmV mX11_fails 40 L S g = zLdI mX11_fails 42 4 L S g := ez_iload kcX11_fails dX11_fails_40 rfl L S g
theorem eX11_fails_42 (L : pmL) (S : List Value) (g : pmH) : pmV mX11_fails 42 L S g = zPush mX11_fails 44 (.int (nI 10)) L S g := ez_bipush kcX11_fails dX11_fails_42 (by decide) rfl L S g
theorem eX11_fails_44 (L : pmL) (S : List Value) (g : pmH) : pmV mX11_fails 44 L S g = zBle mX11_fails 47 50 L S g := ez_icmp_le kcX11_fails dX11_fails_44 (by decide) rfl L S g
theorem eX11_fails_47 (L : pmL) (S : List Value) (g : pmH) : pmV mX11_fails 47 L S g = zPush mX11_fails 49 (.int (-2)) L S g := ez_bipush kcX11_fails dX11_fails_47 (by decide) rfl L S g
theorem eX11_fails_49 (L : pmL) (S : List Value) (g : pmH) : pmV mX11_fails 49 L S g = zIret mX11_fails S g := ez_ireturn kcX11_fails dX11_fails_49 L S g
theorem eX11_fails_50 (L : pmL) (S : List Value) (g : pmH) : pmV mX11_fails 50 L S g = zLdA mX11_fails 51 0 L S g := ez_aload_n kcX11_fails dX11_fails_50 rfl rfl L S g
theorem eX11_fails_51 (L : pmL) (S : List Value) (g : pmH) : pmV mX11_fails 51 L S g = zGet mX11_fails 54 11 15 L S g := ez_getfield kcX11_fails dX11_fails_51 fl_11_99 rfl L S g
theorem eX11_fails_54 (L : pmL) (S : List Value) (g : pmH) : pmV mX11_fails 54 L S g = zLdI mX11_fails 55 1 L S g := ez_iload_n kcX11_fails dX11_fails_54 rfl rfl L S g
theorem eX11_fails_55 (L : pmL) (S : List Value) (g : pmH) : pmV mX11_fails 55 L S g = zLdI mX11_fails 56 2 L S g := ez_iload_n kcX11_fails dX11_fails_55 rfl rfl L S g
theorem eX11_fails_56 (L : pmL) (S : List Value) (g : pmH) : pmV mX11_fails 56 L S g = zLdI mX11_fails 57 3 L S g := ez_iload_n kcX11_fails dX11_fails_56 rfl rfl L S g
theorem eX11_fails_57 (L : pmL) (S : List Value) (g : pmH) : pmV mX11_fails 57 L S g = zLdI mX11_fails 59 4 L S g := ez_iload kcX11_fails dX11_fails_57 rfl L S g
theorem eX11_fails_59 (L : pmL) (S : List Value) (g : pmH) : pmV mX11_fails 59 L S g = yV mX11_fails 62 4 mX3_waysCaught 3 9 L S g := (ez_virtual kcX11_fails dX11_fails_59 ml_11_266 rfl L S g).trans (zCallV_y rfl rfl (by decide) L S g)
theorem eX11_fails_62 (L : pmL) (S : List Value) (g : pmH) : pmV mX11_fails 62 L S g = zStI mX11_fails 64 6 L S g := ez_istore kcX11_fails dX11_fails_62 rfl L S g
theorem eX11_fails_64 (L : pmL) (S : List Value) (g : pmH) : pmV mX11_fails 64 L S g = zLdI mX11_fails 66 6 L S g := ez_iload kcX11_fails dX11_fails_64 rfl L S g
theorem eX11_fails_66 (L : pmL) (S : List Value) (g : pmH) : pmV mX11_fails 66 L S g = zPush mX11_fails 68 (.int (nI 10)) L S g := ez_bipush kcX11_fails dX11_fails_66 (by decide) rfl L S g
theorem eX11_fails_68 (L : pmL) (S : List Value) (g : pmH) : pmV mX11_fails 68 L S g = zLdI mX11_fails 69 3 L S g := ez_iload_n kcX11_fails dX11_fails_68 rfl rfl L S g
theorem eX11_fails_69 (L : pmL) (S : List Value) (g : pmH) : pmV mX11_fails 69 L S g = yS mX11_fails 72 2 mX11_power 4 L S g := (ez_static kcX11_fails dX11_fails_69 ml_11_270 (by decide) rfl L S g).trans (zCall_y rfl (by decide) L S g)
theorem eX11_fails_72 (L : pmL) (S : List Value) (g : pmH) : pmV mX11_fails 72 L S g = zLdI mX11_fails 74 5 L S g := ez_iload kcX11_fails dX11_fails_72 rfl L S g
theorem eX11_fails_74 (L : pmL) (S : List Value) (g : pmH) : pmV mX11_fails 74 L S g = yS mX11_fails 77 3 mX11_inLeastTerms 4 L S g := (ez_static kcX11_fails dX11_fails_74 ml_11_253 (by decide) rfl L S g).trans (zCall_y rfl (by decide) L S g)
theorem eX11_fails_77 (L : pmL) (S : List Value) (g : pmH) : pmV mX11_fails 77 L S g = zIret mX11_fails S g := ez_ireturn kcX11_fails dX11_fails_77 L S g
theorem eX11_seed_0 (L : pmL) (S : List Value) (g : pmH) : pmV mX11_seed 0 L S g = zLdA mX11_seed 1 0 L S g := ez_aload_n kcX11_seed dX11_seed_0 rfl rfl L S g
theorem eX11_seed_1 (L : pmL) (S : List Value) (g : pmH) : pmV mX11_seed 1 L S g = zGet mX11_seed 4 11 15 L S g := ez_getfield kcX11_seed dX11_seed_1 fl_11_99 rfl L S g
theorem eX11_seed_4 (L : pmL) (S : List Value) (g : pmH) : pmV mX11_seed 4 L S g = zGet mX11_seed 7 3 2 L S g := ez_getfield kcX11_seed dX11_seed_4 fl_11_274 rfl L S g
theorem eX11_seed_7 (L : pmL) (S : List Value) (g : pmH) : pmV mX11_seed 7 L S g = zStJ mX11_seed 8 3 L S g := ez_lstore_n kcX11_seed dX11_seed_7 rfl rfl L S g
theorem eX11_seed_8 (L : pmL) (S : List Value) (g : pmH) : pmV mX11_seed 8 L S g = zLdA mX11_seed 9 0 L S g := ez_aload_n kcX11_seed dX11_seed_8 rfl rfl L S g
theorem eX11_seed_9 (L : pmL) (S : List Value) (g : pmH) : pmV mX11_seed 9 L S g = zGet mX11_seed 12 11 15 L S g := ez_getfield kcX11_seed dX11_seed_9 fl_11_99 rfl L S g
theorem eX11_seed_12 (L : pmL) (S : List Value) (g : pmH) : pmV mX11_seed 12 L S g = zLdJ mX11_seed 13 1 L S g := ez_lload_n kcX11_seed dX11_seed_12 rfl rfl L S g
theorem eX11_seed_13 (L : pmL) (S : List Value) (g : pmH) : pmV mX11_seed 13 L S g = zPut mX11_seed 16 3 2 L S g := ez_putfield kcX11_seed dX11_seed_13 fl_11_274 rfl L S g
theorem eX11_seed_16 (L : pmL) (S : List Value) (g : pmH) : pmV mX11_seed 16 L S g = zLdJ mX11_seed 17 3 L S g := ez_lload_n kcX11_seed dX11_seed_16 rfl rfl L S g
theorem eX11_seed_17 (L : pmL) (S : List Value) (g : pmH) : pmV mX11_seed 17 L S g = zLret S g := ez_lreturn kcX11_seed dX11_seed_17 rfl L S g
theorem eX11_years_0 (L : pmL) (S : List Value) (g : pmH) : pmV mX11_years 0 L S g = zLdI mX11_years 1 1 L S g := ez_iload_n kcX11_years dX11_years_0 rfl rfl L S g
theorem eX11_years_1 (L : pmL) (S : List Value) (g : pmH) : pmV mX11_years 1 L S g = zPush mX11_years 2 (.int (nI 1)) L S g := ez_iconst kcX11_years dX11_years_1 (by decide) rfl L S g
theorem eX11_years_2 (L : pmL) (S : List Value) (g : pmH) : pmV mX11_years 2 L S g = zBlt mX11_years 5 11 L S g := ez_icmp_lt kcX11_years dX11_years_2 (by decide) rfl L S g
theorem eX11_years_5 (L : pmL) (S : List Value) (g : pmH) : pmV mX11_years 5 L S g = zLdI mX11_years 6 1 L S g := ez_iload_n kcX11_years dX11_years_5 rfl rfl L S g
theorem eX11_years_6 (L : pmL) (S : List Value) (g : pmH) : pmV mX11_years 6 L S g = zPush mX11_years 8 (.int (nI 30)) L S g := ez_bipush kcX11_years dX11_years_6 (by decide) rfl L S g
theorem eX11_years_8 (L : pmL) (S : List Value) (g : pmH) : pmV mX11_years 8 L S g = zBle mX11_years 11 14 L S g := ez_icmp_le kcX11_years dX11_years_8 (by decide) rfl L S g
theorem eX11_years_11 (L : pmL) (S : List Value) (g : pmH) : pmV mX11_years 11 L S g = zPush mX11_years 13 (.int (-2)) L S g := ez_bipush kcX11_years dX11_years_11 (by decide) rfl L S g
theorem eX11_years_13 (L : pmL) (S : List Value) (g : pmH) : pmV mX11_years 13 L S g = zIret mX11_years S g := ez_ireturn kcX11_years dX11_years_13 L S g
theorem eX11_years_14 (L : pmL) (S : List Value) (g : pmH) : pmV mX11_years 14 L S g = zLdA mX11_years 15 0 L S g := ez_aload_n kcX11_years dX11_years_14 rfl rfl L S g
theorem eX11_years_15 (L : pmL) (S : List Value) (g : pmH) : pmV mX11_years 15 L S g = zGet mX11_years 18 11 15 L S g := ez_getfield kcX11_years dX11_years_15 fl_11_99 rfl L S g
theorem eX11_years_18 (L : pmL) (S : List Value) (g : pmH) : pmV mX11_years 18 L S g = zLdI mX11_years 19 1 L S g := ez_iload_n kcX11_years dX11_years_18 rfl rfl L S g
theorem eX11_years_19 (L : pmL) (S : List Value) (g : pmH) : pmV mX11_years 19 L S g = yV mX11_years 22 1 mX3_gladOverYears 3 4 L S g := (ez_virtual kcX11_years dX11_years_19 ml_11_278 rfl L S g).trans (zCallV_y rfl rfl (by decide) L S g)
theorem eX11_years_22 (L : pmL) (S : List Value) (g : pmH) : pmV mX11_years 22 L S g = zIret mX11_years S g := ez_ireturn kcX11_years dX11_years_22 L S g
theorem eX11_keep_0 (L : pmL) (S : List Value) (g : pmH) : pmV mX11_keep 0 L S g = zLdI mX11_keep 1 1 L S g := ez_iload_n kcX11_keep dX11_keep_0 rfl rfl L S g
theorem eX11_keep_1 (L : pmL) (S : List Value) (g : pmH) : pmV mX11_keep 1 L S g = zClt mX11_keep 4 9 L S g := ez_if_lt kcX11_keep dX11_keep_1 (by decide) rfl L S g
theorem eX11_keep_4 (L : pmL) (S : List Value) (g : pmH) : pmV mX11_keep 4 L S g = zLdI mX11_keep 5 1 L S g := ez_iload_n kcX11_keep dX11_keep_4 rfl rfl L S g
theorem eX11_keep_5 (L : pmL) (S : List Value) (g : pmH) : pmV mX11_keep 5 L S g = zPush mX11_keep 6 (.int (nI 2)) L S g := ez_iconst kcX11_keep dX11_keep_5 (by decide) rfl L S g
theorem eX11_keep_6 (L : pmL) (S : List Value) (g : pmH) : pmV mX11_keep 6 L S g = zBlt mX11_keep 9 11 L S g := ez_icmp_lt kcX11_keep dX11_keep_6 (by decide) rfl L S g
theorem eX11_keep_9 (L : pmL) (S : List Value) (g : pmH) : pmV mX11_keep 9 L S g = zPush mX11_keep 10 (.int (-1)) L S g := ez_iconst kcX11_keep dX11_keep_9 (by decide) rfl L S g
theorem eX11_keep_10 (L : pmL) (S : List Value) (g : pmH) : pmV mX11_keep 10 L S g = zIret mX11_keep S g := ez_ireturn kcX11_keep dX11_keep_10 L S g
theorem eX11_keep_11 (L : pmL) (S : List Value) (g : pmH) : pmV mX11_keep 11 L S g = zLdA mX11_keep 12 0 L S g := ez_aload_n kcX11_keep dX11_keep_11 rfl rfl L S g
theorem eX11_keep_12 (L : pmL) (S : List Value) (g : pmH) : pmV mX11_keep 12 L S g = zGet mX11_keep 15 11 8 L S g := ez_getfield kcX11_keep dX11_keep_12 fl_11_49 rfl L S g
theorem eX11_keep_15 (L : pmL) (S : List Value) (g : pmH) : pmV mX11_keep 15 L S g = zLdI mX11_keep 16 1 L S g := ez_iload_n kcX11_keep dX11_keep_15 rfl rfl L S g
theorem eX11_keep_16 (L : pmL) (S : List Value) (g : pmH) : pmV mX11_keep 16 L S g = zAald mX11_keep 17 L S g := ez_aaload kcX11_keep dX11_keep_16 rfl L S g
theorem eX11_keep_17 (L : pmL) (S : List Value) (g : pmH) : pmV mX11_keep 17 L S g = zLdA mX11_keep 18 0 L S g := ez_aload_n kcX11_keep dX11_keep_17 rfl rfl L S g
theorem eX11_keep_18 (L : pmL) (S : List Value) (g : pmH) : pmV mX11_keep 18 L S g = zGet mX11_keep 21 11 5 L S g := ez_getfield kcX11_keep dX11_keep_18 fl_11_35 rfl L S g
theorem eX11_keep_21 (L : pmL) (S : List Value) (g : pmH) : pmV mX11_keep 21 L S g = yV mX11_keep 24 1 mX10_takeFrom 10 3 L S g := (ez_virtual kcX11_keep dX11_keep_21 ml_11_281 rfl L S g).trans (zCallV_y rfl rfl (by decide) L S g)
theorem eX11_keep_24 (L : pmL) (S : List Value) (g : pmH) : pmV mX11_keep 24 L S g = zLdA mX11_keep 25 0 L S g := ez_aload_n kcX11_keep dX11_keep_24 rfl rfl L S g
theorem eX11_keep_25 (L : pmL) (S : List Value) (g : pmH) : pmV mX11_keep 25 L S g = zGet mX11_keep 28 11 9 L S g := ez_getfield kcX11_keep dX11_keep_25 fl_11_53 rfl L S g
theorem eX11_keep_28 (L : pmL) (S : List Value) (g : pmH) : pmV mX11_keep 28 L S g = zLdI mX11_keep 29 1 L S g := ez_iload_n kcX11_keep dX11_keep_28 rfl rfl L S g
theorem eX11_keep_29 (L : pmL) (S : List Value) (g : pmH) : pmV mX11_keep 29 L S g = zPush mX11_keep 30 (.int (nI 1)) L S g := ez_iconst kcX11_keep dX11_keep_29 (by decide) rfl L S g
theorem eX11_keep_30 (L : pmL) (S : List Value) (g : pmH) : pmV mX11_keep 30 L S g = zBast mX11_keep 31 L S g := ez_bastore kcX11_keep dX11_keep_30 rfl L S g
theorem eX11_keep_31 (L : pmL) (S : List Value) (g : pmH) : pmV mX11_keep 31 L S g = zLdA mX11_keep 32 0 L S g := ez_aload_n kcX11_keep dX11_keep_31 rfl rfl L S g
theorem eX11_keep_32 (L : pmL) (S : List Value) (g : pmH) : pmV mX11_keep 32 L S g = zGet mX11_keep 35 11 5 L S g := ez_getfield kcX11_keep dX11_keep_32 fl_11_35 rfl L S g
theorem eX11_keep_35 (L : pmL) (S : List Value) (g : pmH) : pmV mX11_keep 35 L S g = zGet mX11_keep 38 10 2 L S g := ez_getfield kcX11_keep dX11_keep_35 fl_11_284 rfl L S g
theorem eX11_keep_38 (L : pmL) (S : List Value) (g : pmH) : pmV mX11_keep 38 L S g = zIret mX11_keep S g := ez_ireturn kcX11_keep dX11_keep_38 L S g
theorem eX11_again_0 (L : pmL) (S : List Value) (g : pmH) : pmV mX11_again 0 L S g = zLdI mX11_again 1 1 L S g := ez_iload_n kcX11_again dX11_again_0 rfl rfl L S g
theorem eX11_again_1 (L : pmL) (S : List Value) (g : pmH) : pmV mX11_again 1 L S g = zClt mX11_again 4 9 L S g := ez_if_lt kcX11_again dX11_again_1 (by decide) rfl L S g
theorem eX11_again_4 (L : pmL) (S : List Value) (g : pmH) : pmV mX11_again 4 L S g = zLdI mX11_again 5 1 L S g := ez_iload_n kcX11_again dX11_again_4 rfl rfl L S g
theorem eX11_again_5 (L : pmL) (S : List Value) (g : pmH) : pmV mX11_again 5 L S g = zPush mX11_again 6 (.int (nI 2)) L S g := ez_iconst kcX11_again dX11_again_5 (by decide) rfl L S g
theorem eX11_again_6 (L : pmL) (S : List Value) (g : pmH) : pmV mX11_again 6 L S g = zBlt mX11_again 9 11 L S g := ez_icmp_lt kcX11_again dX11_again_6 (by decide) rfl L S g
theorem eX11_again_9 (L : pmL) (S : List Value) (g : pmH) : pmV mX11_again 9 L S g = zPush mX11_again 10 (.int (-1)) L S g := ez_iconst kcX11_again dX11_again_9 (by decide) rfl L S g
theorem eX11_again_10 (L : pmL) (S : List Value) (g : pmH) : pmV mX11_again 10 L S g = zIret mX11_again S g := ez_ireturn kcX11_again dX11_again_10 L S g
theorem eX11_again_11 (L : pmL) (S : List Value) (g : pmH) : pmV mX11_again 11 L S g = zLdA mX11_again 12 0 L S g := ez_aload_n kcX11_again dX11_again_11 rfl rfl L S g
theorem eX11_again_12 (L : pmL) (S : List Value) (g : pmH) : pmV mX11_again 12 L S g = zGet mX11_again 15 11 9 L S g := ez_getfield kcX11_again dX11_again_12 fl_11_53 rfl L S g
theorem eX11_again_15 (L : pmL) (S : List Value) (g : pmH) : pmV mX11_again 15 L S g = zLdI mX11_again 16 1 L S g := ez_iload_n kcX11_again dX11_again_15 rfl rfl L S g
theorem eX11_again_16 (L : pmL) (S : List Value) (g : pmH) : pmV mX11_again 16 L S g = zBald mX11_again 17 L S g := ez_baload kcX11_again dX11_again_16 rfl L S g
theorem eX11_again_17 (L : pmL) (S : List Value) (g : pmH) : pmV mX11_again 17 L S g = zCne mX11_again 20 23 L S g := ez_if_ne kcX11_again dX11_again_17 (by decide) rfl L S g
theorem eX11_again_20 (L : pmL) (S : List Value) (g : pmH) : pmV mX11_again 20 L S g = zPush mX11_again 22 (.int (-3)) L S g := ez_bipush kcX11_again dX11_again_20 (by decide) rfl L S g
theorem eX11_again_22 (L : pmL) (S : List Value) (g : pmH) : pmV mX11_again 22 L S g = zIret mX11_again S g := ez_ireturn kcX11_again dX11_again_22 L S g
theorem eX11_again_23 (L : pmL) (S : List Value) (g : pmH) : pmV mX11_again 23 L S g = zLdA mX11_again 24 0 L S g := ez_aload_n kcX11_again dX11_again_23 rfl rfl L S g
theorem eX11_again_24 (L : pmL) (S : List Value) (g : pmH) : pmV mX11_again 24 L S g = zGet mX11_again 27 11 5 L S g := ez_getfield kcX11_again dX11_again_24 fl_11_35 rfl L S g
theorem eX11_again_27 (L : pmL) (S : List Value) (g : pmH) : pmV mX11_again 27 L S g = zLdA mX11_again 28 0 L S g := ez_aload_n kcX11_again dX11_again_27 rfl rfl L S g
theorem eX11_again_28 (L : pmL) (S : List Value) (g : pmH) : pmV mX11_again 28 L S g = zGet mX11_again 31 11 8 L S g := ez_getfield kcX11_again dX11_again_28 fl_11_49 rfl L S g
theorem eX11_again_31 (L : pmL) (S : List Value) (g : pmH) : pmV mX11_again 31 L S g = zLdI mX11_again 32 1 L S g := ez_iload_n kcX11_again dX11_again_31 rfl rfl L S g
theorem eX11_again_32 (L : pmL) (S : List Value) (g : pmH) : pmV mX11_again 32 L S g = zAald mX11_again 33 L S g := ez_aaload kcX11_again dX11_again_32 rfl L S g
theorem eX11_again_33 (L : pmL) (S : List Value) (g : pmH) : pmV mX11_again 33 L S g = yV mX11_again 36 1 mX10_takeFrom 10 3 L S g := (ez_virtual kcX11_again dX11_again_33 ml_11_281 rfl L S g).trans (zCallV_y rfl rfl (by decide) L S g)
theorem eX11_again_36 (L : pmL) (S : List Value) (g : pmH) : pmV mX11_again 36 L S g = zLdA mX11_again 37 0 L S g := ez_aload_n kcX11_again dX11_again_36 rfl rfl L S g
theorem eX11_again_37 (L : pmL) (S : List Value) (g : pmH) : pmV mX11_again 37 L S g = zGet mX11_again 40 11 7 L S g := ez_getfield kcX11_again dX11_again_37 fl_11_45 rfl L S g
theorem eX11_again_40 (L : pmL) (S : List Value) (g : pmH) : pmV mX11_again 40 L S g = yV mX11_again 43 0 mX0_forget 0 1 L S g := (ez_virtual kcX11_again dX11_again_40 ml_11_114 rfl L S g).trans (zCallV_y rfl rfl (by decide) L S g)
theorem eX11_again_43 (L : pmL) (S : List Value) (g : pmH) : pmV mX11_again 43 L S g = zLdA mX11_again 44 0 L S g := ez_aload_n kcX11_again dX11_again_43 rfl rfl L S g
theorem eX11_again_44 (L : pmL) (S : List Value) (g : pmH) : pmV mX11_again 44 L S g = zGet mX11_again 47 11 5 L S g := ez_getfield kcX11_again dX11_again_44 fl_11_35 rfl L S g
theorem eX11_again_47 (L : pmL) (S : List Value) (g : pmH) : pmV mX11_again 47 L S g = zGet mX11_again 50 10 2 L S g := ez_getfield kcX11_again dX11_again_47 fl_11_284 rfl L S g
theorem eX11_again_50 (L : pmL) (S : List Value) (g : pmH) : pmV mX11_again 50 L S g = zIret mX11_again S g := ez_ireturn kcX11_again dX11_again_50 L S g
theorem eX11_count_0 (L : pmL) (S : List Value) (g : pmH) : pmV mX11_count 0 L S g = zLdI mX11_count 1 1 L S g := ez_iload_n kcX11_count dX11_count_0 rfl rfl L S g
theorem eX11_count_1 (L : pmL) (S : List Value) (g : pmH) : pmV mX11_count 1 L S g = zTab mX11_count 1 191 0 13 #[71, 76, 84, 92, 100, 108, 123, 132, 141, 150, 159, 167, 175, 183] L S g := ez_tab kcX11_count dX11_count_1 L S g
theorem eX11_count_72 (L : pmL) (S : List Value) (g : pmH) : pmV mX11_count 72 L S g = zLdA mX11_count 73 0 L S g := ez_aload_n kcX11_count dX11_count_72 rfl rfl L S g
theorem eX11_count_73 (L : pmL) (S : List Value) (g : pmH) : pmV mX11_count 73 L S g = zGet mX11_count 76 11 1 L S g := ez_getfield kcX11_count dX11_count_73 fl_11_103 rfl L S g
theorem eX11_count_76 (L : pmL) (S : List Value) (g : pmH) : pmV mX11_count 76 L S g = zIret mX11_count S g := ez_ireturn kcX11_count dX11_count_76 L S g
theorem eX11_count_77 (L : pmL) (S : List Value) (g : pmH) : pmV mX11_count 77 L S g = zLdA mX11_count 78 0 L S g := ez_aload_n kcX11_count dX11_count_77 rfl rfl L S g
theorem eX11_count_78 (L : pmL) (S : List Value) (g : pmH) : pmV mX11_count 78 L S g = zGet mX11_count 81 11 2 L S g := ez_getfield kcX11_count dX11_count_78 fl_11_16 rfl L S g
theorem eX11_count_81 (L : pmL) (S : List Value) (g : pmH) : pmV mX11_count 81 L S g = zGet mX11_count 84 4 7 L S g := ez_getfield kcX11_count dX11_count_81 fl_11_117 rfl L S g
theorem eX11_count_84 (L : pmL) (S : List Value) (g : pmH) : pmV mX11_count 84 L S g = zIret mX11_count S g := ez_ireturn kcX11_count dX11_count_84 L S g
theorem eX11_count_85 (L : pmL) (S : List Value) (g : pmH) : pmV mX11_count 85 L S g = zLdA mX11_count 86 0 L S g := ez_aload_n kcX11_count dX11_count_85 rfl rfl L S g
theorem eX11_count_86 (L : pmL) (S : List Value) (g : pmH) : pmV mX11_count 86 L S g = zGet mX11_count 89 11 2 L S g := ez_getfield kcX11_count dX11_count_86 fl_11_16 rfl L S g
theorem eX11_count_89 (L : pmL) (S : List Value) (g : pmH) : pmV mX11_count 89 L S g = zGet mX11_count 92 4 8 L S g := ez_getfield kcX11_count dX11_count_89 fl_11_120 rfl L S g
theorem eX11_count_92 (L : pmL) (S : List Value) (g : pmH) : pmV mX11_count 92 L S g = zIret mX11_count S g := ez_ireturn kcX11_count dX11_count_92 L S g
theorem eX11_count_93 (L : pmL) (S : List Value) (g : pmH) : pmV mX11_count 93 L S g = zLdA mX11_count 94 0 L S g := ez_aload_n kcX11_count dX11_count_93 rfl rfl L S g
theorem eX11_count_94 (L : pmL) (S : List Value) (g : pmH) : pmV mX11_count 94 L S g = zGet mX11_count 97 11 2 L S g := ez_getfield kcX11_count dX11_count_94 fl_11_16 rfl L S g
theorem eX11_count_97 (L : pmL) (S : List Value) (g : pmH) : pmV mX11_count 97 L S g = zGet mX11_count 100 4 9 L S g := ez_getfield kcX11_count dX11_count_97 fl_11_123 rfl L S g
theorem eX11_count_100 (L : pmL) (S : List Value) (g : pmH) : pmV mX11_count 100 L S g = zIret mX11_count S g := ez_ireturn kcX11_count dX11_count_100 L S g
theorem eX11_count_101 (L : pmL) (S : List Value) (g : pmH) : pmV mX11_count 101 L S g = zLdA mX11_count 102 0 L S g := ez_aload_n kcX11_count dX11_count_101 rfl rfl L S g
theorem eX11_count_102 (L : pmL) (S : List Value) (g : pmH) : pmV mX11_count 102 L S g = zGet mX11_count 105 11 5 L S g := ez_getfield kcX11_count dX11_count_102 fl_11_35 rfl L S g
theorem eX11_count_105 (L : pmL) (S : List Value) (g : pmH) : pmV mX11_count 105 L S g = zGet mX11_count 108 10 2 L S g := ez_getfield kcX11_count dX11_count_105 fl_11_284 rfl L S g
theorem eX11_count_108 (L : pmL) (S : List Value) (g : pmH) : pmV mX11_count 108 L S g = zIret mX11_count S g := ez_ireturn kcX11_count dX11_count_108 L S g
theorem eX11_count_109 (L : pmL) (S : List Value) (g : pmH) : pmV mX11_count 109 L S g = zLdA mX11_count 110 0 L S g := ez_aload_n kcX11_count dX11_count_109 rfl rfl L S g
theorem eX11_count_110 (L : pmL) (S : List Value) (g : pmH) : pmV mX11_count 110 L S g = zGet mX11_count 113 11 2 L S g := ez_getfield kcX11_count dX11_count_110 fl_11_16 rfl L S g
theorem eX11_count_113 (L : pmL) (S : List Value) (g : pmH) : pmV mX11_count 113 L S g = zLdA mX11_count 114 0 L S g := ez_aload_n kcX11_count dX11_count_113 rfl rfl L S g
theorem eX11_count_114 (L : pmL) (S : List Value) (g : pmH) : pmV mX11_count 114 L S g = zGet mX11_count 117 11 5 L S g := ez_getfield kcX11_count dX11_count_114 fl_11_35 rfl L S g
theorem eX11_count_117 (L : pmL) (S : List Value) (g : pmH) : pmV mX11_count 117 L S g = zGet mX11_count 120 10 2 L S g := ez_getfield kcX11_count dX11_count_117 fl_11_284 rfl L S g
theorem eX11_count_120 (L : pmL) (S : List Value) (g : pmH) : pmV mX11_count 120 L S g = yV mX11_count 123 1 mX4_windOf 4 2 L S g := (ez_virtual kcX11_count dX11_count_120 ml_11_287 rfl L S g).trans (zCallV_y rfl rfl (by decide) L S g)
theorem eX11_count_123 (L : pmL) (S : List Value) (g : pmH) : pmV mX11_count 123 L S g = zIret mX11_count S g := ez_ireturn kcX11_count dX11_count_123 L S g
theorem eX11_count_124 (L : pmL) (S : List Value) (g : pmH) : pmV mX11_count 124 L S g = zLdA mX11_count 125 0 L S g := ez_aload_n kcX11_count dX11_count_124 rfl rfl L S g
theorem eX11_count_125 (L : pmL) (S : List Value) (g : pmH) : pmV mX11_count 125 L S g = zGet mX11_count 128 11 5 L S g := ez_getfield kcX11_count dX11_count_125 fl_11_35 rfl L S g
theorem eX11_count_128 (L : pmL) (S : List Value) (g : pmH) : pmV mX11_count 128 L S g = zPush mX11_count 129 (.int (nI 0)) L S g := ez_iconst kcX11_count dX11_count_128 (by decide) rfl L S g
theorem eX11_count_129 (L : pmL) (S : List Value) (g : pmH) : pmV mX11_count 129 L S g = yV mX11_count 132 1 mX10_allThatAre 10 4 L S g := (ez_virtual kcX11_count dX11_count_129 ml_11_185 rfl L S g).trans (zCallV_y rfl rfl (by decide) L S g)
theorem eX11_count_132 (L : pmL) (S : List Value) (g : pmH) : pmV mX11_count 132 L S g = zIret mX11_count S g := ez_ireturn kcX11_count dX11_count_132 L S g
theorem eX11_count_133 (L : pmL) (S : List Value) (g : pmH) : pmV mX11_count 133 L S g = zLdA mX11_count 134 0 L S g := ez_aload_n kcX11_count dX11_count_133 rfl rfl L S g
theorem eX11_count_134 (L : pmL) (S : List Value) (g : pmH) : pmV mX11_count 134 L S g = zGet mX11_count 137 11 5 L S g := ez_getfield kcX11_count dX11_count_134 fl_11_35 rfl L S g
theorem eX11_count_137 (L : pmL) (S : List Value) (g : pmH) : pmV mX11_count 137 L S g = zPush mX11_count 138 (.int (nI 1)) L S g := ez_iconst kcX11_count dX11_count_137 (by decide) rfl L S g
theorem eX11_count_138 (L : pmL) (S : List Value) (g : pmH) : pmV mX11_count 138 L S g = yV mX11_count 141 1 mX10_allThatAre 10 4 L S g := (ez_virtual kcX11_count dX11_count_138 ml_11_185 rfl L S g).trans (zCallV_y rfl rfl (by decide) L S g)
theorem eX11_count_141 (L : pmL) (S : List Value) (g : pmH) : pmV mX11_count 141 L S g = zIret mX11_count S g := ez_ireturn kcX11_count dX11_count_141 L S g
theorem eX11_count_142 (L : pmL) (S : List Value) (g : pmH) : pmV mX11_count 142 L S g = zLdA mX11_count 143 0 L S g := ez_aload_n kcX11_count dX11_count_142 rfl rfl L S g
theorem eX11_count_143 (L : pmL) (S : List Value) (g : pmH) : pmV mX11_count 143 L S g = zGet mX11_count 146 11 5 L S g := ez_getfield kcX11_count dX11_count_143 fl_11_35 rfl L S g
theorem eX11_count_146 (L : pmL) (S : List Value) (g : pmH) : pmV mX11_count 146 L S g = zPush mX11_count 147 (.int (nI 2)) L S g := ez_iconst kcX11_count dX11_count_146 (by decide) rfl L S g
theorem eX11_count_147 (L : pmL) (S : List Value) (g : pmH) : pmV mX11_count 147 L S g = yV mX11_count 150 1 mX10_allThatAre 10 4 L S g := (ez_virtual kcX11_count dX11_count_147 ml_11_185 rfl L S g).trans (zCallV_y rfl rfl (by decide) L S g)
theorem eX11_count_150 (L : pmL) (S : List Value) (g : pmH) : pmV mX11_count 150 L S g = zIret mX11_count S g := ez_ireturn kcX11_count dX11_count_150 L S g
theorem eX11_count_151 (L : pmL) (S : List Value) (g : pmH) : pmV mX11_count 151 L S g = zLdA mX11_count 152 0 L S g := ez_aload_n kcX11_count dX11_count_151 rfl rfl L S g
theorem eX11_count_152 (L : pmL) (S : List Value) (g : pmH) : pmV mX11_count 152 L S g = zGet mX11_count 155 11 5 L S g := ez_getfield kcX11_count dX11_count_152 fl_11_35 rfl L S g
theorem eX11_count_155 (L : pmL) (S : List Value) (g : pmH) : pmV mX11_count 155 L S g = zPush mX11_count 156 (.int (nI 3)) L S g := ez_iconst kcX11_count dX11_count_155 (by decide) rfl L S g
theorem eX11_count_156 (L : pmL) (S : List Value) (g : pmH) : pmV mX11_count 156 L S g = yV mX11_count 159 1 mX10_allThatAre 10 4 L S g := (ez_virtual kcX11_count dX11_count_156 ml_11_185 rfl L S g).trans (zCallV_y rfl rfl (by decide) L S g)
theorem eX11_count_159 (L : pmL) (S : List Value) (g : pmH) : pmV mX11_count 159 L S g = zIret mX11_count S g := ez_ireturn kcX11_count dX11_count_159 L S g
theorem eX11_count_160 (L : pmL) (S : List Value) (g : pmH) : pmV mX11_count 160 L S g = zLdA mX11_count 161 0 L S g := ez_aload_n kcX11_count dX11_count_160 rfl rfl L S g
theorem eX11_count_161 (L : pmL) (S : List Value) (g : pmH) : pmV mX11_count 161 L S g = zGet mX11_count 164 11 5 L S g := ez_getfield kcX11_count dX11_count_161 fl_11_35 rfl L S g
theorem eX11_count_164 (L : pmL) (S : List Value) (g : pmH) : pmV mX11_count 164 L S g = yV mX11_count 167 0 mX10_answeredBalloons 10 3 L S g := (ez_virtual kcX11_count dX11_count_164 ml_11_290 rfl L S g).trans (zCallV_y rfl rfl (by decide) L S g)
theorem eX11_count_167 (L : pmL) (S : List Value) (g : pmH) : pmV mX11_count 167 L S g = zIret mX11_count S g := ez_ireturn kcX11_count dX11_count_167 L S g
theorem eX11_count_168 (L : pmL) (S : List Value) (g : pmH) : pmV mX11_count 168 L S g = zLdA mX11_count 169 0 L S g := ez_aload_n kcX11_count dX11_count_168 rfl rfl L S g
theorem eX11_count_169 (L : pmL) (S : List Value) (g : pmH) : pmV mX11_count 169 L S g = zGet mX11_count 172 11 5 L S g := ez_getfield kcX11_count dX11_count_169 fl_11_35 rfl L S g
theorem eX11_count_172 (L : pmL) (S : List Value) (g : pmH) : pmV mX11_count 172 L S g = yV mX11_count 175 0 mX10_gladChildren 10 3 L S g := (ez_virtual kcX11_count dX11_count_172 ml_11_203 rfl L S g).trans (zCallV_y rfl rfl (by decide) L S g)
theorem eX11_count_175 (L : pmL) (S : List Value) (g : pmH) : pmV mX11_count 175 L S g = zIret mX11_count S g := ez_ireturn kcX11_count dX11_count_175 L S g
theorem eX11_count_176 (L : pmL) (S : List Value) (g : pmH) : pmV mX11_count 176 L S g = zLdA mX11_count 177 0 L S g := ez_aload_n kcX11_count dX11_count_176 rfl rfl L S g
theorem eX11_count_177 (L : pmL) (S : List Value) (g : pmH) : pmV mX11_count 177 L S g = zGet mX11_count 180 11 7 L S g := ez_getfield kcX11_count dX11_count_177 fl_11_45 rfl L S g
theorem eX11_count_180 (L : pmL) (S : List Value) (g : pmH) : pmV mX11_count 180 L S g = zGet mX11_count 183 0 2 L S g := ez_getfield kcX11_count dX11_count_180 fl_11_206 rfl L S g
theorem eX11_count_183 (L : pmL) (S : List Value) (g : pmH) : pmV mX11_count 183 L S g = zIret mX11_count S g := ez_ireturn kcX11_count dX11_count_183 L S g
theorem eX11_count_184 (L : pmL) (S : List Value) (g : pmH) : pmV mX11_count 184 L S g = zLdA mX11_count 185 0 L S g := ez_aload_n kcX11_count dX11_count_184 rfl rfl L S g
theorem eX11_count_185 (L : pmL) (S : List Value) (g : pmH) : pmV mX11_count 185 L S g = zGet mX11_count 188 11 12 L S g := ez_getfield kcX11_count dX11_count_185 fl_11_78 rfl L S g
theorem eX11_count_188 (L : pmL) (S : List Value) (g : pmH) : pmV mX11_count 188 L S g = zGet mX11_count 191 5 4 L S g := ez_getfield kcX11_count dX11_count_188 fl_11_239 rfl L S g
theorem eX11_count_191 (L : pmL) (S : List Value) (g : pmH) : pmV mX11_count 191 L S g = zIret mX11_count S g := ez_ireturn kcX11_count dX11_count_191 L S g
theorem eX11_count_192 (L : pmL) (S : List Value) (g : pmH) : pmV mX11_count 192 L S g = zPush mX11_count 194 (.int (-2)) L S g := ez_bipush kcX11_count dX11_count_192 (by decide) rfl L S g
theorem eX11_count_194 (L : pmL) (S : List Value) (g : pmH) : pmV mX11_count 194 L S g = zIret mX11_count S g := ez_ireturn kcX11_count dX11_count_194 L S g
theorem eX11_power_0 (L : pmL) (S : List Value) (g : pmH) : pmV mX11_power 0 L S g = zPush mX11_power 1 (.int (nI 1)) L S g := ez_iconst kcX11_power dX11_power_0 (by decide) rfl L S g
theorem eX11_power_1 (L : pmL) (S : List Value) (g : pmH) : pmV mX11_power 1 L S g = zStI mX11_power 2 2 L S g := ez_istore_n kcX11_power dX11_power_1 rfl rfl L S g
theorem eX11_power_2 (L : pmL) (S : List Value) (g : pmH) : pmV mX11_power 2 L S g = zPush mX11_power 3 (.int (nI 0)) L S g := ez_iconst kcX11_power dX11_power_2 (by decide) rfl L S g
theorem eX11_power_3 (L : pmL) (S : List Value) (g : pmH) : pmV mX11_power 3 L S g = zStI mX11_power 4 3 L S g := ez_istore_n kcX11_power dX11_power_3 rfl rfl L S g
theorem eX11_power_4 (L : pmL) (S : List Value) (g : pmH) : pmV mX11_power 4 L S g = zLdI mX11_power 5 3 L S g := ez_iload_n kcX11_power dX11_power_4 rfl rfl L S g
theorem eX11_power_5 (L : pmL) (S : List Value) (g : pmH) : pmV mX11_power 5 L S g = zLdI mX11_power 6 1 L S g := ez_iload_n kcX11_power dX11_power_5 rfl rfl L S g
theorem eX11_power_6 (L : pmL) (S : List Value) (g : pmH) : pmV mX11_power 6 L S g = zBge mX11_power 9 19 L S g := ez_icmp_ge kcX11_power dX11_power_6 (by decide) rfl L S g
theorem eX11_power_9 (L : pmL) (S : List Value) (g : pmH) : pmV mX11_power 9 L S g = zLdI mX11_power 10 2 L S g := ez_iload_n kcX11_power dX11_power_9 rfl rfl L S g
theorem eX11_power_10 (L : pmL) (S : List Value) (g : pmH) : pmV mX11_power 10 L S g = zLdI mX11_power 11 0 L S g := ez_iload_n kcX11_power dX11_power_10 rfl rfl L S g
theorem eX11_power_11 (L : pmL) (S : List Value) (g : pmH) : pmV mX11_power 11 L S g = zMul mX11_power 12 L S g := ez_imul kcX11_power dX11_power_11 rfl L S g
theorem eX11_power_12 (L : pmL) (S : List Value) (g : pmH) : pmV mX11_power 12 L S g = zStI mX11_power 13 2 L S g := ez_istore_n kcX11_power dX11_power_12 rfl rfl L S g
theorem eX11_power_13 (L : pmL) (S : List Value) (g : pmH) : pmV mX11_power 13 L S g = zInc mX11_power 16 3 (nI 1) L S g := ez_iinc kcX11_power dX11_power_13 (by decide) rfl L S g
theorem eX11_power_16 (L : pmL) (S : List Value) (g : pmH) : pmV mX11_power 16 L S g = zNx mX11_power 4 L S g := ez_goto kcX11_power dX11_power_16 (by decide) L S g
theorem eX11_power_19 (L : pmL) (S : List Value) (g : pmH) : pmV mX11_power 19 L S g = zLdI mX11_power 20 2 L S g := ez_iload_n kcX11_power dX11_power_19 rfl rfl L S g
theorem eX11_power_20 (L : pmL) (S : List Value) (g : pmH) : pmV mX11_power 20 L S g = zIret mX11_power S g := ez_ireturn kcX11_power dX11_power_20 L S g
theorem eX11_inLeastTerms_0 (L : pmL) (S : List Value) (g : pmH) : pmV mX11_inLeastTerms 0 L S g = zLdI mX11_inLeastTerms 1 0 L S g := ez_iload_n kcX11_inLeastTerms dX11_inLeastTerms_0 rfl rfl L S g
theorem eX11_inLeastTerms_1 (L : pmL) (S : List Value) (g : pmH) : pmV mX11_inLeastTerms 1 L S g = yS mX11_inLeastTerms 4 1 mJ9_abs_0f7a4 1 L S g := (ez_static kcX11_inLeastTerms dX11_inLeastTerms_1 ml_11_293 (by decide) rfl L S g).trans (zCall_y rfl (by decide) L S g)
theorem eX11_inLeastTerms_4 (L : pmL) (S : List Value) (g : pmH) : pmV mX11_inLeastTerms 4 L S g = zLdI mX11_inLeastTerms 5 1 L S g := ez_iload_n kcX11_inLeastTerms dX11_inLeastTerms_4 rfl rfl L S g
theorem eX11_inLeastTerms_5 (L : pmL) (S : List Value) (g : pmH) : pmV mX11_inLeastTerms 5 L S g = yS mX11_inLeastTerms 8 2 mX11_greatestCommon 6 L S g := (ez_static kcX11_inLeastTerms dX11_inLeastTerms_5 ml_11_298 (by decide) rfl L S g).trans (zCall_y rfl (by decide) L S g)
theorem eX11_inLeastTerms_8 (L : pmL) (S : List Value) (g : pmH) : pmV mX11_inLeastTerms 8 L S g = zStI mX11_inLeastTerms 9 3 L S g := ez_istore_n kcX11_inLeastTerms dX11_inLeastTerms_8 rfl rfl L S g
theorem eX11_inLeastTerms_9 (L : pmL) (S : List Value) (g : pmH) : pmV mX11_inLeastTerms 9 L S g = zLdI mX11_inLeastTerms 10 3 L S g := ez_iload_n kcX11_inLeastTerms dX11_inLeastTerms_9 rfl rfl L S g
theorem eX11_inLeastTerms_10 (L : pmL) (S : List Value) (g : pmH) : pmV mX11_inLeastTerms 10 L S g = zPush mX11_inLeastTerms 11 (.int (nI 1)) L S g := ez_iconst kcX11_inLeastTerms dX11_inLeastTerms_10 (by decide) rfl L S g
theorem eX11_inLeastTerms_11 (L : pmL) (S : List Value) (g : pmH) : pmV mX11_inLeastTerms 11 L S g = zBge mX11_inLeastTerms 14 24 L S g := ez_icmp_ge kcX11_inLeastTerms dX11_inLeastTerms_11 (by decide) rfl L S g
theorem eX11_inLeastTerms_14 (L : pmL) (S : List Value) (g : pmH) : pmV mX11_inLeastTerms 14 L S g = zLdI mX11_inLeastTerms 15 2 L S g := ez_iload_n kcX11_inLeastTerms dX11_inLeastTerms_14 rfl rfl L S g
theorem eX11_inLeastTerms_15 (L : pmL) (S : List Value) (g : pmH) : pmV mX11_inLeastTerms 15 L S g = zCeq mX11_inLeastTerms 18 22 L S g := ez_if_eq kcX11_inLeastTerms dX11_inLeastTerms_15 (by decide) rfl L S g
theorem eX11_inLeastTerms_18 (L : pmL) (S : List Value) (g : pmH) : pmV mX11_inLeastTerms 18 L S g = zLdI mX11_inLeastTerms 19 0 L S g := ez_iload_n kcX11_inLeastTerms dX11_inLeastTerms_18 rfl rfl L S g
theorem eX11_inLeastTerms_19 (L : pmL) (S : List Value) (g : pmH) : pmV mX11_inLeastTerms 19 L S g = zNx mX11_inLeastTerms 23 L S g := ez_goto kcX11_inLeastTerms dX11_inLeastTerms_19 (by decide) L S g
theorem eX11_inLeastTerms_22 (L : pmL) (S : List Value) (g : pmH) : pmV mX11_inLeastTerms 22 L S g = zLdI mX11_inLeastTerms 23 1 L S g := ez_iload_n kcX11_inLeastTerms dX11_inLeastTerms_22 rfl rfl L S g
theorem eX11_inLeastTerms_23 (L : pmL) (S : List Value) (g : pmH) : pmV mX11_inLeastTerms 23 L S g = zIret mX11_inLeastTerms S g := ez_ireturn kcX11_inLeastTerms dX11_inLeastTerms_23 L S g
theorem eX11_inLeastTerms_24 (L : pmL) (S : List Value) (g : pmH) : pmV mX11_inLeastTerms 24 L S g = zLdI mX11_inLeastTerms 25 2 L S g := ez_iload_n kcX11_inLeastTerms dX11_inLeastTerms_24 rfl rfl L S g
theorem eX11_inLeastTerms_25 (L : pmL) (S : List Value) (g : pmH) : pmV mX11_inLeastTerms 25 L S g = zCeq mX11_inLeastTerms 28 34 L S g := ez_if_eq kcX11_inLeastTerms dX11_inLeastTerms_25 (by decide) rfl L S g
theorem eX11_inLeastTerms_28 (L : pmL) (S : List Value) (g : pmH) : pmV mX11_inLeastTerms 28 L S g = zLdI mX11_inLeastTerms 29 0 L S g := ez_iload_n kcX11_inLeastTerms dX11_inLeastTerms_28 rfl rfl L S g
theorem eX11_inLeastTerms_29 (L : pmL) (S : List Value) (g : pmH) : pmV mX11_inLeastTerms 29 L S g = zLdI mX11_inLeastTerms 30 3 L S g := ez_iload_n kcX11_inLeastTerms dX11_inLeastTerms_29 rfl rfl L S g
theorem eX11_inLeastTerms_30 (L : pmL) (S : List Value) (g : pmH) : pmV mX11_inLeastTerms 30 L S g = zDiv mX11_inLeastTerms 31 L S g := ez_idiv kcX11_inLeastTerms dX11_inLeastTerms_30 rfl L S g
theorem eX11_inLeastTerms_31 (L : pmL) (S : List Value) (g : pmH) : pmV mX11_inLeastTerms 31 L S g = zNx mX11_inLeastTerms 37 L S g := ez_goto kcX11_inLeastTerms dX11_inLeastTerms_31 (by decide) L S g
theorem eX11_inLeastTerms_34 (L : pmL) (S : List Value) (g : pmH) : pmV mX11_inLeastTerms 34 L S g = zLdI mX11_inLeastTerms 35 1 L S g := ez_iload_n kcX11_inLeastTerms dX11_inLeastTerms_34 rfl rfl L S g
theorem eX11_inLeastTerms_35 (L : pmL) (S : List Value) (g : pmH) : pmV mX11_inLeastTerms 35 L S g = zLdI mX11_inLeastTerms 36 3 L S g := ez_iload_n kcX11_inLeastTerms dX11_inLeastTerms_35 rfl rfl L S g
theorem eX11_inLeastTerms_36 (L : pmL) (S : List Value) (g : pmH) : pmV mX11_inLeastTerms 36 L S g = zDiv mX11_inLeastTerms 37 L S g := ez_idiv kcX11_inLeastTerms dX11_inLeastTerms_36 rfl L S g
theorem eX11_inLeastTerms_37 (L : pmL) (S : List Value) (g : pmH) : pmV mX11_inLeastTerms 37 L S g = zIret mX11_inLeastTerms S g := ez_ireturn kcX11_inLeastTerms dX11_inLeastTerms_37 L S g
theorem eX11_greatestCommon_0 (L : pmL) (S : List Value) (g : pmH) : pmV mX11_greatestCommon 0 L S g = zLdI mX11_greatestCommon 1 0 L S g := ez_iload_n kcX11_greatestCommon dX11_greatestCommon_0 rfl rfl L S g
theorem eX11_greatestCommon_1 (L : pmL) (S : List Value) (g : pmH) : pmV mX11_greatestCommon 1 L S g = zStI mX11_greatestCommon 2 2 L S g := ez_istore_n kcX11_greatestCommon dX11_greatestCommon_1 rfl rfl L S g
theorem eX11_greatestCommon_2 (L : pmL) (S : List Value) (g : pmH) : pmV mX11_greatestCommon 2 L S g = zLdI mX11_greatestCommon 3 1 L S g := ez_iload_n kcX11_greatestCommon dX11_greatestCommon_2 rfl rfl L S g
theorem eX11_greatestCommon_3 (L : pmL) (S : List Value) (g : pmH) : pmV mX11_greatestCommon 3 L S g = zStI mX11_greatestCommon 4 3 L S g := ez_istore_n kcX11_greatestCommon dX11_greatestCommon_3 rfl rfl L S g
theorem eX11_greatestCommon_4 (L : pmL) (S : List Value) (g : pmH) : pmV mX11_greatestCommon 4 L S g = zPush mX11_greatestCommon 5 (.int (nI 0)) L S g := ez_iconst kcX11_greatestCommon dX11_greatestCommon_4 (by decide) rfl L S g
theorem eX11_greatestCommon_5 (L : pmL) (S : List Value) (g : pmH) : pmV mX11_greatestCommon 5 L S g = zStI mX11_greatestCommon 7 4 L S g := ez_istore kcX11_greatestCommon dX11_greatestCommon_5 rfl L S g
theorem eX11_greatestCommon_7 (L : pmL) (S : List Value) (g : pmH) : pmV mX11_greatestCommon 7 L S g = zLdI mX11_greatestCommon 9 4 L S g := ez_iload kcX11_greatestCommon dX11_greatestCommon_7 rfl L S g
theorem eX11_greatestCommon_9 (L : pmL) (S : List Value) (g : pmH) : pmV mX11_greatestCommon 9 L S g = zPush mX11_greatestCommon 11 (.int (nI 64)) L S g := ez_bipush kcX11_greatestCommon dX11_greatestCommon_9 (by decide) rfl L S g
theorem eX11_greatestCommon_11 (L : pmL) (S : List Value) (g : pmH) : pmV mX11_greatestCommon 11 L S g = zBge mX11_greatestCommon 14 34 L S g := ez_icmp_ge kcX11_greatestCommon dX11_greatestCommon_11 (by decide) rfl L S g
theorem eX11_greatestCommon_14 (L : pmL) (S : List Value) (g : pmH) : pmV mX11_greatestCommon 14 L S g = zLdI mX11_greatestCommon 15 3 L S g := ez_iload_n kcX11_greatestCommon dX11_greatestCommon_14 rfl rfl L S g
theorem eX11_greatestCommon_15 (L : pmL) (S : List Value) (g : pmH) : pmV mX11_greatestCommon 15 L S g = zCeq mX11_greatestCommon 18 34 L S g := ez_if_eq kcX11_greatestCommon dX11_greatestCommon_15 (by decide) rfl L S g
theorem eX11_greatestCommon_18 (L : pmL) (S : List Value) (g : pmH) : pmV mX11_greatestCommon 18 L S g = zLdI mX11_greatestCommon 19 2 L S g := ez_iload_n kcX11_greatestCommon dX11_greatestCommon_18 rfl rfl L S g
theorem eX11_greatestCommon_19 (L : pmL) (S : List Value) (g : pmH) : pmV mX11_greatestCommon 19 L S g = zLdI mX11_greatestCommon 20 3 L S g := ez_iload_n kcX11_greatestCommon dX11_greatestCommon_19 rfl rfl L S g
theorem eX11_greatestCommon_20 (L : pmL) (S : List Value) (g : pmH) : pmV mX11_greatestCommon 20 L S g = zRem mX11_greatestCommon 21 L S g := ez_irem kcX11_greatestCommon dX11_greatestCommon_20 rfl L S g
theorem eX11_greatestCommon_21 (L : pmL) (S : List Value) (g : pmH) : pmV mX11_greatestCommon 21 L S g = zStI mX11_greatestCommon 23 5 L S g := ez_istore kcX11_greatestCommon dX11_greatestCommon_21 rfl L S g
theorem eX11_greatestCommon_23 (L : pmL) (S : List Value) (g : pmH) : pmV mX11_greatestCommon 23 L S g = zLdI mX11_greatestCommon 24 3 L S g := ez_iload_n kcX11_greatestCommon dX11_greatestCommon_23 rfl rfl L S g
theorem eX11_greatestCommon_24 (L : pmL) (S : List Value) (g : pmH) : pmV mX11_greatestCommon 24 L S g = zStI mX11_greatestCommon 25 2 L S g := ez_istore_n kcX11_greatestCommon dX11_greatestCommon_24 rfl rfl L S g
theorem eX11_greatestCommon_25 (L : pmL) (S : List Value) (g : pmH) : pmV mX11_greatestCommon 25 L S g = zLdI mX11_greatestCommon 27 5 L S g := ez_iload kcX11_greatestCommon dX11_greatestCommon_25 rfl L S g
theorem eX11_greatestCommon_27 (L : pmL) (S : List Value) (g : pmH) : pmV mX11_greatestCommon 27 L S g = zStI mX11_greatestCommon 28 3 L S g := ez_istore_n kcX11_greatestCommon dX11_greatestCommon_27 rfl rfl L S g
theorem eX11_greatestCommon_28 (L : pmL) (S : List Value) (g : pmH) : pmV mX11_greatestCommon 28 L S g = zInc mX11_greatestCommon 31 4 (nI 1) L S g := ez_iinc kcX11_greatestCommon dX11_greatestCommon_28 (by decide) rfl L S g
theorem eX11_greatestCommon_31 (L : pmL) (S : List Value) (g : pmH) : pmV mX11_greatestCommon 31 L S g = zNx mX11_greatestCommon 7 L S g := ez_goto kcX11_greatestCommon dX11_greatestCommon_31 (by decide) L S g
theorem eX11_greatestCommon_34 (L : pmL) (S : List Value) (g : pmH) : pmV mX11_greatestCommon 34 L S g = zLdI mX11_greatestCommon 35 2 L S g := ez_iload_n kcX11_greatestCommon dX11_greatestCommon_34 rfl rfl L S g
theorem eX11_greatestCommon_35 (L : pmL) (S : List Value) (g : pmH) : pmV mX11_greatestCommon 35 L S g = zIret mX11_greatestCommon S g := ez_ireturn kcX11_greatestCommon dX11_greatestCommon_35 L S g
theorem eX12_init_0 (L : pmL) (S : List Value) (g : pmH) : pmV mX12_init 0 L S g = zLdA mX12_init 1 0 L S g := ez_aload_n kcX12_init dX12_init_0 rfl rfl L S g
theorem eX12_init_1 (L : pmL) (S : List Value) (g : pmH) : pmV mX12_init 1 L S g = zObj mX12_init 4 L S g := ez_objinit kcX12_init dX12_init_1 ol_12_1 rfl L S g
theorem eX12_init_4 (L : pmL) (S : List Value) (g : pmH) : pmV mX12_init 4 L S g = zLdA mX12_init 5 0 L S g := ez_aload_n kcX12_init dX12_init_4 rfl rfl L S g
theorem eX12_init_5 (L : pmL) (S : List Value) (g : pmH) : pmV mX12_init 5 L S g = zPush mX12_init 6 (.int (nI 4)) L S g := ez_iconst kcX12_init dX12_init_5 (by decide) rfl L S g
theorem eX12_init_6 (L : pmL) (S : List Value) (g : pmH) : pmV mX12_init 6 L S g = zNewA mX12_init 8 0 L S g := ez_newarray_int kcX12_init dX12_init_6 rfl L S g
theorem eX12_init_8 (L : pmL) (S : List Value) (g : pmH) : pmV mX12_init 8 L S g = zPut mX12_init 11 12 3 L S g := ez_putfield kcX12_init dX12_init_8 fl_12_7 rfl L S g
theorem eX12_init_11 (L : pmL) (S : List Value) (g : pmH) : pmV mX12_init 11 L S g = zLdA mX12_init 12 0 L S g := ez_aload_n kcX12_init dX12_init_11 rfl rfl L S g
theorem eX12_init_12 (L : pmL) (S : List Value) (g : pmH) : pmV mX12_init 12 L S g = zPush mX12_init 13 (.int (nI 5)) L S g := ez_iconst kcX12_init dX12_init_12 (by decide) rfl L S g
theorem eX12_init_13 (L : pmL) (S : List Value) (g : pmH) : pmV mX12_init 13 L S g = zNewA mX12_init 15 0 L S g := ez_newarray_int kcX12_init dX12_init_13 rfl L S g
theorem eX12_init_15 (L : pmL) (S : List Value) (g : pmH) : pmV mX12_init 15 L S g = zPut mX12_init 18 12 4 L S g := ez_putfield kcX12_init dX12_init_15 fl_12_13 rfl L S g
theorem eX12_init_18 (L : pmL) (S : List Value) (g : pmH) : pmV mX12_init 18 L S g = zLdA mX12_init 19 0 L S g := ez_aload_n kcX12_init dX12_init_18 rfl rfl L S g
theorem eX12_init_19 (L : pmL) (S : List Value) (g : pmH) : pmV mX12_init 19 L S g = zPush mX12_init 20 (.int (nI 5)) L S g := ez_iconst kcX12_init dX12_init_19 (by decide) rfl L S g
theorem eX12_init_20 (L : pmL) (S : List Value) (g : pmH) : pmV mX12_init 20 L S g = zNewA mX12_init 22 0 L S g := ez_newarray_int kcX12_init dX12_init_20 rfl L S g
theorem eX12_init_22 (L : pmL) (S : List Value) (g : pmH) : pmV mX12_init 22 L S g = zPut mX12_init 25 12 5 L S g := ez_putfield kcX12_init dX12_init_22 fl_12_16 rfl L S g
theorem eX12_init_25 (L : pmL) (S : List Value) (g : pmH) : pmV mX12_init 25 L S g = zLdA mX12_init 26 0 L S g := ez_aload_n kcX12_init dX12_init_25 rfl rfl L S g
theorem eX12_init_26 (L : pmL) (S : List Value) (g : pmH) : pmV mX12_init 26 L S g = zPush mX12_init 27 (.int (nI 4)) L S g := ez_iconst kcX12_init dX12_init_26 (by decide) rfl L S g
theorem eX12_init_27 (L : pmL) (S : List Value) (g : pmH) : pmV mX12_init 27 L S g = zNewA mX12_init 29 0 L S g := ez_newarray_int kcX12_init dX12_init_27 rfl L S g
theorem eX12_init_29 (L : pmL) (S : List Value) (g : pmH) : pmV mX12_init 29 L S g = zPut mX12_init 32 12 6 L S g := ez_putfield kcX12_init dX12_init_29 fl_12_19 rfl L S g
theorem eX12_init_32 (L : pmL) (S : List Value) (g : pmH) : pmV mX12_init 32 L S g = zLdA mX12_init 33 0 L S g := ez_aload_n kcX12_init dX12_init_32 rfl rfl L S g
theorem eX12_init_33 (L : pmL) (S : List Value) (g : pmH) : pmV mX12_init 33 L S g = zPush mX12_init 34 (.int (nI 4)) L S g := ez_iconst kcX12_init dX12_init_33 (by decide) rfl L S g
theorem eX12_init_34 (L : pmL) (S : List Value) (g : pmH) : pmV mX12_init 34 L S g = zNewA mX12_init 36 0 L S g := ez_newarray_int kcX12_init dX12_init_34 rfl L S g
theorem eX12_init_36 (L : pmL) (S : List Value) (g : pmH) : pmV mX12_init 36 L S g = zPut mX12_init 39 12 7 L S g := ez_putfield kcX12_init dX12_init_36 fl_12_22 rfl L S g
theorem eX12_init_39 (L : pmL) (S : List Value) (g : pmH) : pmV mX12_init 39 L S g = zLdA mX12_init 40 0 L S g := ez_aload_n kcX12_init dX12_init_39 rfl rfl L S g
theorem eX12_init_40 (L : pmL) (S : List Value) (g : pmH) : pmV mX12_init 40 L S g = zPush mX12_init 41 (.int (nI 4)) L S g := ez_iconst kcX12_init dX12_init_40 (by decide) rfl L S g
theorem eX12_init_41 (L : pmL) (S : List Value) (g : pmH) : pmV mX12_init 41 L S g = zNewA mX12_init 43 0 L S g := ez_newarray_int kcX12_init dX12_init_41 rfl L S g
theorem eX12_init_43 (L : pmL) (S : List Value) (g : pmH) : pmV mX12_init 43 L S g = zPut mX12_init 46 12 8 L S g := ez_putfield kcX12_init dX12_init_43 fl_12_25 rfl L S g
theorem eX12_init_46 (L : pmL) (S : List Value) (g : pmH) : pmV mX12_init 46 L S g = zLdA mX12_init 47 0 L S g := ez_aload_n kcX12_init dX12_init_46 rfl rfl L S g
theorem eX12_init_47 (L : pmL) (S : List Value) (g : pmH) : pmV mX12_init 47 L S g = zPush mX12_init 49 (.int (nI 62)) L S g := ez_bipush kcX12_init dX12_init_47 (by decide) rfl L S g
theorem eX12_init_49 (L : pmL) (S : List Value) (g : pmH) : pmV mX12_init 49 L S g = zNewA mX12_init 51 0 L S g := ez_newarray_int kcX12_init dX12_init_49 rfl L S g
theorem eX12_init_51 (L : pmL) (S : List Value) (g : pmH) : pmV mX12_init 51 L S g = zPut mX12_init 54 12 9 L S g := ez_putfield kcX12_init dX12_init_51 fl_12_28 rfl L S g
theorem eX12_init_54 (L : pmL) (S : List Value) (g : pmH) : pmV mX12_init 54 L S g = zLdA mX12_init 55 0 L S g := ez_aload_n kcX12_init dX12_init_54 rfl rfl L S g
theorem eX12_init_55 (L : pmL) (S : List Value) (g : pmH) : pmV mX12_init 55 L S g = zPush mX12_init 56 (.int (nI 4)) L S g := ez_iconst kcX12_init dX12_init_55 (by decide) rfl L S g
theorem eX12_init_56 (L : pmL) (S : List Value) (g : pmH) : pmV mX12_init 56 L S g = zNewA mX12_init 58 0 L S g := ez_newarray_int kcX12_init dX12_init_56 rfl L S g
theorem eX12_init_58 (L : pmL) (S : List Value) (g : pmH) : pmV mX12_init 58 L S g = zPut mX12_init 61 12 10 L S g := ez_putfield kcX12_init dX12_init_58 fl_12_31 rfl L S g
theorem eX12_init_61 (L : pmL) (S : List Value) (g : pmH) : pmV mX12_init 61 L S g = zLdA mX12_init 62 0 L S g := ez_aload_n kcX12_init dX12_init_61 rfl rfl L S g
theorem eX12_init_62 (L : pmL) (S : List Value) (g : pmH) : pmV mX12_init 62 L S g = zPush mX12_init 64 (.int (nI 15)) L S g := ez_bipush kcX12_init dX12_init_62 (by decide) rfl L S g
theorem eX12_init_64 (L : pmL) (S : List Value) (g : pmH) : pmV mX12_init 64 L S g = zNewA mX12_init 66 0 L S g := ez_newarray_int kcX12_init dX12_init_64 rfl L S g
theorem eX12_init_66 (L : pmL) (S : List Value) (g : pmH) : pmV mX12_init 66 L S g = zPut mX12_init 69 12 11 L S g := ez_putfield kcX12_init dX12_init_66 fl_12_34 rfl L S g
theorem eX12_init_69 (L : pmL) (S : List Value) (g : pmH) : pmV mX12_init 69 L S g = zLdA mX12_init 70 0 L S g := ez_aload_n kcX12_init dX12_init_69 rfl rfl L S g
theorem eX12_init_70 (L : pmL) (S : List Value) (g : pmH) : pmV mX12_init 70 L S g = zPush mX12_init 72 (.int (nI 12)) L S g := ez_bipush kcX12_init dX12_init_70 (by decide) rfl L S g
theorem eX12_init_72 (L : pmL) (S : List Value) (g : pmH) : pmV mX12_init 72 L S g = zNewA mX12_init 74 0 L S g := ez_newarray_int kcX12_init dX12_init_72 rfl L S g
theorem eX12_init_74 (L : pmL) (S : List Value) (g : pmH) : pmV mX12_init 74 L S g = zPut mX12_init 77 12 12 L S g := ez_putfield kcX12_init dX12_init_74 fl_12_37 rfl L S g
theorem eX12_init_77 (L : pmL) (S : List Value) (g : pmH) : pmV mX12_init 77 L S g = zLdA mX12_init 78 0 L S g := ez_aload_n kcX12_init dX12_init_77 rfl rfl L S g
theorem eX12_init_78 (L : pmL) (S : List Value) (g : pmH) : pmV mX12_init 78 L S g = zPush mX12_init 80 (.int (nI 48)) L S g := ez_bipush kcX12_init dX12_init_78 (by decide) rfl L S g
theorem eX12_init_80 (L : pmL) (S : List Value) (g : pmH) : pmV mX12_init 80 L S g = zNewA mX12_init 82 0 L S g := ez_newarray_int kcX12_init dX12_init_80 rfl L S g
theorem eX12_init_82 (L : pmL) (S : List Value) (g : pmH) : pmV mX12_init 82 L S g = zPut mX12_init 85 12 17 L S g := ez_putfield kcX12_init dX12_init_82 fl_12_40 rfl L S g
theorem eX12_init_85 (L : pmL) (S : List Value) (g : pmH) : pmV mX12_init 85 L S g = zLdA mX12_init 86 0 L S g := ez_aload_n kcX12_init dX12_init_85 rfl rfl L S g
theorem eX12_init_86 (L : pmL) (S : List Value) (g : pmH) : pmV mX12_init 86 L S g = zPush mX12_init 88 (.int (nI 15)) L S g := ez_bipush kcX12_init dX12_init_86 (by decide) rfl L S g
theorem eX12_init_88 (L : pmL) (S : List Value) (g : pmH) : pmV mX12_init 88 L S g = zPut mX12_init 91 12 21 L S g := ez_putfield kcX12_init dX12_init_88 fl_12_43 rfl L S g
theorem eX12_init_91 (L : pmL) (S : List Value) (g : pmH) : pmV mX12_init 91 L S g = zLdA mX12_init 92 0 L S g := ez_aload_n kcX12_init dX12_init_91 rfl rfl L S g
theorem eX12_init_92 (L : pmL) (S : List Value) (g : pmH) : pmV mX12_init 92 L S g = zPush mX12_init 95 (.int (nI 434)) L S g := ez_sipush kcX12_init dX12_init_92 (by decide) rfl L S g
theorem eX12_init_95 (L : pmL) (S : List Value) (g : pmH) : pmV mX12_init 95 L S g = zNewA mX12_init 97 0 L S g := ez_newarray_int kcX12_init dX12_init_95 rfl L S g
theorem eX12_init_97 (L : pmL) (S : List Value) (g : pmH) : pmV mX12_init 97 L S g = zPut mX12_init 100 12 24 L S g := ez_putfield kcX12_init dX12_init_97 fl_12_47 rfl L S g
theorem eX12_init_100 (L : pmL) (S : List Value) (g : pmH) : pmV mX12_init 100 L S g = zLdA mX12_init 101 0 L S g := ez_aload_n kcX12_init dX12_init_100 rfl rfl L S g
theorem eX12_init_101 (L : pmL) (S : List Value) (g : pmH) : pmV mX12_init 101 L S g = zPush mX12_init 102 (.int (nI 5)) L S g := ez_iconst kcX12_init dX12_init_101 (by decide) rfl L S g
theorem eX12_init_102 (L : pmL) (S : List Value) (g : pmH) : pmV mX12_init 102 L S g = zNewA mX12_init 104 0 L S g := ez_newarray_int kcX12_init dX12_init_102 rfl L S g
theorem eX12_init_104 (L : pmL) (S : List Value) (g : pmH) : pmV mX12_init 104 L S g = zPut mX12_init 107 12 25 L S g := ez_putfield kcX12_init dX12_init_104 fl_12_50 rfl L S g
theorem eX12_init_107 (L : pmL) (S : List Value) (g : pmH) : pmV mX12_init 107 L S g = zLdA mX12_init 108 0 L S g := ez_aload_n kcX12_init dX12_init_107 rfl rfl L S g
theorem eX12_init_108 (L : pmL) (S : List Value) (g : pmH) : pmV mX12_init 108 L S g = zPush mX12_init 109 (.int (nI 5)) L S g := ez_iconst kcX12_init dX12_init_108 (by decide) rfl L S g
theorem eX12_init_109 (L : pmL) (S : List Value) (g : pmH) : pmV mX12_init 109 L S g = zNewA mX12_init 111 0 L S g := ez_newarray_int kcX12_init dX12_init_109 rfl L S g
theorem eX12_init_111 (L : pmL) (S : List Value) (g : pmH) : pmV mX12_init 111 L S g = zPut mX12_init 114 12 26 L S g := ez_putfield kcX12_init dX12_init_111 fl_12_53 rfl L S g
theorem eX12_init_114 (L : pmL) (S : List Value) (g : pmH) : pmV mX12_init 114 L S g = zLdA mX12_init 115 0 L S g := ez_aload_n kcX12_init dX12_init_114 rfl rfl L S g
theorem eX12_init_115 (L : pmL) (S : List Value) (g : pmH) : pmV mX12_init 115 L S g = zPush mX12_init 117 (.int (nI 6)) L S g := ez_bipush kcX12_init dX12_init_115 (by decide) rfl L S g
theorem eX12_init_117 (L : pmL) (S : List Value) (g : pmH) : pmV mX12_init 117 L S g = zNewA mX12_init 119 0 L S g := ez_newarray_int kcX12_init dX12_init_117 rfl L S g
theorem eX12_init_119 (L : pmL) (S : List Value) (g : pmH) : pmV mX12_init 119 L S g = zPut mX12_init 122 12 28 L S g := ez_putfield kcX12_init dX12_init_119 fl_12_56 rfl L S g
theorem eX12_init_122 (L : pmL) (S : List Value) (g : pmH) : pmV mX12_init 122 L S g = zLdA mX12_init 123 0 L S g := ez_aload_n kcX12_init dX12_init_122 rfl rfl L S g
theorem eX12_init_123 (L : pmL) (S : List Value) (g : pmH) : pmV mX12_init 123 L S g = zPush mX12_init 125 (.int (nI 6)) L S g := ez_bipush kcX12_init dX12_init_123 (by decide) rfl L S g
theorem eX12_init_125 (L : pmL) (S : List Value) (g : pmH) : pmV mX12_init 125 L S g = zNewA mX12_init 127 0 L S g := ez_newarray_int kcX12_init dX12_init_125 rfl L S g
theorem eX12_init_127 (L : pmL) (S : List Value) (g : pmH) : pmV mX12_init 127 L S g = zPut mX12_init 130 12 29 L S g := ez_putfield kcX12_init dX12_init_127 fl_12_59 rfl L S g
theorem eX12_init_130 (L : pmL) (S : List Value) (g : pmH) : pmV mX12_init 130 L S g = zLdA mX12_init 131 0 L S g := ez_aload_n kcX12_init dX12_init_130 rfl rfl L S g
theorem eX12_init_131 (L : pmL) (S : List Value) (g : pmH) : pmV mX12_init 131 L S g = zPush mX12_init 132 (.int (nI 2)) L S g := ez_iconst kcX12_init dX12_init_131 (by decide) rfl L S g
theorem eX12_init_132 (L : pmL) (S : List Value) (g : pmH) : pmV mX12_init 132 L S g = zNewA mX12_init 134 1 L S g := ez_newarray_boolean kcX12_init dX12_init_132 rfl L S g
theorem eX12_init_134 (L : pmL) (S : List Value) (g : pmH) : pmV mX12_init 134 L S g = zPut mX12_init 137 12 31 L S g := ez_putfield kcX12_init dX12_init_134 fl_12_62 rfl L S g
theorem eX12_init_137 (L : pmL) (S : List Value) (g : pmH) : pmV mX12_init 137 L S g = zLdA mX12_init 138 0 L S g := ez_aload_n kcX12_init dX12_init_137 rfl rfl L S g
theorem eX12_init_138 (L : pmL) (S : List Value) (g : pmH) : pmV mX12_init 138 L S g = zPush mX12_init 140 (.int (nI 62)) L S g := ez_bipush kcX12_init dX12_init_138 (by decide) rfl L S g
theorem eX12_init_140 (L : pmL) (S : List Value) (g : pmH) : pmV mX12_init 140 L S g = zNewA mX12_init 142 0 L S g := ez_newarray_int kcX12_init dX12_init_140 rfl L S g
theorem eX12_init_142 (L : pmL) (S : List Value) (g : pmH) : pmV mX12_init 142 L S g = zPut mX12_init 145 12 32 L S g := ez_putfield kcX12_init dX12_init_142 fl_12_66 rfl L S g
theorem eX12_init_145 (L : pmL) (S : List Value) (g : pmH) : pmV mX12_init 145 L S g = zVret S g := ez_return kcX12_init dX12_init_145 rfl L S g
theorem eX12_in_0 (L : pmL) (S : List Value) (g : pmH) : pmV mX12_in 0 L S g = zLdJ mX12_in 1 0 L S g := ez_lload_n kcX12_in dX12_in_0 rfl rfl L S g
theorem eX12_in_1 (L : pmL) (S : List Value) (g : pmH) : pmV mX12_in 1 L S g = zLdJ mX12_in 2 2 L S g := ez_lload_n kcX12_in dX12_in_1 rfl rfl L S g
theorem eX12_in_2 (L : pmL) (S : List Value) (g : pmH) : pmV mX12_in 2 L S g = zLcmp mX12_in 3 L S g := ez_lcmp kcX12_in dX12_in_2 rfl L S g
theorem eX12_in_3 (L : pmL) (S : List Value) (g : pmH) : pmV mX12_in 3 L S g = zClt mX12_in 6 17 L S g := ez_if_lt kcX12_in dX12_in_3 (by decide) rfl L S g
theorem eX12_in_6 (L : pmL) (S : List Value) (g : pmH) : pmV mX12_in 6 L S g = zLdJ mX12_in 7 0 L S g := ez_lload_n kcX12_in dX12_in_6 rfl rfl L S g
theorem eX12_in_7 (L : pmL) (S : List Value) (g : pmH) : pmV mX12_in 7 L S g = zLdJ mX12_in 9 4 L S g := ez_lload kcX12_in dX12_in_7 rfl L S g
theorem eX12_in_9 (L : pmL) (S : List Value) (g : pmH) : pmV mX12_in 9 L S g = zLcmp mX12_in 10 L S g := ez_lcmp kcX12_in dX12_in_9 rfl L S g
theorem eX12_in_10 (L : pmL) (S : List Value) (g : pmH) : pmV mX12_in 10 L S g = zCgt mX12_in 13 17 L S g := ez_if_gt kcX12_in dX12_in_10 (by decide) rfl L S g
theorem eX12_in_13 (L : pmL) (S : List Value) (g : pmH) : pmV mX12_in 13 L S g = zPush mX12_in 14 (.int (nI 1)) L S g := ez_iconst kcX12_in dX12_in_13 (by decide) rfl L S g
theorem eX12_in_14 (L : pmL) (S : List Value) (g : pmH) : pmV mX12_in 14 L S g = zNx mX12_in 18 L S g := ez_goto kcX12_in dX12_in_14 (by decide) L S g
theorem eX12_in_17 (L : pmL) (S : List Value) (g : pmH) : pmV mX12_in 17 L S g = zPush mX12_in 18 (.int (nI 0)) L S g := ez_iconst kcX12_in dX12_in_17 (by decide) rfl L S g
theorem eX12_in_18 (L : pmL) (S : List Value) (g : pmH) : pmV mX12_in 18 L S g = zIret mX12_in S g := ez_ireturn kcX12_in dX12_in_18 L S g
theorem eX12_has_0 (L : pmL) (S : List Value) (g : pmH) : pmV mX12_has 0 L S g = zLdI mX12_has 1 0 L S g := ez_iload_n kcX12_has dX12_has_0 rfl rfl L S g
theorem eX12_has_1 (L : pmL) (S : List Value) (g : pmH) : pmV mX12_has 1 L S g = zLdI mX12_has 2 1 L S g := ez_iload_n kcX12_has dX12_has_1 rfl rfl L S g
theorem eX12_has_2 (L : pmL) (S : List Value) (g : pmH) : pmV mX12_has 2 L S g = zShr mX12_has 3 L S g := ez_ishr kcX12_has dX12_has_2 rfl L S g
theorem eX12_has_3 (L : pmL) (S : List Value) (g : pmH) : pmV mX12_has 3 L S g = zPush mX12_has 4 (.int (nI 1)) L S g := ez_iconst kcX12_has dX12_has_3 (by decide) rfl L S g
theorem eX12_has_4 (L : pmL) (S : List Value) (g : pmH) : pmV mX12_has 4 L S g = zAnd mX12_has 5 L S g := ez_iand kcX12_has dX12_has_4 rfl L S g
theorem eX12_has_5 (L : pmL) (S : List Value) (g : pmH) : pmV mX12_has 5 L S g = zPush mX12_has 6 (.int (nI 1)) L S g := ez_iconst kcX12_has dX12_has_5 (by decide) rfl L S g
theorem eX12_has_6 (L : pmL) (S : List Value) (g : pmH) : pmV mX12_has 6 L S g = zBne mX12_has 9 13 L S g := ez_icmp_ne kcX12_has dX12_has_6 (by decide) rfl L S g
theorem eX12_has_9 (L : pmL) (S : List Value) (g : pmH) : pmV mX12_has 9 L S g = zPush mX12_has 10 (.int (nI 1)) L S g := ez_iconst kcX12_has dX12_has_9 (by decide) rfl L S g
theorem eX12_has_10 (L : pmL) (S : List Value) (g : pmH) : pmV mX12_has 10 L S g = zNx mX12_has 14 L S g := ez_goto kcX12_has dX12_has_10 (by decide) L S g
theorem eX12_has_13 (L : pmL) (S : List Value) (g : pmH) : pmV mX12_has 13 L S g = zPush mX12_has 14 (.int (nI 0)) L S g := ez_iconst kcX12_has dX12_has_13 (by decide) rfl L S g
theorem eX12_has_14 (L : pmL) (S : List Value) (g : pmH) : pmV mX12_has 14 L S g = zIret mX12_has S g := ez_ireturn kcX12_has dX12_has_14 L S g
theorem eX12_ones_0 (L : pmL) (S : List Value) (g : pmH) : pmV mX12_ones 0 L S g = zPush mX12_ones 1 (.int (nI 0)) L S g := ez_iconst kcX12_ones dX12_ones_0 (by decide) rfl L S g
theorem eX12_ones_1 (L : pmL) (S : List Value) (g : pmH) : pmV mX12_ones 1 L S g = zStI mX12_ones 2 1 L S g := ez_istore_n kcX12_ones dX12_ones_1 rfl rfl L S g
theorem eX12_ones_2 (L : pmL) (S : List Value) (g : pmH) : pmV mX12_ones 2 L S g = zPush mX12_ones 3 (.int (nI 0)) L S g := ez_iconst kcX12_ones dX12_ones_2 (by decide) rfl L S g
theorem eX12_ones_3 (L : pmL) (S : List Value) (g : pmH) : pmV mX12_ones 3 L S g = zStI mX12_ones 4 2 L S g := ez_istore_n kcX12_ones dX12_ones_3 rfl rfl L S g
theorem eX12_ones_4 (L : pmL) (S : List Value) (g : pmH) : pmV mX12_ones 4 L S g = zLdI mX12_ones 5 2 L S g := ez_iload_n kcX12_ones dX12_ones_4 rfl rfl L S g
theorem eX12_ones_5 (L : pmL) (S : List Value) (g : pmH) : pmV mX12_ones 5 L S g = zPush mX12_ones 7 (.int (nI 6)) L S g := ez_bipush kcX12_ones dX12_ones_5 (by decide) rfl L S g
theorem eX12_ones_7 (L : pmL) (S : List Value) (g : pmH) : pmV mX12_ones 7 L S g = zBge mX12_ones 10 24 L S g := ez_icmp_ge kcX12_ones dX12_ones_7 (by decide) rfl L S g
theorem eX12_ones_10 (L : pmL) (S : List Value) (g : pmH) : pmV mX12_ones 10 L S g = zLdI mX12_ones 11 1 L S g := ez_iload_n kcX12_ones dX12_ones_10 rfl rfl L S g
theorem eX12_ones_11 (L : pmL) (S : List Value) (g : pmH) : pmV mX12_ones 11 L S g = zLdI mX12_ones 12 0 L S g := ez_iload_n kcX12_ones dX12_ones_11 rfl rfl L S g
theorem eX12_ones_12 (L : pmL) (S : List Value) (g : pmH) : pmV mX12_ones 12 L S g = zLdI mX12_ones 13 2 L S g := ez_iload_n kcX12_ones dX12_ones_12 rfl rfl L S g
theorem eX12_ones_13 (L : pmL) (S : List Value) (g : pmH) : pmV mX12_ones 13 L S g = zShr mX12_ones 14 L S g := ez_ishr kcX12_ones dX12_ones_13 rfl L S g
theorem eX12_ones_14 (L : pmL) (S : List Value) (g : pmH) : pmV mX12_ones 14 L S g = zPush mX12_ones 15 (.int (nI 1)) L S g := ez_iconst kcX12_ones dX12_ones_14 (by decide) rfl L S g
theorem eX12_ones_15 (L : pmL) (S : List Value) (g : pmH) : pmV mX12_ones 15 L S g = zAnd mX12_ones 16 L S g := ez_iand kcX12_ones dX12_ones_15 rfl L S g
theorem eX12_ones_16 (L : pmL) (S : List Value) (g : pmH) : pmV mX12_ones 16 L S g = zAdd mX12_ones 17 L S g := ez_iadd kcX12_ones dX12_ones_16 rfl L S g
theorem eX12_ones_17 (L : pmL) (S : List Value) (g : pmH) : pmV mX12_ones 17 L S g = zStI mX12_ones 18 1 L S g := ez_istore_n kcX12_ones dX12_ones_17 rfl rfl L S g
theorem eX12_ones_18 (L : pmL) (S : List Value) (g : pmH) : pmV mX12_ones 18 L S g = zInc mX12_ones 21 2 (nI 1) L S g := ez_iinc kcX12_ones dX12_ones_18 (by decide) rfl L S g
theorem eX12_ones_21 (L : pmL) (S : List Value) (g : pmH) : pmV mX12_ones 21 L S g = zNx mX12_ones 4 L S g := ez_goto kcX12_ones dX12_ones_21 (by decide) L S g
theorem eX12_ones_24 (L : pmL) (S : List Value) (g : pmH) : pmV mX12_ones 24 L S g = zLdI mX12_ones 25 1 L S g := ez_iload_n kcX12_ones dX12_ones_24 rfl rfl L S g
theorem eX12_ones_25 (L : pmL) (S : List Value) (g : pmH) : pmV mX12_ones 25 L S g = zIret mX12_ones S g := ez_ireturn kcX12_ones dX12_ones_25 L S g
theorem eX12_write_0 (L : pmL) (S : List Value) (g : pmH) : pmV mX12_write 0 L S g = zLdI mX12_write 1 1 L S g := ez_iload_n kcX12_write dX12_write_0 rfl rfl L S g
theorem eX12_write_1 (L : pmL) (S : List Value) (g : pmH) : pmV mX12_write 1 L S g = zI2l mX12_write 2 L S g := ez_i2l kcX12_write dX12_write_1 rfl L S g
theorem eX12_write_2 (L : pmL) (S : List Value) (g : pmH) : pmV mX12_write 2 L S g = zPush mX12_write 3 (.long (lN 0)) L S g := ez_lconst kcX12_write dX12_write_2 rfl rfl L S g
theorem eX12_write_3 (L : pmL) (S : List Value) (g : pmH) : pmV mX12_write 3 L S g = zPush mX12_write 6 (.long (lN 255)) L S g := ez_ldc2_w kcX12_write dX12_write_3 jl_12_69 rfl L S g
theorem eX12_write_6 (L : pmL) (S : List Value) (g : pmH) : pmV mX12_write 6 L S g = yS mX12_write 9 3 mX12_in 6 L S g := (ez_static kcX12_write dX12_write_6 ml_12_71 (by decide) rfl L S g).trans (zCall_y rfl (by decide) L S g)
theorem eX12_write_9 (L : pmL) (S : List Value) (g : pmH) : pmV mX12_write 9 L S g = zCne mX12_write 12 15 L S g := ez_if_ne kcX12_write dX12_write_9 (by decide) rfl L S g
theorem eX12_write_12 (L : pmL) (S : List Value) (g : pmH) : pmV mX12_write 12 L S g = zPush mX12_write 14 (.int (-2)) L S g := ez_bipush kcX12_write dX12_write_12 (by decide) rfl L S g
theorem eX12_write_14 (L : pmL) (S : List Value) (g : pmH) : pmV mX12_write 14 L S g = zIret mX12_write S g := ez_ireturn kcX12_write dX12_write_14 L S g
theorem eX12_write_15 (L : pmL) (S : List Value) (g : pmH) : pmV mX12_write 15 L S g = zLdA mX12_write 16 0 L S g := ez_aload_n kcX12_write dX12_write_15 rfl rfl L S g
theorem eX12_write_16 (L : pmL) (S : List Value) (g : pmH) : pmV mX12_write 16 L S g = zGet mX12_write 19 12 18 L S g := ez_getfield kcX12_write dX12_write_16 fl_12_75 rfl L S g
theorem eX12_write_19 (L : pmL) (S : List Value) (g : pmH) : pmV mX12_write 19 L S g = zPush mX12_write 21 (.int (nI 48)) L S g := ez_bipush kcX12_write dX12_write_19 (by decide) rfl L S g
theorem eX12_write_21 (L : pmL) (S : List Value) (g : pmH) : pmV mX12_write 21 L S g = zBne mX12_write 24 27 L S g := ez_icmp_ne kcX12_write dX12_write_21 (by decide) rfl L S g
theorem eX12_write_24 (L : pmL) (S : List Value) (g : pmH) : pmV mX12_write 24 L S g = zPush mX12_write 26 (.int (-4)) L S g := ez_bipush kcX12_write dX12_write_24 (by decide) rfl L S g
theorem eX12_write_26 (L : pmL) (S : List Value) (g : pmH) : pmV mX12_write 26 L S g = zIret mX12_write S g := ez_ireturn kcX12_write dX12_write_26 L S g
theorem eX12_write_27 (L : pmL) (S : List Value) (g : pmH) : pmV mX12_write 27 L S g = zLdA mX12_write 28 0 L S g := ez_aload_n kcX12_write dX12_write_27 rfl rfl L S g
theorem eX12_write_28 (L : pmL) (S : List Value) (g : pmH) : pmV mX12_write 28 L S g = zGet mX12_write 31 12 17 L S g := ez_getfield kcX12_write dX12_write_28 fl_12_40 rfl L S g
theorem eX12_write_31 (L : pmL) (S : List Value) (g : pmH) : pmV mX12_write 31 L S g = zLdA mX12_write 32 0 L S g := ez_aload_n kcX12_write dX12_write_31 rfl rfl L S g
theorem eX12_write_32 (L : pmL) (S : List Value) (g : pmH) : pmV mX12_write 32 L S g = zGet mX12_write 35 12 18 L S g := ez_getfield kcX12_write dX12_write_32 fl_12_75 rfl L S g
theorem eX12_write_35 (L : pmL) (S : List Value) (g : pmH) : pmV mX12_write 35 L S g = zLdI mX12_write 36 1 L S g := ez_iload_n kcX12_write dX12_write_35 rfl rfl L S g
theorem eX12_write_36 (L : pmL) (S : List Value) (g : pmH) : pmV mX12_write 36 L S g = zIast mX12_write 37 L S g := ez_iastore kcX12_write dX12_write_36 rfl L S g
theorem eX12_write_37 (L : pmL) (S : List Value) (g : pmH) : pmV mX12_write 37 L S g = zLdA mX12_write 38 0 L S g := ez_aload_n kcX12_write dX12_write_37 rfl rfl L S g
theorem eX12_write_38 (L : pmL) (S : List Value) (g : pmH) : pmV mX12_write 38 L S g = zDup mX12_write 39 L S g := ez_dup kcX12_write dX12_write_38 rfl L S g
theorem eX12_write_39 (L : pmL) (S : List Value) (g : pmH) : pmV mX12_write 39 L S g = zGet mX12_write 42 12 18 L S g := ez_getfield kcX12_write dX12_write_39 fl_12_75 rfl L S g
theorem eX12_write_42 (L : pmL) (S : List Value) (g : pmH) : pmV mX12_write 42 L S g = zPush mX12_write 43 (.int (nI 1)) L S g := ez_iconst kcX12_write dX12_write_42 (by decide) rfl L S g
theorem eX12_write_43 (L : pmL) (S : List Value) (g : pmH) : pmV mX12_write 43 L S g = zAdd mX12_write 44 L S g := ez_iadd kcX12_write dX12_write_43 rfl L S g
theorem eX12_write_44 (L : pmL) (S : List Value) (g : pmH) : pmV mX12_write 44 L S g = zPut mX12_write 47 12 18 L S g := ez_putfield kcX12_write dX12_write_44 fl_12_75 rfl L S g
theorem eX12_write_47 (L : pmL) (S : List Value) (g : pmH) : pmV mX12_write 47 L S g = zLdA mX12_write 48 0 L S g := ez_aload_n kcX12_write dX12_write_47 rfl rfl L S g
theorem eX12_write_48 (L : pmL) (S : List Value) (g : pmH) : pmV mX12_write 48 L S g = zGet mX12_write 51 12 18 L S g := ez_getfield kcX12_write dX12_write_48 fl_12_75 rfl L S g
theorem eX12_write_51 (L : pmL) (S : List Value) (g : pmH) : pmV mX12_write 51 L S g = zIret mX12_write S g := ez_ireturn kcX12_write dX12_write_51 L S g
theorem eX12_wipe_0 (L : pmL) (S : List Value) (g : pmH) : pmV mX12_wipe 0 L S g = zLdA mX12_wipe 1 0 L S g := ez_aload_n kcX12_wipe dX12_wipe_0 rfl rfl L S g
theorem eX12_wipe_1 (L : pmL) (S : List Value) (g : pmH) : pmV mX12_wipe 1 L S g = zGet mX12_wipe 4 12 18 L S g := ez_getfield kcX12_wipe dX12_wipe_1 fl_12_75 rfl L S g
theorem eX12_wipe_4 (L : pmL) (S : List Value) (g : pmH) : pmV mX12_wipe 4 L S g = zStI mX12_wipe 5 1 L S g := ez_istore_n kcX12_wipe dX12_wipe_4 rfl rfl L S g
theorem eX12_wipe_5 (L : pmL) (S : List Value) (g : pmH) : pmV mX12_wipe 5 L S g = zLdA mX12_wipe 6 0 L S g := ez_aload_n kcX12_wipe dX12_wipe_5 rfl rfl L S g
theorem eX12_wipe_6 (L : pmL) (S : List Value) (g : pmH) : pmV mX12_wipe 6 L S g = zPush mX12_wipe 7 (.int (nI 0)) L S g := ez_iconst kcX12_wipe dX12_wipe_6 (by decide) rfl L S g
theorem eX12_wipe_7 (L : pmL) (S : List Value) (g : pmH) : pmV mX12_wipe 7 L S g = zPut mX12_wipe 10 12 18 L S g := ez_putfield kcX12_wipe dX12_wipe_7 fl_12_75 rfl L S g
theorem eX12_wipe_10 (L : pmL) (S : List Value) (g : pmH) : pmV mX12_wipe 10 L S g = zLdI mX12_wipe 11 1 L S g := ez_iload_n kcX12_wipe dX12_wipe_10 rfl rfl L S g
theorem eX12_wipe_11 (L : pmL) (S : List Value) (g : pmH) : pmV mX12_wipe 11 L S g = zIret mX12_wipe S g := ez_ireturn kcX12_wipe dX12_wipe_11 L S g
theorem eX12_cellOf_0 (L : pmL) (S : List Value) (g : pmH) : pmV mX12_cellOf 0 L S g = zLdA mX12_cellOf 1 0 L S g := ez_aload_n kcX12_cellOf dX12_cellOf_0 rfl rfl L S g
theorem eX12_cellOf_1 (L : pmL) (S : List Value) (g : pmH) : pmV mX12_cellOf 1 L S g = zGet mX12_cellOf 4 12 20 L S g := ez_getfield kcX12_cellOf dX12_cellOf_1 fl_12_78 rfl L S g
theorem eX12_cellOf_4 (L : pmL) (S : List Value) (g : pmH) : pmV mX12_cellOf 4 L S g = zPush mX12_cellOf 6 (.int (-9)) L S g := ez_bipush kcX12_cellOf dX12_cellOf_4 (by decide) rfl L S g
theorem eX12_cellOf_6 (L : pmL) (S : List Value) (g : pmH) : pmV mX12_cellOf 6 L S g = zBne mX12_cellOf 9 24 L S g := ez_icmp_ne kcX12_cellOf dX12_cellOf_6 (by decide) rfl L S g
theorem eX12_cellOf_9 (L : pmL) (S : List Value) (g : pmH) : pmV mX12_cellOf 9 L S g = zLdA mX12_cellOf 10 0 L S g := ez_aload_n kcX12_cellOf dX12_cellOf_9 rfl rfl L S g
theorem eX12_cellOf_10 (L : pmL) (S : List Value) (g : pmH) : pmV mX12_cellOf 10 L S g = zGet mX12_cellOf 13 12 19 L S g := ez_getfield kcX12_cellOf dX12_cellOf_10 fl_12_81 rfl L S g
theorem eX12_cellOf_13 (L : pmL) (S : List Value) (g : pmH) : pmV mX12_cellOf 13 L S g = zLdA mX12_cellOf 14 0 L S g := ez_aload_n kcX12_cellOf dX12_cellOf_13 rfl rfl L S g
theorem eX12_cellOf_14 (L : pmL) (S : List Value) (g : pmH) : pmV mX12_cellOf 14 L S g = zGet mX12_cellOf 17 12 18 L S g := ez_getfield kcX12_cellOf dX12_cellOf_14 fl_12_75 rfl L S g
theorem eX12_cellOf_17 (L : pmL) (S : List Value) (g : pmH) : pmV mX12_cellOf 17 L S g = zBge mX12_cellOf 20 24 L S g := ez_icmp_ge kcX12_cellOf dX12_cellOf_17 (by decide) rfl L S g
theorem eX12_cellOf_20 (L : pmL) (S : List Value) (g : pmH) : pmV mX12_cellOf 20 L S g = zPush mX12_cellOf 21 (.int (nI 1)) L S g := ez_iconst kcX12_cellOf dX12_cellOf_20 (by decide) rfl L S g
theorem eX12_cellOf_21 (L : pmL) (S : List Value) (g : pmH) : pmV mX12_cellOf 21 L S g = zNx mX12_cellOf 25 L S g := ez_goto kcX12_cellOf dX12_cellOf_21 (by decide) L S g
theorem eX12_cellOf_24 (L : pmL) (S : List Value) (g : pmH) : pmV mX12_cellOf 24 L S g = zPush mX12_cellOf 25 (.int (nI 0)) L S g := ez_iconst kcX12_cellOf dX12_cellOf_24 (by decide) rfl L S g
theorem eX12_cellOf_25 (L : pmL) (S : List Value) (g : pmH) : pmV mX12_cellOf 25 L S g = zStI mX12_cellOf 26 2 L S g := ez_istore_n kcX12_cellOf dX12_cellOf_25 rfl rfl L S g
theorem eX12_cellOf_26 (L : pmL) (S : List Value) (g : pmH) : pmV mX12_cellOf 26 L S g = zLdI mX12_cellOf 27 2 L S g := ez_iload_n kcX12_cellOf dX12_cellOf_26 rfl rfl L S g
theorem eX12_cellOf_27 (L : pmL) (S : List Value) (g : pmH) : pmV mX12_cellOf 27 L S g = zCeq mX12_cellOf 30 45 L S g := ez_if_eq kcX12_cellOf dX12_cellOf_27 (by decide) rfl L S g
theorem eX12_cellOf_30 (L : pmL) (S : List Value) (g : pmH) : pmV mX12_cellOf 30 L S g = zLdA mX12_cellOf 31 0 L S g := ez_aload_n kcX12_cellOf dX12_cellOf_30 rfl rfl L S g
theorem eX12_cellOf_31 (L : pmL) (S : List Value) (g : pmH) : pmV mX12_cellOf 31 L S g = zGet mX12_cellOf 34 12 17 L S g := ez_getfield kcX12_cellOf dX12_cellOf_31 fl_12_40 rfl L S g
theorem eX12_cellOf_34 (L : pmL) (S : List Value) (g : pmH) : pmV mX12_cellOf 34 L S g = zLdA mX12_cellOf 35 0 L S g := ez_aload_n kcX12_cellOf dX12_cellOf_34 rfl rfl L S g
theorem eX12_cellOf_35 (L : pmL) (S : List Value) (g : pmH) : pmV mX12_cellOf 35 L S g = zGet mX12_cellOf 38 12 19 L S g := ez_getfield kcX12_cellOf dX12_cellOf_35 fl_12_81 rfl L S g
theorem eX12_cellOf_38 (L : pmL) (S : List Value) (g : pmH) : pmV mX12_cellOf 38 L S g = zIald mX12_cellOf 39 L S g := ez_iaload kcX12_cellOf dX12_cellOf_38 rfl L S g
theorem eX12_cellOf_39 (L : pmL) (S : List Value) (g : pmH) : pmV mX12_cellOf 39 L S g = zPush mX12_cellOf 41 (.int (nI 97)) L S g := ez_bipush kcX12_cellOf dX12_cellOf_39 (by decide) rfl L S g
theorem eX12_cellOf_41 (L : pmL) (S : List Value) (g : pmH) : pmV mX12_cellOf 41 L S g = zSub mX12_cellOf 42 L S g := ez_isub kcX12_cellOf dX12_cellOf_41 rfl L S g
theorem eX12_cellOf_42 (L : pmL) (S : List Value) (g : pmH) : pmV mX12_cellOf 42 L S g = zNx mX12_cellOf 46 L S g := ez_goto kcX12_cellOf dX12_cellOf_42 (by decide) L S g
theorem eX12_cellOf_45 (L : pmL) (S : List Value) (g : pmH) : pmV mX12_cellOf 45 L S g = zPush mX12_cellOf 46 (.int (nI 0)) L S g := ez_iconst kcX12_cellOf dX12_cellOf_45 (by decide) rfl L S g
theorem eX12_cellOf_46 (L : pmL) (S : List Value) (g : pmH) : pmV mX12_cellOf 46 L S g = zStI mX12_cellOf 47 3 L S g := ez_istore_n kcX12_cellOf dX12_cellOf_46 rfl rfl L S g
theorem eX12_cellOf_47 (L : pmL) (S : List Value) (g : pmH) : pmV mX12_cellOf 47 L S g = zLdI mX12_cellOf 48 2 L S g := ez_iload_n kcX12_cellOf dX12_cellOf_47 rfl rfl L S g
theorem eX12_cellOf_48 (L : pmL) (S : List Value) (g : pmH) : pmV mX12_cellOf 48 L S g = zCeq mX12_cellOf 51 71 L S g := ez_if_eq kcX12_cellOf dX12_cellOf_48 (by decide) rfl L S g
theorem eX12_cellOf_51 (L : pmL) (S : List Value) (g : pmH) : pmV mX12_cellOf 51 L S g = zLdI mX12_cellOf 52 3 L S g := ez_iload_n kcX12_cellOf dX12_cellOf_51 rfl rfl L S g
theorem eX12_cellOf_52 (L : pmL) (S : List Value) (g : pmH) : pmV mX12_cellOf 52 L S g = zI2l mX12_cellOf 53 L S g := ez_i2l kcX12_cellOf dX12_cellOf_52 rfl L S g
theorem eX12_cellOf_53 (L : pmL) (S : List Value) (g : pmH) : pmV mX12_cellOf 53 L S g = zPush mX12_cellOf 54 (.long (lN 0)) L S g := ez_lconst kcX12_cellOf dX12_cellOf_53 rfl rfl L S g
theorem eX12_cellOf_54 (L : pmL) (S : List Value) (g : pmH) : pmV mX12_cellOf 54 L S g = zPush mX12_cellOf 57 (.long (lN 19)) L S g := ez_ldc2_w kcX12_cellOf dX12_cellOf_54 jl_12_84 rfl L S g
theorem eX12_cellOf_57 (L : pmL) (S : List Value) (g : pmH) : pmV mX12_cellOf 57 L S g = yS mX12_cellOf 60 3 mX12_in 6 L S g := (ez_static kcX12_cellOf dX12_cellOf_57 ml_12_71 (by decide) rfl L S g).trans (zCall_y rfl (by decide) L S g)
theorem eX12_cellOf_60 (L : pmL) (S : List Value) (g : pmH) : pmV mX12_cellOf 60 L S g = zCeq mX12_cellOf 63 71 L S g := ez_if_eq kcX12_cellOf dX12_cellOf_60 (by decide) rfl L S g
theorem eX12_cellOf_63 (L : pmL) (S : List Value) (g : pmH) : pmV mX12_cellOf 63 L S g = zLdI mX12_cellOf 64 1 L S g := ez_iload_n kcX12_cellOf dX12_cellOf_63 rfl rfl L S g
theorem eX12_cellOf_64 (L : pmL) (S : List Value) (g : pmH) : pmV mX12_cellOf 64 L S g = zLdI mX12_cellOf 65 3 L S g := ez_iload_n kcX12_cellOf dX12_cellOf_64 rfl rfl L S g
theorem eX12_cellOf_65 (L : pmL) (S : List Value) (g : pmH) : pmV mX12_cellOf 65 L S g = yS mX12_cellOf 68 2 mX12_has 2 L S g := (ez_static kcX12_cellOf dX12_cellOf_65 ml_12_86 (by decide) rfl L S g).trans (zCall_y rfl (by decide) L S g)
theorem eX12_cellOf_68 (L : pmL) (S : List Value) (g : pmH) : pmV mX12_cellOf 68 L S g = zCeq mX12_cellOf 71 97 L S g := ez_if_eq kcX12_cellOf dX12_cellOf_68 (by decide) rfl L S g
theorem eX12_cellOf_71 (L : pmL) (S : List Value) (g : pmH) : pmV mX12_cellOf 71 L S g = zLdA mX12_cellOf 72 0 L S g := ez_aload_n kcX12_cellOf dX12_cellOf_71 rfl rfl L S g
theorem eX12_cellOf_72 (L : pmL) (S : List Value) (g : pmH) : pmV mX12_cellOf 72 L S g = zLdA mX12_cellOf 73 0 L S g := ez_aload_n kcX12_cellOf dX12_cellOf_72 rfl rfl L S g
theorem eX12_cellOf_73 (L : pmL) (S : List Value) (g : pmH) : pmV mX12_cellOf 73 L S g = zGet mX12_cellOf 76 12 20 L S g := ez_getfield kcX12_cellOf dX12_cellOf_73 fl_12_78 rfl L S g
theorem eX12_cellOf_76 (L : pmL) (S : List Value) (g : pmH) : pmV mX12_cellOf 76 L S g = zPush mX12_cellOf 78 (.int (-9)) L S g := ez_bipush kcX12_cellOf dX12_cellOf_76 (by decide) rfl L S g
theorem eX12_cellOf_78 (L : pmL) (S : List Value) (g : pmH) : pmV mX12_cellOf 78 L S g = zBne mX12_cellOf 81 88 L S g := ez_icmp_ne kcX12_cellOf dX12_cellOf_78 (by decide) rfl L S g
theorem eX12_cellOf_81 (L : pmL) (S : List Value) (g : pmH) : pmV mX12_cellOf 81 L S g = zLdA mX12_cellOf 82 0 L S g := ez_aload_n kcX12_cellOf dX12_cellOf_81 rfl rfl L S g
theorem eX12_cellOf_82 (L : pmL) (S : List Value) (g : pmH) : pmV mX12_cellOf 82 L S g = zGet mX12_cellOf 85 12 19 L S g := ez_getfield kcX12_cellOf dX12_cellOf_82 fl_12_81 rfl L S g
theorem eX12_cellOf_85 (L : pmL) (S : List Value) (g : pmH) : pmV mX12_cellOf 85 L S g = zNx mX12_cellOf 92 L S g := ez_goto kcX12_cellOf dX12_cellOf_85 (by decide) L S g
theorem eX12_cellOf_88 (L : pmL) (S : List Value) (g : pmH) : pmV mX12_cellOf 88 L S g = zLdA mX12_cellOf 89 0 L S g := ez_aload_n kcX12_cellOf dX12_cellOf_88 rfl rfl L S g
theorem eX12_cellOf_89 (L : pmL) (S : List Value) (g : pmH) : pmV mX12_cellOf 89 L S g = zGet mX12_cellOf 92 12 20 L S g := ez_getfield kcX12_cellOf dX12_cellOf_89 fl_12_78 rfl L S g
theorem eX12_cellOf_92 (L : pmL) (S : List Value) (g : pmH) : pmV mX12_cellOf 92 L S g = zPut mX12_cellOf 95 12 20 L S g := ez_putfield kcX12_cellOf dX12_cellOf_92 fl_12_78 rfl L S g
theorem eX12_cellOf_95 (L : pmL) (S : List Value) (g : pmH) : pmV mX12_cellOf 95 L S g = zPush mX12_cellOf 96 (.int (nI 0)) L S g := ez_iconst kcX12_cellOf dX12_cellOf_95 (by decide) rfl L S g
theorem eX12_cellOf_96 (L : pmL) (S : List Value) (g : pmH) : pmV mX12_cellOf 96 L S g = zIret mX12_cellOf S g := ez_ireturn kcX12_cellOf dX12_cellOf_96 L S g
theorem eX12_cellOf_97 (L : pmL) (S : List Value) (g : pmH) : pmV mX12_cellOf 97 L S g = zLdA mX12_cellOf 98 0 L S g := ez_aload_n kcX12_cellOf dX12_cellOf_97 rfl rfl L S g
theorem eX12_cellOf_98 (L : pmL) (S : List Value) (g : pmH) : pmV mX12_cellOf 98 L S g = zDup mX12_cellOf 99 L S g := ez_dup kcX12_cellOf dX12_cellOf_98 rfl L S g
theorem eX12_cellOf_99 (L : pmL) (S : List Value) (g : pmH) : pmV mX12_cellOf 99 L S g = zGet mX12_cellOf 102 12 19 L S g := ez_getfield kcX12_cellOf dX12_cellOf_99 fl_12_81 rfl L S g
theorem eX12_cellOf_102 (L : pmL) (S : List Value) (g : pmH) : pmV mX12_cellOf 102 L S g = zPush mX12_cellOf 103 (.int (nI 1)) L S g := ez_iconst kcX12_cellOf dX12_cellOf_102 (by decide) rfl L S g
theorem eX12_cellOf_103 (L : pmL) (S : List Value) (g : pmH) : pmV mX12_cellOf 103 L S g = zAdd mX12_cellOf 104 L S g := ez_iadd kcX12_cellOf dX12_cellOf_103 rfl L S g
theorem eX12_cellOf_104 (L : pmL) (S : List Value) (g : pmH) : pmV mX12_cellOf 104 L S g = zPut mX12_cellOf 107 12 19 L S g := ez_putfield kcX12_cellOf dX12_cellOf_104 fl_12_81 rfl L S g
theorem eX12_cellOf_107 (L : pmL) (S : List Value) (g : pmH) : pmV mX12_cellOf 107 L S g = zLdI mX12_cellOf 108 3 L S g := ez_iload_n kcX12_cellOf dX12_cellOf_107 rfl rfl L S g
theorem eX12_cellOf_108 (L : pmL) (S : List Value) (g : pmH) : pmV mX12_cellOf 108 L S g = zIret mX12_cellOf S g := ez_ireturn kcX12_cellOf dX12_cellOf_108 L S g
theorem eX12_figureOf_0 (L : pmL) (S : List Value) (g : pmH) : pmV mX12_figureOf 0 L S g = zLdA mX12_figureOf 1 0 L S g := ez_aload_n kcX12_figureOf dX12_figureOf_0 rfl rfl L S g
theorem eX12_figureOf_1 (L : pmL) (S : List Value) (g : pmH) : pmV mX12_figureOf 1 L S g = zGet mX12_figureOf 4 12 20 L S g := ez_getfield kcX12_figureOf dX12_figureOf_1 fl_12_78 rfl L S g
theorem eX12_figureOf_4 (L : pmL) (S : List Value) (g : pmH) : pmV mX12_figureOf 4 L S g = zPush mX12_figureOf 6 (.int (-9)) L S g := ez_bipush kcX12_figureOf dX12_figureOf_4 (by decide) rfl L S g
theorem eX12_figureOf_6 (L : pmL) (S : List Value) (g : pmH) : pmV mX12_figureOf 6 L S g = zBne mX12_figureOf 9 24 L S g := ez_icmp_ne kcX12_figureOf dX12_figureOf_6 (by decide) rfl L S g
theorem eX12_figureOf_9 (L : pmL) (S : List Value) (g : pmH) : pmV mX12_figureOf 9 L S g = zLdA mX12_figureOf 10 0 L S g := ez_aload_n kcX12_figureOf dX12_figureOf_9 rfl rfl L S g
theorem eX12_figureOf_10 (L : pmL) (S : List Value) (g : pmH) : pmV mX12_figureOf 10 L S g = zGet mX12_figureOf 13 12 19 L S g := ez_getfield kcX12_figureOf dX12_figureOf_10 fl_12_81 rfl L S g
theorem eX12_figureOf_13 (L : pmL) (S : List Value) (g : pmH) : pmV mX12_figureOf 13 L S g = zLdA mX12_figureOf 14 0 L S g := ez_aload_n kcX12_figureOf dX12_figureOf_13 rfl rfl L S g
theorem eX12_figureOf_14 (L : pmL) (S : List Value) (g : pmH) : pmV mX12_figureOf 14 L S g = zGet mX12_figureOf 17 12 18 L S g := ez_getfield kcX12_figureOf dX12_figureOf_14 fl_12_75 rfl L S g
theorem eX12_figureOf_17 (L : pmL) (S : List Value) (g : pmH) : pmV mX12_figureOf 17 L S g = zBge mX12_figureOf 20 24 L S g := ez_icmp_ge kcX12_figureOf dX12_figureOf_17 (by decide) rfl L S g
theorem eX12_figureOf_20 (L : pmL) (S : List Value) (g : pmH) : pmV mX12_figureOf 20 L S g = zPush mX12_figureOf 21 (.int (nI 1)) L S g := ez_iconst kcX12_figureOf dX12_figureOf_20 (by decide) rfl L S g
theorem eX12_figureOf_21 (L : pmL) (S : List Value) (g : pmH) : pmV mX12_figureOf 21 L S g = zNx mX12_figureOf 25 L S g := ez_goto kcX12_figureOf dX12_figureOf_21 (by decide) L S g
theorem eX12_figureOf_24 (L : pmL) (S : List Value) (g : pmH) : pmV mX12_figureOf 24 L S g = zPush mX12_figureOf 25 (.int (nI 0)) L S g := ez_iconst kcX12_figureOf dX12_figureOf_24 (by decide) rfl L S g
theorem eX12_figureOf_25 (L : pmL) (S : List Value) (g : pmH) : pmV mX12_figureOf 25 L S g = zStI mX12_figureOf 26 2 L S g := ez_istore_n kcX12_figureOf dX12_figureOf_25 rfl rfl L S g
theorem eX12_figureOf_26 (L : pmL) (S : List Value) (g : pmH) : pmV mX12_figureOf 26 L S g = zLdI mX12_figureOf 27 2 L S g := ez_iload_n kcX12_figureOf dX12_figureOf_26 rfl rfl L S g
theorem eX12_figureOf_27 (L : pmL) (S : List Value) (g : pmH) : pmV mX12_figureOf 27 L S g = zCeq mX12_figureOf 30 45 L S g := ez_if_eq kcX12_figureOf dX12_figureOf_27 (by decide) rfl L S g
theorem eX12_figureOf_30 (L : pmL) (S : List Value) (g : pmH) : pmV mX12_figureOf 30 L S g = zLdA mX12_figureOf 31 0 L S g := ez_aload_n kcX12_figureOf dX12_figureOf_30 rfl rfl L S g
theorem eX12_figureOf_31 (L : pmL) (S : List Value) (g : pmH) : pmV mX12_figureOf 31 L S g = zGet mX12_figureOf 34 12 17 L S g := ez_getfield kcX12_figureOf dX12_figureOf_31 fl_12_40 rfl L S g
theorem eX12_figureOf_34 (L : pmL) (S : List Value) (g : pmH) : pmV mX12_figureOf 34 L S g = zLdA mX12_figureOf 35 0 L S g := ez_aload_n kcX12_figureOf dX12_figureOf_34 rfl rfl L S g
theorem eX12_figureOf_35 (L : pmL) (S : List Value) (g : pmH) : pmV mX12_figureOf 35 L S g = zGet mX12_figureOf 38 12 19 L S g := ez_getfield kcX12_figureOf dX12_figureOf_35 fl_12_81 rfl L S g
theorem eX12_figureOf_38 (L : pmL) (S : List Value) (g : pmH) : pmV mX12_figureOf 38 L S g = zIald mX12_figureOf 39 L S g := ez_iaload kcX12_figureOf dX12_figureOf_38 rfl L S g
theorem eX12_figureOf_39 (L : pmL) (S : List Value) (g : pmH) : pmV mX12_figureOf 39 L S g = zPush mX12_figureOf 41 (.int (nI 48)) L S g := ez_bipush kcX12_figureOf dX12_figureOf_39 (by decide) rfl L S g
theorem eX12_figureOf_41 (L : pmL) (S : List Value) (g : pmH) : pmV mX12_figureOf 41 L S g = zSub mX12_figureOf 42 L S g := ez_isub kcX12_figureOf dX12_figureOf_41 rfl L S g
theorem eX12_figureOf_42 (L : pmL) (S : List Value) (g : pmH) : pmV mX12_figureOf 42 L S g = zNx mX12_figureOf 46 L S g := ez_goto kcX12_figureOf dX12_figureOf_42 (by decide) L S g
theorem eX12_figureOf_45 (L : pmL) (S : List Value) (g : pmH) : pmV mX12_figureOf 45 L S g = zPush mX12_figureOf 46 (.int (nI 0)) L S g := ez_iconst kcX12_figureOf dX12_figureOf_45 (by decide) rfl L S g
theorem eX12_figureOf_46 (L : pmL) (S : List Value) (g : pmH) : pmV mX12_figureOf 46 L S g = zStI mX12_figureOf 47 3 L S g := ez_istore_n kcX12_figureOf dX12_figureOf_46 rfl rfl L S g
theorem eX12_figureOf_47 (L : pmL) (S : List Value) (g : pmH) : pmV mX12_figureOf 47 L S g = zLdI mX12_figureOf 48 2 L S g := ez_iload_n kcX12_figureOf dX12_figureOf_47 rfl rfl L S g
theorem eX12_figureOf_48 (L : pmL) (S : List Value) (g : pmH) : pmV mX12_figureOf 48 L S g = zCeq mX12_figureOf 51 62 L S g := ez_if_eq kcX12_figureOf dX12_figureOf_48 (by decide) rfl L S g
theorem eX12_figureOf_51 (L : pmL) (S : List Value) (g : pmH) : pmV mX12_figureOf 51 L S g = zLdI mX12_figureOf 52 3 L S g := ez_iload_n kcX12_figureOf dX12_figureOf_51 rfl rfl L S g
theorem eX12_figureOf_52 (L : pmL) (S : List Value) (g : pmH) : pmV mX12_figureOf 52 L S g = zI2l mX12_figureOf 53 L S g := ez_i2l kcX12_figureOf dX12_figureOf_52 rfl L S g
theorem eX12_figureOf_53 (L : pmL) (S : List Value) (g : pmH) : pmV mX12_figureOf 53 L S g = zPush mX12_figureOf 54 (.long (lN 0)) L S g := ez_lconst kcX12_figureOf dX12_figureOf_53 rfl rfl L S g
theorem eX12_figureOf_54 (L : pmL) (S : List Value) (g : pmH) : pmV mX12_figureOf 54 L S g = zLdI mX12_figureOf 55 1 L S g := ez_iload_n kcX12_figureOf dX12_figureOf_54 rfl rfl L S g
theorem eX12_figureOf_55 (L : pmL) (S : List Value) (g : pmH) : pmV mX12_figureOf 55 L S g = zI2l mX12_figureOf 56 L S g := ez_i2l kcX12_figureOf dX12_figureOf_55 rfl L S g
theorem eX12_figureOf_56 (L : pmL) (S : List Value) (g : pmH) : pmV mX12_figureOf 56 L S g = yS mX12_figureOf 59 3 mX12_in 6 L S g := (ez_static kcX12_figureOf dX12_figureOf_56 ml_12_71 (by decide) rfl L S g).trans (zCall_y rfl (by decide) L S g)
theorem eX12_figureOf_59 (L : pmL) (S : List Value) (g : pmH) : pmV mX12_figureOf 59 L S g = zCne mX12_figureOf 62 88 L S g := ez_if_ne kcX12_figureOf dX12_figureOf_59 (by decide) rfl L S g
theorem eX12_figureOf_62 (L : pmL) (S : List Value) (g : pmH) : pmV mX12_figureOf 62 L S g = zLdA mX12_figureOf 63 0 L S g := ez_aload_n kcX12_figureOf dX12_figureOf_62 rfl rfl L S g
theorem eX12_figureOf_63 (L : pmL) (S : List Value) (g : pmH) : pmV mX12_figureOf 63 L S g = zLdA mX12_figureOf 64 0 L S g := ez_aload_n kcX12_figureOf dX12_figureOf_63 rfl rfl L S g
theorem eX12_figureOf_64 (L : pmL) (S : List Value) (g : pmH) : pmV mX12_figureOf 64 L S g = zGet mX12_figureOf 67 12 20 L S g := ez_getfield kcX12_figureOf dX12_figureOf_64 fl_12_78 rfl L S g
theorem eX12_figureOf_67 (L : pmL) (S : List Value) (g : pmH) : pmV mX12_figureOf 67 L S g = zPush mX12_figureOf 69 (.int (-9)) L S g := ez_bipush kcX12_figureOf dX12_figureOf_67 (by decide) rfl L S g
theorem eX12_figureOf_69 (L : pmL) (S : List Value) (g : pmH) : pmV mX12_figureOf 69 L S g = zBne mX12_figureOf 72 79 L S g := ez_icmp_ne kcX12_figureOf dX12_figureOf_69 (by decide) rfl L S g
theorem eX12_figureOf_72 (L : pmL) (S : List Value) (g : pmH) : pmV mX12_figureOf 72 L S g = zLdA mX12_figureOf 73 0 L S g := ez_aload_n kcX12_figureOf dX12_figureOf_72 rfl rfl L S g
theorem eX12_figureOf_73 (L : pmL) (S : List Value) (g : pmH) : pmV mX12_figureOf 73 L S g = zGet mX12_figureOf 76 12 19 L S g := ez_getfield kcX12_figureOf dX12_figureOf_73 fl_12_81 rfl L S g
theorem eX12_figureOf_76 (L : pmL) (S : List Value) (g : pmH) : pmV mX12_figureOf 76 L S g = zNx mX12_figureOf 83 L S g := ez_goto kcX12_figureOf dX12_figureOf_76 (by decide) L S g
theorem eX12_figureOf_79 (L : pmL) (S : List Value) (g : pmH) : pmV mX12_figureOf 79 L S g = zLdA mX12_figureOf 80 0 L S g := ez_aload_n kcX12_figureOf dX12_figureOf_79 rfl rfl L S g
theorem eX12_figureOf_80 (L : pmL) (S : List Value) (g : pmH) : pmV mX12_figureOf 80 L S g = zGet mX12_figureOf 83 12 20 L S g := ez_getfield kcX12_figureOf dX12_figureOf_80 fl_12_78 rfl L S g
theorem eX12_figureOf_83 (L : pmL) (S : List Value) (g : pmH) : pmV mX12_figureOf 83 L S g = zPut mX12_figureOf 86 12 20 L S g := ez_putfield kcX12_figureOf dX12_figureOf_83 fl_12_78 rfl L S g
theorem eX12_figureOf_86 (L : pmL) (S : List Value) (g : pmH) : pmV mX12_figureOf 86 L S g = zPush mX12_figureOf 87 (.int (nI 0)) L S g := ez_iconst kcX12_figureOf dX12_figureOf_86 (by decide) rfl L S g
theorem eX12_figureOf_87 (L : pmL) (S : List Value) (g : pmH) : pmV mX12_figureOf 87 L S g = zIret mX12_figureOf S g := ez_ireturn kcX12_figureOf dX12_figureOf_87 L S g
theorem eX12_figureOf_88 (L : pmL) (S : List Value) (g : pmH) : pmV mX12_figureOf 88 L S g = zLdA mX12_figureOf 89 0 L S g := ez_aload_n kcX12_figureOf dX12_figureOf_88 rfl rfl L S g
theorem eX12_figureOf_89 (L : pmL) (S : List Value) (g : pmH) : pmV mX12_figureOf 89 L S g = zDup mX12_figureOf 90 L S g := ez_dup kcX12_figureOf dX12_figureOf_89 rfl L S g
theorem eX12_figureOf_90 (L : pmL) (S : List Value) (g : pmH) : pmV mX12_figureOf 90 L S g = zGet mX12_figureOf 93 12 19 L S g := ez_getfield kcX12_figureOf dX12_figureOf_90 fl_12_81 rfl L S g
theorem eX12_figureOf_93 (L : pmL) (S : List Value) (g : pmH) : pmV mX12_figureOf 93 L S g = zPush mX12_figureOf 94 (.int (nI 1)) L S g := ez_iconst kcX12_figureOf dX12_figureOf_93 (by decide) rfl L S g
theorem eX12_figureOf_94 (L : pmL) (S : List Value) (g : pmH) : pmV mX12_figureOf 94 L S g = zAdd mX12_figureOf 95 L S g := ez_iadd kcX12_figureOf dX12_figureOf_94 rfl L S g
theorem eX12_figureOf_95 (L : pmL) (S : List Value) (g : pmH) : pmV mX12_figureOf 95 L S g = zPut mX12_figureOf 98 12 19 L S g := ez_putfield kcX12_figureOf dX12_figureOf_95 fl_12_81 rfl L S g
theorem eX12_figureOf_98 (L : pmL) (S : List Value) (g : pmH) : pmV mX12_figureOf 98 L S g = zLdI mX12_figureOf 99 3 L S g := ez_iload_n kcX12_figureOf dX12_figureOf_98 rfl rfl L S g
theorem eX12_figureOf_99 (L : pmL) (S : List Value) (g : pmH) : pmV mX12_figureOf 99 L S g = zIret mX12_figureOf S g := ez_ireturn kcX12_figureOf dX12_figureOf_99 L S g
theorem eX12_readText_0 (L : pmL) (S : List Value) (g : pmH) : pmV mX12_readText 0 L S g = zLdA mX12_readText 1 0 L S g := ez_aload_n kcX12_readText dX12_readText_0 rfl rfl L S g
theorem eX12_readText_1 (L : pmL) (S : List Value) (g : pmH) : pmV mX12_readText 1 L S g = zPush mX12_readText 2 (.int (nI 0)) L S g := ez_iconst kcX12_readText dX12_readText_1 (by decide) rfl L S g
theorem eX12_readText_2 (L : pmL) (S : List Value) (g : pmH) : pmV mX12_readText 2 L S g = zPut mX12_readText 5 12 19 L S g := ez_putfield kcX12_readText dX12_readText_2 fl_12_81 rfl L S g
theorem eX12_readText_5 (L : pmL) (S : List Value) (g : pmH) : pmV mX12_readText 5 L S g = zLdA mX12_readText 6 0 L S g := ez_aload_n kcX12_readText dX12_readText_5 rfl rfl L S g
theorem eX12_readText_6 (L : pmL) (S : List Value) (g : pmH) : pmV mX12_readText 6 L S g = zPush mX12_readText 8 (.int (-9)) L S g := ez_bipush kcX12_readText dX12_readText_6 (by decide) rfl L S g
theorem eX12_readText_8 (L : pmL) (S : List Value) (g : pmH) : pmV mX12_readText 8 L S g = zPut mX12_readText 11 12 20 L S g := ez_putfield kcX12_readText dX12_readText_8 fl_12_78 rfl L S g
theorem eX12_readText_11 (L : pmL) (S : List Value) (g : pmH) : pmV mX12_readText 11 L S g = zLdA mX12_readText 12 0 L S g := ez_aload_n kcX12_readText dX12_readText_11 rfl rfl L S g
theorem eX12_readText_12 (L : pmL) (S : List Value) (g : pmH) : pmV mX12_readText 12 L S g = zPush mX12_readText 13 (.int (nI 0)) L S g := ez_iconst kcX12_readText dX12_readText_12 (by decide) rfl L S g
theorem eX12_readText_13 (L : pmL) (S : List Value) (g : pmH) : pmV mX12_readText 13 L S g = zPut mX12_readText 16 12 13 L S g := ez_putfield kcX12_readText dX12_readText_13 fl_12_90 rfl L S g
theorem eX12_readText_16 (L : pmL) (S : List Value) (g : pmH) : pmV mX12_readText 16 L S g = zLdA mX12_readText 17 0 L S g := ez_aload_n kcX12_readText dX12_readText_16 rfl rfl L S g
theorem eX12_readText_17 (L : pmL) (S : List Value) (g : pmH) : pmV mX12_readText 17 L S g = zPush mX12_readText 18 (.int (nI 0)) L S g := ez_iconst kcX12_readText dX12_readText_17 (by decide) rfl L S g
theorem eX12_readText_18 (L : pmL) (S : List Value) (g : pmH) : pmV mX12_readText 18 L S g = zPut mX12_readText 21 12 14 L S g := ez_putfield kcX12_readText dX12_readText_18 fl_12_93 rfl L S g
theorem eX12_readText_21 (L : pmL) (S : List Value) (g : pmH) : pmV mX12_readText 21 L S g = zLdA mX12_readText 22 0 L S g := ez_aload_n kcX12_readText dX12_readText_21 rfl rfl L S g
theorem eX12_readText_22 (L : pmL) (S : List Value) (g : pmH) : pmV mX12_readText 22 L S g = zPush mX12_readText 23 (.int (nI 0)) L S g := ez_iconst kcX12_readText dX12_readText_22 (by decide) rfl L S g
theorem eX12_readText_23 (L : pmL) (S : List Value) (g : pmH) : pmV mX12_readText 23 L S g = zPut mX12_readText 26 12 15 L S g := ez_putfield kcX12_readText dX12_readText_23 fl_12_96 rfl L S g
theorem eX12_readText_26 (L : pmL) (S : List Value) (g : pmH) : pmV mX12_readText 26 L S g = zLdA mX12_readText 27 0 L S g := ez_aload_n kcX12_readText dX12_readText_26 rfl rfl L S g
theorem eX12_readText_27 (L : pmL) (S : List Value) (g : pmH) : pmV mX12_readText 27 L S g = zPush mX12_readText 28 (.int (nI 0)) L S g := ez_iconst kcX12_readText dX12_readText_27 (by decide) rfl L S g
theorem eX12_readText_28 (L : pmL) (S : List Value) (g : pmH) : pmV mX12_readText 28 L S g = zPut mX12_readText 31 12 16 L S g := ez_putfield kcX12_readText dX12_readText_28 fl_12_99 rfl L S g
theorem eX12_readText_31 (L : pmL) (S : List Value) (g : pmH) : pmV mX12_readText 31 L S g = zLdA mX12_readText 32 0 L S g := ez_aload_n kcX12_readText dX12_readText_31 rfl rfl L S g
theorem eX12_readText_32 (L : pmL) (S : List Value) (g : pmH) : pmV mX12_readText 32 L S g = zGet mX12_readText 35 12 18 L S g := ez_getfield kcX12_readText dX12_readText_32 fl_12_75 rfl L S g
theorem eX12_readText_35 (L : pmL) (S : List Value) (g : pmH) : pmV mX12_readText 35 L S g = zCeq mX12_readText 38 49 L S g := ez_if_eq kcX12_readText dX12_readText_35 (by decide) rfl L S g
theorem eX12_readText_38 (L : pmL) (S : List Value) (g : pmH) : pmV mX12_readText 38 L S g = zLdA mX12_readText 39 0 L S g := ez_aload_n kcX12_readText dX12_readText_38 rfl rfl L S g
theorem eX12_readText_39 (L : pmL) (S : List Value) (g : pmH) : pmV mX12_readText 39 L S g = zGet mX12_readText 42 12 17 L S g := ez_getfield kcX12_readText dX12_readText_39 fl_12_40 rfl L S g
theorem eX12_readText_42 (L : pmL) (S : List Value) (g : pmH) : pmV mX12_readText 42 L S g = zPush mX12_readText 43 (.int (nI 0)) L S g := ez_iconst kcX12_readText dX12_readText_42 (by decide) rfl L S g
theorem eX12_readText_43 (L : pmL) (S : List Value) (g : pmH) : pmV mX12_readText 43 L S g = zIald mX12_readText 44 L S g := ez_iaload kcX12_readText dX12_readText_43 rfl L S g
theorem eX12_readText_44 (L : pmL) (S : List Value) (g : pmH) : pmV mX12_readText 44 L S g = zPush mX12_readText 46 (.int (nI 67)) L S g := ez_bipush kcX12_readText dX12_readText_44 (by decide) rfl L S g
theorem eX12_readText_46 (L : pmL) (S : List Value) (g : pmH) : pmV mX12_readText 46 L S g = zBeq mX12_readText 49 51 L S g := ez_icmp_eq kcX12_readText dX12_readText_46 (by decide) rfl L S g
theorem eX12_readText_49 (L : pmL) (S : List Value) (g : pmH) : pmV mX12_readText 49 L S g = zPush mX12_readText 50 (.int (nI 0)) L S g := ez_iconst kcX12_readText dX12_readText_49 (by decide) rfl L S g
theorem eX12_readText_50 (L : pmL) (S : List Value) (g : pmH) : pmV mX12_readText 50 L S g = zIret mX12_readText S g := ez_ireturn kcX12_readText dX12_readText_50 L S g
theorem eX12_readText_51 (L : pmL) (S : List Value) (g : pmH) : pmV mX12_readText 51 L S g = zLdA mX12_readText 52 0 L S g := ez_aload_n kcX12_readText dX12_readText_51 rfl rfl L S g
theorem eX12_readText_52 (L : pmL) (S : List Value) (g : pmH) : pmV mX12_readText 52 L S g = zPush mX12_readText 53 (.int (nI 1)) L S g := ez_iconst kcX12_readText dX12_readText_52 (by decide) rfl L S g
theorem eX12_readText_53 (L : pmL) (S : List Value) (g : pmH) : pmV mX12_readText 53 L S g = zPut mX12_readText 56 12 19 L S g := ez_putfield kcX12_readText dX12_readText_53 fl_12_81 rfl L S g
theorem eX12_readText_56 (L : pmL) (S : List Value) (g : pmH) : pmV mX12_readText 56 L S g = zLdA mX12_readText 57 0 L S g := ez_aload_n kcX12_readText dX12_readText_56 rfl rfl L S g
theorem eX12_readText_57 (L : pmL) (S : List Value) (g : pmH) : pmV mX12_readText 57 L S g = zGet mX12_readText 60 12 20 L S g := ez_getfield kcX12_readText dX12_readText_57 fl_12_78 rfl L S g
theorem eX12_readText_60 (L : pmL) (S : List Value) (g : pmH) : pmV mX12_readText 60 L S g = zPush mX12_readText 62 (.int (-9)) L S g := ez_bipush kcX12_readText dX12_readText_60 (by decide) rfl L S g
theorem eX12_readText_62 (L : pmL) (S : List Value) (g : pmH) : pmV mX12_readText 62 L S g = zBne mX12_readText 65 92 L S g := ez_icmp_ne kcX12_readText dX12_readText_62 (by decide) rfl L S g
theorem eX12_readText_65 (L : pmL) (S : List Value) (g : pmH) : pmV mX12_readText 65 L S g = zLdA mX12_readText 66 0 L S g := ez_aload_n kcX12_readText dX12_readText_65 rfl rfl L S g
theorem eX12_readText_66 (L : pmL) (S : List Value) (g : pmH) : pmV mX12_readText 66 L S g = zGet mX12_readText 69 12 19 L S g := ez_getfield kcX12_readText dX12_readText_66 fl_12_81 rfl L S g
theorem eX12_readText_69 (L : pmL) (S : List Value) (g : pmH) : pmV mX12_readText 69 L S g = zLdA mX12_readText 70 0 L S g := ez_aload_n kcX12_readText dX12_readText_69 rfl rfl L S g
theorem eX12_readText_70 (L : pmL) (S : List Value) (g : pmH) : pmV mX12_readText 70 L S g = zGet mX12_readText 73 12 18 L S g := ez_getfield kcX12_readText dX12_readText_70 fl_12_75 rfl L S g
theorem eX12_readText_73 (L : pmL) (S : List Value) (g : pmH) : pmV mX12_readText 73 L S g = zBge mX12_readText 76 92 L S g := ez_icmp_ge kcX12_readText dX12_readText_73 (by decide) rfl L S g
theorem eX12_readText_76 (L : pmL) (S : List Value) (g : pmH) : pmV mX12_readText 76 L S g = zLdA mX12_readText 77 0 L S g := ez_aload_n kcX12_readText dX12_readText_76 rfl rfl L S g
theorem eX12_readText_77 (L : pmL) (S : List Value) (g : pmH) : pmV mX12_readText 77 L S g = zLdA mX12_readText 78 0 L S g := ez_aload_n kcX12_readText dX12_readText_77 rfl rfl L S g
theorem eX12_readText_78 (L : pmL) (S : List Value) (g : pmH) : pmV mX12_readText 78 L S g = zGet mX12_readText 81 12 17 L S g := ez_getfield kcX12_readText dX12_readText_78 fl_12_40 rfl L S g
theorem eX12_readText_81 (L : pmL) (S : List Value) (g : pmH) : pmV mX12_readText 81 L S g = zLdA mX12_readText 82 0 L S g := ez_aload_n kcX12_readText dX12_readText_81 rfl rfl L S g
theorem eX12_readText_82 (L : pmL) (S : List Value) (g : pmH) : pmV mX12_readText 82 L S g = zGet mX12_readText 85 12 19 L S g := ez_getfield kcX12_readText dX12_readText_82 fl_12_81 rfl L S g
theorem eX12_readText_85 (L : pmL) (S : List Value) (g : pmH) : pmV mX12_readText 85 L S g = zIald mX12_readText 86 L S g := ez_iaload kcX12_readText dX12_readText_85 rfl L S g
theorem eX12_readText_86 (L : pmL) (S : List Value) (g : pmH) : pmV mX12_readText 86 L S g = yV mX12_readText 89 1 mX12_readPart 12 2 L S g := (ez_virtual kcX12_readText dX12_readText_86 ml_12_102 rfl L S g).trans (zCallV_y rfl rfl (by decide) L S g)
theorem eX12_readText_89 (L : pmL) (S : List Value) (g : pmH) : pmV mX12_readText 89 L S g = zNx mX12_readText 56 L S g := ez_goto kcX12_readText dX12_readText_89 (by decide) L S g
theorem eX12_readText_92 (L : pmL) (S : List Value) (g : pmH) : pmV mX12_readText 92 L S g = zLdA mX12_readText 93 0 L S g := ez_aload_n kcX12_readText dX12_readText_92 rfl rfl L S g
theorem eX12_readText_93 (L : pmL) (S : List Value) (g : pmH) : pmV mX12_readText 93 L S g = zGet mX12_readText 96 12 20 L S g := ez_getfield kcX12_readText dX12_readText_93 fl_12_78 rfl L S g
theorem eX12_readText_96 (L : pmL) (S : List Value) (g : pmH) : pmV mX12_readText 96 L S g = zIret mX12_readText S g := ez_ireturn kcX12_readText dX12_readText_96 L S g
theorem eX12_readPart_0 (L : pmL) (S : List Value) (g : pmH) : pmV mX12_readPart 0 L S g = zLdI mX12_readPart 1 1 L S g := ez_iload_n kcX12_readPart dX12_readPart_0 rfl rfl L S g
theorem eX12_readPart_1 (L : pmL) (S : List Value) (g : pmH) : pmV mX12_readPart 1 L S g = zPush mX12_readPart 3 (.int (nI 87)) L S g := ez_bipush kcX12_readPart dX12_readPart_1 (by decide) rfl L S g
theorem eX12_readPart_3 (L : pmL) (S : List Value) (g : pmH) : pmV mX12_readPart 3 L S g = zBne mX12_readPart 6 51 L S g := ez_icmp_ne kcX12_readPart dX12_readPart_3 (by decide) rfl L S g
theorem eX12_readPart_6 (L : pmL) (S : List Value) (g : pmH) : pmV mX12_readPart 6 L S g = zLdA mX12_readPart 7 0 L S g := ez_aload_n kcX12_readPart dX12_readPart_6 rfl rfl L S g
theorem eX12_readPart_7 (L : pmL) (S : List Value) (g : pmH) : pmV mX12_readPart 7 L S g = zGet mX12_readPart 10 12 13 L S g := ez_getfield kcX12_readPart dX12_readPart_7 fl_12_90 rfl L S g
theorem eX12_readPart_10 (L : pmL) (S : List Value) (g : pmH) : pmV mX12_readPart 10 L S g = zPush mX12_readPart 11 (.int (nI 4)) L S g := ez_iconst kcX12_readPart dX12_readPart_10 (by decide) rfl L S g
theorem eX12_readPart_11 (L : pmL) (S : List Value) (g : pmH) : pmV mX12_readPart 11 L S g = zBge mX12_readPart 14 51 L S g := ez_icmp_ge kcX12_readPart dX12_readPart_11 (by decide) rfl L S g
theorem eX12_readPart_14 (L : pmL) (S : List Value) (g : pmH) : pmV mX12_readPart 14 L S g = zLdA mX12_readPart 15 0 L S g := ez_aload_n kcX12_readPart dX12_readPart_14 rfl rfl L S g
theorem eX12_readPart_15 (L : pmL) (S : List Value) (g : pmH) : pmV mX12_readPart 15 L S g = zDup mX12_readPart 16 L S g := ez_dup kcX12_readPart dX12_readPart_15 rfl L S g
theorem eX12_readPart_16 (L : pmL) (S : List Value) (g : pmH) : pmV mX12_readPart 16 L S g = zGet mX12_readPart 19 12 19 L S g := ez_getfield kcX12_readPart dX12_readPart_16 fl_12_81 rfl L S g
theorem eX12_readPart_19 (L : pmL) (S : List Value) (g : pmH) : pmV mX12_readPart 19 L S g = zPush mX12_readPart 20 (.int (nI 1)) L S g := ez_iconst kcX12_readPart dX12_readPart_19 (by decide) rfl L S g
theorem eX12_readPart_20 (L : pmL) (S : List Value) (g : pmH) : pmV mX12_readPart 20 L S g = zAdd mX12_readPart 21 L S g := ez_iadd kcX12_readPart dX12_readPart_20 rfl L S g
theorem eX12_readPart_21 (L : pmL) (S : List Value) (g : pmH) : pmV mX12_readPart 21 L S g = zPut mX12_readPart 24 12 19 L S g := ez_putfield kcX12_readPart dX12_readPart_21 fl_12_81 rfl L S g
theorem eX12_readPart_24 (L : pmL) (S : List Value) (g : pmH) : pmV mX12_readPart 24 L S g = zLdA mX12_readPart 25 0 L S g := ez_aload_n kcX12_readPart dX12_readPart_24 rfl rfl L S g
theorem eX12_readPart_25 (L : pmL) (S : List Value) (g : pmH) : pmV mX12_readPart 25 L S g = zGet mX12_readPart 28 12 10 L S g := ez_getfield kcX12_readPart dX12_readPart_25 fl_12_31 rfl L S g
theorem eX12_readPart_28 (L : pmL) (S : List Value) (g : pmH) : pmV mX12_readPart 28 L S g = zLdA mX12_readPart 29 0 L S g := ez_aload_n kcX12_readPart dX12_readPart_28 rfl rfl L S g
theorem eX12_readPart_29 (L : pmL) (S : List Value) (g : pmH) : pmV mX12_readPart 29 L S g = zGet mX12_readPart 32 12 13 L S g := ez_getfield kcX12_readPart dX12_readPart_29 fl_12_90 rfl L S g
theorem eX12_readPart_32 (L : pmL) (S : List Value) (g : pmH) : pmV mX12_readPart 32 L S g = zLdA mX12_readPart 33 0 L S g := ez_aload_n kcX12_readPart dX12_readPart_32 rfl rfl L S g
theorem eX12_readPart_33 (L : pmL) (S : List Value) (g : pmH) : pmV mX12_readPart 33 L S g = zPush mX12_readPart 34 (.int (nI 4)) L S g := ez_iconst kcX12_readPart dX12_readPart_33 (by decide) rfl L S g
theorem eX12_readPart_34 (L : pmL) (S : List Value) (g : pmH) : pmV mX12_readPart 34 L S g = yV mX12_readPart 37 1 mX12_figureOf 12 4 L S g := (ez_virtual kcX12_readPart dX12_readPart_34 ml_12_106 rfl L S g).trans (zCallV_y rfl rfl (by decide) L S g)
theorem eX12_readPart_37 (L : pmL) (S : List Value) (g : pmH) : pmV mX12_readPart 37 L S g = zIast mX12_readPart 38 L S g := ez_iastore kcX12_readPart dX12_readPart_37 rfl L S g
theorem eX12_readPart_38 (L : pmL) (S : List Value) (g : pmH) : pmV mX12_readPart 38 L S g = zLdA mX12_readPart 39 0 L S g := ez_aload_n kcX12_readPart dX12_readPart_38 rfl rfl L S g
theorem eX12_readPart_39 (L : pmL) (S : List Value) (g : pmH) : pmV mX12_readPart 39 L S g = zDup mX12_readPart 40 L S g := ez_dup kcX12_readPart dX12_readPart_39 rfl L S g
theorem eX12_readPart_40 (L : pmL) (S : List Value) (g : pmH) : pmV mX12_readPart 40 L S g = zGet mX12_readPart 43 12 13 L S g := ez_getfield kcX12_readPart dX12_readPart_40 fl_12_90 rfl L S g
theorem eX12_readPart_43 (L : pmL) (S : List Value) (g : pmH) : pmV mX12_readPart 43 L S g = zPush mX12_readPart 44 (.int (nI 1)) L S g := ez_iconst kcX12_readPart dX12_readPart_43 (by decide) rfl L S g
theorem eX12_readPart_44 (L : pmL) (S : List Value) (g : pmH) : pmV mX12_readPart 44 L S g = zAdd mX12_readPart 45 L S g := ez_iadd kcX12_readPart dX12_readPart_44 rfl L S g
theorem eX12_readPart_45 (L : pmL) (S : List Value) (g : pmH) : pmV mX12_readPart 45 L S g = zPut mX12_readPart 48 12 13 L S g := ez_putfield kcX12_readPart dX12_readPart_45 fl_12_90 rfl L S g
theorem eX12_readPart_48 (L : pmL) (S : List Value) (g : pmH) : pmV mX12_readPart 48 L S g = zNx mX12_readPart 263 L S g := ez_goto kcX12_readPart dX12_readPart_48 (by decide) L S g
theorem eX12_readPart_51 (L : pmL) (S : List Value) (g : pmH) : pmV mX12_readPart 51 L S g = zLdI mX12_readPart 52 1 L S g := ez_iload_n kcX12_readPart dX12_readPart_51 rfl rfl L S g
theorem eX12_readPart_52 (L : pmL) (S : List Value) (g : pmH) : pmV mX12_readPart 52 L S g = zPush mX12_readPart 54 (.int (nI 66)) L S g := ez_bipush kcX12_readPart dX12_readPart_52 (by decide) rfl L S g
theorem eX12_readPart_54 (L : pmL) (S : List Value) (g : pmH) : pmV mX12_readPart 54 L S g = zBne mX12_readPart 57 140 L S g := ez_icmp_ne kcX12_readPart dX12_readPart_54 (by decide) rfl L S g
theorem eX12_readPart_57 (L : pmL) (S : List Value) (g : pmH) : pmV mX12_readPart 57 L S g = zLdA mX12_readPart 58 0 L S g := ez_aload_n kcX12_readPart dX12_readPart_57 rfl rfl L S g
theorem eX12_readPart_58 (L : pmL) (S : List Value) (g : pmH) : pmV mX12_readPart 58 L S g = zGet mX12_readPart 61 12 14 L S g := ez_getfield kcX12_readPart dX12_readPart_58 fl_12_93 rfl L S g
theorem eX12_readPart_61 (L : pmL) (S : List Value) (g : pmH) : pmV mX12_readPart 61 L S g = zPush mX12_readPart 62 (.int (nI 5)) L S g := ez_iconst kcX12_readPart dX12_readPart_61 (by decide) rfl L S g
theorem eX12_readPart_62 (L : pmL) (S : List Value) (g : pmH) : pmV mX12_readPart 62 L S g = zBge mX12_readPart 65 140 L S g := ez_icmp_ge kcX12_readPart dX12_readPart_62 (by decide) rfl L S g
theorem eX12_readPart_65 (L : pmL) (S : List Value) (g : pmH) : pmV mX12_readPart 65 L S g = zLdA mX12_readPart 66 0 L S g := ez_aload_n kcX12_readPart dX12_readPart_65 rfl rfl L S g
theorem eX12_readPart_66 (L : pmL) (S : List Value) (g : pmH) : pmV mX12_readPart 66 L S g = zDup mX12_readPart 67 L S g := ez_dup kcX12_readPart dX12_readPart_66 rfl L S g
theorem eX12_readPart_67 (L : pmL) (S : List Value) (g : pmH) : pmV mX12_readPart 67 L S g = zGet mX12_readPart 70 12 19 L S g := ez_getfield kcX12_readPart dX12_readPart_67 fl_12_81 rfl L S g
theorem eX12_readPart_70 (L : pmL) (S : List Value) (g : pmH) : pmV mX12_readPart 70 L S g = zPush mX12_readPart 71 (.int (nI 1)) L S g := ez_iconst kcX12_readPart dX12_readPart_70 (by decide) rfl L S g
theorem eX12_readPart_71 (L : pmL) (S : List Value) (g : pmH) : pmV mX12_readPart 71 L S g = zAdd mX12_readPart 72 L S g := ez_iadd kcX12_readPart dX12_readPart_71 rfl L S g
theorem eX12_readPart_72 (L : pmL) (S : List Value) (g : pmH) : pmV mX12_readPart 72 L S g = zPut mX12_readPart 75 12 19 L S g := ez_putfield kcX12_readPart dX12_readPart_72 fl_12_81 rfl L S g
theorem eX12_readPart_75 (L : pmL) (S : List Value) (g : pmH) : pmV mX12_readPart 75 L S g = zLdA mX12_readPart 76 0 L S g := ez_aload_n kcX12_readPart dX12_readPart_75 rfl rfl L S g
theorem eX12_readPart_76 (L : pmL) (S : List Value) (g : pmH) : pmV mX12_readPart 76 L S g = zGet mX12_readPart 79 12 11 L S g := ez_getfield kcX12_readPart dX12_readPart_76 fl_12_34 rfl L S g
theorem eX12_readPart_79 (L : pmL) (S : List Value) (g : pmH) : pmV mX12_readPart 79 L S g = zPush mX12_readPart 80 (.int (nI 3)) L S g := ez_iconst kcX12_readPart dX12_readPart_79 (by decide) rfl L S g
theorem eX12_readPart_80 (L : pmL) (S : List Value) (g : pmH) : pmV mX12_readPart 80 L S g = zLdA mX12_readPart 81 0 L S g := ez_aload_n kcX12_readPart dX12_readPart_80 rfl rfl L S g
theorem eX12_readPart_81 (L : pmL) (S : List Value) (g : pmH) : pmV mX12_readPart 81 L S g = zGet mX12_readPart 84 12 14 L S g := ez_getfield kcX12_readPart dX12_readPart_81 fl_12_93 rfl L S g
theorem eX12_readPart_84 (L : pmL) (S : List Value) (g : pmH) : pmV mX12_readPart 84 L S g = zMul mX12_readPart 85 L S g := ez_imul kcX12_readPart dX12_readPart_84 rfl L S g
theorem eX12_readPart_85 (L : pmL) (S : List Value) (g : pmH) : pmV mX12_readPart 85 L S g = zLdA mX12_readPart 86 0 L S g := ez_aload_n kcX12_readPart dX12_readPart_85 rfl rfl L S g
theorem eX12_readPart_86 (L : pmL) (S : List Value) (g : pmH) : pmV mX12_readPart 86 L S g = zPush mX12_readPart 87 (.int (nI 0)) L S g := ez_iconst kcX12_readPart dX12_readPart_86 (by decide) rfl L S g
theorem eX12_readPart_87 (L : pmL) (S : List Value) (g : pmH) : pmV mX12_readPart 87 L S g = yV mX12_readPart 90 1 mX12_cellOf 12 4 L S g := (ez_virtual kcX12_readPart dX12_readPart_87 ml_12_110 rfl L S g).trans (zCallV_y rfl rfl (by decide) L S g)
theorem eX12_readPart_90 (L : pmL) (S : List Value) (g : pmH) : pmV mX12_readPart 90 L S g = zIast mX12_readPart 91 L S g := ez_iastore kcX12_readPart dX12_readPart_90 rfl L S g
theorem eX12_readPart_91 (L : pmL) (S : List Value) (g : pmH) : pmV mX12_readPart 91 L S g = zLdA mX12_readPart 92 0 L S g := ez_aload_n kcX12_readPart dX12_readPart_91 rfl rfl L S g
theorem eX12_readPart_92 (L : pmL) (S : List Value) (g : pmH) : pmV mX12_readPart 92 L S g = zGet mX12_readPart 95 12 11 L S g := ez_getfield kcX12_readPart dX12_readPart_92 fl_12_34 rfl L S g
theorem eX12_readPart_95 (L : pmL) (S : List Value) (g : pmH) : pmV mX12_readPart 95 L S g = zPush mX12_readPart 96 (.int (nI 3)) L S g := ez_iconst kcX12_readPart dX12_readPart_95 (by decide) rfl L S g
theorem eX12_readPart_96 (L : pmL) (S : List Value) (g : pmH) : pmV mX12_readPart 96 L S g = zLdA mX12_readPart 97 0 L S g := ez_aload_n kcX12_readPart dX12_readPart_96 rfl rfl L S g
theorem eX12_readPart_97 (L : pmL) (S : List Value) (g : pmH) : pmV mX12_readPart 97 L S g = zGet mX12_readPart 100 12 14 L S g := ez_getfield kcX12_readPart dX12_readPart_97 fl_12_93 rfl L S g
theorem eX12_readPart_100 (L : pmL) (S : List Value) (g : pmH) : pmV mX12_readPart 100 L S g = zMul mX12_readPart 101 L S g := ez_imul kcX12_readPart dX12_readPart_100 rfl L S g
theorem eX12_readPart_101 (L : pmL) (S : List Value) (g : pmH) : pmV mX12_readPart 101 L S g = zPush mX12_readPart 102 (.int (nI 1)) L S g := ez_iconst kcX12_readPart dX12_readPart_101 (by decide) rfl L S g
theorem eX12_readPart_102 (L : pmL) (S : List Value) (g : pmH) : pmV mX12_readPart 102 L S g = zAdd mX12_readPart 103 L S g := ez_iadd kcX12_readPart dX12_readPart_102 rfl L S g
theorem eX12_readPart_103 (L : pmL) (S : List Value) (g : pmH) : pmV mX12_readPart 103 L S g = zLdA mX12_readPart 104 0 L S g := ez_aload_n kcX12_readPart dX12_readPart_103 rfl rfl L S g
theorem eX12_readPart_104 (L : pmL) (S : List Value) (g : pmH) : pmV mX12_readPart 104 L S g = zPush mX12_readPart 105 (.int (nI 3)) L S g := ez_iconst kcX12_readPart dX12_readPart_104 (by decide) rfl L S g
theorem eX12_readPart_105 (L : pmL) (S : List Value) (g : pmH) : pmV mX12_readPart 105 L S g = yV mX12_readPart 108 1 mX12_figureOf 12 4 L S g := (ez_virtual kcX12_readPart dX12_readPart_105 ml_12_106 rfl L S g).trans (zCallV_y rfl rfl (by decide) L S g)
theorem eX12_readPart_108 (L : pmL) (S : List Value) (g : pmH) : pmV mX12_readPart 108 L S g = zIast mX12_readPart 109 L S g := ez_iastore kcX12_readPart dX12_readPart_108 rfl L S g
theorem eX12_readPart_109 (L : pmL) (S : List Value) (g : pmH) : pmV mX12_readPart 109 L S g = zLdA mX12_readPart 110 0 L S g := ez_aload_n kcX12_readPart dX12_readPart_109 rfl rfl L S g
theorem eX12_readPart_110 (L : pmL) (S : List Value) (g : pmH) : pmV mX12_readPart 110 L S g = zGet mX12_readPart 113 12 11 L S g := ez_getfield kcX12_readPart dX12_readPart_110 fl_12_34 rfl L S g
theorem eX12_readPart_113 (L : pmL) (S : List Value) (g : pmH) : pmV mX12_readPart 113 L S g = zPush mX12_readPart 114 (.int (nI 3)) L S g := ez_iconst kcX12_readPart dX12_readPart_113 (by decide) rfl L S g
theorem eX12_readPart_114 (L : pmL) (S : List Value) (g : pmH) : pmV mX12_readPart 114 L S g = zLdA mX12_readPart 115 0 L S g := ez_aload_n kcX12_readPart dX12_readPart_114 rfl rfl L S g
theorem eX12_readPart_115 (L : pmL) (S : List Value) (g : pmH) : pmV mX12_readPart 115 L S g = zGet mX12_readPart 118 12 14 L S g := ez_getfield kcX12_readPart dX12_readPart_115 fl_12_93 rfl L S g
theorem eX12_readPart_118 (L : pmL) (S : List Value) (g : pmH) : pmV mX12_readPart 118 L S g = zMul mX12_readPart 119 L S g := ez_imul kcX12_readPart dX12_readPart_118 rfl L S g
theorem eX12_readPart_119 (L : pmL) (S : List Value) (g : pmH) : pmV mX12_readPart 119 L S g = zPush mX12_readPart 120 (.int (nI 2)) L S g := ez_iconst kcX12_readPart dX12_readPart_119 (by decide) rfl L S g
theorem eX12_readPart_120 (L : pmL) (S : List Value) (g : pmH) : pmV mX12_readPart 120 L S g = zAdd mX12_readPart 121 L S g := ez_iadd kcX12_readPart dX12_readPart_120 rfl L S g
theorem eX12_readPart_121 (L : pmL) (S : List Value) (g : pmH) : pmV mX12_readPart 121 L S g = zLdA mX12_readPart 122 0 L S g := ez_aload_n kcX12_readPart dX12_readPart_121 rfl rfl L S g
theorem eX12_readPart_122 (L : pmL) (S : List Value) (g : pmH) : pmV mX12_readPart 122 L S g = zPush mX12_readPart 123 (.int (nI 3)) L S g := ez_iconst kcX12_readPart dX12_readPart_122 (by decide) rfl L S g
theorem eX12_readPart_123 (L : pmL) (S : List Value) (g : pmH) : pmV mX12_readPart 123 L S g = yV mX12_readPart 126 1 mX12_figureOf 12 4 L S g := (ez_virtual kcX12_readPart dX12_readPart_123 ml_12_106 rfl L S g).trans (zCallV_y rfl rfl (by decide) L S g)
theorem eX12_readPart_126 (L : pmL) (S : List Value) (g : pmH) : pmV mX12_readPart 126 L S g = zIast mX12_readPart 127 L S g := ez_iastore kcX12_readPart dX12_readPart_126 rfl L S g
theorem eX12_readPart_127 (L : pmL) (S : List Value) (g : pmH) : pmV mX12_readPart 127 L S g = zLdA mX12_readPart 128 0 L S g := ez_aload_n kcX12_readPart dX12_readPart_127 rfl rfl L S g
theorem eX12_readPart_128 (L : pmL) (S : List Value) (g : pmH) : pmV mX12_readPart 128 L S g = zDup mX12_readPart 129 L S g := ez_dup kcX12_readPart dX12_readPart_128 rfl L S g
theorem eX12_readPart_129 (L : pmL) (S : List Value) (g : pmH) : pmV mX12_readPart 129 L S g = zGet mX12_readPart 132 12 14 L S g := ez_getfield kcX12_readPart dX12_readPart_129 fl_12_93 rfl L S g
theorem eX12_readPart_132 (L : pmL) (S : List Value) (g : pmH) : pmV mX12_readPart 132 L S g = zPush mX12_readPart 133 (.int (nI 1)) L S g := ez_iconst kcX12_readPart dX12_readPart_132 (by decide) rfl L S g
theorem eX12_readPart_133 (L : pmL) (S : List Value) (g : pmH) : pmV mX12_readPart 133 L S g = zAdd mX12_readPart 134 L S g := ez_iadd kcX12_readPart dX12_readPart_133 rfl L S g
theorem eX12_readPart_134 (L : pmL) (S : List Value) (g : pmH) : pmV mX12_readPart 134 L S g = zPut mX12_readPart 137 12 14 L S g := ez_putfield kcX12_readPart dX12_readPart_134 fl_12_93 rfl L S g
theorem eX12_readPart_137 (L : pmL) (S : List Value) (g : pmH) : pmV mX12_readPart 137 L S g = zNx mX12_readPart 263 L S g := ez_goto kcX12_readPart dX12_readPart_137 (by decide) L S g
theorem eX12_readPart_140 (L : pmL) (S : List Value) (g : pmH) : pmV mX12_readPart 140 L S g = zLdI mX12_readPart 141 1 L S g := ez_iload_n kcX12_readPart dX12_readPart_140 rfl rfl L S g
theorem eX12_readPart_141 (L : pmL) (S : List Value) (g : pmH) : pmV mX12_readPart 141 L S g = zPush mX12_readPart 143 (.int (nI 72)) L S g := ez_bipush kcX12_readPart dX12_readPart_141 (by decide) rfl L S g
theorem eX12_readPart_143 (L : pmL) (S : List Value) (g : pmH) : pmV mX12_readPart 143 L S g = zBne mX12_readPart 146 255 L S g := ez_icmp_ne kcX12_readPart dX12_readPart_143 (by decide) rfl L S g
theorem eX12_readPart_146 (L : pmL) (S : List Value) (g : pmH) : pmV mX12_readPart 146 L S g = zLdA mX12_readPart 147 0 L S g := ez_aload_n kcX12_readPart dX12_readPart_146 rfl rfl L S g
theorem eX12_readPart_147 (L : pmL) (S : List Value) (g : pmH) : pmV mX12_readPart 147 L S g = zGet mX12_readPart 150 12 15 L S g := ez_getfield kcX12_readPart dX12_readPart_147 fl_12_96 rfl L S g
theorem eX12_readPart_150 (L : pmL) (S : List Value) (g : pmH) : pmV mX12_readPart 150 L S g = zPush mX12_readPart 151 (.int (nI 4)) L S g := ez_iconst kcX12_readPart dX12_readPart_150 (by decide) rfl L S g
theorem eX12_readPart_151 (L : pmL) (S : List Value) (g : pmH) : pmV mX12_readPart 151 L S g = zBge mX12_readPart 154 255 L S g := ez_icmp_ge kcX12_readPart dX12_readPart_151 (by decide) rfl L S g
theorem eX12_readPart_154 (L : pmL) (S : List Value) (g : pmH) : pmV mX12_readPart 154 L S g = zLdA mX12_readPart 155 0 L S g := ez_aload_n kcX12_readPart dX12_readPart_154 rfl rfl L S g
theorem eX12_readPart_155 (L : pmL) (S : List Value) (g : pmH) : pmV mX12_readPart 155 L S g = zDup mX12_readPart 156 L S g := ez_dup kcX12_readPart dX12_readPart_155 rfl L S g
theorem eX12_readPart_156 (L : pmL) (S : List Value) (g : pmH) : pmV mX12_readPart 156 L S g = zGet mX12_readPart 159 12 19 L S g := ez_getfield kcX12_readPart dX12_readPart_156 fl_12_81 rfl L S g
theorem eX12_readPart_159 (L : pmL) (S : List Value) (g : pmH) : pmV mX12_readPart 159 L S g = zPush mX12_readPart 160 (.int (nI 1)) L S g := ez_iconst kcX12_readPart dX12_readPart_159 (by decide) rfl L S g
theorem eX12_readPart_160 (L : pmL) (S : List Value) (g : pmH) : pmV mX12_readPart 160 L S g = zAdd mX12_readPart 161 L S g := ez_iadd kcX12_readPart dX12_readPart_160 rfl L S g
theorem eX12_readPart_161 (L : pmL) (S : List Value) (g : pmH) : pmV mX12_readPart 161 L S g = zPut mX12_readPart 164 12 19 L S g := ez_putfield kcX12_readPart dX12_readPart_161 fl_12_81 rfl L S g
theorem eX12_readPart_164 (L : pmL) (S : List Value) (g : pmH) : pmV mX12_readPart 164 L S g = zLdA mX12_readPart 165 0 L S g := ez_aload_n kcX12_readPart dX12_readPart_164 rfl rfl L S g
theorem eX12_readPart_165 (L : pmL) (S : List Value) (g : pmH) : pmV mX12_readPart 165 L S g = zGet mX12_readPart 168 12 12 L S g := ez_getfield kcX12_readPart dX12_readPart_165 fl_12_37 rfl L S g
theorem eX12_readPart_168 (L : pmL) (S : List Value) (g : pmH) : pmV mX12_readPart 168 L S g = zPush mX12_readPart 169 (.int (nI 3)) L S g := ez_iconst kcX12_readPart dX12_readPart_168 (by decide) rfl L S g
theorem eX12_readPart_169 (L : pmL) (S : List Value) (g : pmH) : pmV mX12_readPart 169 L S g = zLdA mX12_readPart 170 0 L S g := ez_aload_n kcX12_readPart dX12_readPart_169 rfl rfl L S g
theorem eX12_readPart_170 (L : pmL) (S : List Value) (g : pmH) : pmV mX12_readPart 170 L S g = zGet mX12_readPart 173 12 15 L S g := ez_getfield kcX12_readPart dX12_readPart_170 fl_12_96 rfl L S g
theorem eX12_readPart_173 (L : pmL) (S : List Value) (g : pmH) : pmV mX12_readPart 173 L S g = zMul mX12_readPart 174 L S g := ez_imul kcX12_readPart dX12_readPart_173 rfl L S g
theorem eX12_readPart_174 (L : pmL) (S : List Value) (g : pmH) : pmV mX12_readPart 174 L S g = zLdA mX12_readPart 175 0 L S g := ez_aload_n kcX12_readPart dX12_readPart_174 rfl rfl L S g
theorem eX12_readPart_175 (L : pmL) (S : List Value) (g : pmH) : pmV mX12_readPart 175 L S g = zLdA mX12_readPart 176 0 L S g := ez_aload_n kcX12_readPart dX12_readPart_175 rfl rfl L S g
theorem eX12_readPart_176 (L : pmL) (S : List Value) (g : pmH) : pmV mX12_readPart 176 L S g = zGet mX12_readPart 179 12 16 L S g := ez_getfield kcX12_readPart dX12_readPart_176 fl_12_99 rfl L S g
theorem eX12_readPart_179 (L : pmL) (S : List Value) (g : pmH) : pmV mX12_readPart 179 L S g = yV mX12_readPart 182 1 mX12_cellOf 12 4 L S g := (ez_virtual kcX12_readPart dX12_readPart_179 ml_12_110 rfl L S g).trans (zCallV_y rfl rfl (by decide) L S g)
theorem eX12_readPart_182 (L : pmL) (S : List Value) (g : pmH) : pmV mX12_readPart 182 L S g = zIast mX12_readPart 183 L S g := ez_iastore kcX12_readPart dX12_readPart_182 rfl L S g
theorem eX12_readPart_183 (L : pmL) (S : List Value) (g : pmH) : pmV mX12_readPart 183 L S g = zLdA mX12_readPart 184 0 L S g := ez_aload_n kcX12_readPart dX12_readPart_183 rfl rfl L S g
theorem eX12_readPart_184 (L : pmL) (S : List Value) (g : pmH) : pmV mX12_readPart 184 L S g = zGet mX12_readPart 187 12 12 L S g := ez_getfield kcX12_readPart dX12_readPart_184 fl_12_37 rfl L S g
theorem eX12_readPart_187 (L : pmL) (S : List Value) (g : pmH) : pmV mX12_readPart 187 L S g = zPush mX12_readPart 188 (.int (nI 3)) L S g := ez_iconst kcX12_readPart dX12_readPart_187 (by decide) rfl L S g
theorem eX12_readPart_188 (L : pmL) (S : List Value) (g : pmH) : pmV mX12_readPart 188 L S g = zLdA mX12_readPart 189 0 L S g := ez_aload_n kcX12_readPart dX12_readPart_188 rfl rfl L S g
theorem eX12_readPart_189 (L : pmL) (S : List Value) (g : pmH) : pmV mX12_readPart 189 L S g = zGet mX12_readPart 192 12 15 L S g := ez_getfield kcX12_readPart dX12_readPart_189 fl_12_96 rfl L S g
theorem eX12_readPart_192 (L : pmL) (S : List Value) (g : pmH) : pmV mX12_readPart 192 L S g = zMul mX12_readPart 193 L S g := ez_imul kcX12_readPart dX12_readPart_192 rfl L S g
theorem eX12_readPart_193 (L : pmL) (S : List Value) (g : pmH) : pmV mX12_readPart 193 L S g = zPush mX12_readPart 194 (.int (nI 1)) L S g := ez_iconst kcX12_readPart dX12_readPart_193 (by decide) rfl L S g
theorem eX12_readPart_194 (L : pmL) (S : List Value) (g : pmH) : pmV mX12_readPart 194 L S g = zAdd mX12_readPart 195 L S g := ez_iadd kcX12_readPart dX12_readPart_194 rfl L S g
theorem eX12_readPart_195 (L : pmL) (S : List Value) (g : pmH) : pmV mX12_readPart 195 L S g = zLdA mX12_readPart 196 0 L S g := ez_aload_n kcX12_readPart dX12_readPart_195 rfl rfl L S g
theorem eX12_readPart_196 (L : pmL) (S : List Value) (g : pmH) : pmV mX12_readPart 196 L S g = zPush mX12_readPart 198 (.int (nI 9)) L S g := ez_bipush kcX12_readPart dX12_readPart_196 (by decide) rfl L S g
theorem eX12_readPart_198 (L : pmL) (S : List Value) (g : pmH) : pmV mX12_readPart 198 L S g = yV mX12_readPart 201 1 mX12_figureOf 12 4 L S g := (ez_virtual kcX12_readPart dX12_readPart_198 ml_12_106 rfl L S g).trans (zCallV_y rfl rfl (by decide) L S g)
theorem eX12_readPart_201 (L : pmL) (S : List Value) (g : pmH) : pmV mX12_readPart 201 L S g = zIast mX12_readPart 202 L S g := ez_iastore kcX12_readPart dX12_readPart_201 rfl L S g
theorem eX12_readPart_202 (L : pmL) (S : List Value) (g : pmH) : pmV mX12_readPart 202 L S g = zLdA mX12_readPart 203 0 L S g := ez_aload_n kcX12_readPart dX12_readPart_202 rfl rfl L S g
theorem eX12_readPart_203 (L : pmL) (S : List Value) (g : pmH) : pmV mX12_readPart 203 L S g = zGet mX12_readPart 206 12 12 L S g := ez_getfield kcX12_readPart dX12_readPart_203 fl_12_37 rfl L S g
theorem eX12_readPart_206 (L : pmL) (S : List Value) (g : pmH) : pmV mX12_readPart 206 L S g = zPush mX12_readPart 207 (.int (nI 3)) L S g := ez_iconst kcX12_readPart dX12_readPart_206 (by decide) rfl L S g
theorem eX12_readPart_207 (L : pmL) (S : List Value) (g : pmH) : pmV mX12_readPart 207 L S g = zLdA mX12_readPart 208 0 L S g := ez_aload_n kcX12_readPart dX12_readPart_207 rfl rfl L S g
theorem eX12_readPart_208 (L : pmL) (S : List Value) (g : pmH) : pmV mX12_readPart 208 L S g = zGet mX12_readPart 211 12 15 L S g := ez_getfield kcX12_readPart dX12_readPart_208 fl_12_96 rfl L S g
theorem eX12_readPart_211 (L : pmL) (S : List Value) (g : pmH) : pmV mX12_readPart 211 L S g = zMul mX12_readPart 212 L S g := ez_imul kcX12_readPart dX12_readPart_211 rfl L S g
theorem eX12_readPart_212 (L : pmL) (S : List Value) (g : pmH) : pmV mX12_readPart 212 L S g = zPush mX12_readPart 213 (.int (nI 2)) L S g := ez_iconst kcX12_readPart dX12_readPart_212 (by decide) rfl L S g
theorem eX12_readPart_213 (L : pmL) (S : List Value) (g : pmH) : pmV mX12_readPart 213 L S g = zAdd mX12_readPart 214 L S g := ez_iadd kcX12_readPart dX12_readPart_213 rfl L S g
theorem eX12_readPart_214 (L : pmL) (S : List Value) (g : pmH) : pmV mX12_readPart 214 L S g = zLdA mX12_readPart 215 0 L S g := ez_aload_n kcX12_readPart dX12_readPart_214 rfl rfl L S g
theorem eX12_readPart_215 (L : pmL) (S : List Value) (g : pmH) : pmV mX12_readPart 215 L S g = zPush mX12_readPart 216 (.int (nI 3)) L S g := ez_iconst kcX12_readPart dX12_readPart_215 (by decide) rfl L S g
theorem eX12_readPart_216 (L : pmL) (S : List Value) (g : pmH) : pmV mX12_readPart 216 L S g = yV mX12_readPart 219 1 mX12_figureOf 12 4 L S g := (ez_virtual kcX12_readPart dX12_readPart_216 ml_12_106 rfl L S g).trans (zCallV_y rfl rfl (by decide) L S g)
theorem eX12_readPart_219 (L : pmL) (S : List Value) (g : pmH) : pmV mX12_readPart 219 L S g = zIast mX12_readPart 220 L S g := ez_iastore kcX12_readPart dX12_readPart_219 rfl L S g
theorem eX12_readPart_220 (L : pmL) (S : List Value) (g : pmH) : pmV mX12_readPart 220 L S g = zLdA mX12_readPart 221 0 L S g := ez_aload_n kcX12_readPart dX12_readPart_220 rfl rfl L S g
theorem eX12_readPart_221 (L : pmL) (S : List Value) (g : pmH) : pmV mX12_readPart 221 L S g = zDup mX12_readPart 222 L S g := ez_dup kcX12_readPart dX12_readPart_221 rfl L S g
theorem eX12_readPart_222 (L : pmL) (S : List Value) (g : pmH) : pmV mX12_readPart 222 L S g = zGet mX12_readPart 225 12 16 L S g := ez_getfield kcX12_readPart dX12_readPart_222 fl_12_99 rfl L S g
theorem eX12_readPart_225 (L : pmL) (S : List Value) (g : pmH) : pmV mX12_readPart 225 L S g = zPush mX12_readPart 226 (.int (nI 1)) L S g := ez_iconst kcX12_readPart dX12_readPart_225 (by decide) rfl L S g
theorem eX12_readPart_226 (L : pmL) (S : List Value) (g : pmH) : pmV mX12_readPart 226 L S g = zLdA mX12_readPart 227 0 L S g := ez_aload_n kcX12_readPart dX12_readPart_226 rfl rfl L S g
theorem eX12_readPart_227 (L : pmL) (S : List Value) (g : pmH) : pmV mX12_readPart 227 L S g = zGet mX12_readPart 230 12 12 L S g := ez_getfield kcX12_readPart dX12_readPart_227 fl_12_37 rfl L S g
theorem eX12_readPart_230 (L : pmL) (S : List Value) (g : pmH) : pmV mX12_readPart 230 L S g = zPush mX12_readPart 231 (.int (nI 3)) L S g := ez_iconst kcX12_readPart dX12_readPart_230 (by decide) rfl L S g
theorem eX12_readPart_231 (L : pmL) (S : List Value) (g : pmH) : pmV mX12_readPart 231 L S g = zLdA mX12_readPart 232 0 L S g := ez_aload_n kcX12_readPart dX12_readPart_231 rfl rfl L S g
theorem eX12_readPart_232 (L : pmL) (S : List Value) (g : pmH) : pmV mX12_readPart 232 L S g = zGet mX12_readPart 235 12 15 L S g := ez_getfield kcX12_readPart dX12_readPart_232 fl_12_96 rfl L S g
theorem eX12_readPart_235 (L : pmL) (S : List Value) (g : pmH) : pmV mX12_readPart 235 L S g = zMul mX12_readPart 236 L S g := ez_imul kcX12_readPart dX12_readPart_235 rfl L S g
theorem eX12_readPart_236 (L : pmL) (S : List Value) (g : pmH) : pmV mX12_readPart 236 L S g = zIald mX12_readPart 237 L S g := ez_iaload kcX12_readPart dX12_readPart_236 rfl L S g
theorem eX12_readPart_237 (L : pmL) (S : List Value) (g : pmH) : pmV mX12_readPart 237 L S g = zShl mX12_readPart 238 L S g := ez_ishl kcX12_readPart dX12_readPart_237 rfl L S g
theorem eX12_readPart_238 (L : pmL) (S : List Value) (g : pmH) : pmV mX12_readPart 238 L S g = zOr mX12_readPart 239 L S g := ez_ior kcX12_readPart dX12_readPart_238 rfl L S g
theorem eX12_readPart_239 (L : pmL) (S : List Value) (g : pmH) : pmV mX12_readPart 239 L S g = zPut mX12_readPart 242 12 16 L S g := ez_putfield kcX12_readPart dX12_readPart_239 fl_12_99 rfl L S g
theorem eX12_readPart_242 (L : pmL) (S : List Value) (g : pmH) : pmV mX12_readPart 242 L S g = zLdA mX12_readPart 243 0 L S g := ez_aload_n kcX12_readPart dX12_readPart_242 rfl rfl L S g
theorem eX12_readPart_243 (L : pmL) (S : List Value) (g : pmH) : pmV mX12_readPart 243 L S g = zDup mX12_readPart 244 L S g := ez_dup kcX12_readPart dX12_readPart_243 rfl L S g
theorem eX12_readPart_244 (L : pmL) (S : List Value) (g : pmH) : pmV mX12_readPart 244 L S g = zGet mX12_readPart 247 12 15 L S g := ez_getfield kcX12_readPart dX12_readPart_244 fl_12_96 rfl L S g
theorem eX12_readPart_247 (L : pmL) (S : List Value) (g : pmH) : pmV mX12_readPart 247 L S g = zPush mX12_readPart 248 (.int (nI 1)) L S g := ez_iconst kcX12_readPart dX12_readPart_247 (by decide) rfl L S g
theorem eX12_readPart_248 (L : pmL) (S : List Value) (g : pmH) : pmV mX12_readPart 248 L S g = zAdd mX12_readPart 249 L S g := ez_iadd kcX12_readPart dX12_readPart_248 rfl L S g
theorem eX12_readPart_249 (L : pmL) (S : List Value) (g : pmH) : pmV mX12_readPart 249 L S g = zPut mX12_readPart 252 12 15 L S g := ez_putfield kcX12_readPart dX12_readPart_249 fl_12_96 rfl L S g
theorem eX12_readPart_252 (L : pmL) (S : List Value) (g : pmH) : pmV mX12_readPart 252 L S g = zNx mX12_readPart 263 L S g := ez_goto kcX12_readPart dX12_readPart_252 (by decide) L S g
theorem eX12_readPart_255 (L : pmL) (S : List Value) (g : pmH) : pmV mX12_readPart 255 L S g = zLdA mX12_readPart 256 0 L S g := ez_aload_n kcX12_readPart dX12_readPart_255 rfl rfl L S g
theorem eX12_readPart_256 (L : pmL) (S : List Value) (g : pmH) : pmV mX12_readPart 256 L S g = zLdA mX12_readPart 257 0 L S g := ez_aload_n kcX12_readPart dX12_readPart_256 rfl rfl L S g
theorem eX12_readPart_257 (L : pmL) (S : List Value) (g : pmH) : pmV mX12_readPart 257 L S g = zGet mX12_readPart 260 12 19 L S g := ez_getfield kcX12_readPart dX12_readPart_257 fl_12_81 rfl L S g
theorem eX12_readPart_260 (L : pmL) (S : List Value) (g : pmH) : pmV mX12_readPart 260 L S g = zPut mX12_readPart 263 12 20 L S g := ez_putfield kcX12_readPart dX12_readPart_260 fl_12_78 rfl L S g
theorem eX12_readPart_263 (L : pmL) (S : List Value) (g : pmH) : pmV mX12_readPart 263 L S g = zVret S g := ez_return kcX12_readPart dX12_readPart_263 rfl L S g
theorem eX12_fault_0 (L : pmL) (S : List Value) (g : pmH) : pmV mX12_fault 0 L S g = zLdA mX12_fault 1 0 L S g := ez_aload_n kcX12_fault dX12_fault_0 rfl rfl L S g
theorem eX12_fault_1 (L : pmL) (S : List Value) (g : pmH) : pmV mX12_fault 1 L S g = yV mX12_fault 4 0 mX12_readText 12 1 L S g := (ez_virtual kcX12_fault dX12_fault_1 ml_12_113 rfl L S g).trans (zCallV_y rfl rfl (by decide) L S g)
theorem eX12_fault_4 (L : pmL) (S : List Value) (g : pmH) : pmV mX12_fault 4 L S g = zIret mX12_fault S g := ez_ireturn kcX12_fault dX12_fault_4 L S g
theorem eX12_city_0 (L : pmL) (S : List Value) (g : pmH) : pmV mX12_city 0 L S g = zLdA mX12_city 1 0 L S g := ez_aload_n kcX12_city dX12_city_0 rfl rfl L S g
theorem eX12_city_1 (L : pmL) (S : List Value) (g : pmH) : pmV mX12_city 1 L S g = yV mX12_city 4 0 mX12_readText 12 1 L S g := (ez_virtual kcX12_city dX12_city_1 ml_12_113 rfl L S g).trans (zCallV_y rfl rfl (by decide) L S g)
theorem eX12_city_4 (L : pmL) (S : List Value) (g : pmH) : pmV mX12_city 4 L S g = zPush mX12_city 6 (.int (-9)) L S g := ez_bipush kcX12_city dX12_city_4 (by decide) rfl L S g
theorem eX12_city_6 (L : pmL) (S : List Value) (g : pmH) : pmV mX12_city 6 L S g = zBeq mX12_city 9 12 L S g := ez_icmp_eq kcX12_city dX12_city_6 (by decide) rfl L S g
theorem eX12_city_9 (L : pmL) (S : List Value) (g : pmH) : pmV mX12_city 9 L S g = zPush mX12_city 11 (.int (-3)) L S g := ez_bipush kcX12_city dX12_city_9 (by decide) rfl L S g
theorem eX12_city_11 (L : pmL) (S : List Value) (g : pmH) : pmV mX12_city 11 L S g = zIret mX12_city S g := ez_ireturn kcX12_city dX12_city_11 L S g
theorem eX12_city_12 (L : pmL) (S : List Value) (g : pmH) : pmV mX12_city 12 L S g = zLdA mX12_city 13 0 L S g := ez_aload_n kcX12_city dX12_city_12 rfl rfl L S g
theorem eX12_city_13 (L : pmL) (S : List Value) (g : pmH) : pmV mX12_city 13 L S g = zLdA mX12_city 14 0 L S g := ez_aload_n kcX12_city dX12_city_13 rfl rfl L S g
theorem eX12_city_14 (L : pmL) (S : List Value) (g : pmH) : pmV mX12_city 14 L S g = zGet mX12_city 17 12 13 L S g := ez_getfield kcX12_city dX12_city_14 fl_12_90 rfl L S g
theorem eX12_city_17 (L : pmL) (S : List Value) (g : pmH) : pmV mX12_city 17 L S g = zPut mX12_city 20 12 0 L S g := ez_putfield kcX12_city dX12_city_17 fl_12_117 rfl L S g
theorem eX12_city_20 (L : pmL) (S : List Value) (g : pmH) : pmV mX12_city 20 L S g = zLdA mX12_city 21 0 L S g := ez_aload_n kcX12_city dX12_city_20 rfl rfl L S g
theorem eX12_city_21 (L : pmL) (S : List Value) (g : pmH) : pmV mX12_city 21 L S g = zLdA mX12_city 22 0 L S g := ez_aload_n kcX12_city dX12_city_21 rfl rfl L S g
theorem eX12_city_22 (L : pmL) (S : List Value) (g : pmH) : pmV mX12_city 22 L S g = zGet mX12_city 25 12 14 L S g := ez_getfield kcX12_city dX12_city_22 fl_12_93 rfl L S g
theorem eX12_city_25 (L : pmL) (S : List Value) (g : pmH) : pmV mX12_city 25 L S g = zPut mX12_city 28 12 1 L S g := ez_putfield kcX12_city dX12_city_25 fl_12_120 rfl L S g
theorem eX12_city_28 (L : pmL) (S : List Value) (g : pmH) : pmV mX12_city 28 L S g = zLdA mX12_city 29 0 L S g := ez_aload_n kcX12_city dX12_city_28 rfl rfl L S g
theorem eX12_city_29 (L : pmL) (S : List Value) (g : pmH) : pmV mX12_city 29 L S g = zLdA mX12_city 30 0 L S g := ez_aload_n kcX12_city dX12_city_29 rfl rfl L S g
theorem eX12_city_30 (L : pmL) (S : List Value) (g : pmH) : pmV mX12_city 30 L S g = zGet mX12_city 33 12 15 L S g := ez_getfield kcX12_city dX12_city_30 fl_12_96 rfl L S g
theorem eX12_city_33 (L : pmL) (S : List Value) (g : pmH) : pmV mX12_city 33 L S g = zPut mX12_city 36 12 2 L S g := ez_putfield kcX12_city dX12_city_33 fl_12_123 rfl L S g
theorem eX12_city_36 (L : pmL) (S : List Value) (g : pmH) : pmV mX12_city 36 L S g = zPush mX12_city 37 (.int (nI 0)) L S g := ez_iconst kcX12_city dX12_city_36 (by decide) rfl L S g
theorem eX12_city_37 (L : pmL) (S : List Value) (g : pmH) : pmV mX12_city 37 L S g = zStI mX12_city 38 1 L S g := ez_istore_n kcX12_city dX12_city_37 rfl rfl L S g
theorem eX12_city_38 (L : pmL) (S : List Value) (g : pmH) : pmV mX12_city 38 L S g = zLdI mX12_city 39 1 L S g := ez_iload_n kcX12_city dX12_city_38 rfl rfl L S g
theorem eX12_city_39 (L : pmL) (S : List Value) (g : pmH) : pmV mX12_city 39 L S g = zPush mX12_city 41 (.int (nI 31)) L S g := ez_bipush kcX12_city dX12_city_39 (by decide) rfl L S g
theorem eX12_city_41 (L : pmL) (S : List Value) (g : pmH) : pmV mX12_city 41 L S g = zBge mX12_city 44 57 L S g := ez_icmp_ge kcX12_city dX12_city_41 (by decide) rfl L S g
theorem eX12_city_44 (L : pmL) (S : List Value) (g : pmH) : pmV mX12_city 44 L S g = zLdA mX12_city 45 0 L S g := ez_aload_n kcX12_city dX12_city_44 rfl rfl L S g
theorem eX12_city_45 (L : pmL) (S : List Value) (g : pmH) : pmV mX12_city 45 L S g = zGet mX12_city 48 12 9 L S g := ez_getfield kcX12_city dX12_city_45 fl_12_28 rfl L S g
theorem eX12_city_48 (L : pmL) (S : List Value) (g : pmH) : pmV mX12_city 48 L S g = zLdI mX12_city 49 1 L S g := ez_iload_n kcX12_city dX12_city_48 rfl rfl L S g
theorem eX12_city_49 (L : pmL) (S : List Value) (g : pmH) : pmV mX12_city 49 L S g = zPush mX12_city 50 (.int (nI 0)) L S g := ez_iconst kcX12_city dX12_city_49 (by decide) rfl L S g
theorem eX12_city_50 (L : pmL) (S : List Value) (g : pmH) : pmV mX12_city 50 L S g = zIast mX12_city 51 L S g := ez_iastore kcX12_city dX12_city_50 rfl L S g
theorem eX12_city_51 (L : pmL) (S : List Value) (g : pmH) : pmV mX12_city 51 L S g = zInc mX12_city 54 1 (nI 1) L S g := ez_iinc kcX12_city dX12_city_51 (by decide) rfl L S g
theorem eX12_city_54 (L : pmL) (S : List Value) (g : pmH) : pmV mX12_city 54 L S g = zNx mX12_city 38 L S g := ez_goto kcX12_city dX12_city_54 (by decide) L S g
theorem eX12_city_57 (L : pmL) (S : List Value) (g : pmH) : pmV mX12_city 57 L S g = zPush mX12_city 58 (.int (nI 0)) L S g := ez_iconst kcX12_city dX12_city_57 (by decide) rfl L S g
theorem eX12_city_58 (L : pmL) (S : List Value) (g : pmH) : pmV mX12_city 58 L S g = zStI mX12_city 59 1 L S g := ez_istore_n kcX12_city dX12_city_58 rfl rfl L S g
theorem eX12_city_59 (L : pmL) (S : List Value) (g : pmH) : pmV mX12_city 59 L S g = zLdI mX12_city 60 1 L S g := ez_iload_n kcX12_city dX12_city_59 rfl rfl L S g
theorem eX12_city_60 (L : pmL) (S : List Value) (g : pmH) : pmV mX12_city 60 L S g = zLdA mX12_city 61 0 L S g := ez_aload_n kcX12_city dX12_city_60 rfl rfl L S g
theorem eX12_city_61 (L : pmL) (S : List Value) (g : pmH) : pmV mX12_city 61 L S g = zGet mX12_city 64 12 0 L S g := ez_getfield kcX12_city dX12_city_61 fl_12_117 rfl L S g
theorem eX12_city_64 (L : pmL) (S : List Value) (g : pmH) : pmV mX12_city 64 L S g = zBge mX12_city 67 85 L S g := ez_icmp_ge kcX12_city dX12_city_64 (by decide) rfl L S g
theorem eX12_city_67 (L : pmL) (S : List Value) (g : pmH) : pmV mX12_city 67 L S g = zLdA mX12_city 68 0 L S g := ez_aload_n kcX12_city dX12_city_67 rfl rfl L S g
theorem eX12_city_68 (L : pmL) (S : List Value) (g : pmH) : pmV mX12_city 68 L S g = zGet mX12_city 71 12 3 L S g := ez_getfield kcX12_city dX12_city_68 fl_12_7 rfl L S g
theorem eX12_city_71 (L : pmL) (S : List Value) (g : pmH) : pmV mX12_city 71 L S g = zLdI mX12_city 72 1 L S g := ez_iload_n kcX12_city dX12_city_71 rfl rfl L S g
theorem eX12_city_72 (L : pmL) (S : List Value) (g : pmH) : pmV mX12_city 72 L S g = zLdA mX12_city 73 0 L S g := ez_aload_n kcX12_city dX12_city_72 rfl rfl L S g
theorem eX12_city_73 (L : pmL) (S : List Value) (g : pmH) : pmV mX12_city 73 L S g = zGet mX12_city 76 12 10 L S g := ez_getfield kcX12_city dX12_city_73 fl_12_31 rfl L S g
theorem eX12_city_76 (L : pmL) (S : List Value) (g : pmH) : pmV mX12_city 76 L S g = zLdI mX12_city 77 1 L S g := ez_iload_n kcX12_city dX12_city_76 rfl rfl L S g
theorem eX12_city_77 (L : pmL) (S : List Value) (g : pmH) : pmV mX12_city 77 L S g = zIald mX12_city 78 L S g := ez_iaload kcX12_city dX12_city_77 rfl L S g
theorem eX12_city_78 (L : pmL) (S : List Value) (g : pmH) : pmV mX12_city 78 L S g = zIast mX12_city 79 L S g := ez_iastore kcX12_city dX12_city_78 rfl L S g
theorem eX12_city_79 (L : pmL) (S : List Value) (g : pmH) : pmV mX12_city 79 L S g = zInc mX12_city 82 1 (nI 1) L S g := ez_iinc kcX12_city dX12_city_79 (by decide) rfl L S g
theorem eX12_city_82 (L : pmL) (S : List Value) (g : pmH) : pmV mX12_city 82 L S g = zNx mX12_city 59 L S g := ez_goto kcX12_city dX12_city_82 (by decide) L S g
theorem eX12_city_85 (L : pmL) (S : List Value) (g : pmH) : pmV mX12_city 85 L S g = zPush mX12_city 86 (.int (nI 0)) L S g := ez_iconst kcX12_city dX12_city_85 (by decide) rfl L S g
theorem eX12_city_86 (L : pmL) (S : List Value) (g : pmH) : pmV mX12_city 86 L S g = zStI mX12_city 87 1 L S g := ez_istore_n kcX12_city dX12_city_86 rfl rfl L S g
theorem eX12_city_87 (L : pmL) (S : List Value) (g : pmH) : pmV mX12_city 87 L S g = zLdI mX12_city 88 1 L S g := ez_iload_n kcX12_city dX12_city_87 rfl rfl L S g
theorem eX12_city_88 (L : pmL) (S : List Value) (g : pmH) : pmV mX12_city 88 L S g = zLdA mX12_city 89 0 L S g := ez_aload_n kcX12_city dX12_city_88 rfl rfl L S g
theorem eX12_city_89 (L : pmL) (S : List Value) (g : pmH) : pmV mX12_city 89 L S g = zGet mX12_city 92 12 1 L S g := ez_getfield kcX12_city dX12_city_89 fl_12_120 rfl L S g
theorem eX12_city_92 (L : pmL) (S : List Value) (g : pmH) : pmV mX12_city 92 L S g = zBge mX12_city 95 168 L S g := ez_icmp_ge kcX12_city dX12_city_92 (by decide) rfl L S g
theorem eX12_city_95 (L : pmL) (S : List Value) (g : pmH) : pmV mX12_city 95 L S g = zLdA mX12_city 96 0 L S g := ez_aload_n kcX12_city dX12_city_95 rfl rfl L S g
theorem eX12_city_96 (L : pmL) (S : List Value) (g : pmH) : pmV mX12_city 96 L S g = zGet mX12_city 99 12 9 L S g := ez_getfield kcX12_city dX12_city_96 fl_12_28 rfl L S g
theorem eX12_city_99 (L : pmL) (S : List Value) (g : pmH) : pmV mX12_city 99 L S g = zLdI mX12_city 100 1 L S g := ez_iload_n kcX12_city dX12_city_99 rfl rfl L S g
theorem eX12_city_100 (L : pmL) (S : List Value) (g : pmH) : pmV mX12_city 100 L S g = zLdA mX12_city 101 0 L S g := ez_aload_n kcX12_city dX12_city_100 rfl rfl L S g
theorem eX12_city_101 (L : pmL) (S : List Value) (g : pmH) : pmV mX12_city 101 L S g = zGet mX12_city 104 12 11 L S g := ez_getfield kcX12_city dX12_city_101 fl_12_34 rfl L S g
theorem eX12_city_104 (L : pmL) (S : List Value) (g : pmH) : pmV mX12_city 104 L S g = zPush mX12_city 105 (.int (nI 3)) L S g := ez_iconst kcX12_city dX12_city_104 (by decide) rfl L S g
theorem eX12_city_105 (L : pmL) (S : List Value) (g : pmH) : pmV mX12_city 105 L S g = zLdI mX12_city 106 1 L S g := ez_iload_n kcX12_city dX12_city_105 rfl rfl L S g
theorem eX12_city_106 (L : pmL) (S : List Value) (g : pmH) : pmV mX12_city 106 L S g = zMul mX12_city 107 L S g := ez_imul kcX12_city dX12_city_106 rfl L S g
theorem eX12_city_107 (L : pmL) (S : List Value) (g : pmH) : pmV mX12_city 107 L S g = zIald mX12_city 108 L S g := ez_iaload kcX12_city dX12_city_107 rfl L S g
theorem eX12_city_108 (L : pmL) (S : List Value) (g : pmH) : pmV mX12_city 108 L S g = zIast mX12_city 109 L S g := ez_iastore kcX12_city dX12_city_108 rfl L S g
theorem eX12_city_109 (L : pmL) (S : List Value) (g : pmH) : pmV mX12_city 109 L S g = zLdA mX12_city 110 0 L S g := ez_aload_n kcX12_city dX12_city_109 rfl rfl L S g
theorem eX12_city_110 (L : pmL) (S : List Value) (g : pmH) : pmV mX12_city 110 L S g = zGet mX12_city 113 12 4 L S g := ez_getfield kcX12_city dX12_city_110 fl_12_13 rfl L S g
theorem eX12_city_113 (L : pmL) (S : List Value) (g : pmH) : pmV mX12_city 113 L S g = zLdI mX12_city 114 1 L S g := ez_iload_n kcX12_city dX12_city_113 rfl rfl L S g
theorem eX12_city_114 (L : pmL) (S : List Value) (g : pmH) : pmV mX12_city 114 L S g = zLdA mX12_city 115 0 L S g := ez_aload_n kcX12_city dX12_city_114 rfl rfl L S g
theorem eX12_city_115 (L : pmL) (S : List Value) (g : pmH) : pmV mX12_city 115 L S g = zGet mX12_city 118 12 11 L S g := ez_getfield kcX12_city dX12_city_115 fl_12_34 rfl L S g
theorem eX12_city_118 (L : pmL) (S : List Value) (g : pmH) : pmV mX12_city 118 L S g = zPush mX12_city 119 (.int (nI 3)) L S g := ez_iconst kcX12_city dX12_city_118 (by decide) rfl L S g
theorem eX12_city_119 (L : pmL) (S : List Value) (g : pmH) : pmV mX12_city 119 L S g = zLdI mX12_city 120 1 L S g := ez_iload_n kcX12_city dX12_city_119 rfl rfl L S g
theorem eX12_city_120 (L : pmL) (S : List Value) (g : pmH) : pmV mX12_city 120 L S g = zMul mX12_city 121 L S g := ez_imul kcX12_city dX12_city_120 rfl L S g
theorem eX12_city_121 (L : pmL) (S : List Value) (g : pmH) : pmV mX12_city 121 L S g = zPush mX12_city 122 (.int (nI 1)) L S g := ez_iconst kcX12_city dX12_city_121 (by decide) rfl L S g
theorem eX12_city_122 (L : pmL) (S : List Value) (g : pmH) : pmV mX12_city 122 L S g = zAdd mX12_city 123 L S g := ez_iadd kcX12_city dX12_city_122 rfl L S g
theorem eX12_city_123 (L : pmL) (S : List Value) (g : pmH) : pmV mX12_city 123 L S g = zIald mX12_city 124 L S g := ez_iaload kcX12_city dX12_city_123 rfl L S g
theorem eX12_city_124 (L : pmL) (S : List Value) (g : pmH) : pmV mX12_city 124 L S g = zIast mX12_city 125 L S g := ez_iastore kcX12_city dX12_city_124 rfl L S g
theorem eX12_city_125 (L : pmL) (S : List Value) (g : pmH) : pmV mX12_city 125 L S g = zLdA mX12_city 126 0 L S g := ez_aload_n kcX12_city dX12_city_125 rfl rfl L S g
theorem eX12_city_126 (L : pmL) (S : List Value) (g : pmH) : pmV mX12_city 126 L S g = zGet mX12_city 129 12 5 L S g := ez_getfield kcX12_city dX12_city_126 fl_12_16 rfl L S g
theorem eX12_city_129 (L : pmL) (S : List Value) (g : pmH) : pmV mX12_city 129 L S g = zLdI mX12_city 130 1 L S g := ez_iload_n kcX12_city dX12_city_129 rfl rfl L S g
theorem eX12_city_130 (L : pmL) (S : List Value) (g : pmH) : pmV mX12_city 130 L S g = zLdA mX12_city 131 0 L S g := ez_aload_n kcX12_city dX12_city_130 rfl rfl L S g
theorem eX12_city_131 (L : pmL) (S : List Value) (g : pmH) : pmV mX12_city 131 L S g = zGet mX12_city 134 12 11 L S g := ez_getfield kcX12_city dX12_city_131 fl_12_34 rfl L S g
theorem eX12_city_134 (L : pmL) (S : List Value) (g : pmH) : pmV mX12_city 134 L S g = zPush mX12_city 135 (.int (nI 3)) L S g := ez_iconst kcX12_city dX12_city_134 (by decide) rfl L S g
theorem eX12_city_135 (L : pmL) (S : List Value) (g : pmH) : pmV mX12_city 135 L S g = zLdI mX12_city 136 1 L S g := ez_iload_n kcX12_city dX12_city_135 rfl rfl L S g
theorem eX12_city_136 (L : pmL) (S : List Value) (g : pmH) : pmV mX12_city 136 L S g = zMul mX12_city 137 L S g := ez_imul kcX12_city dX12_city_136 rfl L S g
theorem eX12_city_137 (L : pmL) (S : List Value) (g : pmH) : pmV mX12_city 137 L S g = zPush mX12_city 138 (.int (nI 2)) L S g := ez_iconst kcX12_city dX12_city_137 (by decide) rfl L S g
theorem eX12_city_138 (L : pmL) (S : List Value) (g : pmH) : pmV mX12_city 138 L S g = zAdd mX12_city 139 L S g := ez_iadd kcX12_city dX12_city_138 rfl L S g
theorem eX12_city_139 (L : pmL) (S : List Value) (g : pmH) : pmV mX12_city 139 L S g = zIald mX12_city 140 L S g := ez_iaload kcX12_city dX12_city_139 rfl L S g
theorem eX12_city_140 (L : pmL) (S : List Value) (g : pmH) : pmV mX12_city 140 L S g = zIast mX12_city 141 L S g := ez_iastore kcX12_city dX12_city_140 rfl L S g
theorem eX12_city_141 (L : pmL) (S : List Value) (g : pmH) : pmV mX12_city 141 L S g = zLdA mX12_city 142 0 L S g := ez_aload_n kcX12_city dX12_city_141 rfl rfl L S g
theorem eX12_city_142 (L : pmL) (S : List Value) (g : pmH) : pmV mX12_city 142 L S g = zGet mX12_city 145 12 9 L S g := ez_getfield kcX12_city dX12_city_142 fl_12_28 rfl L S g
theorem eX12_city_145 (L : pmL) (S : List Value) (g : pmH) : pmV mX12_city 145 L S g = zPush mX12_city 147 (.int (nI 15)) L S g := ez_bipush kcX12_city dX12_city_145 (by decide) rfl L S g
theorem eX12_city_147 (L : pmL) (S : List Value) (g : pmH) : pmV mX12_city 147 L S g = zLdI mX12_city 148 1 L S g := ez_iload_n kcX12_city dX12_city_147 rfl rfl L S g
theorem eX12_city_148 (L : pmL) (S : List Value) (g : pmH) : pmV mX12_city 148 L S g = zAdd mX12_city 149 L S g := ez_iadd kcX12_city dX12_city_148 rfl L S g
theorem eX12_city_149 (L : pmL) (S : List Value) (g : pmH) : pmV mX12_city 149 L S g = zPush mX12_city 151 (.int (-9)) L S g := ez_bipush kcX12_city dX12_city_149 (by decide) rfl L S g
theorem eX12_city_151 (L : pmL) (S : List Value) (g : pmH) : pmV mX12_city 151 L S g = zIast mX12_city 152 L S g := ez_iastore kcX12_city dX12_city_151 rfl L S g
theorem eX12_city_152 (L : pmL) (S : List Value) (g : pmH) : pmV mX12_city 152 L S g = zLdA mX12_city 153 0 L S g := ez_aload_n kcX12_city dX12_city_152 rfl rfl L S g
theorem eX12_city_153 (L : pmL) (S : List Value) (g : pmH) : pmV mX12_city 153 L S g = zGet mX12_city 156 12 9 L S g := ez_getfield kcX12_city dX12_city_153 fl_12_28 rfl L S g
theorem eX12_city_156 (L : pmL) (S : List Value) (g : pmH) : pmV mX12_city 156 L S g = zPush mX12_city 158 (.int (nI 25)) L S g := ez_bipush kcX12_city dX12_city_156 (by decide) rfl L S g
theorem eX12_city_158 (L : pmL) (S : List Value) (g : pmH) : pmV mX12_city 158 L S g = zLdI mX12_city 159 1 L S g := ez_iload_n kcX12_city dX12_city_158 rfl rfl L S g
theorem eX12_city_159 (L : pmL) (S : List Value) (g : pmH) : pmV mX12_city 159 L S g = zAdd mX12_city 160 L S g := ez_iadd kcX12_city dX12_city_159 rfl L S g
theorem eX12_city_160 (L : pmL) (S : List Value) (g : pmH) : pmV mX12_city 160 L S g = zLdI mX12_city 161 1 L S g := ez_iload_n kcX12_city dX12_city_160 rfl rfl L S g
theorem eX12_city_161 (L : pmL) (S : List Value) (g : pmH) : pmV mX12_city 161 L S g = zIast mX12_city 162 L S g := ez_iastore kcX12_city dX12_city_161 rfl L S g
theorem eX12_city_162 (L : pmL) (S : List Value) (g : pmH) : pmV mX12_city 162 L S g = zInc mX12_city 165 1 (nI 1) L S g := ez_iinc kcX12_city dX12_city_162 (by decide) rfl L S g
theorem eX12_city_165 (L : pmL) (S : List Value) (g : pmH) : pmV mX12_city 165 L S g = zNx mX12_city 87 L S g := ez_goto kcX12_city dX12_city_165 (by decide) L S g
theorem eX12_city_168 (L : pmL) (S : List Value) (g : pmH) : pmV mX12_city 168 L S g = zPush mX12_city 169 (.int (nI 0)) L S g := ez_iconst kcX12_city dX12_city_168 (by decide) rfl L S g
theorem eX12_city_169 (L : pmL) (S : List Value) (g : pmH) : pmV mX12_city 169 L S g = zStI mX12_city 170 1 L S g := ez_istore_n kcX12_city dX12_city_169 rfl rfl L S g
theorem eX12_city_170 (L : pmL) (S : List Value) (g : pmH) : pmV mX12_city 170 L S g = zLdI mX12_city 171 1 L S g := ez_iload_n kcX12_city dX12_city_170 rfl rfl L S g
theorem eX12_city_171 (L : pmL) (S : List Value) (g : pmH) : pmV mX12_city 171 L S g = zLdA mX12_city 172 0 L S g := ez_aload_n kcX12_city dX12_city_171 rfl rfl L S g
theorem eX12_city_172 (L : pmL) (S : List Value) (g : pmH) : pmV mX12_city 172 L S g = zGet mX12_city 175 12 2 L S g := ez_getfield kcX12_city dX12_city_172 fl_12_123 rfl L S g
theorem eX12_city_175 (L : pmL) (S : List Value) (g : pmH) : pmV mX12_city 175 L S g = zBge mX12_city 178 230 L S g := ez_icmp_ge kcX12_city dX12_city_175 (by decide) rfl L S g
theorem eX12_city_178 (L : pmL) (S : List Value) (g : pmH) : pmV mX12_city 178 L S g = zLdA mX12_city 179 0 L S g := ez_aload_n kcX12_city dX12_city_178 rfl rfl L S g
theorem eX12_city_179 (L : pmL) (S : List Value) (g : pmH) : pmV mX12_city 179 L S g = zGet mX12_city 182 12 6 L S g := ez_getfield kcX12_city dX12_city_179 fl_12_19 rfl L S g
theorem eX12_city_182 (L : pmL) (S : List Value) (g : pmH) : pmV mX12_city 182 L S g = zLdI mX12_city 183 1 L S g := ez_iload_n kcX12_city dX12_city_182 rfl rfl L S g
theorem eX12_city_183 (L : pmL) (S : List Value) (g : pmH) : pmV mX12_city 183 L S g = zLdA mX12_city 184 0 L S g := ez_aload_n kcX12_city dX12_city_183 rfl rfl L S g
theorem eX12_city_184 (L : pmL) (S : List Value) (g : pmH) : pmV mX12_city 184 L S g = zGet mX12_city 187 12 12 L S g := ez_getfield kcX12_city dX12_city_184 fl_12_37 rfl L S g
theorem eX12_city_187 (L : pmL) (S : List Value) (g : pmH) : pmV mX12_city 187 L S g = zPush mX12_city 188 (.int (nI 3)) L S g := ez_iconst kcX12_city dX12_city_187 (by decide) rfl L S g
theorem eX12_city_188 (L : pmL) (S : List Value) (g : pmH) : pmV mX12_city 188 L S g = zLdI mX12_city 189 1 L S g := ez_iload_n kcX12_city dX12_city_188 rfl rfl L S g
theorem eX12_city_189 (L : pmL) (S : List Value) (g : pmH) : pmV mX12_city 189 L S g = zMul mX12_city 190 L S g := ez_imul kcX12_city dX12_city_189 rfl L S g
theorem eX12_city_190 (L : pmL) (S : List Value) (g : pmH) : pmV mX12_city 190 L S g = zIald mX12_city 191 L S g := ez_iaload kcX12_city dX12_city_190 rfl L S g
theorem eX12_city_191 (L : pmL) (S : List Value) (g : pmH) : pmV mX12_city 191 L S g = zIast mX12_city 192 L S g := ez_iastore kcX12_city dX12_city_191 rfl L S g
theorem eX12_city_192 (L : pmL) (S : List Value) (g : pmH) : pmV mX12_city 192 L S g = zLdA mX12_city 193 0 L S g := ez_aload_n kcX12_city dX12_city_192 rfl rfl L S g
theorem eX12_city_193 (L : pmL) (S : List Value) (g : pmH) : pmV mX12_city 193 L S g = zGet mX12_city 196 12 7 L S g := ez_getfield kcX12_city dX12_city_193 fl_12_22 rfl L S g
theorem eX12_city_196 (L : pmL) (S : List Value) (g : pmH) : pmV mX12_city 196 L S g = zLdI mX12_city 197 1 L S g := ez_iload_n kcX12_city dX12_city_196 rfl rfl L S g
theorem eX12_city_197 (L : pmL) (S : List Value) (g : pmH) : pmV mX12_city 197 L S g = zLdA mX12_city 198 0 L S g := ez_aload_n kcX12_city dX12_city_197 rfl rfl L S g
theorem eX12_city_198 (L : pmL) (S : List Value) (g : pmH) : pmV mX12_city 198 L S g = zGet mX12_city 201 12 12 L S g := ez_getfield kcX12_city dX12_city_198 fl_12_37 rfl L S g
theorem eX12_city_201 (L : pmL) (S : List Value) (g : pmH) : pmV mX12_city 201 L S g = zPush mX12_city 202 (.int (nI 3)) L S g := ez_iconst kcX12_city dX12_city_201 (by decide) rfl L S g
theorem eX12_city_202 (L : pmL) (S : List Value) (g : pmH) : pmV mX12_city 202 L S g = zLdI mX12_city 203 1 L S g := ez_iload_n kcX12_city dX12_city_202 rfl rfl L S g
theorem eX12_city_203 (L : pmL) (S : List Value) (g : pmH) : pmV mX12_city 203 L S g = zMul mX12_city 204 L S g := ez_imul kcX12_city dX12_city_203 rfl L S g
theorem eX12_city_204 (L : pmL) (S : List Value) (g : pmH) : pmV mX12_city 204 L S g = zPush mX12_city 205 (.int (nI 1)) L S g := ez_iconst kcX12_city dX12_city_204 (by decide) rfl L S g
theorem eX12_city_205 (L : pmL) (S : List Value) (g : pmH) : pmV mX12_city 205 L S g = zAdd mX12_city 206 L S g := ez_iadd kcX12_city dX12_city_205 rfl L S g
theorem eX12_city_206 (L : pmL) (S : List Value) (g : pmH) : pmV mX12_city 206 L S g = zIald mX12_city 207 L S g := ez_iaload kcX12_city dX12_city_206 rfl L S g
theorem eX12_city_207 (L : pmL) (S : List Value) (g : pmH) : pmV mX12_city 207 L S g = zIast mX12_city 208 L S g := ez_iastore kcX12_city dX12_city_207 rfl L S g
theorem eX12_city_208 (L : pmL) (S : List Value) (g : pmH) : pmV mX12_city 208 L S g = zLdA mX12_city 209 0 L S g := ez_aload_n kcX12_city dX12_city_208 rfl rfl L S g
theorem eX12_city_209 (L : pmL) (S : List Value) (g : pmH) : pmV mX12_city 209 L S g = zGet mX12_city 212 12 8 L S g := ez_getfield kcX12_city dX12_city_209 fl_12_25 rfl L S g
theorem eX12_city_212 (L : pmL) (S : List Value) (g : pmH) : pmV mX12_city 212 L S g = zLdI mX12_city 213 1 L S g := ez_iload_n kcX12_city dX12_city_212 rfl rfl L S g
theorem eX12_city_213 (L : pmL) (S : List Value) (g : pmH) : pmV mX12_city 213 L S g = zLdA mX12_city 214 0 L S g := ez_aload_n kcX12_city dX12_city_213 rfl rfl L S g
theorem eX12_city_214 (L : pmL) (S : List Value) (g : pmH) : pmV mX12_city 214 L S g = zGet mX12_city 217 12 12 L S g := ez_getfield kcX12_city dX12_city_214 fl_12_37 rfl L S g
theorem eX12_city_217 (L : pmL) (S : List Value) (g : pmH) : pmV mX12_city 217 L S g = zPush mX12_city 218 (.int (nI 3)) L S g := ez_iconst kcX12_city dX12_city_217 (by decide) rfl L S g
theorem eX12_city_218 (L : pmL) (S : List Value) (g : pmH) : pmV mX12_city 218 L S g = zLdI mX12_city 219 1 L S g := ez_iload_n kcX12_city dX12_city_218 rfl rfl L S g
theorem eX12_city_219 (L : pmL) (S : List Value) (g : pmH) : pmV mX12_city 219 L S g = zMul mX12_city 220 L S g := ez_imul kcX12_city dX12_city_219 rfl L S g
theorem eX12_city_220 (L : pmL) (S : List Value) (g : pmH) : pmV mX12_city 220 L S g = zPush mX12_city 221 (.int (nI 2)) L S g := ez_iconst kcX12_city dX12_city_220 (by decide) rfl L S g
theorem eX12_city_221 (L : pmL) (S : List Value) (g : pmH) : pmV mX12_city 221 L S g = zAdd mX12_city 222 L S g := ez_iadd kcX12_city dX12_city_221 rfl L S g
theorem eX12_city_222 (L : pmL) (S : List Value) (g : pmH) : pmV mX12_city 222 L S g = zIald mX12_city 223 L S g := ez_iaload kcX12_city dX12_city_222 rfl L S g
theorem eX12_city_223 (L : pmL) (S : List Value) (g : pmH) : pmV mX12_city 223 L S g = zIast mX12_city 224 L S g := ez_iastore kcX12_city dX12_city_223 rfl L S g
theorem eX12_city_224 (L : pmL) (S : List Value) (g : pmH) : pmV mX12_city 224 L S g = zInc mX12_city 227 1 (nI 1) L S g := ez_iinc kcX12_city dX12_city_224 (by decide) rfl L S g
theorem eX12_city_227 (L : pmL) (S : List Value) (g : pmH) : pmV mX12_city 227 L S g = zNx mX12_city 170 L S g := ez_goto kcX12_city dX12_city_227 (by decide) L S g
theorem eX12_city_230 (L : pmL) (S : List Value) (g : pmH) : pmV mX12_city 230 L S g = zLdA mX12_city 231 0 L S g := ez_aload_n kcX12_city dX12_city_230 rfl rfl L S g
theorem eX12_city_231 (L : pmL) (S : List Value) (g : pmH) : pmV mX12_city 231 L S g = zPush mX12_city 232 (.int (nI 0)) L S g := ez_iconst kcX12_city dX12_city_231 (by decide) rfl L S g
theorem eX12_city_232 (L : pmL) (S : List Value) (g : pmH) : pmV mX12_city 232 L S g = zPut mX12_city 235 12 22 L S g := ez_putfield kcX12_city dX12_city_232 fl_12_126 rfl L S g
theorem eX12_city_235 (L : pmL) (S : List Value) (g : pmH) : pmV mX12_city 235 L S g = zLdA mX12_city 236 0 L S g := ez_aload_n kcX12_city dX12_city_235 rfl rfl L S g
theorem eX12_city_236 (L : pmL) (S : List Value) (g : pmH) : pmV mX12_city 236 L S g = zGet mX12_city 239 12 31 L S g := ez_getfield kcX12_city dX12_city_236 fl_12_62 rfl L S g
theorem eX12_city_239 (L : pmL) (S : List Value) (g : pmH) : pmV mX12_city 239 L S g = zPush mX12_city 240 (.int (nI 0)) L S g := ez_iconst kcX12_city dX12_city_239 (by decide) rfl L S g
theorem eX12_city_240 (L : pmL) (S : List Value) (g : pmH) : pmV mX12_city 240 L S g = zPush mX12_city 241 (.int (nI 0)) L S g := ez_iconst kcX12_city dX12_city_240 (by decide) rfl L S g
theorem eX12_city_241 (L : pmL) (S : List Value) (g : pmH) : pmV mX12_city 241 L S g = zBast mX12_city 242 L S g := ez_bastore kcX12_city dX12_city_241 rfl L S g
theorem eX12_city_242 (L : pmL) (S : List Value) (g : pmH) : pmV mX12_city 242 L S g = zLdA mX12_city 243 0 L S g := ez_aload_n kcX12_city dX12_city_242 rfl rfl L S g
theorem eX12_city_243 (L : pmL) (S : List Value) (g : pmH) : pmV mX12_city 243 L S g = zGet mX12_city 246 12 31 L S g := ez_getfield kcX12_city dX12_city_243 fl_12_62 rfl L S g
theorem eX12_city_246 (L : pmL) (S : List Value) (g : pmH) : pmV mX12_city 246 L S g = zPush mX12_city 247 (.int (nI 1)) L S g := ez_iconst kcX12_city dX12_city_246 (by decide) rfl L S g
theorem eX12_city_247 (L : pmL) (S : List Value) (g : pmH) : pmV mX12_city 247 L S g = zPush mX12_city 248 (.int (nI 0)) L S g := ez_iconst kcX12_city dX12_city_247 (by decide) rfl L S g
theorem eX12_city_248 (L : pmL) (S : List Value) (g : pmH) : pmV mX12_city 248 L S g = zBast mX12_city 249 L S g := ez_bastore kcX12_city dX12_city_248 rfl L S g
theorem eX12_city_249 (L : pmL) (S : List Value) (g : pmH) : pmV mX12_city 249 L S g = zPush mX12_city 251 (.int (nI 100)) L S g := ez_bipush kcX12_city dX12_city_249 (by decide) rfl L S g
theorem eX12_city_251 (L : pmL) (S : List Value) (g : pmH) : pmV mX12_city 251 L S g = zLdA mX12_city 252 0 L S g := ez_aload_n kcX12_city dX12_city_251 rfl rfl L S g
theorem eX12_city_252 (L : pmL) (S : List Value) (g : pmH) : pmV mX12_city 252 L S g = zGet mX12_city 255 12 0 L S g := ez_getfield kcX12_city dX12_city_252 fl_12_117 rfl L S g
theorem eX12_city_255 (L : pmL) (S : List Value) (g : pmH) : pmV mX12_city 255 L S g = zMul mX12_city 256 L S g := ez_imul kcX12_city dX12_city_255 rfl L S g
theorem eX12_city_256 (L : pmL) (S : List Value) (g : pmH) : pmV mX12_city 256 L S g = zPush mX12_city 258 (.int (nI 10)) L S g := ez_bipush kcX12_city dX12_city_256 (by decide) rfl L S g
theorem eX12_city_258 (L : pmL) (S : List Value) (g : pmH) : pmV mX12_city 258 L S g = zLdA mX12_city 259 0 L S g := ez_aload_n kcX12_city dX12_city_258 rfl rfl L S g
theorem eX12_city_259 (L : pmL) (S : List Value) (g : pmH) : pmV mX12_city 259 L S g = zGet mX12_city 262 12 1 L S g := ez_getfield kcX12_city dX12_city_259 fl_12_120 rfl L S g
theorem eX12_city_262 (L : pmL) (S : List Value) (g : pmH) : pmV mX12_city 262 L S g = zMul mX12_city 263 L S g := ez_imul kcX12_city dX12_city_262 rfl L S g
theorem eX12_city_263 (L : pmL) (S : List Value) (g : pmH) : pmV mX12_city 263 L S g = zAdd mX12_city 264 L S g := ez_iadd kcX12_city dX12_city_263 rfl L S g
theorem eX12_city_264 (L : pmL) (S : List Value) (g : pmH) : pmV mX12_city 264 L S g = zLdA mX12_city 265 0 L S g := ez_aload_n kcX12_city dX12_city_264 rfl rfl L S g
theorem eX12_city_265 (L : pmL) (S : List Value) (g : pmH) : pmV mX12_city 265 L S g = zGet mX12_city 268 12 2 L S g := ez_getfield kcX12_city dX12_city_265 fl_12_123 rfl L S g
theorem eX12_city_268 (L : pmL) (S : List Value) (g : pmH) : pmV mX12_city 268 L S g = zAdd mX12_city 269 L S g := ez_iadd kcX12_city dX12_city_268 rfl L S g
theorem eX12_city_269 (L : pmL) (S : List Value) (g : pmH) : pmV mX12_city 269 L S g = zIret mX12_city S g := ez_ireturn kcX12_city dX12_city_269 L S g
theorem eX12_isBalloon_0 (L : pmL) (S : List Value) (g : pmH) : pmV mX12_isBalloon 0 L S g = zLdI mX12_isBalloon 1 1 L S g := ez_iload_n kcX12_isBalloon dX12_isBalloon_0 rfl rfl L S g
theorem eX12_isBalloon_1 (L : pmL) (S : List Value) (g : pmH) : pmV mX12_isBalloon 1 L S g = zI2l mX12_isBalloon 2 L S g := ez_i2l kcX12_isBalloon dX12_isBalloon_1 rfl L S g
theorem eX12_isBalloon_2 (L : pmL) (S : List Value) (g : pmH) : pmV mX12_isBalloon 2 L S g = zPush mX12_isBalloon 3 (.long (lN 0)) L S g := ez_lconst kcX12_isBalloon dX12_isBalloon_2 rfl rfl L S g
theorem eX12_isBalloon_3 (L : pmL) (S : List Value) (g : pmH) : pmV mX12_isBalloon 3 L S g = zLdA mX12_isBalloon 4 0 L S g := ez_aload_n kcX12_isBalloon dX12_isBalloon_3 rfl rfl L S g
theorem eX12_isBalloon_4 (L : pmL) (S : List Value) (g : pmH) : pmV mX12_isBalloon 4 L S g = zGet mX12_isBalloon 7 12 1 L S g := ez_getfield kcX12_isBalloon dX12_isBalloon_4 fl_12_120 rfl L S g
theorem eX12_isBalloon_7 (L : pmL) (S : List Value) (g : pmH) : pmV mX12_isBalloon 7 L S g = zPush mX12_isBalloon 8 (.int (nI 1)) L S g := ez_iconst kcX12_isBalloon dX12_isBalloon_7 (by decide) rfl L S g
theorem eX12_isBalloon_8 (L : pmL) (S : List Value) (g : pmH) : pmV mX12_isBalloon 8 L S g = zSub mX12_isBalloon 9 L S g := ez_isub kcX12_isBalloon dX12_isBalloon_8 rfl L S g
theorem eX12_isBalloon_9 (L : pmL) (S : List Value) (g : pmH) : pmV mX12_isBalloon 9 L S g = zI2l mX12_isBalloon 10 L S g := ez_i2l kcX12_isBalloon dX12_isBalloon_9 rfl L S g
theorem eX12_isBalloon_10 (L : pmL) (S : List Value) (g : pmH) : pmV mX12_isBalloon 10 L S g = yS mX12_isBalloon 13 3 mX12_in 6 L S g := (ez_static kcX12_isBalloon dX12_isBalloon_10 ml_12_71 (by decide) rfl L S g).trans (zCall_y rfl (by decide) L S g)
theorem eX12_isBalloon_13 (L : pmL) (S : List Value) (g : pmH) : pmV mX12_isBalloon 13 L S g = zIret mX12_isBalloon S g := ez_ireturn kcX12_isBalloon dX12_isBalloon_13 L S g
theorem eX12_isHedge_0 (L : pmL) (S : List Value) (g : pmH) : pmV mX12_isHedge 0 L S g = zLdI mX12_isHedge 1 1 L S g := ez_iload_n kcX12_isHedge dX12_isHedge_0 rfl rfl L S g
theorem eX12_isHedge_1 (L : pmL) (S : List Value) (g : pmH) : pmV mX12_isHedge 1 L S g = zI2l mX12_isHedge 2 L S g := ez_i2l kcX12_isHedge dX12_isHedge_1 rfl L S g
theorem eX12_isHedge_2 (L : pmL) (S : List Value) (g : pmH) : pmV mX12_isHedge 2 L S g = zPush mX12_isHedge 3 (.long (lN 0)) L S g := ez_lconst kcX12_isHedge dX12_isHedge_2 rfl rfl L S g
theorem eX12_isHedge_3 (L : pmL) (S : List Value) (g : pmH) : pmV mX12_isHedge 3 L S g = zLdA mX12_isHedge 4 0 L S g := ez_aload_n kcX12_isHedge dX12_isHedge_3 rfl rfl L S g
theorem eX12_isHedge_4 (L : pmL) (S : List Value) (g : pmH) : pmV mX12_isHedge 4 L S g = zGet mX12_isHedge 7 12 2 L S g := ez_getfield kcX12_isHedge dX12_isHedge_4 fl_12_123 rfl L S g
theorem eX12_isHedge_7 (L : pmL) (S : List Value) (g : pmH) : pmV mX12_isHedge 7 L S g = zPush mX12_isHedge 8 (.int (nI 1)) L S g := ez_iconst kcX12_isHedge dX12_isHedge_7 (by decide) rfl L S g
theorem eX12_isHedge_8 (L : pmL) (S : List Value) (g : pmH) : pmV mX12_isHedge 8 L S g = zSub mX12_isHedge 9 L S g := ez_isub kcX12_isHedge dX12_isHedge_8 rfl L S g
theorem eX12_isHedge_9 (L : pmL) (S : List Value) (g : pmH) : pmV mX12_isHedge 9 L S g = zI2l mX12_isHedge 10 L S g := ez_i2l kcX12_isHedge dX12_isHedge_9 rfl L S g
theorem eX12_isHedge_10 (L : pmL) (S : List Value) (g : pmH) : pmV mX12_isHedge 10 L S g = yS mX12_isHedge 13 3 mX12_in 6 L S g := (ez_static kcX12_isHedge dX12_isHedge_10 ml_12_71 (by decide) rfl L S g).trans (zCall_y rfl (by decide) L S g)
theorem eX12_isHedge_13 (L : pmL) (S : List Value) (g : pmH) : pmV mX12_isHedge 13 L S g = zIret mX12_isHedge S g := ez_ireturn kcX12_isHedge dX12_isHedge_13 L S g
theorem eX12_isCell_0 (L : pmL) (S : List Value) (g : pmH) : pmV mX12_isCell 0 L S g = zLdI mX12_isCell 1 0 L S g := ez_iload_n kcX12_isCell dX12_isCell_0 rfl rfl L S g
theorem eX12_isCell_1 (L : pmL) (S : List Value) (g : pmH) : pmV mX12_isCell 1 L S g = zI2l mX12_isCell 2 L S g := ez_i2l kcX12_isCell dX12_isCell_1 rfl L S g
theorem eX12_isCell_2 (L : pmL) (S : List Value) (g : pmH) : pmV mX12_isCell 2 L S g = zPush mX12_isCell 3 (.long (lN 0)) L S g := ez_lconst kcX12_isCell dX12_isCell_2 rfl rfl L S g
theorem eX12_isCell_3 (L : pmL) (S : List Value) (g : pmH) : pmV mX12_isCell 3 L S g = zPush mX12_isCell 6 (.long (lN 19)) L S g := ez_ldc2_w kcX12_isCell dX12_isCell_3 jl_12_84 rfl L S g
theorem eX12_isCell_6 (L : pmL) (S : List Value) (g : pmH) : pmV mX12_isCell 6 L S g = yS mX12_isCell 9 3 mX12_in 6 L S g := (ez_static kcX12_isCell dX12_isCell_6 ml_12_71 (by decide) rfl L S g).trans (zCall_y rfl (by decide) L S g)
theorem eX12_isCell_9 (L : pmL) (S : List Value) (g : pmH) : pmV mX12_isCell 9 L S g = zIret mX12_isCell S g := ez_ireturn kcX12_isCell dX12_isCell_9 L S g
theorem eX12_windOf_0 (L : pmL) (S : List Value) (g : pmH) : pmV mX12_windOf 0 L S g = zLdA mX12_windOf 1 0 L S g := ez_aload_n kcX12_windOf dX12_windOf_0 rfl rfl L S g
theorem eX12_windOf_1 (L : pmL) (S : List Value) (g : pmH) : pmV mX12_windOf 1 L S g = zGet mX12_windOf 4 12 0 L S g := ez_getfield kcX12_windOf dX12_windOf_1 fl_12_117 rfl L S g
theorem eX12_windOf_4 (L : pmL) (S : List Value) (g : pmH) : pmV mX12_windOf 4 L S g = zCne mX12_windOf 7 11 L S g := ez_if_ne kcX12_windOf dX12_windOf_4 (by decide) rfl L S g
theorem eX12_windOf_7 (L : pmL) (S : List Value) (g : pmH) : pmV mX12_windOf 7 L S g = zPush mX12_windOf 8 (.int (nI 0)) L S g := ez_iconst kcX12_windOf dX12_windOf_7 (by decide) rfl L S g
theorem eX12_windOf_8 (L : pmL) (S : List Value) (g : pmH) : pmV mX12_windOf 8 L S g = zNx mX12_windOf 22 L S g := ez_goto kcX12_windOf dX12_windOf_8 (by decide) L S g
theorem eX12_windOf_11 (L : pmL) (S : List Value) (g : pmH) : pmV mX12_windOf 11 L S g = zLdA mX12_windOf 12 0 L S g := ez_aload_n kcX12_windOf dX12_windOf_11 rfl rfl L S g
theorem eX12_windOf_12 (L : pmL) (S : List Value) (g : pmH) : pmV mX12_windOf 12 L S g = zGet mX12_windOf 15 12 3 L S g := ez_getfield kcX12_windOf dX12_windOf_12 fl_12_7 rfl L S g
theorem eX12_windOf_15 (L : pmL) (S : List Value) (g : pmH) : pmV mX12_windOf 15 L S g = zLdI mX12_windOf 16 1 L S g := ez_iload_n kcX12_windOf dX12_windOf_15 rfl rfl L S g
theorem eX12_windOf_16 (L : pmL) (S : List Value) (g : pmH) : pmV mX12_windOf 16 L S g = zLdA mX12_windOf 17 0 L S g := ez_aload_n kcX12_windOf dX12_windOf_16 rfl rfl L S g
theorem eX12_windOf_17 (L : pmL) (S : List Value) (g : pmH) : pmV mX12_windOf 17 L S g = zGet mX12_windOf 20 12 0 L S g := ez_getfield kcX12_windOf dX12_windOf_17 fl_12_117 rfl L S g
theorem eX12_windOf_20 (L : pmL) (S : List Value) (g : pmH) : pmV mX12_windOf 20 L S g = zRem mX12_windOf 21 L S g := ez_irem kcX12_windOf dX12_windOf_20 rfl L S g
theorem eX12_windOf_21 (L : pmL) (S : List Value) (g : pmH) : pmV mX12_windOf 21 L S g = zIald mX12_windOf 22 L S g := ez_iaload kcX12_windOf dX12_windOf_21 rfl L S g
theorem eX12_windOf_22 (L : pmL) (S : List Value) (g : pmH) : pmV mX12_windOf 22 L S g = zIret mX12_windOf S g := ez_ireturn kcX12_windOf dX12_windOf_22 L S g
theorem eX12_blown_0 (L : pmL) (S : List Value) (g : pmH) : pmV mX12_blown 0 L S g = zLdI mX12_blown 1 1 L S g := ez_iload_n kcX12_blown dX12_blown_0 rfl rfl L S g
theorem eX12_blown_1 (L : pmL) (S : List Value) (g : pmH) : pmV mX12_blown 1 L S g = zTab mX12_blown 1 91 1 4 #[31, 47, 62, 76] L S g := ez_tab kcX12_blown dX12_blown_1 L S g
theorem eX12_blown_32 (L : pmL) (S : List Value) (g : pmH) : pmV mX12_blown 32 L S g = zLdI mX12_blown 33 0 L S g := ez_iload_n kcX12_blown dX12_blown_32 rfl rfl L S g
theorem eX12_blown_33 (L : pmL) (S : List Value) (g : pmH) : pmV mX12_blown 33 L S g = zPush mX12_blown 34 (.int (nI 5)) L S g := ez_iconst kcX12_blown dX12_blown_33 (by decide) rfl L S g
theorem eX12_blown_34 (L : pmL) (S : List Value) (g : pmH) : pmV mX12_blown 34 L S g = zRem mX12_blown 35 L S g := ez_irem kcX12_blown dX12_blown_34 rfl L S g
theorem eX12_blown_35 (L : pmL) (S : List Value) (g : pmH) : pmV mX12_blown 35 L S g = zPush mX12_blown 36 (.int (nI 4)) L S g := ez_iconst kcX12_blown dX12_blown_35 (by decide) rfl L S g
theorem eX12_blown_36 (L : pmL) (S : List Value) (g : pmH) : pmV mX12_blown 36 L S g = zBge mX12_blown 39 45 L S g := ez_icmp_ge kcX12_blown dX12_blown_36 (by decide) rfl L S g
theorem eX12_blown_39 (L : pmL) (S : List Value) (g : pmH) : pmV mX12_blown 39 L S g = zLdI mX12_blown 40 0 L S g := ez_iload_n kcX12_blown dX12_blown_39 rfl rfl L S g
theorem eX12_blown_40 (L : pmL) (S : List Value) (g : pmH) : pmV mX12_blown 40 L S g = zPush mX12_blown 41 (.int (nI 1)) L S g := ez_iconst kcX12_blown dX12_blown_40 (by decide) rfl L S g
theorem eX12_blown_41 (L : pmL) (S : List Value) (g : pmH) : pmV mX12_blown 41 L S g = zAdd mX12_blown 42 L S g := ez_iadd kcX12_blown dX12_blown_41 rfl L S g
theorem eX12_blown_42 (L : pmL) (S : List Value) (g : pmH) : pmV mX12_blown 42 L S g = zNx mX12_blown 47 L S g := ez_goto kcX12_blown dX12_blown_42 (by decide) L S g
theorem eX12_blown_45 (L : pmL) (S : List Value) (g : pmH) : pmV mX12_blown 45 L S g = zPush mX12_blown 47 (.int (-9)) L S g := ez_bipush kcX12_blown dX12_blown_45 (by decide) rfl L S g
theorem eX12_blown_47 (L : pmL) (S : List Value) (g : pmH) : pmV mX12_blown 47 L S g = zIret mX12_blown S g := ez_ireturn kcX12_blown dX12_blown_47 L S g
theorem eX12_blown_48 (L : pmL) (S : List Value) (g : pmH) : pmV mX12_blown 48 L S g = zLdI mX12_blown 49 0 L S g := ez_iload_n kcX12_blown dX12_blown_48 rfl rfl L S g
theorem eX12_blown_49 (L : pmL) (S : List Value) (g : pmH) : pmV mX12_blown 49 L S g = zPush mX12_blown 50 (.int (nI 5)) L S g := ez_iconst kcX12_blown dX12_blown_49 (by decide) rfl L S g
theorem eX12_blown_50 (L : pmL) (S : List Value) (g : pmH) : pmV mX12_blown 50 L S g = zRem mX12_blown 51 L S g := ez_irem kcX12_blown dX12_blown_50 rfl L S g
theorem eX12_blown_51 (L : pmL) (S : List Value) (g : pmH) : pmV mX12_blown 51 L S g = zCle mX12_blown 54 60 L S g := ez_if_le kcX12_blown dX12_blown_51 (by decide) rfl L S g
theorem eX12_blown_54 (L : pmL) (S : List Value) (g : pmH) : pmV mX12_blown 54 L S g = zLdI mX12_blown 55 0 L S g := ez_iload_n kcX12_blown dX12_blown_54 rfl rfl L S g
theorem eX12_blown_55 (L : pmL) (S : List Value) (g : pmH) : pmV mX12_blown 55 L S g = zPush mX12_blown 56 (.int (nI 1)) L S g := ez_iconst kcX12_blown dX12_blown_55 (by decide) rfl L S g
theorem eX12_blown_56 (L : pmL) (S : List Value) (g : pmH) : pmV mX12_blown 56 L S g = zSub mX12_blown 57 L S g := ez_isub kcX12_blown dX12_blown_56 rfl L S g
theorem eX12_blown_57 (L : pmL) (S : List Value) (g : pmH) : pmV mX12_blown 57 L S g = zNx mX12_blown 62 L S g := ez_goto kcX12_blown dX12_blown_57 (by decide) L S g
theorem eX12_blown_60 (L : pmL) (S : List Value) (g : pmH) : pmV mX12_blown 60 L S g = zPush mX12_blown 62 (.int (-9)) L S g := ez_bipush kcX12_blown dX12_blown_60 (by decide) rfl L S g
theorem eX12_blown_62 (L : pmL) (S : List Value) (g : pmH) : pmV mX12_blown 62 L S g = zIret mX12_blown S g := ez_ireturn kcX12_blown dX12_blown_62 L S g
theorem eX12_blown_63 (L : pmL) (S : List Value) (g : pmH) : pmV mX12_blown 63 L S g = zLdI mX12_blown 64 0 L S g := ez_iload_n kcX12_blown dX12_blown_63 rfl rfl L S g
theorem eX12_blown_64 (L : pmL) (S : List Value) (g : pmH) : pmV mX12_blown 64 L S g = zPush mX12_blown 65 (.int (nI 4)) L S g := ez_iconst kcX12_blown dX12_blown_64 (by decide) rfl L S g
theorem eX12_blown_65 (L : pmL) (S : List Value) (g : pmH) : pmV mX12_blown 65 L S g = zBle mX12_blown 68 74 L S g := ez_icmp_le kcX12_blown dX12_blown_65 (by decide) rfl L S g
theorem eX12_blown_68 (L : pmL) (S : List Value) (g : pmH) : pmV mX12_blown 68 L S g = zLdI mX12_blown 69 0 L S g := ez_iload_n kcX12_blown dX12_blown_68 rfl rfl L S g
theorem eX12_blown_69 (L : pmL) (S : List Value) (g : pmH) : pmV mX12_blown 69 L S g = zPush mX12_blown 70 (.int (nI 5)) L S g := ez_iconst kcX12_blown dX12_blown_69 (by decide) rfl L S g
theorem eX12_blown_70 (L : pmL) (S : List Value) (g : pmH) : pmV mX12_blown 70 L S g = zSub mX12_blown 71 L S g := ez_isub kcX12_blown dX12_blown_70 rfl L S g
theorem eX12_blown_71 (L : pmL) (S : List Value) (g : pmH) : pmV mX12_blown 71 L S g = zNx mX12_blown 76 L S g := ez_goto kcX12_blown dX12_blown_71 (by decide) L S g
theorem eX12_blown_74 (L : pmL) (S : List Value) (g : pmH) : pmV mX12_blown 74 L S g = zPush mX12_blown 76 (.int (-9)) L S g := ez_bipush kcX12_blown dX12_blown_74 (by decide) rfl L S g
theorem eX12_blown_76 (L : pmL) (S : List Value) (g : pmH) : pmV mX12_blown 76 L S g = zIret mX12_blown S g := ez_ireturn kcX12_blown dX12_blown_76 L S g
theorem eX12_blown_77 (L : pmL) (S : List Value) (g : pmH) : pmV mX12_blown 77 L S g = zLdI mX12_blown 78 0 L S g := ez_iload_n kcX12_blown dX12_blown_77 rfl rfl L S g
theorem eX12_blown_78 (L : pmL) (S : List Value) (g : pmH) : pmV mX12_blown 78 L S g = zPush mX12_blown 80 (.int (nI 15)) L S g := ez_bipush kcX12_blown dX12_blown_78 (by decide) rfl L S g
theorem eX12_blown_80 (L : pmL) (S : List Value) (g : pmH) : pmV mX12_blown 80 L S g = zBge mX12_blown 83 89 L S g := ez_icmp_ge kcX12_blown dX12_blown_80 (by decide) rfl L S g
theorem eX12_blown_83 (L : pmL) (S : List Value) (g : pmH) : pmV mX12_blown 83 L S g = zLdI mX12_blown 84 0 L S g := ez_iload_n kcX12_blown dX12_blown_83 rfl rfl L S g
theorem eX12_blown_84 (L : pmL) (S : List Value) (g : pmH) : pmV mX12_blown 84 L S g = zPush mX12_blown 85 (.int (nI 5)) L S g := ez_iconst kcX12_blown dX12_blown_84 (by decide) rfl L S g
theorem eX12_blown_85 (L : pmL) (S : List Value) (g : pmH) : pmV mX12_blown 85 L S g = zAdd mX12_blown 86 L S g := ez_iadd kcX12_blown dX12_blown_85 rfl L S g
theorem eX12_blown_86 (L : pmL) (S : List Value) (g : pmH) : pmV mX12_blown 86 L S g = zNx mX12_blown 91 L S g := ez_goto kcX12_blown dX12_blown_86 (by decide) L S g
theorem eX12_blown_89 (L : pmL) (S : List Value) (g : pmH) : pmV mX12_blown 89 L S g = zPush mX12_blown 91 (.int (-9)) L S g := ez_bipush kcX12_blown dX12_blown_89 (by decide) rfl L S g
theorem eX12_blown_91 (L : pmL) (S : List Value) (g : pmH) : pmV mX12_blown 91 L S g = zIret mX12_blown S g := ez_ireturn kcX12_blown dX12_blown_91 L S g
theorem eX12_blown_92 (L : pmL) (S : List Value) (g : pmH) : pmV mX12_blown 92 L S g = zLdI mX12_blown 93 0 L S g := ez_iload_n kcX12_blown dX12_blown_92 rfl rfl L S g
theorem eX12_blown_93 (L : pmL) (S : List Value) (g : pmH) : pmV mX12_blown 93 L S g = zIret mX12_blown S g := ez_ireturn kcX12_blown dX12_blown_93 L S g
theorem eX12_hedgeAt_0 (L : pmL) (S : List Value) (g : pmH) : pmV mX12_hedgeAt 0 L S g = zPush mX12_hedgeAt 1 (.int (nI 0)) L S g := ez_iconst kcX12_hedgeAt dX12_hedgeAt_0 (by decide) rfl L S g
theorem eX12_hedgeAt_1 (L : pmL) (S : List Value) (g : pmH) : pmV mX12_hedgeAt 1 L S g = zStI mX12_hedgeAt 2 2 L S g := ez_istore_n kcX12_hedgeAt dX12_hedgeAt_1 rfl rfl L S g
theorem eX12_hedgeAt_2 (L : pmL) (S : List Value) (g : pmH) : pmV mX12_hedgeAt 2 L S g = zLdI mX12_hedgeAt 3 2 L S g := ez_iload_n kcX12_hedgeAt dX12_hedgeAt_2 rfl rfl L S g
theorem eX12_hedgeAt_3 (L : pmL) (S : List Value) (g : pmH) : pmV mX12_hedgeAt 3 L S g = zLdA mX12_hedgeAt 4 0 L S g := ez_aload_n kcX12_hedgeAt dX12_hedgeAt_3 rfl rfl L S g
theorem eX12_hedgeAt_4 (L : pmL) (S : List Value) (g : pmH) : pmV mX12_hedgeAt 4 L S g = zGet mX12_hedgeAt 7 12 2 L S g := ez_getfield kcX12_hedgeAt dX12_hedgeAt_4 fl_12_123 rfl L S g
theorem eX12_hedgeAt_7 (L : pmL) (S : List Value) (g : pmH) : pmV mX12_hedgeAt 7 L S g = zBge mX12_hedgeAt 10 39 L S g := ez_icmp_ge kcX12_hedgeAt dX12_hedgeAt_7 (by decide) rfl L S g
theorem eX12_hedgeAt_10 (L : pmL) (S : List Value) (g : pmH) : pmV mX12_hedgeAt 10 L S g = zLdA mX12_hedgeAt 11 0 L S g := ez_aload_n kcX12_hedgeAt dX12_hedgeAt_10 rfl rfl L S g
theorem eX12_hedgeAt_11 (L : pmL) (S : List Value) (g : pmH) : pmV mX12_hedgeAt 11 L S g = zGet mX12_hedgeAt 14 12 21 L S g := ez_getfield kcX12_hedgeAt dX12_hedgeAt_11 fl_12_43 rfl L S g
theorem eX12_hedgeAt_14 (L : pmL) (S : List Value) (g : pmH) : pmV mX12_hedgeAt 14 L S g = zLdI mX12_hedgeAt 15 2 L S g := ez_iload_n kcX12_hedgeAt dX12_hedgeAt_14 rfl rfl L S g
theorem eX12_hedgeAt_15 (L : pmL) (S : List Value) (g : pmH) : pmV mX12_hedgeAt 15 L S g = yS mX12_hedgeAt 18 2 mX12_has 2 L S g := (ez_static kcX12_hedgeAt dX12_hedgeAt_15 ml_12_86 (by decide) rfl L S g).trans (zCall_y rfl (by decide) L S g)
theorem eX12_hedgeAt_18 (L : pmL) (S : List Value) (g : pmH) : pmV mX12_hedgeAt 18 L S g = zCeq mX12_hedgeAt 21 33 L S g := ez_if_eq kcX12_hedgeAt dX12_hedgeAt_18 (by decide) rfl L S g
theorem eX12_hedgeAt_21 (L : pmL) (S : List Value) (g : pmH) : pmV mX12_hedgeAt 21 L S g = zLdA mX12_hedgeAt 22 0 L S g := ez_aload_n kcX12_hedgeAt dX12_hedgeAt_21 rfl rfl L S g
theorem eX12_hedgeAt_22 (L : pmL) (S : List Value) (g : pmH) : pmV mX12_hedgeAt 22 L S g = zGet mX12_hedgeAt 25 12 6 L S g := ez_getfield kcX12_hedgeAt dX12_hedgeAt_22 fl_12_19 rfl L S g
theorem eX12_hedgeAt_25 (L : pmL) (S : List Value) (g : pmH) : pmV mX12_hedgeAt 25 L S g = zLdI mX12_hedgeAt 26 2 L S g := ez_iload_n kcX12_hedgeAt dX12_hedgeAt_25 rfl rfl L S g
theorem eX12_hedgeAt_26 (L : pmL) (S : List Value) (g : pmH) : pmV mX12_hedgeAt 26 L S g = zIald mX12_hedgeAt 27 L S g := ez_iaload kcX12_hedgeAt dX12_hedgeAt_26 rfl L S g
theorem eX12_hedgeAt_27 (L : pmL) (S : List Value) (g : pmH) : pmV mX12_hedgeAt 27 L S g = zLdI mX12_hedgeAt 28 1 L S g := ez_iload_n kcX12_hedgeAt dX12_hedgeAt_27 rfl rfl L S g
theorem eX12_hedgeAt_28 (L : pmL) (S : List Value) (g : pmH) : pmV mX12_hedgeAt 28 L S g = zBne mX12_hedgeAt 31 33 L S g := ez_icmp_ne kcX12_hedgeAt dX12_hedgeAt_28 (by decide) rfl L S g
theorem eX12_hedgeAt_31 (L : pmL) (S : List Value) (g : pmH) : pmV mX12_hedgeAt 31 L S g = zLdI mX12_hedgeAt 32 2 L S g := ez_iload_n kcX12_hedgeAt dX12_hedgeAt_31 rfl rfl L S g
theorem eX12_hedgeAt_32 (L : pmL) (S : List Value) (g : pmH) : pmV mX12_hedgeAt 32 L S g = zIret mX12_hedgeAt S g := ez_ireturn kcX12_hedgeAt dX12_hedgeAt_32 L S g
theorem eX12_hedgeAt_33 (L : pmL) (S : List Value) (g : pmH) : pmV mX12_hedgeAt 33 L S g = zInc mX12_hedgeAt 36 2 (nI 1) L S g := ez_iinc kcX12_hedgeAt dX12_hedgeAt_33 (by decide) rfl L S g
theorem eX12_hedgeAt_36 (L : pmL) (S : List Value) (g : pmH) : pmV mX12_hedgeAt 36 L S g = zNx mX12_hedgeAt 2 L S g := ez_goto kcX12_hedgeAt dX12_hedgeAt_36 (by decide) L S g
theorem eX12_hedgeAt_39 (L : pmL) (S : List Value) (g : pmH) : pmV mX12_hedgeAt 39 L S g = zPush mX12_hedgeAt 41 (.int (-9)) L S g := ez_bipush kcX12_hedgeAt dX12_hedgeAt_39 (by decide) rfl L S g
theorem eX12_hedgeAt_41 (L : pmL) (S : List Value) (g : pmH) : pmV mX12_hedgeAt 41 L S g = zIret mX12_hedgeAt S g := ez_ireturn kcX12_hedgeAt dX12_hedgeAt_41 L S g
theorem eX12_goOne_0 (L : pmL) (S : List Value) (g : pmH) : pmV mX12_goOne 0 L S g = zPush mX12_goOne 2 (.int (nI 31)) L S g := ez_bipush kcX12_goOne dX12_goOne_0 (by decide) rfl L S g
theorem eX12_goOne_2 (L : pmL) (S : List Value) (g : pmH) : pmV mX12_goOne 2 L S g = zLdI mX12_goOne 3 1 L S g := ez_iload_n kcX12_goOne dX12_goOne_2 rfl rfl L S g
theorem eX12_goOne_3 (L : pmL) (S : List Value) (g : pmH) : pmV mX12_goOne 3 L S g = zMul mX12_goOne 4 L S g := ez_imul kcX12_goOne dX12_goOne_3 rfl L S g
theorem eX12_goOne_4 (L : pmL) (S : List Value) (g : pmH) : pmV mX12_goOne 4 L S g = zStI mX12_goOne 6 4 L S g := ez_istore kcX12_goOne dX12_goOne_4 rfl L S g
theorem eX12_goOne_6 (L : pmL) (S : List Value) (g : pmH) : pmV mX12_goOne 6 L S g = zLdA mX12_goOne 7 0 L S g := ez_aload_n kcX12_goOne dX12_goOne_6 rfl rfl L S g
theorem eX12_goOne_7 (L : pmL) (S : List Value) (g : pmH) : pmV mX12_goOne 7 L S g = zGet mX12_goOne 10 12 9 L S g := ez_getfield kcX12_goOne dX12_goOne_7 fl_12_28 rfl L S g
theorem eX12_goOne_10 (L : pmL) (S : List Value) (g : pmH) : pmV mX12_goOne 10 L S g = zLdI mX12_goOne 12 4 L S g := ez_iload kcX12_goOne dX12_goOne_10 rfl L S g
theorem eX12_goOne_12 (L : pmL) (S : List Value) (g : pmH) : pmV mX12_goOne 12 L S g = zLdI mX12_goOne 13 2 L S g := ez_iload_n kcX12_goOne dX12_goOne_12 rfl rfl L S g
theorem eX12_goOne_13 (L : pmL) (S : List Value) (g : pmH) : pmV mX12_goOne 13 L S g = zAdd mX12_goOne 14 L S g := ez_iadd kcX12_goOne dX12_goOne_13 rfl L S g
theorem eX12_goOne_14 (L : pmL) (S : List Value) (g : pmH) : pmV mX12_goOne 14 L S g = zIald mX12_goOne 15 L S g := ez_iaload kcX12_goOne dX12_goOne_14 rfl L S g
theorem eX12_goOne_15 (L : pmL) (S : List Value) (g : pmH) : pmV mX12_goOne 15 L S g = zLdI mX12_goOne 16 3 L S g := ez_iload_n kcX12_goOne dX12_goOne_15 rfl rfl L S g
theorem eX12_goOne_16 (L : pmL) (S : List Value) (g : pmH) : pmV mX12_goOne 16 L S g = yS mX12_goOne 19 2 mX12_blown 2 L S g := (ez_static kcX12_goOne dX12_goOne_16 ml_12_129 (by decide) rfl L S g).trans (zCall_y rfl (by decide) L S g)
theorem eX12_goOne_19 (L : pmL) (S : List Value) (g : pmH) : pmV mX12_goOne 19 L S g = zStI mX12_goOne 21 5 L S g := ez_istore kcX12_goOne dX12_goOne_19 rfl L S g
theorem eX12_goOne_21 (L : pmL) (S : List Value) (g : pmH) : pmV mX12_goOne 21 L S g = zLdA mX12_goOne 22 0 L S g := ez_aload_n kcX12_goOne dX12_goOne_21 rfl rfl L S g
theorem eX12_goOne_22 (L : pmL) (S : List Value) (g : pmH) : pmV mX12_goOne 22 L S g = zGet mX12_goOne 25 12 9 L S g := ez_getfield kcX12_goOne dX12_goOne_22 fl_12_28 rfl L S g
theorem eX12_goOne_25 (L : pmL) (S : List Value) (g : pmH) : pmV mX12_goOne 25 L S g = zLdI mX12_goOne 27 4 L S g := ez_iload kcX12_goOne dX12_goOne_25 rfl L S g
theorem eX12_goOne_27 (L : pmL) (S : List Value) (g : pmH) : pmV mX12_goOne 27 L S g = zLdI mX12_goOne 28 2 L S g := ez_iload_n kcX12_goOne dX12_goOne_27 rfl rfl L S g
theorem eX12_goOne_28 (L : pmL) (S : List Value) (g : pmH) : pmV mX12_goOne 28 L S g = zAdd mX12_goOne 29 L S g := ez_iadd kcX12_goOne dX12_goOne_28 rfl L S g
theorem eX12_goOne_29 (L : pmL) (S : List Value) (g : pmH) : pmV mX12_goOne 29 L S g = zLdI mX12_goOne 31 5 L S g := ez_iload kcX12_goOne dX12_goOne_29 rfl L S g
theorem eX12_goOne_31 (L : pmL) (S : List Value) (g : pmH) : pmV mX12_goOne 31 L S g = zPush mX12_goOne 33 (.int (-9)) L S g := ez_bipush kcX12_goOne dX12_goOne_31 (by decide) rfl L S g
theorem eX12_goOne_33 (L : pmL) (S : List Value) (g : pmH) : pmV mX12_goOne 33 L S g = zBne mX12_goOne 36 48 L S g := ez_icmp_ne kcX12_goOne dX12_goOne_33 (by decide) rfl L S g
theorem eX12_goOne_36 (L : pmL) (S : List Value) (g : pmH) : pmV mX12_goOne 36 L S g = zLdA mX12_goOne 37 0 L S g := ez_aload_n kcX12_goOne dX12_goOne_36 rfl rfl L S g
theorem eX12_goOne_37 (L : pmL) (S : List Value) (g : pmH) : pmV mX12_goOne 37 L S g = zGet mX12_goOne 40 12 9 L S g := ez_getfield kcX12_goOne dX12_goOne_37 fl_12_28 rfl L S g
theorem eX12_goOne_40 (L : pmL) (S : List Value) (g : pmH) : pmV mX12_goOne 40 L S g = zLdI mX12_goOne 42 4 L S g := ez_iload kcX12_goOne dX12_goOne_40 rfl L S g
theorem eX12_goOne_42 (L : pmL) (S : List Value) (g : pmH) : pmV mX12_goOne 42 L S g = zLdI mX12_goOne 43 2 L S g := ez_iload_n kcX12_goOne dX12_goOne_42 rfl rfl L S g
theorem eX12_goOne_43 (L : pmL) (S : List Value) (g : pmH) : pmV mX12_goOne 43 L S g = zAdd mX12_goOne 44 L S g := ez_iadd kcX12_goOne dX12_goOne_43 rfl L S g
theorem eX12_goOne_44 (L : pmL) (S : List Value) (g : pmH) : pmV mX12_goOne 44 L S g = zIald mX12_goOne 45 L S g := ez_iaload kcX12_goOne dX12_goOne_44 rfl L S g
theorem eX12_goOne_45 (L : pmL) (S : List Value) (g : pmH) : pmV mX12_goOne 45 L S g = zNx mX12_goOne 50 L S g := ez_goto kcX12_goOne dX12_goOne_45 (by decide) L S g
theorem eX12_goOne_48 (L : pmL) (S : List Value) (g : pmH) : pmV mX12_goOne 48 L S g = zLdI mX12_goOne 50 5 L S g := ez_iload kcX12_goOne dX12_goOne_48 rfl L S g
theorem eX12_goOne_50 (L : pmL) (S : List Value) (g : pmH) : pmV mX12_goOne 50 L S g = zIast mX12_goOne 51 L S g := ez_iastore kcX12_goOne dX12_goOne_50 rfl L S g
theorem eX12_goOne_51 (L : pmL) (S : List Value) (g : pmH) : pmV mX12_goOne 51 L S g = zLdA mX12_goOne 52 0 L S g := ez_aload_n kcX12_goOne dX12_goOne_51 rfl rfl L S g
theorem eX12_goOne_52 (L : pmL) (S : List Value) (g : pmH) : pmV mX12_goOne 52 L S g = zGet mX12_goOne 55 12 9 L S g := ez_getfield kcX12_goOne dX12_goOne_52 fl_12_28 rfl L S g
theorem eX12_goOne_55 (L : pmL) (S : List Value) (g : pmH) : pmV mX12_goOne 55 L S g = zLdI mX12_goOne 57 4 L S g := ez_iload kcX12_goOne dX12_goOne_55 rfl L S g
theorem eX12_goOne_57 (L : pmL) (S : List Value) (g : pmH) : pmV mX12_goOne 57 L S g = zPush mX12_goOne 58 (.int (nI 5)) L S g := ez_iconst kcX12_goOne dX12_goOne_57 (by decide) rfl L S g
theorem eX12_goOne_58 (L : pmL) (S : List Value) (g : pmH) : pmV mX12_goOne 58 L S g = zAdd mX12_goOne 59 L S g := ez_iadd kcX12_goOne dX12_goOne_58 rfl L S g
theorem eX12_goOne_59 (L : pmL) (S : List Value) (g : pmH) : pmV mX12_goOne 59 L S g = zLdI mX12_goOne 60 2 L S g := ez_iload_n kcX12_goOne dX12_goOne_59 rfl rfl L S g
theorem eX12_goOne_60 (L : pmL) (S : List Value) (g : pmH) : pmV mX12_goOne 60 L S g = zAdd mX12_goOne 61 L S g := ez_iadd kcX12_goOne dX12_goOne_60 rfl L S g
theorem eX12_goOne_61 (L : pmL) (S : List Value) (g : pmH) : pmV mX12_goOne 61 L S g = zLdI mX12_goOne 63 5 L S g := ez_iload kcX12_goOne dX12_goOne_61 rfl L S g
theorem eX12_goOne_63 (L : pmL) (S : List Value) (g : pmH) : pmV mX12_goOne 63 L S g = zPush mX12_goOne 65 (.int (-9)) L S g := ez_bipush kcX12_goOne dX12_goOne_63 (by decide) rfl L S g
theorem eX12_goOne_65 (L : pmL) (S : List Value) (g : pmH) : pmV mX12_goOne 65 L S g = zBne mX12_goOne 68 72 L S g := ez_icmp_ne kcX12_goOne dX12_goOne_65 (by decide) rfl L S g
theorem eX12_goOne_68 (L : pmL) (S : List Value) (g : pmH) : pmV mX12_goOne 68 L S g = zPush mX12_goOne 69 (.int (nI 3)) L S g := ez_iconst kcX12_goOne dX12_goOne_68 (by decide) rfl L S g
theorem eX12_goOne_69 (L : pmL) (S : List Value) (g : pmH) : pmV mX12_goOne 69 L S g = zNx mX12_goOne 73 L S g := ez_goto kcX12_goOne dX12_goOne_69 (by decide) L S g
theorem eX12_goOne_72 (L : pmL) (S : List Value) (g : pmH) : pmV mX12_goOne 72 L S g = zPush mX12_goOne 73 (.int (nI 1)) L S g := ez_iconst kcX12_goOne dX12_goOne_72 (by decide) rfl L S g
theorem eX12_goOne_73 (L : pmL) (S : List Value) (g : pmH) : pmV mX12_goOne 73 L S g = zIast mX12_goOne 74 L S g := ez_iastore kcX12_goOne dX12_goOne_73 rfl L S g
theorem eX12_goOne_74 (L : pmL) (S : List Value) (g : pmH) : pmV mX12_goOne 74 L S g = zVret S g := ez_return kcX12_goOne dX12_goOne_74 rfl L S g
theorem eX12_go_0 (L : pmL) (S : List Value) (g : pmH) : pmV mX12_go 0 L S g = zPush mX12_go 2 (.int (nI 31)) L S g := ez_bipush kcX12_go dX12_go_0 (by decide) rfl L S g
theorem eX12_go_2 (L : pmL) (S : List Value) (g : pmH) : pmV mX12_go 2 L S g = zLdI mX12_go 3 1 L S g := ez_iload_n kcX12_go dX12_go_2 rfl rfl L S g
theorem eX12_go_3 (L : pmL) (S : List Value) (g : pmH) : pmV mX12_go 3 L S g = zMul mX12_go 4 L S g := ez_imul kcX12_go dX12_go_3 rfl L S g
theorem eX12_go_4 (L : pmL) (S : List Value) (g : pmH) : pmV mX12_go 4 L S g = zStI mX12_go 6 4 L S g := ez_istore kcX12_go dX12_go_4 rfl L S g
theorem eX12_go_6 (L : pmL) (S : List Value) (g : pmH) : pmV mX12_go 6 L S g = zLdI mX12_go 7 3 L S g := ez_iload_n kcX12_go dX12_go_6 rfl rfl L S g
theorem eX12_go_7 (L : pmL) (S : List Value) (g : pmH) : pmV mX12_go 7 L S g = zStI mX12_go 9 5 L S g := ez_istore kcX12_go dX12_go_7 rfl L S g
theorem eX12_go_9 (L : pmL) (S : List Value) (g : pmH) : pmV mX12_go 9 L S g = zLdA mX12_go 10 0 L S g := ez_aload_n kcX12_go dX12_go_9 rfl rfl L S g
theorem eX12_go_10 (L : pmL) (S : List Value) (g : pmH) : pmV mX12_go 10 L S g = zGet mX12_go 13 12 4 L S g := ez_getfield kcX12_go dX12_go_10 fl_12_13 rfl L S g
theorem eX12_go_13 (L : pmL) (S : List Value) (g : pmH) : pmV mX12_go 13 L S g = zLdI mX12_go 14 2 L S g := ez_iload_n kcX12_go dX12_go_13 rfl rfl L S g
theorem eX12_go_14 (L : pmL) (S : List Value) (g : pmH) : pmV mX12_go 14 L S g = zIald mX12_go 15 L S g := ez_iaload kcX12_go dX12_go_14 rfl L S g
theorem eX12_go_15 (L : pmL) (S : List Value) (g : pmH) : pmV mX12_go 15 L S g = zPush mX12_go 16 (.int (nI 1)) L S g := ez_iconst kcX12_go dX12_go_15 (by decide) rfl L S g
theorem eX12_go_16 (L : pmL) (S : List Value) (g : pmH) : pmV mX12_go 16 L S g = zBne mX12_go 19 79 L S g := ez_icmp_ne kcX12_go dX12_go_16 (by decide) rfl L S g
theorem eX12_go_19 (L : pmL) (S : List Value) (g : pmH) : pmV mX12_go 19 L S g = zLdA mX12_go 20 0 L S g := ez_aload_n kcX12_go dX12_go_19 rfl rfl L S g
theorem eX12_go_20 (L : pmL) (S : List Value) (g : pmH) : pmV mX12_go 20 L S g = zGet mX12_go 23 12 9 L S g := ez_getfield kcX12_go dX12_go_20 fl_12_28 rfl L S g
theorem eX12_go_23 (L : pmL) (S : List Value) (g : pmH) : pmV mX12_go 23 L S g = zLdI mX12_go 25 4 L S g := ez_iload kcX12_go dX12_go_23 rfl L S g
theorem eX12_go_25 (L : pmL) (S : List Value) (g : pmH) : pmV mX12_go 25 L S g = zPush mX12_go 27 (.int (nI 10)) L S g := ez_bipush kcX12_go dX12_go_25 (by decide) rfl L S g
theorem eX12_go_27 (L : pmL) (S : List Value) (g : pmH) : pmV mX12_go 27 L S g = zAdd mX12_go 28 L S g := ez_iadd kcX12_go dX12_go_27 rfl L S g
theorem eX12_go_28 (L : pmL) (S : List Value) (g : pmH) : pmV mX12_go 28 L S g = zLdI mX12_go 29 2 L S g := ez_iload_n kcX12_go dX12_go_28 rfl rfl L S g
theorem eX12_go_29 (L : pmL) (S : List Value) (g : pmH) : pmV mX12_go 29 L S g = zAdd mX12_go 30 L S g := ez_iadd kcX12_go dX12_go_29 rfl L S g
theorem eX12_go_30 (L : pmL) (S : List Value) (g : pmH) : pmV mX12_go 30 L S g = zLdA mX12_go 31 0 L S g := ez_aload_n kcX12_go dX12_go_30 rfl rfl L S g
theorem eX12_go_31 (L : pmL) (S : List Value) (g : pmH) : pmV mX12_go 31 L S g = zGet mX12_go 34 12 9 L S g := ez_getfield kcX12_go dX12_go_31 fl_12_28 rfl L S g
theorem eX12_go_34 (L : pmL) (S : List Value) (g : pmH) : pmV mX12_go 34 L S g = zLdI mX12_go 36 4 L S g := ez_iload kcX12_go dX12_go_34 rfl L S g
theorem eX12_go_36 (L : pmL) (S : List Value) (g : pmH) : pmV mX12_go 36 L S g = zPush mX12_go 38 (.int (nI 10)) L S g := ez_bipush kcX12_go dX12_go_36 (by decide) rfl L S g
theorem eX12_go_38 (L : pmL) (S : List Value) (g : pmH) : pmV mX12_go 38 L S g = zAdd mX12_go 39 L S g := ez_iadd kcX12_go dX12_go_38 rfl L S g
theorem eX12_go_39 (L : pmL) (S : List Value) (g : pmH) : pmV mX12_go 39 L S g = zLdI mX12_go 40 2 L S g := ez_iload_n kcX12_go dX12_go_39 rfl rfl L S g
theorem eX12_go_40 (L : pmL) (S : List Value) (g : pmH) : pmV mX12_go 40 L S g = zAdd mX12_go 41 L S g := ez_iadd kcX12_go dX12_go_40 rfl L S g
theorem eX12_go_41 (L : pmL) (S : List Value) (g : pmH) : pmV mX12_go 41 L S g = zIald mX12_go 42 L S g := ez_iaload kcX12_go dX12_go_41 rfl L S g
theorem eX12_go_42 (L : pmL) (S : List Value) (g : pmH) : pmV mX12_go 42 L S g = zCne mX12_go 45 49 L S g := ez_if_ne kcX12_go dX12_go_42 (by decide) rfl L S g
theorem eX12_go_45 (L : pmL) (S : List Value) (g : pmH) : pmV mX12_go 45 L S g = zLdI mX12_go 46 3 L S g := ez_iload_n kcX12_go dX12_go_45 rfl rfl L S g
theorem eX12_go_46 (L : pmL) (S : List Value) (g : pmH) : pmV mX12_go 46 L S g = zNx mX12_go 61 L S g := ez_goto kcX12_go dX12_go_46 (by decide) L S g
theorem eX12_go_49 (L : pmL) (S : List Value) (g : pmH) : pmV mX12_go 49 L S g = zLdA mX12_go 50 0 L S g := ez_aload_n kcX12_go dX12_go_49 rfl rfl L S g
theorem eX12_go_50 (L : pmL) (S : List Value) (g : pmH) : pmV mX12_go 50 L S g = zGet mX12_go 53 12 9 L S g := ez_getfield kcX12_go dX12_go_50 fl_12_28 rfl L S g
theorem eX12_go_53 (L : pmL) (S : List Value) (g : pmH) : pmV mX12_go 53 L S g = zLdI mX12_go 55 4 L S g := ez_iload kcX12_go dX12_go_53 rfl L S g
theorem eX12_go_55 (L : pmL) (S : List Value) (g : pmH) : pmV mX12_go 55 L S g = zPush mX12_go 57 (.int (nI 10)) L S g := ez_bipush kcX12_go dX12_go_55 (by decide) rfl L S g
theorem eX12_go_57 (L : pmL) (S : List Value) (g : pmH) : pmV mX12_go 57 L S g = zAdd mX12_go 58 L S g := ez_iadd kcX12_go dX12_go_57 rfl L S g
theorem eX12_go_58 (L : pmL) (S : List Value) (g : pmH) : pmV mX12_go 58 L S g = zLdI mX12_go 59 2 L S g := ez_iload_n kcX12_go dX12_go_58 rfl rfl L S g
theorem eX12_go_59 (L : pmL) (S : List Value) (g : pmH) : pmV mX12_go 59 L S g = zAdd mX12_go 60 L S g := ez_iadd kcX12_go dX12_go_59 rfl L S g
theorem eX12_go_60 (L : pmL) (S : List Value) (g : pmH) : pmV mX12_go 60 L S g = zIald mX12_go 61 L S g := ez_iaload kcX12_go dX12_go_60 rfl L S g
theorem eX12_go_61 (L : pmL) (S : List Value) (g : pmH) : pmV mX12_go 61 L S g = zIast mX12_go 62 L S g := ez_iastore kcX12_go dX12_go_61 rfl L S g
theorem eX12_go_62 (L : pmL) (S : List Value) (g : pmH) : pmV mX12_go 62 L S g = zLdA mX12_go 63 0 L S g := ez_aload_n kcX12_go dX12_go_62 rfl rfl L S g
theorem eX12_go_63 (L : pmL) (S : List Value) (g : pmH) : pmV mX12_go 63 L S g = zGet mX12_go 66 12 9 L S g := ez_getfield kcX12_go dX12_go_63 fl_12_28 rfl L S g
theorem eX12_go_66 (L : pmL) (S : List Value) (g : pmH) : pmV mX12_go 66 L S g = zLdI mX12_go 68 4 L S g := ez_iload kcX12_go dX12_go_66 rfl L S g
theorem eX12_go_68 (L : pmL) (S : List Value) (g : pmH) : pmV mX12_go 68 L S g = zPush mX12_go 70 (.int (nI 10)) L S g := ez_bipush kcX12_go dX12_go_68 (by decide) rfl L S g
theorem eX12_go_70 (L : pmL) (S : List Value) (g : pmH) : pmV mX12_go 70 L S g = zAdd mX12_go 71 L S g := ez_iadd kcX12_go dX12_go_70 rfl L S g
theorem eX12_go_71 (L : pmL) (S : List Value) (g : pmH) : pmV mX12_go 71 L S g = zLdI mX12_go 72 2 L S g := ez_iload_n kcX12_go dX12_go_71 rfl rfl L S g
theorem eX12_go_72 (L : pmL) (S : List Value) (g : pmH) : pmV mX12_go 72 L S g = zAdd mX12_go 73 L S g := ez_iadd kcX12_go dX12_go_72 rfl L S g
theorem eX12_go_73 (L : pmL) (S : List Value) (g : pmH) : pmV mX12_go 73 L S g = zIald mX12_go 74 L S g := ez_iaload kcX12_go dX12_go_73 rfl L S g
theorem eX12_go_74 (L : pmL) (S : List Value) (g : pmH) : pmV mX12_go 74 L S g = zStI mX12_go 76 5 L S g := ez_istore kcX12_go dX12_go_74 rfl L S g
theorem eX12_go_76 (L : pmL) (S : List Value) (g : pmH) : pmV mX12_go 76 L S g = zNx mX12_go 108 L S g := ez_goto kcX12_go dX12_go_76 (by decide) L S g
theorem eX12_go_79 (L : pmL) (S : List Value) (g : pmH) : pmV mX12_go 79 L S g = zLdA mX12_go 80 0 L S g := ez_aload_n kcX12_go dX12_go_79 rfl rfl L S g
theorem eX12_go_80 (L : pmL) (S : List Value) (g : pmH) : pmV mX12_go 80 L S g = zGet mX12_go 83 12 4 L S g := ez_getfield kcX12_go dX12_go_80 fl_12_13 rfl L S g
theorem eX12_go_83 (L : pmL) (S : List Value) (g : pmH) : pmV mX12_go 83 L S g = zLdI mX12_go 84 2 L S g := ez_iload_n kcX12_go dX12_go_83 rfl rfl L S g
theorem eX12_go_84 (L : pmL) (S : List Value) (g : pmH) : pmV mX12_go 84 L S g = zIald mX12_go 85 L S g := ez_iaload kcX12_go dX12_go_84 rfl L S g
theorem eX12_go_85 (L : pmL) (S : List Value) (g : pmH) : pmV mX12_go 85 L S g = zPush mX12_go 86 (.int (nI 2)) L S g := ez_iconst kcX12_go dX12_go_85 (by decide) rfl L S g
theorem eX12_go_86 (L : pmL) (S : List Value) (g : pmH) : pmV mX12_go 86 L S g = zBne mX12_go 89 108 L S g := ez_icmp_ne kcX12_go dX12_go_86 (by decide) rfl L S g
theorem eX12_go_89 (L : pmL) (S : List Value) (g : pmH) : pmV mX12_go 89 L S g = zLdA mX12_go 90 0 L S g := ez_aload_n kcX12_go dX12_go_89 rfl rfl L S g
theorem eX12_go_90 (L : pmL) (S : List Value) (g : pmH) : pmV mX12_go 90 L S g = zGet mX12_go 93 12 9 L S g := ez_getfield kcX12_go dX12_go_90 fl_12_28 rfl L S g
theorem eX12_go_93 (L : pmL) (S : List Value) (g : pmH) : pmV mX12_go 93 L S g = zLdI mX12_go 95 4 L S g := ez_iload kcX12_go dX12_go_93 rfl L S g
theorem eX12_go_95 (L : pmL) (S : List Value) (g : pmH) : pmV mX12_go 95 L S g = zPush mX12_go 97 (.int (nI 30)) L S g := ez_bipush kcX12_go dX12_go_95 (by decide) rfl L S g
theorem eX12_go_97 (L : pmL) (S : List Value) (g : pmH) : pmV mX12_go 97 L S g = zAdd mX12_go 98 L S g := ez_iadd kcX12_go dX12_go_97 rfl L S g
theorem eX12_go_98 (L : pmL) (S : List Value) (g : pmH) : pmV mX12_go 98 L S g = zIald mX12_go 99 L S g := ez_iaload kcX12_go dX12_go_98 rfl L S g
theorem eX12_go_99 (L : pmL) (S : List Value) (g : pmH) : pmV mX12_go 99 L S g = zPush mX12_go 100 (.int (nI 2)) L S g := ez_iconst kcX12_go dX12_go_99 (by decide) rfl L S g
theorem eX12_go_100 (L : pmL) (S : List Value) (g : pmH) : pmV mX12_go 100 L S g = zRem mX12_go 101 L S g := ez_irem kcX12_go dX12_go_100 rfl L S g
theorem eX12_go_101 (L : pmL) (S : List Value) (g : pmH) : pmV mX12_go 101 L S g = zPush mX12_go 102 (.int (nI 1)) L S g := ez_iconst kcX12_go dX12_go_101 (by decide) rfl L S g
theorem eX12_go_102 (L : pmL) (S : List Value) (g : pmH) : pmV mX12_go 102 L S g = zBne mX12_go 105 108 L S g := ez_icmp_ne kcX12_go dX12_go_102 (by decide) rfl L S g
theorem eX12_go_105 (L : pmL) (S : List Value) (g : pmH) : pmV mX12_go 105 L S g = zPush mX12_go 106 (.int (nI 0)) L S g := ez_iconst kcX12_go dX12_go_105 (by decide) rfl L S g
theorem eX12_go_106 (L : pmL) (S : List Value) (g : pmH) : pmV mX12_go 106 L S g = zStI mX12_go 108 5 L S g := ez_istore kcX12_go dX12_go_106 rfl L S g
theorem eX12_go_108 (L : pmL) (S : List Value) (g : pmH) : pmV mX12_go 108 L S g = zLdA mX12_go 109 0 L S g := ez_aload_n kcX12_go dX12_go_108 rfl rfl L S g
theorem eX12_go_109 (L : pmL) (S : List Value) (g : pmH) : pmV mX12_go 109 L S g = zLdI mX12_go 110 1 L S g := ez_iload_n kcX12_go dX12_go_109 rfl rfl L S g
theorem eX12_go_110 (L : pmL) (S : List Value) (g : pmH) : pmV mX12_go 110 L S g = zLdI mX12_go 111 2 L S g := ez_iload_n kcX12_go dX12_go_110 rfl rfl L S g
theorem eX12_go_111 (L : pmL) (S : List Value) (g : pmH) : pmV mX12_go 111 L S g = zLdI mX12_go 113 5 L S g := ez_iload kcX12_go dX12_go_111 rfl L S g
theorem eX12_go_113 (L : pmL) (S : List Value) (g : pmH) : pmV mX12_go 113 L S g = yV mX12_go 116 3 mX12_goOne 12 6 L S g := (ez_virtual kcX12_go dX12_go_113 ml_12_133 rfl L S g).trans (zCallV_y rfl rfl (by decide) L S g)
theorem eX12_go_116 (L : pmL) (S : List Value) (g : pmH) : pmV mX12_go 116 L S g = zLdA mX12_go 117 0 L S g := ez_aload_n kcX12_go dX12_go_116 rfl rfl L S g
theorem eX12_go_117 (L : pmL) (S : List Value) (g : pmH) : pmV mX12_go 117 L S g = zGet mX12_go 120 12 4 L S g := ez_getfield kcX12_go dX12_go_117 fl_12_13 rfl L S g
theorem eX12_go_120 (L : pmL) (S : List Value) (g : pmH) : pmV mX12_go 120 L S g = zLdI mX12_go 121 2 L S g := ez_iload_n kcX12_go dX12_go_120 rfl rfl L S g
theorem eX12_go_121 (L : pmL) (S : List Value) (g : pmH) : pmV mX12_go 121 L S g = zIald mX12_go 122 L S g := ez_iaload kcX12_go dX12_go_121 rfl L S g
theorem eX12_go_122 (L : pmL) (S : List Value) (g : pmH) : pmV mX12_go 122 L S g = zPush mX12_go 123 (.int (nI 3)) L S g := ez_iconst kcX12_go dX12_go_122 (by decide) rfl L S g
theorem eX12_go_123 (L : pmL) (S : List Value) (g : pmH) : pmV mX12_go 123 L S g = zBne mX12_go 126 149 L S g := ez_icmp_ne kcX12_go dX12_go_123 (by decide) rfl L S g
theorem eX12_go_126 (L : pmL) (S : List Value) (g : pmH) : pmV mX12_go 126 L S g = zLdA mX12_go 127 0 L S g := ez_aload_n kcX12_go dX12_go_126 rfl rfl L S g
theorem eX12_go_127 (L : pmL) (S : List Value) (g : pmH) : pmV mX12_go 127 L S g = zGet mX12_go 130 12 9 L S g := ez_getfield kcX12_go dX12_go_127 fl_12_28 rfl L S g
theorem eX12_go_130 (L : pmL) (S : List Value) (g : pmH) : pmV mX12_go 130 L S g = zLdI mX12_go 132 4 L S g := ez_iload kcX12_go dX12_go_130 rfl L S g
theorem eX12_go_132 (L : pmL) (S : List Value) (g : pmH) : pmV mX12_go 132 L S g = zPush mX12_go 133 (.int (nI 5)) L S g := ez_iconst kcX12_go dX12_go_132 (by decide) rfl L S g
theorem eX12_go_133 (L : pmL) (S : List Value) (g : pmH) : pmV mX12_go 133 L S g = zAdd mX12_go 134 L S g := ez_iadd kcX12_go dX12_go_133 rfl L S g
theorem eX12_go_134 (L : pmL) (S : List Value) (g : pmH) : pmV mX12_go 134 L S g = zLdI mX12_go 135 2 L S g := ez_iload_n kcX12_go dX12_go_134 rfl rfl L S g
theorem eX12_go_135 (L : pmL) (S : List Value) (g : pmH) : pmV mX12_go 135 L S g = zAdd mX12_go 136 L S g := ez_iadd kcX12_go dX12_go_135 rfl L S g
theorem eX12_go_136 (L : pmL) (S : List Value) (g : pmH) : pmV mX12_go 136 L S g = zIald mX12_go 137 L S g := ez_iaload kcX12_go dX12_go_136 rfl L S g
theorem eX12_go_137 (L : pmL) (S : List Value) (g : pmH) : pmV mX12_go 137 L S g = zPush mX12_go 138 (.int (nI 1)) L S g := ez_iconst kcX12_go dX12_go_137 (by decide) rfl L S g
theorem eX12_go_138 (L : pmL) (S : List Value) (g : pmH) : pmV mX12_go 138 L S g = zBne mX12_go 141 149 L S g := ez_icmp_ne kcX12_go dX12_go_138 (by decide) rfl L S g
theorem eX12_go_141 (L : pmL) (S : List Value) (g : pmH) : pmV mX12_go 141 L S g = zLdA mX12_go 142 0 L S g := ez_aload_n kcX12_go dX12_go_141 rfl rfl L S g
theorem eX12_go_142 (L : pmL) (S : List Value) (g : pmH) : pmV mX12_go 142 L S g = zLdI mX12_go 143 1 L S g := ez_iload_n kcX12_go dX12_go_142 rfl rfl L S g
theorem eX12_go_143 (L : pmL) (S : List Value) (g : pmH) : pmV mX12_go 143 L S g = zLdI mX12_go 144 2 L S g := ez_iload_n kcX12_go dX12_go_143 rfl rfl L S g
theorem eX12_go_144 (L : pmL) (S : List Value) (g : pmH) : pmV mX12_go 144 L S g = zLdI mX12_go 146 5 L S g := ez_iload kcX12_go dX12_go_144 rfl L S g
theorem eX12_go_146 (L : pmL) (S : List Value) (g : pmH) : pmV mX12_go 146 L S g = yV mX12_go 149 3 mX12_goOne 12 6 L S g := (ez_virtual kcX12_go dX12_go_146 ml_12_133 rfl L S g).trans (zCallV_y rfl rfl (by decide) L S g)
theorem eX12_go_149 (L : pmL) (S : List Value) (g : pmH) : pmV mX12_go 149 L S g = zVret S g := ez_return kcX12_go dX12_go_149 rfl L S g
theorem eX12_passOn_0 (L : pmL) (S : List Value) (g : pmH) : pmV mX12_passOn 0 L S g = zPush mX12_passOn 2 (.int (nI 31)) L S g := ez_bipush kcX12_passOn dX12_passOn_0 (by decide) rfl L S g
theorem eX12_passOn_2 (L : pmL) (S : List Value) (g : pmH) : pmV mX12_passOn 2 L S g = zLdI mX12_passOn 3 1 L S g := ez_iload_n kcX12_passOn dX12_passOn_2 rfl rfl L S g
theorem eX12_passOn_3 (L : pmL) (S : List Value) (g : pmH) : pmV mX12_passOn 3 L S g = zMul mX12_passOn 4 L S g := ez_imul kcX12_passOn dX12_passOn_3 rfl L S g
theorem eX12_passOn_4 (L : pmL) (S : List Value) (g : pmH) : pmV mX12_passOn 4 L S g = zStI mX12_passOn 5 3 L S g := ez_istore_n kcX12_passOn dX12_passOn_4 rfl rfl L S g
theorem eX12_passOn_5 (L : pmL) (S : List Value) (g : pmH) : pmV mX12_passOn 5 L S g = zLdI mX12_passOn 6 2 L S g := ez_iload_n kcX12_passOn dX12_passOn_5 rfl rfl L S g
theorem eX12_passOn_6 (L : pmL) (S : List Value) (g : pmH) : pmV mX12_passOn 6 L S g = zCeq mX12_passOn 9 25 L S g := ez_if_eq kcX12_passOn dX12_passOn_6 (by decide) rfl L S g
theorem eX12_passOn_9 (L : pmL) (S : List Value) (g : pmH) : pmV mX12_passOn 9 L S g = zLdA mX12_passOn 10 0 L S g := ez_aload_n kcX12_passOn dX12_passOn_9 rfl rfl L S g
theorem eX12_passOn_10 (L : pmL) (S : List Value) (g : pmH) : pmV mX12_passOn 10 L S g = zLdA mX12_passOn 11 0 L S g := ez_aload_n kcX12_passOn dX12_passOn_10 rfl rfl L S g
theorem eX12_passOn_11 (L : pmL) (S : List Value) (g : pmH) : pmV mX12_passOn 11 L S g = zGet mX12_passOn 14 12 9 L S g := ez_getfield kcX12_passOn dX12_passOn_11 fl_12_28 rfl L S g
theorem eX12_passOn_14 (L : pmL) (S : List Value) (g : pmH) : pmV mX12_passOn 14 L S g = zLdI mX12_passOn 15 3 L S g := ez_iload_n kcX12_passOn dX12_passOn_14 rfl rfl L S g
theorem eX12_passOn_15 (L : pmL) (S : List Value) (g : pmH) : pmV mX12_passOn 15 L S g = zPush mX12_passOn 17 (.int (nI 30)) L S g := ez_bipush kcX12_passOn dX12_passOn_15 (by decide) rfl L S g
theorem eX12_passOn_17 (L : pmL) (S : List Value) (g : pmH) : pmV mX12_passOn 17 L S g = zAdd mX12_passOn 18 L S g := ez_iadd kcX12_passOn dX12_passOn_17 rfl L S g
theorem eX12_passOn_18 (L : pmL) (S : List Value) (g : pmH) : pmV mX12_passOn 18 L S g = zIald mX12_passOn 19 L S g := ez_iaload kcX12_passOn dX12_passOn_18 rfl L S g
theorem eX12_passOn_19 (L : pmL) (S : List Value) (g : pmH) : pmV mX12_passOn 19 L S g = yV mX12_passOn 22 1 mX12_windOf 12 2 L S g := (ez_virtual kcX12_passOn dX12_passOn_19 ml_12_137 rfl L S g).trans (zCallV_y rfl rfl (by decide) L S g)
theorem eX12_passOn_22 (L : pmL) (S : List Value) (g : pmH) : pmV mX12_passOn 22 L S g = zNx mX12_passOn 26 L S g := ez_goto kcX12_passOn dX12_passOn_22 (by decide) L S g
theorem eX12_passOn_25 (L : pmL) (S : List Value) (g : pmH) : pmV mX12_passOn 25 L S g = zPush mX12_passOn 26 (.int (nI 0)) L S g := ez_iconst kcX12_passOn dX12_passOn_25 (by decide) rfl L S g
theorem eX12_passOn_26 (L : pmL) (S : List Value) (g : pmH) : pmV mX12_passOn 26 L S g = zStI mX12_passOn 28 4 L S g := ez_istore kcX12_passOn dX12_passOn_26 rfl L S g
theorem eX12_passOn_28 (L : pmL) (S : List Value) (g : pmH) : pmV mX12_passOn 28 L S g = zPush mX12_passOn 29 (.int (nI 0)) L S g := ez_iconst kcX12_passOn dX12_passOn_28 (by decide) rfl L S g
theorem eX12_passOn_29 (L : pmL) (S : List Value) (g : pmH) : pmV mX12_passOn 29 L S g = zStI mX12_passOn 31 5 L S g := ez_istore kcX12_passOn dX12_passOn_29 rfl L S g
theorem eX12_passOn_31 (L : pmL) (S : List Value) (g : pmH) : pmV mX12_passOn 31 L S g = zLdI mX12_passOn 33 5 L S g := ez_iload kcX12_passOn dX12_passOn_31 rfl L S g
theorem eX12_passOn_33 (L : pmL) (S : List Value) (g : pmH) : pmV mX12_passOn 33 L S g = zLdA mX12_passOn 34 0 L S g := ez_aload_n kcX12_passOn dX12_passOn_33 rfl rfl L S g
theorem eX12_passOn_34 (L : pmL) (S : List Value) (g : pmH) : pmV mX12_passOn 34 L S g = zGet mX12_passOn 37 12 1 L S g := ez_getfield kcX12_passOn dX12_passOn_34 fl_12_120 rfl L S g
theorem eX12_passOn_37 (L : pmL) (S : List Value) (g : pmH) : pmV mX12_passOn 37 L S g = zBge mX12_passOn 40 70 L S g := ez_icmp_ge kcX12_passOn dX12_passOn_37 (by decide) rfl L S g
theorem eX12_passOn_40 (L : pmL) (S : List Value) (g : pmH) : pmV mX12_passOn 40 L S g = zLdA mX12_passOn 41 0 L S g := ez_aload_n kcX12_passOn dX12_passOn_40 rfl rfl L S g
theorem eX12_passOn_41 (L : pmL) (S : List Value) (g : pmH) : pmV mX12_passOn 41 L S g = zGet mX12_passOn 44 12 9 L S g := ez_getfield kcX12_passOn dX12_passOn_41 fl_12_28 rfl L S g
theorem eX12_passOn_44 (L : pmL) (S : List Value) (g : pmH) : pmV mX12_passOn 44 L S g = zLdI mX12_passOn 45 3 L S g := ez_iload_n kcX12_passOn dX12_passOn_44 rfl rfl L S g
theorem eX12_passOn_45 (L : pmL) (S : List Value) (g : pmH) : pmV mX12_passOn 45 L S g = zPush mX12_passOn 46 (.int (nI 5)) L S g := ez_iconst kcX12_passOn dX12_passOn_45 (by decide) rfl L S g
theorem eX12_passOn_46 (L : pmL) (S : List Value) (g : pmH) : pmV mX12_passOn 46 L S g = zAdd mX12_passOn 47 L S g := ez_iadd kcX12_passOn dX12_passOn_46 rfl L S g
theorem eX12_passOn_47 (L : pmL) (S : List Value) (g : pmH) : pmV mX12_passOn 47 L S g = zLdI mX12_passOn 49 5 L S g := ez_iload kcX12_passOn dX12_passOn_47 rfl L S g
theorem eX12_passOn_49 (L : pmL) (S : List Value) (g : pmH) : pmV mX12_passOn 49 L S g = zAdd mX12_passOn 50 L S g := ez_iadd kcX12_passOn dX12_passOn_49 rfl L S g
theorem eX12_passOn_50 (L : pmL) (S : List Value) (g : pmH) : pmV mX12_passOn 50 L S g = zIald mX12_passOn 51 L S g := ez_iaload kcX12_passOn dX12_passOn_50 rfl L S g
theorem eX12_passOn_51 (L : pmL) (S : List Value) (g : pmH) : pmV mX12_passOn 51 L S g = zPush mX12_passOn 52 (.int (nI 1)) L S g := ez_iconst kcX12_passOn dX12_passOn_51 (by decide) rfl L S g
theorem eX12_passOn_52 (L : pmL) (S : List Value) (g : pmH) : pmV mX12_passOn 52 L S g = zBne mX12_passOn 55 64 L S g := ez_icmp_ne kcX12_passOn dX12_passOn_52 (by decide) rfl L S g
theorem eX12_passOn_55 (L : pmL) (S : List Value) (g : pmH) : pmV mX12_passOn 55 L S g = zLdA mX12_passOn 56 0 L S g := ez_aload_n kcX12_passOn dX12_passOn_55 rfl rfl L S g
theorem eX12_passOn_56 (L : pmL) (S : List Value) (g : pmH) : pmV mX12_passOn 56 L S g = zLdI mX12_passOn 57 1 L S g := ez_iload_n kcX12_passOn dX12_passOn_56 rfl rfl L S g
theorem eX12_passOn_57 (L : pmL) (S : List Value) (g : pmH) : pmV mX12_passOn 57 L S g = zLdI mX12_passOn 59 5 L S g := ez_iload kcX12_passOn dX12_passOn_57 rfl L S g
theorem eX12_passOn_59 (L : pmL) (S : List Value) (g : pmH) : pmV mX12_passOn 59 L S g = zLdI mX12_passOn 61 4 L S g := ez_iload kcX12_passOn dX12_passOn_59 rfl L S g
theorem eX12_passOn_61 (L : pmL) (S : List Value) (g : pmH) : pmV mX12_passOn 61 L S g = yV mX12_passOn 64 3 mX12_go 12 6 L S g := (ez_virtual kcX12_passOn dX12_passOn_61 ml_12_140 rfl L S g).trans (zCallV_y rfl rfl (by decide) L S g)
theorem eX12_passOn_64 (L : pmL) (S : List Value) (g : pmH) : pmV mX12_passOn 64 L S g = zInc mX12_passOn 67 5 (nI 1) L S g := ez_iinc kcX12_passOn dX12_passOn_64 (by decide) rfl L S g
theorem eX12_passOn_67 (L : pmL) (S : List Value) (g : pmH) : pmV mX12_passOn 67 L S g = zNx mX12_passOn 31 L S g := ez_goto kcX12_passOn dX12_passOn_67 (by decide) L S g
theorem eX12_passOn_70 (L : pmL) (S : List Value) (g : pmH) : pmV mX12_passOn 70 L S g = zLdA mX12_passOn 71 0 L S g := ez_aload_n kcX12_passOn dX12_passOn_70 rfl rfl L S g
theorem eX12_passOn_71 (L : pmL) (S : List Value) (g : pmH) : pmV mX12_passOn 71 L S g = zGet mX12_passOn 74 12 9 L S g := ez_getfield kcX12_passOn dX12_passOn_71 fl_12_28 rfl L S g
theorem eX12_passOn_74 (L : pmL) (S : List Value) (g : pmH) : pmV mX12_passOn 74 L S g = zLdI mX12_passOn 75 3 L S g := ez_iload_n kcX12_passOn dX12_passOn_74 rfl rfl L S g
theorem eX12_passOn_75 (L : pmL) (S : List Value) (g : pmH) : pmV mX12_passOn 75 L S g = zPush mX12_passOn 77 (.int (nI 30)) L S g := ez_bipush kcX12_passOn dX12_passOn_75 (by decide) rfl L S g
theorem eX12_passOn_77 (L : pmL) (S : List Value) (g : pmH) : pmV mX12_passOn 77 L S g = zAdd mX12_passOn 78 L S g := ez_iadd kcX12_passOn dX12_passOn_77 rfl L S g
theorem eX12_passOn_78 (L : pmL) (S : List Value) (g : pmH) : pmV mX12_passOn 78 L S g = zDup2 mX12_passOn 79 L S g := ez_dup2 kcX12_passOn dX12_passOn_78 rfl L S g
theorem eX12_passOn_79 (L : pmL) (S : List Value) (g : pmH) : pmV mX12_passOn 79 L S g = zIald mX12_passOn 80 L S g := ez_iaload kcX12_passOn dX12_passOn_79 rfl L S g
theorem eX12_passOn_80 (L : pmL) (S : List Value) (g : pmH) : pmV mX12_passOn 80 L S g = zPush mX12_passOn 81 (.int (nI 1)) L S g := ez_iconst kcX12_passOn dX12_passOn_80 (by decide) rfl L S g
theorem eX12_passOn_81 (L : pmL) (S : List Value) (g : pmH) : pmV mX12_passOn 81 L S g = zAdd mX12_passOn 82 L S g := ez_iadd kcX12_passOn dX12_passOn_81 rfl L S g
theorem eX12_passOn_82 (L : pmL) (S : List Value) (g : pmH) : pmV mX12_passOn 82 L S g = zIast mX12_passOn 83 L S g := ez_iastore kcX12_passOn dX12_passOn_82 rfl L S g
theorem eX12_passOn_83 (L : pmL) (S : List Value) (g : pmH) : pmV mX12_passOn 83 L S g = zPush mX12_passOn 84 (.int (nI 0)) L S g := ez_iconst kcX12_passOn dX12_passOn_83 (by decide) rfl L S g
theorem eX12_passOn_84 (L : pmL) (S : List Value) (g : pmH) : pmV mX12_passOn 84 L S g = zStI mX12_passOn 86 5 L S g := ez_istore kcX12_passOn dX12_passOn_84 rfl L S g
theorem eX12_passOn_86 (L : pmL) (S : List Value) (g : pmH) : pmV mX12_passOn 86 L S g = zPush mX12_passOn 87 (.int (nI 0)) L S g := ez_iconst kcX12_passOn dX12_passOn_86 (by decide) rfl L S g
theorem eX12_passOn_87 (L : pmL) (S : List Value) (g : pmH) : pmV mX12_passOn 87 L S g = zStI mX12_passOn 89 6 L S g := ez_istore kcX12_passOn dX12_passOn_87 rfl L S g
theorem eX12_passOn_89 (L : pmL) (S : List Value) (g : pmH) : pmV mX12_passOn 89 L S g = zLdI mX12_passOn 91 6 L S g := ez_iload kcX12_passOn dX12_passOn_89 rfl L S g
theorem eX12_passOn_91 (L : pmL) (S : List Value) (g : pmH) : pmV mX12_passOn 91 L S g = zLdA mX12_passOn 92 0 L S g := ez_aload_n kcX12_passOn dX12_passOn_91 rfl rfl L S g
theorem eX12_passOn_92 (L : pmL) (S : List Value) (g : pmH) : pmV mX12_passOn 92 L S g = zGet mX12_passOn 95 12 1 L S g := ez_getfield kcX12_passOn dX12_passOn_92 fl_12_120 rfl L S g
theorem eX12_passOn_95 (L : pmL) (S : List Value) (g : pmH) : pmV mX12_passOn 95 L S g = zBge mX12_passOn 98 196 L S g := ez_icmp_ge kcX12_passOn dX12_passOn_95 (by decide) rfl L S g
theorem eX12_passOn_98 (L : pmL) (S : List Value) (g : pmH) : pmV mX12_passOn 98 L S g = zLdA mX12_passOn 99 0 L S g := ez_aload_n kcX12_passOn dX12_passOn_98 rfl rfl L S g
theorem eX12_passOn_99 (L : pmL) (S : List Value) (g : pmH) : pmV mX12_passOn 99 L S g = zGet mX12_passOn 102 12 9 L S g := ez_getfield kcX12_passOn dX12_passOn_99 fl_12_28 rfl L S g
theorem eX12_passOn_102 (L : pmL) (S : List Value) (g : pmH) : pmV mX12_passOn 102 L S g = zLdI mX12_passOn 103 3 L S g := ez_iload_n kcX12_passOn dX12_passOn_102 rfl rfl L S g
theorem eX12_passOn_103 (L : pmL) (S : List Value) (g : pmH) : pmV mX12_passOn 103 L S g = zPush mX12_passOn 104 (.int (nI 5)) L S g := ez_iconst kcX12_passOn dX12_passOn_103 (by decide) rfl L S g
theorem eX12_passOn_104 (L : pmL) (S : List Value) (g : pmH) : pmV mX12_passOn 104 L S g = zAdd mX12_passOn 105 L S g := ez_iadd kcX12_passOn dX12_passOn_104 rfl L S g
theorem eX12_passOn_105 (L : pmL) (S : List Value) (g : pmH) : pmV mX12_passOn 105 L S g = zLdI mX12_passOn 107 6 L S g := ez_iload kcX12_passOn dX12_passOn_105 rfl L S g
theorem eX12_passOn_107 (L : pmL) (S : List Value) (g : pmH) : pmV mX12_passOn 107 L S g = zAdd mX12_passOn 108 L S g := ez_iadd kcX12_passOn dX12_passOn_107 rfl L S g
theorem eX12_passOn_108 (L : pmL) (S : List Value) (g : pmH) : pmV mX12_passOn 108 L S g = zIald mX12_passOn 109 L S g := ez_iaload kcX12_passOn dX12_passOn_108 rfl L S g
theorem eX12_passOn_109 (L : pmL) (S : List Value) (g : pmH) : pmV mX12_passOn 109 L S g = zPush mX12_passOn 110 (.int (nI 1)) L S g := ez_iconst kcX12_passOn dX12_passOn_109 (by decide) rfl L S g
theorem eX12_passOn_110 (L : pmL) (S : List Value) (g : pmH) : pmV mX12_passOn 110 L S g = zBne mX12_passOn 113 129 L S g := ez_icmp_ne kcX12_passOn dX12_passOn_110 (by decide) rfl L S g
theorem eX12_passOn_113 (L : pmL) (S : List Value) (g : pmH) : pmV mX12_passOn 113 L S g = zLdA mX12_passOn 114 0 L S g := ez_aload_n kcX12_passOn dX12_passOn_113 rfl rfl L S g
theorem eX12_passOn_114 (L : pmL) (S : List Value) (g : pmH) : pmV mX12_passOn 114 L S g = zLdA mX12_passOn 115 0 L S g := ez_aload_n kcX12_passOn dX12_passOn_114 rfl rfl L S g
theorem eX12_passOn_115 (L : pmL) (S : List Value) (g : pmH) : pmV mX12_passOn 115 L S g = zGet mX12_passOn 118 12 9 L S g := ez_getfield kcX12_passOn dX12_passOn_115 fl_12_28 rfl L S g
theorem eX12_passOn_118 (L : pmL) (S : List Value) (g : pmH) : pmV mX12_passOn 118 L S g = zLdI mX12_passOn 119 3 L S g := ez_iload_n kcX12_passOn dX12_passOn_118 rfl rfl L S g
theorem eX12_passOn_119 (L : pmL) (S : List Value) (g : pmH) : pmV mX12_passOn 119 L S g = zLdI mX12_passOn 121 6 L S g := ez_iload kcX12_passOn dX12_passOn_119 rfl L S g
theorem eX12_passOn_121 (L : pmL) (S : List Value) (g : pmH) : pmV mX12_passOn 121 L S g = zAdd mX12_passOn 122 L S g := ez_iadd kcX12_passOn dX12_passOn_121 rfl L S g
theorem eX12_passOn_122 (L : pmL) (S : List Value) (g : pmH) : pmV mX12_passOn 122 L S g = zIald mX12_passOn 123 L S g := ez_iaload kcX12_passOn dX12_passOn_122 rfl L S g
theorem eX12_passOn_123 (L : pmL) (S : List Value) (g : pmH) : pmV mX12_passOn 123 L S g = yV mX12_passOn 126 1 mX12_hedgeAt 12 3 L S g := (ez_virtual kcX12_passOn dX12_passOn_123 ml_12_143 rfl L S g).trans (zCallV_y rfl rfl (by decide) L S g)
theorem eX12_passOn_126 (L : pmL) (S : List Value) (g : pmH) : pmV mX12_passOn 126 L S g = zNx mX12_passOn 131 L S g := ez_goto kcX12_passOn dX12_passOn_126 (by decide) L S g
theorem eX12_passOn_129 (L : pmL) (S : List Value) (g : pmH) : pmV mX12_passOn 129 L S g = zPush mX12_passOn 131 (.int (-9)) L S g := ez_bipush kcX12_passOn dX12_passOn_129 (by decide) rfl L S g
theorem eX12_passOn_131 (L : pmL) (S : List Value) (g : pmH) : pmV mX12_passOn 131 L S g = zStI mX12_passOn 133 7 L S g := ez_istore kcX12_passOn dX12_passOn_131 rfl L S g
theorem eX12_passOn_133 (L : pmL) (S : List Value) (g : pmH) : pmV mX12_passOn 133 L S g = zLdI mX12_passOn 135 7 L S g := ez_iload kcX12_passOn dX12_passOn_133 rfl L S g
theorem eX12_passOn_135 (L : pmL) (S : List Value) (g : pmH) : pmV mX12_passOn 135 L S g = zPush mX12_passOn 137 (.int (-9)) L S g := ez_bipush kcX12_passOn dX12_passOn_135 (by decide) rfl L S g
theorem eX12_passOn_137 (L : pmL) (S : List Value) (g : pmH) : pmV mX12_passOn 137 L S g = zBeq mX12_passOn 140 190 L S g := ez_icmp_eq kcX12_passOn dX12_passOn_137 (by decide) rfl L S g
theorem eX12_passOn_140 (L : pmL) (S : List Value) (g : pmH) : pmV mX12_passOn 140 L S g = zLdA mX12_passOn 141 0 L S g := ez_aload_n kcX12_passOn dX12_passOn_140 rfl rfl L S g
theorem eX12_passOn_141 (L : pmL) (S : List Value) (g : pmH) : pmV mX12_passOn 141 L S g = zGet mX12_passOn 144 12 9 L S g := ez_getfield kcX12_passOn dX12_passOn_141 fl_12_28 rfl L S g
theorem eX12_passOn_144 (L : pmL) (S : List Value) (g : pmH) : pmV mX12_passOn 144 L S g = zLdI mX12_passOn 145 3 L S g := ez_iload_n kcX12_passOn dX12_passOn_144 rfl rfl L S g
theorem eX12_passOn_145 (L : pmL) (S : List Value) (g : pmH) : pmV mX12_passOn 145 L S g = zPush mX12_passOn 146 (.int (nI 5)) L S g := ez_iconst kcX12_passOn dX12_passOn_145 (by decide) rfl L S g
theorem eX12_passOn_146 (L : pmL) (S : List Value) (g : pmH) : pmV mX12_passOn 146 L S g = zAdd mX12_passOn 147 L S g := ez_iadd kcX12_passOn dX12_passOn_146 rfl L S g
theorem eX12_passOn_147 (L : pmL) (S : List Value) (g : pmH) : pmV mX12_passOn 147 L S g = zLdI mX12_passOn 149 6 L S g := ez_iload kcX12_passOn dX12_passOn_147 rfl L S g
theorem eX12_passOn_149 (L : pmL) (S : List Value) (g : pmH) : pmV mX12_passOn 149 L S g = zAdd mX12_passOn 150 L S g := ez_iadd kcX12_passOn dX12_passOn_149 rfl L S g
theorem eX12_passOn_150 (L : pmL) (S : List Value) (g : pmH) : pmV mX12_passOn 150 L S g = zPush mX12_passOn 151 (.int (nI 2)) L S g := ez_iconst kcX12_passOn dX12_passOn_150 (by decide) rfl L S g
theorem eX12_passOn_151 (L : pmL) (S : List Value) (g : pmH) : pmV mX12_passOn 151 L S g = zIast mX12_passOn 152 L S g := ez_iastore kcX12_passOn dX12_passOn_151 rfl L S g
theorem eX12_passOn_152 (L : pmL) (S : List Value) (g : pmH) : pmV mX12_passOn 152 L S g = zLdA mX12_passOn 153 0 L S g := ez_aload_n kcX12_passOn dX12_passOn_152 rfl rfl L S g
theorem eX12_passOn_153 (L : pmL) (S : List Value) (g : pmH) : pmV mX12_passOn 153 L S g = zGet mX12_passOn 156 12 9 L S g := ez_getfield kcX12_passOn dX12_passOn_153 fl_12_28 rfl L S g
theorem eX12_passOn_156 (L : pmL) (S : List Value) (g : pmH) : pmV mX12_passOn 156 L S g = zLdI mX12_passOn 157 3 L S g := ez_iload_n kcX12_passOn dX12_passOn_156 rfl rfl L S g
theorem eX12_passOn_157 (L : pmL) (S : List Value) (g : pmH) : pmV mX12_passOn 157 L S g = zPush mX12_passOn 159 (.int (nI 15)) L S g := ez_bipush kcX12_passOn dX12_passOn_157 (by decide) rfl L S g
theorem eX12_passOn_159 (L : pmL) (S : List Value) (g : pmH) : pmV mX12_passOn 159 L S g = zAdd mX12_passOn 160 L S g := ez_iadd kcX12_passOn dX12_passOn_159 rfl L S g
theorem eX12_passOn_160 (L : pmL) (S : List Value) (g : pmH) : pmV mX12_passOn 160 L S g = zLdI mX12_passOn 162 6 L S g := ez_iload kcX12_passOn dX12_passOn_160 rfl L S g
theorem eX12_passOn_162 (L : pmL) (S : List Value) (g : pmH) : pmV mX12_passOn 162 L S g = zAdd mX12_passOn 163 L S g := ez_iadd kcX12_passOn dX12_passOn_162 rfl L S g
theorem eX12_passOn_163 (L : pmL) (S : List Value) (g : pmH) : pmV mX12_passOn 163 L S g = zLdI mX12_passOn 165 7 L S g := ez_iload kcX12_passOn dX12_passOn_163 rfl L S g
theorem eX12_passOn_165 (L : pmL) (S : List Value) (g : pmH) : pmV mX12_passOn 165 L S g = zIast mX12_passOn 166 L S g := ez_iastore kcX12_passOn dX12_passOn_165 rfl L S g
theorem eX12_passOn_166 (L : pmL) (S : List Value) (g : pmH) : pmV mX12_passOn 166 L S g = zLdA mX12_passOn 167 0 L S g := ez_aload_n kcX12_passOn dX12_passOn_166 rfl rfl L S g
theorem eX12_passOn_167 (L : pmL) (S : List Value) (g : pmH) : pmV mX12_passOn 167 L S g = zGet mX12_passOn 170 12 9 L S g := ez_getfield kcX12_passOn dX12_passOn_167 fl_12_28 rfl L S g
theorem eX12_passOn_170 (L : pmL) (S : List Value) (g : pmH) : pmV mX12_passOn 170 L S g = zLdI mX12_passOn 171 3 L S g := ez_iload_n kcX12_passOn dX12_passOn_170 rfl rfl L S g
theorem eX12_passOn_171 (L : pmL) (S : List Value) (g : pmH) : pmV mX12_passOn 171 L S g = zPush mX12_passOn 173 (.int (nI 20)) L S g := ez_bipush kcX12_passOn dX12_passOn_171 (by decide) rfl L S g
theorem eX12_passOn_173 (L : pmL) (S : List Value) (g : pmH) : pmV mX12_passOn 173 L S g = zAdd mX12_passOn 174 L S g := ez_iadd kcX12_passOn dX12_passOn_173 rfl L S g
theorem eX12_passOn_174 (L : pmL) (S : List Value) (g : pmH) : pmV mX12_passOn 174 L S g = zLdI mX12_passOn 176 6 L S g := ez_iload kcX12_passOn dX12_passOn_174 rfl L S g
theorem eX12_passOn_176 (L : pmL) (S : List Value) (g : pmH) : pmV mX12_passOn 176 L S g = zAdd mX12_passOn 177 L S g := ez_iadd kcX12_passOn dX12_passOn_176 rfl L S g
theorem eX12_passOn_177 (L : pmL) (S : List Value) (g : pmH) : pmV mX12_passOn 177 L S g = zLdA mX12_passOn 178 0 L S g := ez_aload_n kcX12_passOn dX12_passOn_177 rfl rfl L S g
theorem eX12_passOn_178 (L : pmL) (S : List Value) (g : pmH) : pmV mX12_passOn 178 L S g = zGet mX12_passOn 181 12 9 L S g := ez_getfield kcX12_passOn dX12_passOn_178 fl_12_28 rfl L S g
theorem eX12_passOn_181 (L : pmL) (S : List Value) (g : pmH) : pmV mX12_passOn 181 L S g = zLdI mX12_passOn 182 3 L S g := ez_iload_n kcX12_passOn dX12_passOn_181 rfl rfl L S g
theorem eX12_passOn_182 (L : pmL) (S : List Value) (g : pmH) : pmV mX12_passOn 182 L S g = zPush mX12_passOn 184 (.int (nI 30)) L S g := ez_bipush kcX12_passOn dX12_passOn_182 (by decide) rfl L S g
theorem eX12_passOn_184 (L : pmL) (S : List Value) (g : pmH) : pmV mX12_passOn 184 L S g = zAdd mX12_passOn 185 L S g := ez_iadd kcX12_passOn dX12_passOn_184 rfl L S g
theorem eX12_passOn_185 (L : pmL) (S : List Value) (g : pmH) : pmV mX12_passOn 185 L S g = zIald mX12_passOn 186 L S g := ez_iaload kcX12_passOn dX12_passOn_185 rfl L S g
theorem eX12_passOn_186 (L : pmL) (S : List Value) (g : pmH) : pmV mX12_passOn 186 L S g = zIast mX12_passOn 187 L S g := ez_iastore kcX12_passOn dX12_passOn_186 rfl L S g
theorem eX12_passOn_187 (L : pmL) (S : List Value) (g : pmH) : pmV mX12_passOn 187 L S g = zInc mX12_passOn 190 5 (nI 1) L S g := ez_iinc kcX12_passOn dX12_passOn_187 (by decide) rfl L S g
theorem eX12_passOn_190 (L : pmL) (S : List Value) (g : pmH) : pmV mX12_passOn 190 L S g = zInc mX12_passOn 193 6 (nI 1) L S g := ez_iinc kcX12_passOn dX12_passOn_190 (by decide) rfl L S g
theorem eX12_passOn_193 (L : pmL) (S : List Value) (g : pmH) : pmV mX12_passOn 193 L S g = zNx mX12_passOn 89 L S g := ez_goto kcX12_passOn dX12_passOn_193 (by decide) L S g
theorem eX12_passOn_196 (L : pmL) (S : List Value) (g : pmH) : pmV mX12_passOn 196 L S g = zLdI mX12_passOn 198 5 L S g := ez_iload kcX12_passOn dX12_passOn_196 rfl L S g
theorem eX12_passOn_198 (L : pmL) (S : List Value) (g : pmH) : pmV mX12_passOn 198 L S g = zIret mX12_passOn S g := ez_ireturn kcX12_passOn dX12_passOn_198 L S g
theorem eX12_whoIs_0 (L : pmL) (S : List Value) (g : pmH) : pmV mX12_whoIs 0 L S g = zPush mX12_whoIs 1 (.int (nI 0)) L S g := ez_iconst kcX12_whoIs dX12_whoIs_0 (by decide) rfl L S g
theorem eX12_whoIs_1 (L : pmL) (S : List Value) (g : pmH) : pmV mX12_whoIs 1 L S g = zStI mX12_whoIs 2 3 L S g := ez_istore_n kcX12_whoIs dX12_whoIs_1 rfl rfl L S g
theorem eX12_whoIs_2 (L : pmL) (S : List Value) (g : pmH) : pmV mX12_whoIs 2 L S g = zPush mX12_whoIs 3 (.int (nI 0)) L S g := ez_iconst kcX12_whoIs dX12_whoIs_2 (by decide) rfl L S g
theorem eX12_whoIs_3 (L : pmL) (S : List Value) (g : pmH) : pmV mX12_whoIs 3 L S g = zStI mX12_whoIs 5 4 L S g := ez_istore kcX12_whoIs dX12_whoIs_3 rfl L S g
theorem eX12_whoIs_5 (L : pmL) (S : List Value) (g : pmH) : pmV mX12_whoIs 5 L S g = zLdI mX12_whoIs 7 4 L S g := ez_iload kcX12_whoIs dX12_whoIs_5 rfl L S g
theorem eX12_whoIs_7 (L : pmL) (S : List Value) (g : pmH) : pmV mX12_whoIs 7 L S g = zLdA mX12_whoIs 8 0 L S g := ez_aload_n kcX12_whoIs dX12_whoIs_7 rfl rfl L S g
theorem eX12_whoIs_8 (L : pmL) (S : List Value) (g : pmH) : pmV mX12_whoIs 8 L S g = zGet mX12_whoIs 11 12 1 L S g := ez_getfield kcX12_whoIs dX12_whoIs_8 fl_12_120 rfl L S g
theorem eX12_whoIs_11 (L : pmL) (S : List Value) (g : pmH) : pmV mX12_whoIs 11 L S g = zBge mX12_whoIs 14 49 L S g := ez_icmp_ge kcX12_whoIs dX12_whoIs_11 (by decide) rfl L S g
theorem eX12_whoIs_14 (L : pmL) (S : List Value) (g : pmH) : pmV mX12_whoIs 14 L S g = zLdI mX12_whoIs 15 3 L S g := ez_iload_n kcX12_whoIs dX12_whoIs_14 rfl rfl L S g
theorem eX12_whoIs_15 (L : pmL) (S : List Value) (g : pmH) : pmV mX12_whoIs 15 L S g = zLdA mX12_whoIs 16 0 L S g := ez_aload_n kcX12_whoIs dX12_whoIs_15 rfl rfl L S g
theorem eX12_whoIs_16 (L : pmL) (S : List Value) (g : pmH) : pmV mX12_whoIs 16 L S g = zGet mX12_whoIs 19 12 9 L S g := ez_getfield kcX12_whoIs dX12_whoIs_16 fl_12_28 rfl L S g
theorem eX12_whoIs_19 (L : pmL) (S : List Value) (g : pmH) : pmV mX12_whoIs 19 L S g = zPush mX12_whoIs 21 (.int (nI 31)) L S g := ez_bipush kcX12_whoIs dX12_whoIs_19 (by decide) rfl L S g
theorem eX12_whoIs_21 (L : pmL) (S : List Value) (g : pmH) : pmV mX12_whoIs 21 L S g = zLdI mX12_whoIs 22 1 L S g := ez_iload_n kcX12_whoIs dX12_whoIs_21 rfl rfl L S g
theorem eX12_whoIs_22 (L : pmL) (S : List Value) (g : pmH) : pmV mX12_whoIs 22 L S g = zMul mX12_whoIs 23 L S g := ez_imul kcX12_whoIs dX12_whoIs_22 rfl L S g
theorem eX12_whoIs_23 (L : pmL) (S : List Value) (g : pmH) : pmV mX12_whoIs 23 L S g = zPush mX12_whoIs 24 (.int (nI 5)) L S g := ez_iconst kcX12_whoIs dX12_whoIs_23 (by decide) rfl L S g
theorem eX12_whoIs_24 (L : pmL) (S : List Value) (g : pmH) : pmV mX12_whoIs 24 L S g = zAdd mX12_whoIs 25 L S g := ez_iadd kcX12_whoIs dX12_whoIs_24 rfl L S g
theorem eX12_whoIs_25 (L : pmL) (S : List Value) (g : pmH) : pmV mX12_whoIs 25 L S g = zLdI mX12_whoIs 27 4 L S g := ez_iload kcX12_whoIs dX12_whoIs_25 rfl L S g
theorem eX12_whoIs_27 (L : pmL) (S : List Value) (g : pmH) : pmV mX12_whoIs 27 L S g = zAdd mX12_whoIs 28 L S g := ez_iadd kcX12_whoIs dX12_whoIs_27 rfl L S g
theorem eX12_whoIs_28 (L : pmL) (S : List Value) (g : pmH) : pmV mX12_whoIs 28 L S g = zIald mX12_whoIs 29 L S g := ez_iaload kcX12_whoIs dX12_whoIs_28 rfl L S g
theorem eX12_whoIs_29 (L : pmL) (S : List Value) (g : pmH) : pmV mX12_whoIs 29 L S g = zLdI mX12_whoIs 30 2 L S g := ez_iload_n kcX12_whoIs dX12_whoIs_29 rfl rfl L S g
theorem eX12_whoIs_30 (L : pmL) (S : List Value) (g : pmH) : pmV mX12_whoIs 30 L S g = zBne mX12_whoIs 33 40 L S g := ez_icmp_ne kcX12_whoIs dX12_whoIs_30 (by decide) rfl L S g
theorem eX12_whoIs_33 (L : pmL) (S : List Value) (g : pmH) : pmV mX12_whoIs 33 L S g = zPush mX12_whoIs 34 (.int (nI 1)) L S g := ez_iconst kcX12_whoIs dX12_whoIs_33 (by decide) rfl L S g
theorem eX12_whoIs_34 (L : pmL) (S : List Value) (g : pmH) : pmV mX12_whoIs 34 L S g = zLdI mX12_whoIs 36 4 L S g := ez_iload kcX12_whoIs dX12_whoIs_34 rfl L S g
theorem eX12_whoIs_36 (L : pmL) (S : List Value) (g : pmH) : pmV mX12_whoIs 36 L S g = zShl mX12_whoIs 37 L S g := ez_ishl kcX12_whoIs dX12_whoIs_36 rfl L S g
theorem eX12_whoIs_37 (L : pmL) (S : List Value) (g : pmH) : pmV mX12_whoIs 37 L S g = zNx mX12_whoIs 41 L S g := ez_goto kcX12_whoIs dX12_whoIs_37 (by decide) L S g
theorem eX12_whoIs_40 (L : pmL) (S : List Value) (g : pmH) : pmV mX12_whoIs 40 L S g = zPush mX12_whoIs 41 (.int (nI 0)) L S g := ez_iconst kcX12_whoIs dX12_whoIs_40 (by decide) rfl L S g
theorem eX12_whoIs_41 (L : pmL) (S : List Value) (g : pmH) : pmV mX12_whoIs 41 L S g = zOr mX12_whoIs 42 L S g := ez_ior kcX12_whoIs dX12_whoIs_41 rfl L S g
theorem eX12_whoIs_42 (L : pmL) (S : List Value) (g : pmH) : pmV mX12_whoIs 42 L S g = zStI mX12_whoIs 43 3 L S g := ez_istore_n kcX12_whoIs dX12_whoIs_42 rfl rfl L S g
theorem eX12_whoIs_43 (L : pmL) (S : List Value) (g : pmH) : pmV mX12_whoIs 43 L S g = zInc mX12_whoIs 46 4 (nI 1) L S g := ez_iinc kcX12_whoIs dX12_whoIs_43 (by decide) rfl L S g
theorem eX12_whoIs_46 (L : pmL) (S : List Value) (g : pmH) : pmV mX12_whoIs 46 L S g = zNx mX12_whoIs 5 L S g := ez_goto kcX12_whoIs dX12_whoIs_46 (by decide) L S g
theorem eX12_whoIs_49 (L : pmL) (S : List Value) (g : pmH) : pmV mX12_whoIs 49 L S g = zLdI mX12_whoIs 50 3 L S g := ez_iload_n kcX12_whoIs dX12_whoIs_49 rfl rfl L S g
theorem eX12_whoIs_50 (L : pmL) (S : List Value) (g : pmH) : pmV mX12_whoIs 50 L S g = zIret mX12_whoIs S g := ez_ireturn kcX12_whoIs dX12_whoIs_50 L S g
theorem eX12_isAnswered_0 (L : pmL) (S : List Value) (g : pmH) : pmV mX12_isAnswered 0 L S g = zPush mX12_isAnswered 2 (.int (nI 31)) L S g := ez_bipush kcX12_isAnswered dX12_isAnswered_0 (by decide) rfl L S g
theorem eX12_isAnswered_2 (L : pmL) (S : List Value) (g : pmH) : pmV mX12_isAnswered 2 L S g = zLdI mX12_isAnswered 3 1 L S g := ez_iload_n kcX12_isAnswered dX12_isAnswered_2 rfl rfl L S g
theorem eX12_isAnswered_3 (L : pmL) (S : List Value) (g : pmH) : pmV mX12_isAnswered 3 L S g = zMul mX12_isAnswered 4 L S g := ez_imul kcX12_isAnswered dX12_isAnswered_3 rfl L S g
theorem eX12_isAnswered_4 (L : pmL) (S : List Value) (g : pmH) : pmV mX12_isAnswered 4 L S g = zStI mX12_isAnswered 5 3 L S g := ez_istore_n kcX12_isAnswered dX12_isAnswered_4 rfl rfl L S g
theorem eX12_isAnswered_5 (L : pmL) (S : List Value) (g : pmH) : pmV mX12_isAnswered 5 L S g = zLdA mX12_isAnswered 6 0 L S g := ez_aload_n kcX12_isAnswered dX12_isAnswered_5 rfl rfl L S g
theorem eX12_isAnswered_6 (L : pmL) (S : List Value) (g : pmH) : pmV mX12_isAnswered 6 L S g = zGet mX12_isAnswered 9 12 9 L S g := ez_getfield kcX12_isAnswered dX12_isAnswered_6 fl_12_28 rfl L S g
theorem eX12_isAnswered_9 (L : pmL) (S : List Value) (g : pmH) : pmV mX12_isAnswered 9 L S g = zLdI mX12_isAnswered 10 3 L S g := ez_iload_n kcX12_isAnswered dX12_isAnswered_9 rfl rfl L S g
theorem eX12_isAnswered_10 (L : pmL) (S : List Value) (g : pmH) : pmV mX12_isAnswered 10 L S g = zPush mX12_isAnswered 11 (.int (nI 5)) L S g := ez_iconst kcX12_isAnswered dX12_isAnswered_10 (by decide) rfl L S g
theorem eX12_isAnswered_11 (L : pmL) (S : List Value) (g : pmH) : pmV mX12_isAnswered 11 L S g = zAdd mX12_isAnswered 12 L S g := ez_iadd kcX12_isAnswered dX12_isAnswered_11 rfl L S g
theorem eX12_isAnswered_12 (L : pmL) (S : List Value) (g : pmH) : pmV mX12_isAnswered 12 L S g = zLdI mX12_isAnswered 13 2 L S g := ez_iload_n kcX12_isAnswered dX12_isAnswered_12 rfl rfl L S g
theorem eX12_isAnswered_13 (L : pmL) (S : List Value) (g : pmH) : pmV mX12_isAnswered 13 L S g = zAdd mX12_isAnswered 14 L S g := ez_iadd kcX12_isAnswered dX12_isAnswered_13 rfl L S g
theorem eX12_isAnswered_14 (L : pmL) (S : List Value) (g : pmH) : pmV mX12_isAnswered 14 L S g = zIald mX12_isAnswered 15 L S g := ez_iaload kcX12_isAnswered dX12_isAnswered_14 rfl L S g
theorem eX12_isAnswered_15 (L : pmL) (S : List Value) (g : pmH) : pmV mX12_isAnswered 15 L S g = zPush mX12_isAnswered 16 (.int (nI 2)) L S g := ez_iconst kcX12_isAnswered dX12_isAnswered_15 (by decide) rfl L S g
theorem eX12_isAnswered_16 (L : pmL) (S : List Value) (g : pmH) : pmV mX12_isAnswered 16 L S g = zBne mX12_isAnswered 19 63 L S g := ez_icmp_ne kcX12_isAnswered dX12_isAnswered_16 (by decide) rfl L S g
theorem eX12_isAnswered_19 (L : pmL) (S : List Value) (g : pmH) : pmV mX12_isAnswered 19 L S g = zLdA mX12_isAnswered 20 0 L S g := ez_aload_n kcX12_isAnswered dX12_isAnswered_19 rfl rfl L S g
theorem eX12_isAnswered_20 (L : pmL) (S : List Value) (g : pmH) : pmV mX12_isAnswered 20 L S g = zGet mX12_isAnswered 23 12 9 L S g := ez_getfield kcX12_isAnswered dX12_isAnswered_20 fl_12_28 rfl L S g
theorem eX12_isAnswered_23 (L : pmL) (S : List Value) (g : pmH) : pmV mX12_isAnswered 23 L S g = zLdI mX12_isAnswered 24 3 L S g := ez_iload_n kcX12_isAnswered dX12_isAnswered_23 rfl rfl L S g
theorem eX12_isAnswered_24 (L : pmL) (S : List Value) (g : pmH) : pmV mX12_isAnswered 24 L S g = zPush mX12_isAnswered 26 (.int (nI 30)) L S g := ez_bipush kcX12_isAnswered dX12_isAnswered_24 (by decide) rfl L S g
theorem eX12_isAnswered_26 (L : pmL) (S : List Value) (g : pmH) : pmV mX12_isAnswered 26 L S g = zAdd mX12_isAnswered 27 L S g := ez_iadd kcX12_isAnswered dX12_isAnswered_26 rfl L S g
theorem eX12_isAnswered_27 (L : pmL) (S : List Value) (g : pmH) : pmV mX12_isAnswered 27 L S g = zIald mX12_isAnswered 28 L S g := ez_iaload kcX12_isAnswered dX12_isAnswered_27 rfl L S g
theorem eX12_isAnswered_28 (L : pmL) (S : List Value) (g : pmH) : pmV mX12_isAnswered 28 L S g = zLdA mX12_isAnswered 29 0 L S g := ez_aload_n kcX12_isAnswered dX12_isAnswered_28 rfl rfl L S g
theorem eX12_isAnswered_29 (L : pmL) (S : List Value) (g : pmH) : pmV mX12_isAnswered 29 L S g = zGet mX12_isAnswered 32 12 9 L S g := ez_getfield kcX12_isAnswered dX12_isAnswered_29 fl_12_28 rfl L S g
theorem eX12_isAnswered_32 (L : pmL) (S : List Value) (g : pmH) : pmV mX12_isAnswered 32 L S g = zLdI mX12_isAnswered 33 3 L S g := ez_iload_n kcX12_isAnswered dX12_isAnswered_32 rfl rfl L S g
theorem eX12_isAnswered_33 (L : pmL) (S : List Value) (g : pmH) : pmV mX12_isAnswered 33 L S g = zPush mX12_isAnswered 35 (.int (nI 20)) L S g := ez_bipush kcX12_isAnswered dX12_isAnswered_33 (by decide) rfl L S g
theorem eX12_isAnswered_35 (L : pmL) (S : List Value) (g : pmH) : pmV mX12_isAnswered 35 L S g = zAdd mX12_isAnswered 36 L S g := ez_iadd kcX12_isAnswered dX12_isAnswered_35 rfl L S g
theorem eX12_isAnswered_36 (L : pmL) (S : List Value) (g : pmH) : pmV mX12_isAnswered 36 L S g = zLdI mX12_isAnswered 37 2 L S g := ez_iload_n kcX12_isAnswered dX12_isAnswered_36 rfl rfl L S g
theorem eX12_isAnswered_37 (L : pmL) (S : List Value) (g : pmH) : pmV mX12_isAnswered 37 L S g = zAdd mX12_isAnswered 38 L S g := ez_iadd kcX12_isAnswered dX12_isAnswered_37 rfl L S g
theorem eX12_isAnswered_38 (L : pmL) (S : List Value) (g : pmH) : pmV mX12_isAnswered 38 L S g = zIald mX12_isAnswered 39 L S g := ez_iaload kcX12_isAnswered dX12_isAnswered_38 rfl L S g
theorem eX12_isAnswered_39 (L : pmL) (S : List Value) (g : pmH) : pmV mX12_isAnswered 39 L S g = zLdA mX12_isAnswered 40 0 L S g := ez_aload_n kcX12_isAnswered dX12_isAnswered_39 rfl rfl L S g
theorem eX12_isAnswered_40 (L : pmL) (S : List Value) (g : pmH) : pmV mX12_isAnswered 40 L S g = zGet mX12_isAnswered 43 12 7 L S g := ez_getfield kcX12_isAnswered dX12_isAnswered_40 fl_12_22 rfl L S g
theorem eX12_isAnswered_43 (L : pmL) (S : List Value) (g : pmH) : pmV mX12_isAnswered 43 L S g = zLdA mX12_isAnswered 44 0 L S g := ez_aload_n kcX12_isAnswered dX12_isAnswered_43 rfl rfl L S g
theorem eX12_isAnswered_44 (L : pmL) (S : List Value) (g : pmH) : pmV mX12_isAnswered 44 L S g = zGet mX12_isAnswered 47 12 9 L S g := ez_getfield kcX12_isAnswered dX12_isAnswered_44 fl_12_28 rfl L S g
theorem eX12_isAnswered_47 (L : pmL) (S : List Value) (g : pmH) : pmV mX12_isAnswered 47 L S g = zLdI mX12_isAnswered 48 3 L S g := ez_iload_n kcX12_isAnswered dX12_isAnswered_47 rfl rfl L S g
theorem eX12_isAnswered_48 (L : pmL) (S : List Value) (g : pmH) : pmV mX12_isAnswered 48 L S g = zPush mX12_isAnswered 50 (.int (nI 15)) L S g := ez_bipush kcX12_isAnswered dX12_isAnswered_48 (by decide) rfl L S g
theorem eX12_isAnswered_50 (L : pmL) (S : List Value) (g : pmH) : pmV mX12_isAnswered 50 L S g = zAdd mX12_isAnswered 51 L S g := ez_iadd kcX12_isAnswered dX12_isAnswered_50 rfl L S g
theorem eX12_isAnswered_51 (L : pmL) (S : List Value) (g : pmH) : pmV mX12_isAnswered 51 L S g = zLdI mX12_isAnswered 52 2 L S g := ez_iload_n kcX12_isAnswered dX12_isAnswered_51 rfl rfl L S g
theorem eX12_isAnswered_52 (L : pmL) (S : List Value) (g : pmH) : pmV mX12_isAnswered 52 L S g = zAdd mX12_isAnswered 53 L S g := ez_iadd kcX12_isAnswered dX12_isAnswered_52 rfl L S g
theorem eX12_isAnswered_53 (L : pmL) (S : List Value) (g : pmH) : pmV mX12_isAnswered 53 L S g = zIald mX12_isAnswered 54 L S g := ez_iaload kcX12_isAnswered dX12_isAnswered_53 rfl L S g
theorem eX12_isAnswered_54 (L : pmL) (S : List Value) (g : pmH) : pmV mX12_isAnswered 54 L S g = zIald mX12_isAnswered 55 L S g := ez_iaload kcX12_isAnswered dX12_isAnswered_54 rfl L S g
theorem eX12_isAnswered_55 (L : pmL) (S : List Value) (g : pmH) : pmV mX12_isAnswered 55 L S g = zAdd mX12_isAnswered 56 L S g := ez_iadd kcX12_isAnswered dX12_isAnswered_55 rfl L S g
theorem eX12_isAnswered_56 (L : pmL) (S : List Value) (g : pmH) : pmV mX12_isAnswered 56 L S g = zBlt mX12_isAnswered 59 63 L S g := ez_icmp_lt kcX12_isAnswered dX12_isAnswered_56 (by decide) rfl L S g
theorem eX12_isAnswered_59 (L : pmL) (S : List Value) (g : pmH) : pmV mX12_isAnswered 59 L S g = zPush mX12_isAnswered 60 (.int (nI 1)) L S g := ez_iconst kcX12_isAnswered dX12_isAnswered_59 (by decide) rfl L S g
theorem eX12_isAnswered_60 (L : pmL) (S : List Value) (g : pmH) : pmV mX12_isAnswered 60 L S g = zNx mX12_isAnswered 64 L S g := ez_goto kcX12_isAnswered dX12_isAnswered_60 (by decide) L S g
theorem eX12_isAnswered_63 (L : pmL) (S : List Value) (g : pmH) : pmV mX12_isAnswered 63 L S g = zPush mX12_isAnswered 64 (.int (nI 0)) L S g := ez_iconst kcX12_isAnswered dX12_isAnswered_63 (by decide) rfl L S g
theorem eX12_isAnswered_64 (L : pmL) (S : List Value) (g : pmH) : pmV mX12_isAnswered 64 L S g = zIret mX12_isAnswered S g := ez_ireturn kcX12_isAnswered dX12_isAnswered_64 L S g
theorem eX12_answered_0 (L : pmL) (S : List Value) (g : pmH) : pmV mX12_answered 0 L S g = zPush mX12_answered 1 (.int (nI 0)) L S g := ez_iconst kcX12_answered dX12_answered_0 (by decide) rfl L S g
theorem eX12_answered_1 (L : pmL) (S : List Value) (g : pmH) : pmV mX12_answered 1 L S g = zStI mX12_answered 2 2 L S g := ez_istore_n kcX12_answered dX12_answered_1 rfl rfl L S g
theorem eX12_answered_2 (L : pmL) (S : List Value) (g : pmH) : pmV mX12_answered 2 L S g = zPush mX12_answered 3 (.int (nI 0)) L S g := ez_iconst kcX12_answered dX12_answered_2 (by decide) rfl L S g
theorem eX12_answered_3 (L : pmL) (S : List Value) (g : pmH) : pmV mX12_answered 3 L S g = zStI mX12_answered 4 3 L S g := ez_istore_n kcX12_answered dX12_answered_3 rfl rfl L S g
theorem eX12_answered_4 (L : pmL) (S : List Value) (g : pmH) : pmV mX12_answered 4 L S g = zLdI mX12_answered 5 3 L S g := ez_iload_n kcX12_answered dX12_answered_4 rfl rfl L S g
theorem eX12_answered_5 (L : pmL) (S : List Value) (g : pmH) : pmV mX12_answered 5 L S g = zLdA mX12_answered 6 0 L S g := ez_aload_n kcX12_answered dX12_answered_5 rfl rfl L S g
theorem eX12_answered_6 (L : pmL) (S : List Value) (g : pmH) : pmV mX12_answered 6 L S g = zGet mX12_answered 9 12 1 L S g := ez_getfield kcX12_answered dX12_answered_6 fl_12_120 rfl L S g
theorem eX12_answered_9 (L : pmL) (S : List Value) (g : pmH) : pmV mX12_answered 9 L S g = zBge mX12_answered 12 37 L S g := ez_icmp_ge kcX12_answered dX12_answered_9 (by decide) rfl L S g
theorem eX12_answered_12 (L : pmL) (S : List Value) (g : pmH) : pmV mX12_answered 12 L S g = zLdI mX12_answered 13 2 L S g := ez_iload_n kcX12_answered dX12_answered_12 rfl rfl L S g
theorem eX12_answered_13 (L : pmL) (S : List Value) (g : pmH) : pmV mX12_answered 13 L S g = zLdA mX12_answered 14 0 L S g := ez_aload_n kcX12_answered dX12_answered_13 rfl rfl L S g
theorem eX12_answered_14 (L : pmL) (S : List Value) (g : pmH) : pmV mX12_answered 14 L S g = zLdI mX12_answered 15 1 L S g := ez_iload_n kcX12_answered dX12_answered_14 rfl rfl L S g
theorem eX12_answered_15 (L : pmL) (S : List Value) (g : pmH) : pmV mX12_answered 15 L S g = zLdI mX12_answered 16 3 L S g := ez_iload_n kcX12_answered dX12_answered_15 rfl rfl L S g
theorem eX12_answered_16 (L : pmL) (S : List Value) (g : pmH) : pmV mX12_answered 16 L S g = yV mX12_answered 19 2 mX12_isAnswered 12 4 L S g := (ez_virtual kcX12_answered dX12_answered_16 ml_12_146 rfl L S g).trans (zCallV_y rfl rfl (by decide) L S g)
theorem eX12_answered_19 (L : pmL) (S : List Value) (g : pmH) : pmV mX12_answered 19 L S g = zCeq mX12_answered 22 28 L S g := ez_if_eq kcX12_answered dX12_answered_19 (by decide) rfl L S g
theorem eX12_answered_22 (L : pmL) (S : List Value) (g : pmH) : pmV mX12_answered 22 L S g = zPush mX12_answered 23 (.int (nI 1)) L S g := ez_iconst kcX12_answered dX12_answered_22 (by decide) rfl L S g
theorem eX12_answered_23 (L : pmL) (S : List Value) (g : pmH) : pmV mX12_answered 23 L S g = zLdI mX12_answered 24 3 L S g := ez_iload_n kcX12_answered dX12_answered_23 rfl rfl L S g
theorem eX12_answered_24 (L : pmL) (S : List Value) (g : pmH) : pmV mX12_answered 24 L S g = zShl mX12_answered 25 L S g := ez_ishl kcX12_answered dX12_answered_24 rfl L S g
theorem eX12_answered_25 (L : pmL) (S : List Value) (g : pmH) : pmV mX12_answered 25 L S g = zNx mX12_answered 29 L S g := ez_goto kcX12_answered dX12_answered_25 (by decide) L S g
theorem eX12_answered_28 (L : pmL) (S : List Value) (g : pmH) : pmV mX12_answered 28 L S g = zPush mX12_answered 29 (.int (nI 0)) L S g := ez_iconst kcX12_answered dX12_answered_28 (by decide) rfl L S g
theorem eX12_answered_29 (L : pmL) (S : List Value) (g : pmH) : pmV mX12_answered 29 L S g = zOr mX12_answered 30 L S g := ez_ior kcX12_answered dX12_answered_29 rfl L S g
theorem eX12_answered_30 (L : pmL) (S : List Value) (g : pmH) : pmV mX12_answered 30 L S g = zStI mX12_answered 31 2 L S g := ez_istore_n kcX12_answered dX12_answered_30 rfl rfl L S g
theorem eX12_answered_31 (L : pmL) (S : List Value) (g : pmH) : pmV mX12_answered 31 L S g = zInc mX12_answered 34 3 (nI 1) L S g := ez_iinc kcX12_answered dX12_answered_31 (by decide) rfl L S g
theorem eX12_answered_34 (L : pmL) (S : List Value) (g : pmH) : pmV mX12_answered 34 L S g = zNx mX12_answered 4 L S g := ez_goto kcX12_answered dX12_answered_34 (by decide) L S g
theorem eX12_answered_37 (L : pmL) (S : List Value) (g : pmH) : pmV mX12_answered 37 L S g = zLdI mX12_answered 38 2 L S g := ez_iload_n kcX12_answered dX12_answered_37 rfl rfl L S g
theorem eX12_answered_38 (L : pmL) (S : List Value) (g : pmH) : pmV mX12_answered 38 L S g = zIret mX12_answered S g := ez_ireturn kcX12_answered dX12_answered_38 L S g
theorem eX12_brings_0 (L : pmL) (S : List Value) (g : pmH) : pmV mX12_brings 0 L S g = zLdA mX12_brings 1 0 L S g := ez_aload_n kcX12_brings dX12_brings_0 rfl rfl L S g
theorem eX12_brings_1 (L : pmL) (S : List Value) (g : pmH) : pmV mX12_brings 1 L S g = zLdI mX12_brings 2 1 L S g := ez_iload_n kcX12_brings dX12_brings_1 rfl rfl L S g
theorem eX12_brings_2 (L : pmL) (S : List Value) (g : pmH) : pmV mX12_brings 2 L S g = zLdI mX12_brings 3 2 L S g := ez_iload_n kcX12_brings dX12_brings_2 rfl rfl L S g
theorem eX12_brings_3 (L : pmL) (S : List Value) (g : pmH) : pmV mX12_brings 3 L S g = yV mX12_brings 6 2 mX12_isAnswered 12 4 L S g := (ez_virtual kcX12_brings dX12_brings_3 ml_12_146 rfl L S g).trans (zCallV_y rfl rfl (by decide) L S g)
theorem eX12_brings_6 (L : pmL) (S : List Value) (g : pmH) : pmV mX12_brings 6 L S g = zCeq mX12_brings 9 31 L S g := ez_if_eq kcX12_brings dX12_brings_6 (by decide) rfl L S g
theorem eX12_brings_9 (L : pmL) (S : List Value) (g : pmH) : pmV mX12_brings 9 L S g = zLdA mX12_brings 10 0 L S g := ez_aload_n kcX12_brings dX12_brings_9 rfl rfl L S g
theorem eX12_brings_10 (L : pmL) (S : List Value) (g : pmH) : pmV mX12_brings 10 L S g = zGet mX12_brings 13 12 8 L S g := ez_getfield kcX12_brings dX12_brings_10 fl_12_25 rfl L S g
theorem eX12_brings_13 (L : pmL) (S : List Value) (g : pmH) : pmV mX12_brings 13 L S g = zLdA mX12_brings 14 0 L S g := ez_aload_n kcX12_brings dX12_brings_13 rfl rfl L S g
theorem eX12_brings_14 (L : pmL) (S : List Value) (g : pmH) : pmV mX12_brings 14 L S g = zGet mX12_brings 17 12 9 L S g := ez_getfield kcX12_brings dX12_brings_14 fl_12_28 rfl L S g
theorem eX12_brings_17 (L : pmL) (S : List Value) (g : pmH) : pmV mX12_brings 17 L S g = zPush mX12_brings 19 (.int (nI 31)) L S g := ez_bipush kcX12_brings dX12_brings_17 (by decide) rfl L S g
theorem eX12_brings_19 (L : pmL) (S : List Value) (g : pmH) : pmV mX12_brings 19 L S g = zLdI mX12_brings 20 1 L S g := ez_iload_n kcX12_brings dX12_brings_19 rfl rfl L S g
theorem eX12_brings_20 (L : pmL) (S : List Value) (g : pmH) : pmV mX12_brings 20 L S g = zMul mX12_brings 21 L S g := ez_imul kcX12_brings dX12_brings_20 rfl L S g
theorem eX12_brings_21 (L : pmL) (S : List Value) (g : pmH) : pmV mX12_brings 21 L S g = zPush mX12_brings 23 (.int (nI 15)) L S g := ez_bipush kcX12_brings dX12_brings_21 (by decide) rfl L S g
theorem eX12_brings_23 (L : pmL) (S : List Value) (g : pmH) : pmV mX12_brings 23 L S g = zAdd mX12_brings 24 L S g := ez_iadd kcX12_brings dX12_brings_23 rfl L S g
theorem eX12_brings_24 (L : pmL) (S : List Value) (g : pmH) : pmV mX12_brings 24 L S g = zLdI mX12_brings 25 2 L S g := ez_iload_n kcX12_brings dX12_brings_24 rfl rfl L S g
theorem eX12_brings_25 (L : pmL) (S : List Value) (g : pmH) : pmV mX12_brings 25 L S g = zAdd mX12_brings 26 L S g := ez_iadd kcX12_brings dX12_brings_25 rfl L S g
theorem eX12_brings_26 (L : pmL) (S : List Value) (g : pmH) : pmV mX12_brings 26 L S g = zIald mX12_brings 27 L S g := ez_iaload kcX12_brings dX12_brings_26 rfl L S g
theorem eX12_brings_27 (L : pmL) (S : List Value) (g : pmH) : pmV mX12_brings 27 L S g = zIald mX12_brings 28 L S g := ez_iaload kcX12_brings dX12_brings_27 rfl L S g
theorem eX12_brings_28 (L : pmL) (S : List Value) (g : pmH) : pmV mX12_brings 28 L S g = zNx mX12_brings 33 L S g := ez_goto kcX12_brings dX12_brings_28 (by decide) L S g
theorem eX12_brings_31 (L : pmL) (S : List Value) (g : pmH) : pmV mX12_brings 31 L S g = zPush mX12_brings 33 (.int (-9)) L S g := ez_bipush kcX12_brings dX12_brings_31 (by decide) rfl L S g
theorem eX12_brings_33 (L : pmL) (S : List Value) (g : pmH) : pmV mX12_brings 33 L S g = zIret mX12_brings S g := ez_ireturn kcX12_brings dX12_brings_33 L S g
theorem eX12_glad_0 (L : pmL) (S : List Value) (g : pmH) : pmV mX12_glad 0 L S g = zPush mX12_glad 1 (.int (nI 0)) L S g := ez_iconst kcX12_glad dX12_glad_0 (by decide) rfl L S g
theorem eX12_glad_1 (L : pmL) (S : List Value) (g : pmH) : pmV mX12_glad 1 L S g = zStI mX12_glad 2 2 L S g := ez_istore_n kcX12_glad dX12_glad_1 rfl rfl L S g
theorem eX12_glad_2 (L : pmL) (S : List Value) (g : pmH) : pmV mX12_glad 2 L S g = zPush mX12_glad 3 (.int (nI 0)) L S g := ez_iconst kcX12_glad dX12_glad_2 (by decide) rfl L S g
theorem eX12_glad_3 (L : pmL) (S : List Value) (g : pmH) : pmV mX12_glad 3 L S g = zStI mX12_glad 4 3 L S g := ez_istore_n kcX12_glad dX12_glad_3 rfl rfl L S g
theorem eX12_glad_4 (L : pmL) (S : List Value) (g : pmH) : pmV mX12_glad 4 L S g = zLdI mX12_glad 5 3 L S g := ez_iload_n kcX12_glad dX12_glad_4 rfl rfl L S g
theorem eX12_glad_5 (L : pmL) (S : List Value) (g : pmH) : pmV mX12_glad 5 L S g = zLdA mX12_glad 6 0 L S g := ez_aload_n kcX12_glad dX12_glad_5 rfl rfl L S g
theorem eX12_glad_6 (L : pmL) (S : List Value) (g : pmH) : pmV mX12_glad 6 L S g = zGet mX12_glad 9 12 1 L S g := ez_getfield kcX12_glad dX12_glad_6 fl_12_120 rfl L S g
theorem eX12_glad_9 (L : pmL) (S : List Value) (g : pmH) : pmV mX12_glad 9 L S g = zBge mX12_glad 12 61 L S g := ez_icmp_ge kcX12_glad dX12_glad_9 (by decide) rfl L S g
theorem eX12_glad_12 (L : pmL) (S : List Value) (g : pmH) : pmV mX12_glad 12 L S g = zLdA mX12_glad 13 0 L S g := ez_aload_n kcX12_glad dX12_glad_12 rfl rfl L S g
theorem eX12_glad_13 (L : pmL) (S : List Value) (g : pmH) : pmV mX12_glad 13 L S g = zGet mX12_glad 16 12 9 L S g := ez_getfield kcX12_glad dX12_glad_13 fl_12_28 rfl L S g
theorem eX12_glad_16 (L : pmL) (S : List Value) (g : pmH) : pmV mX12_glad 16 L S g = zPush mX12_glad 18 (.int (nI 31)) L S g := ez_bipush kcX12_glad dX12_glad_16 (by decide) rfl L S g
theorem eX12_glad_18 (L : pmL) (S : List Value) (g : pmH) : pmV mX12_glad 18 L S g = zLdI mX12_glad 19 1 L S g := ez_iload_n kcX12_glad dX12_glad_18 rfl rfl L S g
theorem eX12_glad_19 (L : pmL) (S : List Value) (g : pmH) : pmV mX12_glad 19 L S g = zMul mX12_glad 20 L S g := ez_imul kcX12_glad dX12_glad_19 rfl L S g
theorem eX12_glad_20 (L : pmL) (S : List Value) (g : pmH) : pmV mX12_glad 20 L S g = zPush mX12_glad 22 (.int (nI 25)) L S g := ez_bipush kcX12_glad dX12_glad_20 (by decide) rfl L S g
theorem eX12_glad_22 (L : pmL) (S : List Value) (g : pmH) : pmV mX12_glad 22 L S g = zAdd mX12_glad 23 L S g := ez_iadd kcX12_glad dX12_glad_22 rfl L S g
theorem eX12_glad_23 (L : pmL) (S : List Value) (g : pmH) : pmV mX12_glad 23 L S g = zLdI mX12_glad 24 3 L S g := ez_iload_n kcX12_glad dX12_glad_23 rfl rfl L S g
theorem eX12_glad_24 (L : pmL) (S : List Value) (g : pmH) : pmV mX12_glad 24 L S g = zAdd mX12_glad 25 L S g := ez_iadd kcX12_glad dX12_glad_24 rfl L S g
theorem eX12_glad_25 (L : pmL) (S : List Value) (g : pmH) : pmV mX12_glad 25 L S g = zIald mX12_glad 26 L S g := ez_iaload kcX12_glad dX12_glad_25 rfl L S g
theorem eX12_glad_26 (L : pmL) (S : List Value) (g : pmH) : pmV mX12_glad 26 L S g = zStI mX12_glad 28 4 L S g := ez_istore kcX12_glad dX12_glad_26 rfl L S g
theorem eX12_glad_28 (L : pmL) (S : List Value) (g : pmH) : pmV mX12_glad 28 L S g = zLdI mX12_glad 29 2 L S g := ez_iload_n kcX12_glad dX12_glad_28 rfl rfl L S g
theorem eX12_glad_29 (L : pmL) (S : List Value) (g : pmH) : pmV mX12_glad 29 L S g = zLdA mX12_glad 30 0 L S g := ez_aload_n kcX12_glad dX12_glad_29 rfl rfl L S g
theorem eX12_glad_30 (L : pmL) (S : List Value) (g : pmH) : pmV mX12_glad 30 L S g = zLdI mX12_glad 31 1 L S g := ez_iload_n kcX12_glad dX12_glad_30 rfl rfl L S g
theorem eX12_glad_31 (L : pmL) (S : List Value) (g : pmH) : pmV mX12_glad 31 L S g = zLdI mX12_glad 32 3 L S g := ez_iload_n kcX12_glad dX12_glad_31 rfl rfl L S g
theorem eX12_glad_32 (L : pmL) (S : List Value) (g : pmH) : pmV mX12_glad 32 L S g = yV mX12_glad 35 2 mX12_brings 12 3 L S g := (ez_virtual kcX12_glad dX12_glad_32 ml_12_149 rfl L S g).trans (zCallV_y rfl rfl (by decide) L S g)
theorem eX12_glad_35 (L : pmL) (S : List Value) (g : pmH) : pmV mX12_glad 35 L S g = zLdA mX12_glad 36 0 L S g := ez_aload_n kcX12_glad dX12_glad_35 rfl rfl L S g
theorem eX12_glad_36 (L : pmL) (S : List Value) (g : pmH) : pmV mX12_glad 36 L S g = zGet mX12_glad 39 12 5 L S g := ez_getfield kcX12_glad dX12_glad_36 fl_12_16 rfl L S g
theorem eX12_glad_39 (L : pmL) (S : List Value) (g : pmH) : pmV mX12_glad 39 L S g = zLdI mX12_glad 41 4 L S g := ez_iload kcX12_glad dX12_glad_39 rfl L S g
theorem eX12_glad_41 (L : pmL) (S : List Value) (g : pmH) : pmV mX12_glad 41 L S g = zIald mX12_glad 42 L S g := ez_iaload kcX12_glad dX12_glad_41 rfl L S g
theorem eX12_glad_42 (L : pmL) (S : List Value) (g : pmH) : pmV mX12_glad 42 L S g = zBne mX12_glad 45 52 L S g := ez_icmp_ne kcX12_glad dX12_glad_42 (by decide) rfl L S g
theorem eX12_glad_45 (L : pmL) (S : List Value) (g : pmH) : pmV mX12_glad 45 L S g = zPush mX12_glad 46 (.int (nI 1)) L S g := ez_iconst kcX12_glad dX12_glad_45 (by decide) rfl L S g
theorem eX12_glad_46 (L : pmL) (S : List Value) (g : pmH) : pmV mX12_glad 46 L S g = zLdI mX12_glad 48 4 L S g := ez_iload kcX12_glad dX12_glad_46 rfl L S g
theorem eX12_glad_48 (L : pmL) (S : List Value) (g : pmH) : pmV mX12_glad 48 L S g = zShl mX12_glad 49 L S g := ez_ishl kcX12_glad dX12_glad_48 rfl L S g
theorem eX12_glad_49 (L : pmL) (S : List Value) (g : pmH) : pmV mX12_glad 49 L S g = zNx mX12_glad 53 L S g := ez_goto kcX12_glad dX12_glad_49 (by decide) L S g
theorem eX12_glad_52 (L : pmL) (S : List Value) (g : pmH) : pmV mX12_glad 52 L S g = zPush mX12_glad 53 (.int (nI 0)) L S g := ez_iconst kcX12_glad dX12_glad_52 (by decide) rfl L S g
theorem eX12_glad_53 (L : pmL) (S : List Value) (g : pmH) : pmV mX12_glad 53 L S g = zOr mX12_glad 54 L S g := ez_ior kcX12_glad dX12_glad_53 rfl L S g
theorem eX12_glad_54 (L : pmL) (S : List Value) (g : pmH) : pmV mX12_glad 54 L S g = zStI mX12_glad 55 2 L S g := ez_istore_n kcX12_glad dX12_glad_54 rfl rfl L S g
theorem eX12_glad_55 (L : pmL) (S : List Value) (g : pmH) : pmV mX12_glad 55 L S g = zInc mX12_glad 58 3 (nI 1) L S g := ez_iinc kcX12_glad dX12_glad_55 (by decide) rfl L S g
theorem eX12_glad_58 (L : pmL) (S : List Value) (g : pmH) : pmV mX12_glad 58 L S g = zNx mX12_glad 4 L S g := ez_goto kcX12_glad dX12_glad_58 (by decide) L S g
theorem eX12_glad_61 (L : pmL) (S : List Value) (g : pmH) : pmV mX12_glad 61 L S g = zLdI mX12_glad 62 2 L S g := ez_iload_n kcX12_glad dX12_glad_61 rfl rfl L S g
theorem eX12_glad_62 (L : pmL) (S : List Value) (g : pmH) : pmV mX12_glad 62 L S g = zIret mX12_glad S g := ez_ireturn kcX12_glad dX12_glad_62 L S g
theorem eX12_balloon_0 (L : pmL) (S : List Value) (g : pmH) : pmV mX12_balloon 0 L S g = zLdA mX12_balloon 1 0 L S g := ez_aload_n kcX12_balloon dX12_balloon_0 rfl rfl L S g
theorem eX12_balloon_1 (L : pmL) (S : List Value) (g : pmH) : pmV mX12_balloon 1 L S g = zLdI mX12_balloon 2 1 L S g := ez_iload_n kcX12_balloon dX12_balloon_1 rfl rfl L S g
theorem eX12_balloon_2 (L : pmL) (S : List Value) (g : pmH) : pmV mX12_balloon 2 L S g = yV mX12_balloon 5 1 mX12_isBalloon 12 2 L S g := (ez_virtual kcX12_balloon dX12_balloon_2 ml_12_152 rfl L S g).trans (zCallV_y rfl rfl (by decide) L S g)
theorem eX12_balloon_5 (L : pmL) (S : List Value) (g : pmH) : pmV mX12_balloon 5 L S g = zCne mX12_balloon 8 10 L S g := ez_if_ne kcX12_balloon dX12_balloon_5 (by decide) rfl L S g
theorem eX12_balloon_8 (L : pmL) (S : List Value) (g : pmH) : pmV mX12_balloon 8 L S g = zPush mX12_balloon 9 (.int (-1)) L S g := ez_iconst kcX12_balloon dX12_balloon_8 (by decide) rfl L S g
theorem eX12_balloon_9 (L : pmL) (S : List Value) (g : pmH) : pmV mX12_balloon 9 L S g = zIret mX12_balloon S g := ez_ireturn kcX12_balloon dX12_balloon_9 L S g
theorem eX12_balloon_10 (L : pmL) (S : List Value) (g : pmH) : pmV mX12_balloon 10 L S g = zLdI mX12_balloon 11 2 L S g := ez_iload_n kcX12_balloon dX12_balloon_10 rfl rfl L S g
theorem eX12_balloon_11 (L : pmL) (S : List Value) (g : pmH) : pmV mX12_balloon 11 L S g = zTab mX12_balloon 11 137 0 7 #[45, 52, 59, 66, 75, 102, 112, 127] L S g := ez_tab kcX12_balloon dX12_balloon_11 L S g
theorem eX12_balloon_56 (L : pmL) (S : List Value) (g : pmH) : pmV mX12_balloon 56 L S g = zLdA mX12_balloon 57 0 L S g := ez_aload_n kcX12_balloon dX12_balloon_56 rfl rfl L S g
theorem eX12_balloon_57 (L : pmL) (S : List Value) (g : pmH) : pmV mX12_balloon 57 L S g = zGet mX12_balloon 60 12 9 L S g := ez_getfield kcX12_balloon dX12_balloon_57 fl_12_28 rfl L S g
theorem eX12_balloon_60 (L : pmL) (S : List Value) (g : pmH) : pmV mX12_balloon 60 L S g = zLdI mX12_balloon 61 1 L S g := ez_iload_n kcX12_balloon dX12_balloon_60 rfl rfl L S g
theorem eX12_balloon_61 (L : pmL) (S : List Value) (g : pmH) : pmV mX12_balloon 61 L S g = zIald mX12_balloon 62 L S g := ez_iaload kcX12_balloon dX12_balloon_61 rfl L S g
theorem eX12_balloon_62 (L : pmL) (S : List Value) (g : pmH) : pmV mX12_balloon 62 L S g = zIret mX12_balloon S g := ez_ireturn kcX12_balloon dX12_balloon_62 L S g
theorem eX12_balloon_63 (L : pmL) (S : List Value) (g : pmH) : pmV mX12_balloon 63 L S g = zLdA mX12_balloon 64 0 L S g := ez_aload_n kcX12_balloon dX12_balloon_63 rfl rfl L S g
theorem eX12_balloon_64 (L : pmL) (S : List Value) (g : pmH) : pmV mX12_balloon 64 L S g = zGet mX12_balloon 67 12 4 L S g := ez_getfield kcX12_balloon dX12_balloon_64 fl_12_13 rfl L S g
theorem eX12_balloon_67 (L : pmL) (S : List Value) (g : pmH) : pmV mX12_balloon 67 L S g = zLdI mX12_balloon 68 1 L S g := ez_iload_n kcX12_balloon dX12_balloon_67 rfl rfl L S g
theorem eX12_balloon_68 (L : pmL) (S : List Value) (g : pmH) : pmV mX12_balloon 68 L S g = zIald mX12_balloon 69 L S g := ez_iaload kcX12_balloon dX12_balloon_68 rfl L S g
theorem eX12_balloon_69 (L : pmL) (S : List Value) (g : pmH) : pmV mX12_balloon 69 L S g = zIret mX12_balloon S g := ez_ireturn kcX12_balloon dX12_balloon_69 L S g
theorem eX12_balloon_70 (L : pmL) (S : List Value) (g : pmH) : pmV mX12_balloon 70 L S g = zLdA mX12_balloon 71 0 L S g := ez_aload_n kcX12_balloon dX12_balloon_70 rfl rfl L S g
theorem eX12_balloon_71 (L : pmL) (S : List Value) (g : pmH) : pmV mX12_balloon 71 L S g = zGet mX12_balloon 74 12 5 L S g := ez_getfield kcX12_balloon dX12_balloon_71 fl_12_16 rfl L S g
theorem eX12_balloon_74 (L : pmL) (S : List Value) (g : pmH) : pmV mX12_balloon 74 L S g = zLdI mX12_balloon 75 1 L S g := ez_iload_n kcX12_balloon dX12_balloon_74 rfl rfl L S g
theorem eX12_balloon_75 (L : pmL) (S : List Value) (g : pmH) : pmV mX12_balloon 75 L S g = zIald mX12_balloon 76 L S g := ez_iaload kcX12_balloon dX12_balloon_75 rfl L S g
theorem eX12_balloon_76 (L : pmL) (S : List Value) (g : pmH) : pmV mX12_balloon 76 L S g = zIret mX12_balloon S g := ez_ireturn kcX12_balloon dX12_balloon_76 L S g
theorem eX12_balloon_77 (L : pmL) (S : List Value) (g : pmH) : pmV mX12_balloon 77 L S g = zLdA mX12_balloon 78 0 L S g := ez_aload_n kcX12_balloon dX12_balloon_77 rfl rfl L S g
theorem eX12_balloon_78 (L : pmL) (S : List Value) (g : pmH) : pmV mX12_balloon 78 L S g = zGet mX12_balloon 81 12 9 L S g := ez_getfield kcX12_balloon dX12_balloon_78 fl_12_28 rfl L S g
theorem eX12_balloon_81 (L : pmL) (S : List Value) (g : pmH) : pmV mX12_balloon 81 L S g = zPush mX12_balloon 82 (.int (nI 5)) L S g := ez_iconst kcX12_balloon dX12_balloon_81 (by decide) rfl L S g
theorem eX12_balloon_82 (L : pmL) (S : List Value) (g : pmH) : pmV mX12_balloon 82 L S g = zLdI mX12_balloon 83 1 L S g := ez_iload_n kcX12_balloon dX12_balloon_82 rfl rfl L S g
theorem eX12_balloon_83 (L : pmL) (S : List Value) (g : pmH) : pmV mX12_balloon 83 L S g = zAdd mX12_balloon 84 L S g := ez_iadd kcX12_balloon dX12_balloon_83 rfl L S g
theorem eX12_balloon_84 (L : pmL) (S : List Value) (g : pmH) : pmV mX12_balloon 84 L S g = zIald mX12_balloon 85 L S g := ez_iaload kcX12_balloon dX12_balloon_84 rfl L S g
theorem eX12_balloon_85 (L : pmL) (S : List Value) (g : pmH) : pmV mX12_balloon 85 L S g = zIret mX12_balloon S g := ez_ireturn kcX12_balloon dX12_balloon_85 L S g
theorem eX12_balloon_86 (L : pmL) (S : List Value) (g : pmH) : pmV mX12_balloon 86 L S g = zLdA mX12_balloon 87 0 L S g := ez_aload_n kcX12_balloon dX12_balloon_86 rfl rfl L S g
theorem eX12_balloon_87 (L : pmL) (S : List Value) (g : pmH) : pmV mX12_balloon 87 L S g = zGet mX12_balloon 90 12 9 L S g := ez_getfield kcX12_balloon dX12_balloon_87 fl_12_28 rfl L S g
theorem eX12_balloon_90 (L : pmL) (S : List Value) (g : pmH) : pmV mX12_balloon 90 L S g = zPush mX12_balloon 91 (.int (nI 5)) L S g := ez_iconst kcX12_balloon dX12_balloon_90 (by decide) rfl L S g
theorem eX12_balloon_91 (L : pmL) (S : List Value) (g : pmH) : pmV mX12_balloon 91 L S g = zLdI mX12_balloon 92 1 L S g := ez_iload_n kcX12_balloon dX12_balloon_91 rfl rfl L S g
theorem eX12_balloon_92 (L : pmL) (S : List Value) (g : pmH) : pmV mX12_balloon 92 L S g = zAdd mX12_balloon 93 L S g := ez_iadd kcX12_balloon dX12_balloon_92 rfl L S g
theorem eX12_balloon_93 (L : pmL) (S : List Value) (g : pmH) : pmV mX12_balloon 93 L S g = zIald mX12_balloon 94 L S g := ez_iaload kcX12_balloon dX12_balloon_93 rfl L S g
theorem eX12_balloon_94 (L : pmL) (S : List Value) (g : pmH) : pmV mX12_balloon 94 L S g = zPush mX12_balloon 95 (.int (nI 2)) L S g := ez_iconst kcX12_balloon dX12_balloon_94 (by decide) rfl L S g
theorem eX12_balloon_95 (L : pmL) (S : List Value) (g : pmH) : pmV mX12_balloon 95 L S g = zBne mX12_balloon 98 110 L S g := ez_icmp_ne kcX12_balloon dX12_balloon_95 (by decide) rfl L S g
theorem eX12_balloon_98 (L : pmL) (S : List Value) (g : pmH) : pmV mX12_balloon 98 L S g = zLdA mX12_balloon 99 0 L S g := ez_aload_n kcX12_balloon dX12_balloon_98 rfl rfl L S g
theorem eX12_balloon_99 (L : pmL) (S : List Value) (g : pmH) : pmV mX12_balloon 99 L S g = zGet mX12_balloon 102 12 9 L S g := ez_getfield kcX12_balloon dX12_balloon_99 fl_12_28 rfl L S g
theorem eX12_balloon_102 (L : pmL) (S : List Value) (g : pmH) : pmV mX12_balloon 102 L S g = zPush mX12_balloon 104 (.int (nI 15)) L S g := ez_bipush kcX12_balloon dX12_balloon_102 (by decide) rfl L S g
theorem eX12_balloon_104 (L : pmL) (S : List Value) (g : pmH) : pmV mX12_balloon 104 L S g = zLdI mX12_balloon 105 1 L S g := ez_iload_n kcX12_balloon dX12_balloon_104 rfl rfl L S g
theorem eX12_balloon_105 (L : pmL) (S : List Value) (g : pmH) : pmV mX12_balloon 105 L S g = zAdd mX12_balloon 106 L S g := ez_iadd kcX12_balloon dX12_balloon_105 rfl L S g
theorem eX12_balloon_106 (L : pmL) (S : List Value) (g : pmH) : pmV mX12_balloon 106 L S g = zIald mX12_balloon 107 L S g := ez_iaload kcX12_balloon dX12_balloon_106 rfl L S g
theorem eX12_balloon_107 (L : pmL) (S : List Value) (g : pmH) : pmV mX12_balloon 107 L S g = zNx mX12_balloon 112 L S g := ez_goto kcX12_balloon dX12_balloon_107 (by decide) L S g
theorem eX12_balloon_110 (L : pmL) (S : List Value) (g : pmH) : pmV mX12_balloon 110 L S g = zPush mX12_balloon 112 (.int (-9)) L S g := ez_bipush kcX12_balloon dX12_balloon_110 (by decide) rfl L S g
theorem eX12_balloon_112 (L : pmL) (S : List Value) (g : pmH) : pmV mX12_balloon 112 L S g = zIret mX12_balloon S g := ez_ireturn kcX12_balloon dX12_balloon_112 L S g
theorem eX12_balloon_113 (L : pmL) (S : List Value) (g : pmH) : pmV mX12_balloon 113 L S g = zLdA mX12_balloon 114 0 L S g := ez_aload_n kcX12_balloon dX12_balloon_113 rfl rfl L S g
theorem eX12_balloon_114 (L : pmL) (S : List Value) (g : pmH) : pmV mX12_balloon 114 L S g = zGet mX12_balloon 117 12 9 L S g := ez_getfield kcX12_balloon dX12_balloon_114 fl_12_28 rfl L S g
theorem eX12_balloon_117 (L : pmL) (S : List Value) (g : pmH) : pmV mX12_balloon 117 L S g = zPush mX12_balloon 119 (.int (nI 25)) L S g := ez_bipush kcX12_balloon dX12_balloon_117 (by decide) rfl L S g
theorem eX12_balloon_119 (L : pmL) (S : List Value) (g : pmH) : pmV mX12_balloon 119 L S g = zLdI mX12_balloon 120 1 L S g := ez_iload_n kcX12_balloon dX12_balloon_119 rfl rfl L S g
theorem eX12_balloon_120 (L : pmL) (S : List Value) (g : pmH) : pmV mX12_balloon 120 L S g = zAdd mX12_balloon 121 L S g := ez_iadd kcX12_balloon dX12_balloon_120 rfl L S g
theorem eX12_balloon_121 (L : pmL) (S : List Value) (g : pmH) : pmV mX12_balloon 121 L S g = zIald mX12_balloon 122 L S g := ez_iaload kcX12_balloon dX12_balloon_121 rfl L S g
theorem eX12_balloon_122 (L : pmL) (S : List Value) (g : pmH) : pmV mX12_balloon 122 L S g = zIret mX12_balloon S g := ez_ireturn kcX12_balloon dX12_balloon_122 L S g
theorem eX12_balloon_123 (L : pmL) (S : List Value) (g : pmH) : pmV mX12_balloon 123 L S g = zLdA mX12_balloon 124 0 L S g := ez_aload_n kcX12_balloon dX12_balloon_123 rfl rfl L S g
theorem eX12_balloon_124 (L : pmL) (S : List Value) (g : pmH) : pmV mX12_balloon 124 L S g = zPush mX12_balloon 125 (.int (nI 0)) L S g := ez_iconst kcX12_balloon dX12_balloon_124 (by decide) rfl L S g
theorem eX12_balloon_125 (L : pmL) (S : List Value) (g : pmH) : pmV mX12_balloon 125 L S g = zLdI mX12_balloon 126 1 L S g := ez_iload_n kcX12_balloon dX12_balloon_125 rfl rfl L S g
theorem eX12_balloon_126 (L : pmL) (S : List Value) (g : pmH) : pmV mX12_balloon 126 L S g = yV mX12_balloon 129 2 mX12_isAnswered 12 4 L S g := (ez_virtual kcX12_balloon dX12_balloon_126 ml_12_146 rfl L S g).trans (zCallV_y rfl rfl (by decide) L S g)
theorem eX12_balloon_129 (L : pmL) (S : List Value) (g : pmH) : pmV mX12_balloon 129 L S g = zCeq mX12_balloon 132 136 L S g := ez_if_eq kcX12_balloon dX12_balloon_129 (by decide) rfl L S g
theorem eX12_balloon_132 (L : pmL) (S : List Value) (g : pmH) : pmV mX12_balloon 132 L S g = zPush mX12_balloon 133 (.int (nI 1)) L S g := ez_iconst kcX12_balloon dX12_balloon_132 (by decide) rfl L S g
theorem eX12_balloon_133 (L : pmL) (S : List Value) (g : pmH) : pmV mX12_balloon 133 L S g = zNx mX12_balloon 137 L S g := ez_goto kcX12_balloon dX12_balloon_133 (by decide) L S g
theorem eX12_balloon_136 (L : pmL) (S : List Value) (g : pmH) : pmV mX12_balloon 136 L S g = zPush mX12_balloon 137 (.int (nI 0)) L S g := ez_iconst kcX12_balloon dX12_balloon_136 (by decide) rfl L S g
theorem eX12_balloon_137 (L : pmL) (S : List Value) (g : pmH) : pmV mX12_balloon 137 L S g = zIret mX12_balloon S g := ez_ireturn kcX12_balloon dX12_balloon_137 L S g
theorem eX12_balloon_138 (L : pmL) (S : List Value) (g : pmH) : pmV mX12_balloon 138 L S g = zLdA mX12_balloon 139 0 L S g := ez_aload_n kcX12_balloon dX12_balloon_138 rfl rfl L S g
theorem eX12_balloon_139 (L : pmL) (S : List Value) (g : pmH) : pmV mX12_balloon 139 L S g = zPush mX12_balloon 140 (.int (nI 0)) L S g := ez_iconst kcX12_balloon dX12_balloon_139 (by decide) rfl L S g
theorem eX12_balloon_140 (L : pmL) (S : List Value) (g : pmH) : pmV mX12_balloon 140 L S g = yV mX12_balloon 143 1 mX12_glad 12 5 L S g := (ez_virtual kcX12_balloon dX12_balloon_140 ml_12_156 rfl L S g).trans (zCallV_y rfl rfl (by decide) L S g)
theorem eX12_balloon_143 (L : pmL) (S : List Value) (g : pmH) : pmV mX12_balloon 143 L S g = zLdI mX12_balloon 144 1 L S g := ez_iload_n kcX12_balloon dX12_balloon_143 rfl rfl L S g
theorem eX12_balloon_144 (L : pmL) (S : List Value) (g : pmH) : pmV mX12_balloon 144 L S g = zShr mX12_balloon 145 L S g := ez_ishr kcX12_balloon dX12_balloon_144 rfl L S g
theorem eX12_balloon_145 (L : pmL) (S : List Value) (g : pmH) : pmV mX12_balloon 145 L S g = zPush mX12_balloon 146 (.int (nI 1)) L S g := ez_iconst kcX12_balloon dX12_balloon_145 (by decide) rfl L S g
theorem eX12_balloon_146 (L : pmL) (S : List Value) (g : pmH) : pmV mX12_balloon 146 L S g = zAnd mX12_balloon 147 L S g := ez_iand kcX12_balloon dX12_balloon_146 rfl L S g
theorem eX12_balloon_147 (L : pmL) (S : List Value) (g : pmH) : pmV mX12_balloon 147 L S g = zIret mX12_balloon S g := ez_ireturn kcX12_balloon dX12_balloon_147 L S g
theorem eX12_balloon_148 (L : pmL) (S : List Value) (g : pmH) : pmV mX12_balloon 148 L S g = zPush mX12_balloon 150 (.int (-2)) L S g := ez_bipush kcX12_balloon dX12_balloon_148 (by decide) rfl L S g
theorem eX12_balloon_150 (L : pmL) (S : List Value) (g : pmH) : pmV mX12_balloon 150 L S g = zIret mX12_balloon S g := ez_ireturn kcX12_balloon dX12_balloon_150 L S g
theorem eX12_caughtIn_0 (L : pmL) (S : List Value) (g : pmH) : pmV mX12_caughtIn 0 L S g = zPush mX12_caughtIn 1 (.int (nI 0)) L S g := ez_iconst kcX12_caughtIn dX12_caughtIn_0 (by decide) rfl L S g
theorem eX12_caughtIn_1 (L : pmL) (S : List Value) (g : pmH) : pmV mX12_caughtIn 1 L S g = zStI mX12_caughtIn 2 2 L S g := ez_istore_n kcX12_caughtIn dX12_caughtIn_1 rfl rfl L S g
theorem eX12_caughtIn_2 (L : pmL) (S : List Value) (g : pmH) : pmV mX12_caughtIn 2 L S g = zPush mX12_caughtIn 3 (.int (nI 0)) L S g := ez_iconst kcX12_caughtIn dX12_caughtIn_2 (by decide) rfl L S g
theorem eX12_caughtIn_3 (L : pmL) (S : List Value) (g : pmH) : pmV mX12_caughtIn 3 L S g = zStI mX12_caughtIn 4 3 L S g := ez_istore_n kcX12_caughtIn dX12_caughtIn_3 rfl rfl L S g
theorem eX12_caughtIn_4 (L : pmL) (S : List Value) (g : pmH) : pmV mX12_caughtIn 4 L S g = zLdI mX12_caughtIn 5 3 L S g := ez_iload_n kcX12_caughtIn dX12_caughtIn_4 rfl rfl L S g
theorem eX12_caughtIn_5 (L : pmL) (S : List Value) (g : pmH) : pmV mX12_caughtIn 5 L S g = zLdA mX12_caughtIn 6 0 L S g := ez_aload_n kcX12_caughtIn dX12_caughtIn_5 rfl rfl L S g
theorem eX12_caughtIn_6 (L : pmL) (S : List Value) (g : pmH) : pmV mX12_caughtIn 6 L S g = zGet mX12_caughtIn 9 12 1 L S g := ez_getfield kcX12_caughtIn dX12_caughtIn_6 fl_12_120 rfl L S g
theorem eX12_caughtIn_9 (L : pmL) (S : List Value) (g : pmH) : pmV mX12_caughtIn 9 L S g = zBge mX12_caughtIn 12 53 L S g := ez_icmp_ge kcX12_caughtIn dX12_caughtIn_9 (by decide) rfl L S g
theorem eX12_caughtIn_12 (L : pmL) (S : List Value) (g : pmH) : pmV mX12_caughtIn 12 L S g = zLdI mX12_caughtIn 13 2 L S g := ez_iload_n kcX12_caughtIn dX12_caughtIn_12 rfl rfl L S g
theorem eX12_caughtIn_13 (L : pmL) (S : List Value) (g : pmH) : pmV mX12_caughtIn 13 L S g = zLdA mX12_caughtIn 14 0 L S g := ez_aload_n kcX12_caughtIn dX12_caughtIn_13 rfl rfl L S g
theorem eX12_caughtIn_14 (L : pmL) (S : List Value) (g : pmH) : pmV mX12_caughtIn 14 L S g = zGet mX12_caughtIn 17 12 9 L S g := ez_getfield kcX12_caughtIn dX12_caughtIn_14 fl_12_28 rfl L S g
theorem eX12_caughtIn_17 (L : pmL) (S : List Value) (g : pmH) : pmV mX12_caughtIn 17 L S g = zPush mX12_caughtIn 18 (.int (nI 5)) L S g := ez_iconst kcX12_caughtIn dX12_caughtIn_17 (by decide) rfl L S g
theorem eX12_caughtIn_18 (L : pmL) (S : List Value) (g : pmH) : pmV mX12_caughtIn 18 L S g = zLdI mX12_caughtIn 19 3 L S g := ez_iload_n kcX12_caughtIn dX12_caughtIn_18 rfl rfl L S g
theorem eX12_caughtIn_19 (L : pmL) (S : List Value) (g : pmH) : pmV mX12_caughtIn 19 L S g = zAdd mX12_caughtIn 20 L S g := ez_iadd kcX12_caughtIn dX12_caughtIn_19 rfl L S g
theorem eX12_caughtIn_20 (L : pmL) (S : List Value) (g : pmH) : pmV mX12_caughtIn 20 L S g = zIald mX12_caughtIn 21 L S g := ez_iaload kcX12_caughtIn dX12_caughtIn_20 rfl L S g
theorem eX12_caughtIn_21 (L : pmL) (S : List Value) (g : pmH) : pmV mX12_caughtIn 21 L S g = zPush mX12_caughtIn 22 (.int (nI 2)) L S g := ez_iconst kcX12_caughtIn dX12_caughtIn_21 (by decide) rfl L S g
theorem eX12_caughtIn_22 (L : pmL) (S : List Value) (g : pmH) : pmV mX12_caughtIn 22 L S g = zBne mX12_caughtIn 25 44 L S g := ez_icmp_ne kcX12_caughtIn dX12_caughtIn_22 (by decide) rfl L S g
theorem eX12_caughtIn_25 (L : pmL) (S : List Value) (g : pmH) : pmV mX12_caughtIn 25 L S g = zLdA mX12_caughtIn 26 0 L S g := ez_aload_n kcX12_caughtIn dX12_caughtIn_25 rfl rfl L S g
theorem eX12_caughtIn_26 (L : pmL) (S : List Value) (g : pmH) : pmV mX12_caughtIn 26 L S g = zGet mX12_caughtIn 29 12 9 L S g := ez_getfield kcX12_caughtIn dX12_caughtIn_26 fl_12_28 rfl L S g
theorem eX12_caughtIn_29 (L : pmL) (S : List Value) (g : pmH) : pmV mX12_caughtIn 29 L S g = zPush mX12_caughtIn 31 (.int (nI 15)) L S g := ez_bipush kcX12_caughtIn dX12_caughtIn_29 (by decide) rfl L S g
theorem eX12_caughtIn_31 (L : pmL) (S : List Value) (g : pmH) : pmV mX12_caughtIn 31 L S g = zLdI mX12_caughtIn 32 3 L S g := ez_iload_n kcX12_caughtIn dX12_caughtIn_31 rfl rfl L S g
theorem eX12_caughtIn_32 (L : pmL) (S : List Value) (g : pmH) : pmV mX12_caughtIn 32 L S g = zAdd mX12_caughtIn 33 L S g := ez_iadd kcX12_caughtIn dX12_caughtIn_32 rfl L S g
theorem eX12_caughtIn_33 (L : pmL) (S : List Value) (g : pmH) : pmV mX12_caughtIn 33 L S g = zIald mX12_caughtIn 34 L S g := ez_iaload kcX12_caughtIn dX12_caughtIn_33 rfl L S g
theorem eX12_caughtIn_34 (L : pmL) (S : List Value) (g : pmH) : pmV mX12_caughtIn 34 L S g = zLdI mX12_caughtIn 35 1 L S g := ez_iload_n kcX12_caughtIn dX12_caughtIn_34 rfl rfl L S g
theorem eX12_caughtIn_35 (L : pmL) (S : List Value) (g : pmH) : pmV mX12_caughtIn 35 L S g = zBne mX12_caughtIn 38 44 L S g := ez_icmp_ne kcX12_caughtIn dX12_caughtIn_35 (by decide) rfl L S g
theorem eX12_caughtIn_38 (L : pmL) (S : List Value) (g : pmH) : pmV mX12_caughtIn 38 L S g = zPush mX12_caughtIn 39 (.int (nI 1)) L S g := ez_iconst kcX12_caughtIn dX12_caughtIn_38 (by decide) rfl L S g
theorem eX12_caughtIn_39 (L : pmL) (S : List Value) (g : pmH) : pmV mX12_caughtIn 39 L S g = zLdI mX12_caughtIn 40 3 L S g := ez_iload_n kcX12_caughtIn dX12_caughtIn_39 rfl rfl L S g
theorem eX12_caughtIn_40 (L : pmL) (S : List Value) (g : pmH) : pmV mX12_caughtIn 40 L S g = zShl mX12_caughtIn 41 L S g := ez_ishl kcX12_caughtIn dX12_caughtIn_40 rfl L S g
theorem eX12_caughtIn_41 (L : pmL) (S : List Value) (g : pmH) : pmV mX12_caughtIn 41 L S g = zNx mX12_caughtIn 45 L S g := ez_goto kcX12_caughtIn dX12_caughtIn_41 (by decide) L S g
theorem eX12_caughtIn_44 (L : pmL) (S : List Value) (g : pmH) : pmV mX12_caughtIn 44 L S g = zPush mX12_caughtIn 45 (.int (nI 0)) L S g := ez_iconst kcX12_caughtIn dX12_caughtIn_44 (by decide) rfl L S g
theorem eX12_caughtIn_45 (L : pmL) (S : List Value) (g : pmH) : pmV mX12_caughtIn 45 L S g = zOr mX12_caughtIn 46 L S g := ez_ior kcX12_caughtIn dX12_caughtIn_45 rfl L S g
theorem eX12_caughtIn_46 (L : pmL) (S : List Value) (g : pmH) : pmV mX12_caughtIn 46 L S g = zStI mX12_caughtIn 47 2 L S g := ez_istore_n kcX12_caughtIn dX12_caughtIn_46 rfl rfl L S g
theorem eX12_caughtIn_47 (L : pmL) (S : List Value) (g : pmH) : pmV mX12_caughtIn 47 L S g = zInc mX12_caughtIn 50 3 (nI 1) L S g := ez_iinc kcX12_caughtIn dX12_caughtIn_47 (by decide) rfl L S g
theorem eX12_caughtIn_50 (L : pmL) (S : List Value) (g : pmH) : pmV mX12_caughtIn 50 L S g = zNx mX12_caughtIn 4 L S g := ez_goto kcX12_caughtIn dX12_caughtIn_50 (by decide) L S g
theorem eX12_caughtIn_53 (L : pmL) (S : List Value) (g : pmH) : pmV mX12_caughtIn 53 L S g = zLdI mX12_caughtIn 54 2 L S g := ez_iload_n kcX12_caughtIn dX12_caughtIn_53 rfl rfl L S g
theorem eX12_caughtIn_54 (L : pmL) (S : List Value) (g : pmH) : pmV mX12_caughtIn 54 L S g = zIret mX12_caughtIn S g := ez_ireturn kcX12_caughtIn dX12_caughtIn_54 L S g
theorem eX12_hedge_0 (L : pmL) (S : List Value) (g : pmH) : pmV mX12_hedge 0 L S g = zLdA mX12_hedge 1 0 L S g := ez_aload_n kcX12_hedge dX12_hedge_0 rfl rfl L S g
theorem eX12_hedge_1 (L : pmL) (S : List Value) (g : pmH) : pmV mX12_hedge 1 L S g = zLdI mX12_hedge 2 1 L S g := ez_iload_n kcX12_hedge dX12_hedge_1 rfl rfl L S g
theorem eX12_hedge_2 (L : pmL) (S : List Value) (g : pmH) : pmV mX12_hedge 2 L S g = yV mX12_hedge 5 1 mX12_isHedge 12 2 L S g := (ez_virtual kcX12_hedge dX12_hedge_2 ml_12_159 rfl L S g).trans (zCallV_y rfl rfl (by decide) L S g)
theorem eX12_hedge_5 (L : pmL) (S : List Value) (g : pmH) : pmV mX12_hedge 5 L S g = zCne mX12_hedge 8 10 L S g := ez_if_ne kcX12_hedge dX12_hedge_5 (by decide) rfl L S g
theorem eX12_hedge_8 (L : pmL) (S : List Value) (g : pmH) : pmV mX12_hedge 8 L S g = zPush mX12_hedge 9 (.int (-1)) L S g := ez_iconst kcX12_hedge dX12_hedge_8 (by decide) rfl L S g
theorem eX12_hedge_9 (L : pmL) (S : List Value) (g : pmH) : pmV mX12_hedge 9 L S g = zIret mX12_hedge S g := ez_ireturn kcX12_hedge dX12_hedge_9 L S g
theorem eX12_hedge_10 (L : pmL) (S : List Value) (g : pmH) : pmV mX12_hedge 10 L S g = zLdI mX12_hedge 11 2 L S g := ez_iload_n kcX12_hedge dX12_hedge_10 rfl rfl L S g
theorem eX12_hedge_11 (L : pmL) (S : List Value) (g : pmH) : pmV mX12_hedge 11 L S g = zTab mX12_hedge 11 56 0 3 #[29, 36, 43, 50] L S g := ez_tab kcX12_hedge dX12_hedge_11 L S g
theorem eX12_hedge_40 (L : pmL) (S : List Value) (g : pmH) : pmV mX12_hedge 40 L S g = zLdA mX12_hedge 41 0 L S g := ez_aload_n kcX12_hedge dX12_hedge_40 rfl rfl L S g
theorem eX12_hedge_41 (L : pmL) (S : List Value) (g : pmH) : pmV mX12_hedge 41 L S g = zGet mX12_hedge 44 12 6 L S g := ez_getfield kcX12_hedge dX12_hedge_41 fl_12_19 rfl L S g
theorem eX12_hedge_44 (L : pmL) (S : List Value) (g : pmH) : pmV mX12_hedge 44 L S g = zLdI mX12_hedge 45 1 L S g := ez_iload_n kcX12_hedge dX12_hedge_44 rfl rfl L S g
theorem eX12_hedge_45 (L : pmL) (S : List Value) (g : pmH) : pmV mX12_hedge 45 L S g = zIald mX12_hedge 46 L S g := ez_iaload kcX12_hedge dX12_hedge_45 rfl L S g
theorem eX12_hedge_46 (L : pmL) (S : List Value) (g : pmH) : pmV mX12_hedge 46 L S g = zIret mX12_hedge S g := ez_ireturn kcX12_hedge dX12_hedge_46 L S g
theorem eX12_hedge_47 (L : pmL) (S : List Value) (g : pmH) : pmV mX12_hedge 47 L S g = zLdA mX12_hedge 48 0 L S g := ez_aload_n kcX12_hedge dX12_hedge_47 rfl rfl L S g
theorem eX12_hedge_48 (L : pmL) (S : List Value) (g : pmH) : pmV mX12_hedge 48 L S g = zGet mX12_hedge 51 12 7 L S g := ez_getfield kcX12_hedge dX12_hedge_48 fl_12_22 rfl L S g
theorem eX12_hedge_51 (L : pmL) (S : List Value) (g : pmH) : pmV mX12_hedge 51 L S g = zLdI mX12_hedge 52 1 L S g := ez_iload_n kcX12_hedge dX12_hedge_51 rfl rfl L S g
theorem eX12_hedge_52 (L : pmL) (S : List Value) (g : pmH) : pmV mX12_hedge 52 L S g = zIald mX12_hedge 53 L S g := ez_iaload kcX12_hedge dX12_hedge_52 rfl L S g
theorem eX12_hedge_53 (L : pmL) (S : List Value) (g : pmH) : pmV mX12_hedge 53 L S g = zIret mX12_hedge S g := ez_ireturn kcX12_hedge dX12_hedge_53 L S g
theorem eX12_hedge_54 (L : pmL) (S : List Value) (g : pmH) : pmV mX12_hedge 54 L S g = zLdA mX12_hedge 55 0 L S g := ez_aload_n kcX12_hedge dX12_hedge_54 rfl rfl L S g
theorem eX12_hedge_55 (L : pmL) (S : List Value) (g : pmH) : pmV mX12_hedge 55 L S g = zGet mX12_hedge 58 12 8 L S g := ez_getfield kcX12_hedge dX12_hedge_55 fl_12_25 rfl L S g
theorem eX12_hedge_58 (L : pmL) (S : List Value) (g : pmH) : pmV mX12_hedge 58 L S g = zLdI mX12_hedge 59 1 L S g := ez_iload_n kcX12_hedge dX12_hedge_58 rfl rfl L S g
theorem eX12_hedge_59 (L : pmL) (S : List Value) (g : pmH) : pmV mX12_hedge 59 L S g = zIald mX12_hedge 60 L S g := ez_iaload kcX12_hedge dX12_hedge_59 rfl L S g
theorem eX12_hedge_60 (L : pmL) (S : List Value) (g : pmH) : pmV mX12_hedge 60 L S g = zIret mX12_hedge S g := ez_ireturn kcX12_hedge dX12_hedge_60 L S g
theorem eX12_hedge_61 (L : pmL) (S : List Value) (g : pmH) : pmV mX12_hedge 61 L S g = zLdA mX12_hedge 62 0 L S g := ez_aload_n kcX12_hedge dX12_hedge_61 rfl rfl L S g
theorem eX12_hedge_62 (L : pmL) (S : List Value) (g : pmH) : pmV mX12_hedge 62 L S g = zLdI mX12_hedge 63 1 L S g := ez_iload_n kcX12_hedge dX12_hedge_62 rfl rfl L S g
theorem eX12_hedge_63 (L : pmL) (S : List Value) (g : pmH) : pmV mX12_hedge 63 L S g = yV mX12_hedge 66 1 mX12_caughtIn 12 4 L S g := (ez_virtual kcX12_hedge dX12_hedge_63 ml_12_162 rfl L S g).trans (zCallV_y rfl rfl (by decide) L S g)
theorem eX12_hedge_66 (L : pmL) (S : List Value) (g : pmH) : pmV mX12_hedge 66 L S g = zIret mX12_hedge S g := ez_ireturn kcX12_hedge dX12_hedge_66 L S g
theorem eX12_hedge_67 (L : pmL) (S : List Value) (g : pmH) : pmV mX12_hedge 67 L S g = zPush mX12_hedge 69 (.int (-2)) L S g := ez_bipush kcX12_hedge dX12_hedge_67 (by decide) rfl L S g
theorem eX12_hedge_69 (L : pmL) (S : List Value) (g : pmH) : pmV mX12_hedge 69 L S g = zIret mX12_hedge S g := ez_ireturn kcX12_hedge dX12_hedge_69 L S g
theorem eX12_keepAct_0 (L : pmL) (S : List Value) (g : pmH) : pmV mX12_keepAct 0 L S g = zPush mX12_keepAct 1 (.int (nI 0)) L S g := ez_iconst kcX12_keepAct dX12_keepAct_0 (by decide) rfl L S g
theorem eX12_keepAct_1 (L : pmL) (S : List Value) (g : pmH) : pmV mX12_keepAct 1 L S g = zStI mX12_keepAct 2 1 L S g := ez_istore_n kcX12_keepAct dX12_keepAct_1 rfl rfl L S g
theorem eX12_keepAct_2 (L : pmL) (S : List Value) (g : pmH) : pmV mX12_keepAct 2 L S g = zLdI mX12_keepAct 3 1 L S g := ez_iload_n kcX12_keepAct dX12_keepAct_2 rfl rfl L S g
theorem eX12_keepAct_3 (L : pmL) (S : List Value) (g : pmH) : pmV mX12_keepAct 3 L S g = zPush mX12_keepAct 5 (.int (nI 31)) L S g := ez_bipush kcX12_keepAct dX12_keepAct_3 (by decide) rfl L S g
theorem eX12_keepAct_5 (L : pmL) (S : List Value) (g : pmH) : pmV mX12_keepAct 5 L S g = zBge mX12_keepAct 8 34 L S g := ez_icmp_ge kcX12_keepAct dX12_keepAct_5 (by decide) rfl L S g
theorem eX12_keepAct_8 (L : pmL) (S : List Value) (g : pmH) : pmV mX12_keepAct 8 L S g = zLdA mX12_keepAct 9 0 L S g := ez_aload_n kcX12_keepAct dX12_keepAct_8 rfl rfl L S g
theorem eX12_keepAct_9 (L : pmL) (S : List Value) (g : pmH) : pmV mX12_keepAct 9 L S g = zGet mX12_keepAct 12 12 24 L S g := ez_getfield kcX12_keepAct dX12_keepAct_9 fl_12_47 rfl L S g
theorem eX12_keepAct_12 (L : pmL) (S : List Value) (g : pmH) : pmV mX12_keepAct 12 L S g = zPush mX12_keepAct 14 (.int (nI 31)) L S g := ez_bipush kcX12_keepAct dX12_keepAct_12 (by decide) rfl L S g
theorem eX12_keepAct_14 (L : pmL) (S : List Value) (g : pmH) : pmV mX12_keepAct 14 L S g = zLdA mX12_keepAct 15 0 L S g := ez_aload_n kcX12_keepAct dX12_keepAct_14 rfl rfl L S g
theorem eX12_keepAct_15 (L : pmL) (S : List Value) (g : pmH) : pmV mX12_keepAct 15 L S g = zGet mX12_keepAct 18 12 23 L S g := ez_getfield kcX12_keepAct dX12_keepAct_15 fl_12_165 rfl L S g
theorem eX12_keepAct_18 (L : pmL) (S : List Value) (g : pmH) : pmV mX12_keepAct 18 L S g = zMul mX12_keepAct 19 L S g := ez_imul kcX12_keepAct dX12_keepAct_18 rfl L S g
theorem eX12_keepAct_19 (L : pmL) (S : List Value) (g : pmH) : pmV mX12_keepAct 19 L S g = zLdI mX12_keepAct 20 1 L S g := ez_iload_n kcX12_keepAct dX12_keepAct_19 rfl rfl L S g
theorem eX12_keepAct_20 (L : pmL) (S : List Value) (g : pmH) : pmV mX12_keepAct 20 L S g = zAdd mX12_keepAct 21 L S g := ez_iadd kcX12_keepAct dX12_keepAct_20 rfl L S g
theorem eX12_keepAct_21 (L : pmL) (S : List Value) (g : pmH) : pmV mX12_keepAct 21 L S g = zLdA mX12_keepAct 22 0 L S g := ez_aload_n kcX12_keepAct dX12_keepAct_21 rfl rfl L S g
theorem eX12_keepAct_22 (L : pmL) (S : List Value) (g : pmH) : pmV mX12_keepAct 22 L S g = zGet mX12_keepAct 25 12 9 L S g := ez_getfield kcX12_keepAct dX12_keepAct_22 fl_12_28 rfl L S g
theorem eX12_keepAct_25 (L : pmL) (S : List Value) (g : pmH) : pmV mX12_keepAct 25 L S g = zLdI mX12_keepAct 26 1 L S g := ez_iload_n kcX12_keepAct dX12_keepAct_25 rfl rfl L S g
theorem eX12_keepAct_26 (L : pmL) (S : List Value) (g : pmH) : pmV mX12_keepAct 26 L S g = zIald mX12_keepAct 27 L S g := ez_iaload kcX12_keepAct dX12_keepAct_26 rfl L S g
theorem eX12_keepAct_27 (L : pmL) (S : List Value) (g : pmH) : pmV mX12_keepAct 27 L S g = zIast mX12_keepAct 28 L S g := ez_iastore kcX12_keepAct dX12_keepAct_27 rfl L S g
theorem eX12_keepAct_28 (L : pmL) (S : List Value) (g : pmH) : pmV mX12_keepAct 28 L S g = zInc mX12_keepAct 31 1 (nI 1) L S g := ez_iinc kcX12_keepAct dX12_keepAct_28 (by decide) rfl L S g
theorem eX12_keepAct_31 (L : pmL) (S : List Value) (g : pmH) : pmV mX12_keepAct 31 L S g = zNx mX12_keepAct 2 L S g := ez_goto kcX12_keepAct dX12_keepAct_31 (by decide) L S g
theorem eX12_keepAct_34 (L : pmL) (S : List Value) (g : pmH) : pmV mX12_keepAct 34 L S g = zLdA mX12_keepAct 35 0 L S g := ez_aload_n kcX12_keepAct dX12_keepAct_34 rfl rfl L S g
theorem eX12_keepAct_35 (L : pmL) (S : List Value) (g : pmH) : pmV mX12_keepAct 35 L S g = zLdA mX12_keepAct 36 0 L S g := ez_aload_n kcX12_keepAct dX12_keepAct_35 rfl rfl L S g
theorem eX12_keepAct_36 (L : pmL) (S : List Value) (g : pmH) : pmV mX12_keepAct 36 L S g = zGet mX12_keepAct 39 12 23 L S g := ez_getfield kcX12_keepAct dX12_keepAct_36 fl_12_165 rfl L S g
theorem eX12_keepAct_39 (L : pmL) (S : List Value) (g : pmH) : pmV mX12_keepAct 39 L S g = zPush mX12_keepAct 40 (.int (nI 1)) L S g := ez_iconst kcX12_keepAct dX12_keepAct_39 (by decide) rfl L S g
theorem eX12_keepAct_40 (L : pmL) (S : List Value) (g : pmH) : pmV mX12_keepAct 40 L S g = zAdd mX12_keepAct 41 L S g := ez_iadd kcX12_keepAct dX12_keepAct_40 rfl L S g
theorem eX12_keepAct_41 (L : pmL) (S : List Value) (g : pmH) : pmV mX12_keepAct 41 L S g = zPush mX12_keepAct 43 (.int (nI 14)) L S g := ez_bipush kcX12_keepAct dX12_keepAct_41 (by decide) rfl L S g
theorem eX12_keepAct_43 (L : pmL) (S : List Value) (g : pmH) : pmV mX12_keepAct 43 L S g = zRem mX12_keepAct 44 L S g := ez_irem kcX12_keepAct dX12_keepAct_43 rfl L S g
theorem eX12_keepAct_44 (L : pmL) (S : List Value) (g : pmH) : pmV mX12_keepAct 44 L S g = zPut mX12_keepAct 47 12 23 L S g := ez_putfield kcX12_keepAct dX12_keepAct_44 fl_12_165 rfl L S g
theorem eX12_keepAct_47 (L : pmL) (S : List Value) (g : pmH) : pmV mX12_keepAct 47 L S g = zLdA mX12_keepAct 48 0 L S g := ez_aload_n kcX12_keepAct dX12_keepAct_47 rfl rfl L S g
theorem eX12_keepAct_48 (L : pmL) (S : List Value) (g : pmH) : pmV mX12_keepAct 48 L S g = zLdA mX12_keepAct 49 0 L S g := ez_aload_n kcX12_keepAct dX12_keepAct_48 rfl rfl L S g
theorem eX12_keepAct_49 (L : pmL) (S : List Value) (g : pmH) : pmV mX12_keepAct 49 L S g = zGet mX12_keepAct 52 12 22 L S g := ez_getfield kcX12_keepAct dX12_keepAct_49 fl_12_126 rfl L S g
theorem eX12_keepAct_52 (L : pmL) (S : List Value) (g : pmH) : pmV mX12_keepAct 52 L S g = zPush mX12_keepAct 54 (.int (nI 14)) L S g := ez_bipush kcX12_keepAct dX12_keepAct_52 (by decide) rfl L S g
theorem eX12_keepAct_54 (L : pmL) (S : List Value) (g : pmH) : pmV mX12_keepAct 54 L S g = zBge mX12_keepAct 57 66 L S g := ez_icmp_ge kcX12_keepAct dX12_keepAct_54 (by decide) rfl L S g
theorem eX12_keepAct_57 (L : pmL) (S : List Value) (g : pmH) : pmV mX12_keepAct 57 L S g = zLdA mX12_keepAct 58 0 L S g := ez_aload_n kcX12_keepAct dX12_keepAct_57 rfl rfl L S g
theorem eX12_keepAct_58 (L : pmL) (S : List Value) (g : pmH) : pmV mX12_keepAct 58 L S g = zGet mX12_keepAct 61 12 22 L S g := ez_getfield kcX12_keepAct dX12_keepAct_58 fl_12_126 rfl L S g
theorem eX12_keepAct_61 (L : pmL) (S : List Value) (g : pmH) : pmV mX12_keepAct 61 L S g = zPush mX12_keepAct 62 (.int (nI 1)) L S g := ez_iconst kcX12_keepAct dX12_keepAct_61 (by decide) rfl L S g
theorem eX12_keepAct_62 (L : pmL) (S : List Value) (g : pmH) : pmV mX12_keepAct 62 L S g = zAdd mX12_keepAct 63 L S g := ez_iadd kcX12_keepAct dX12_keepAct_62 rfl L S g
theorem eX12_keepAct_63 (L : pmL) (S : List Value) (g : pmH) : pmV mX12_keepAct 63 L S g = zNx mX12_keepAct 68 L S g := ez_goto kcX12_keepAct dX12_keepAct_63 (by decide) L S g
theorem eX12_keepAct_66 (L : pmL) (S : List Value) (g : pmH) : pmV mX12_keepAct 66 L S g = zPush mX12_keepAct 68 (.int (nI 14)) L S g := ez_bipush kcX12_keepAct dX12_keepAct_66 (by decide) rfl L S g
theorem eX12_keepAct_68 (L : pmL) (S : List Value) (g : pmH) : pmV mX12_keepAct 68 L S g = zPut mX12_keepAct 71 12 22 L S g := ez_putfield kcX12_keepAct dX12_keepAct_68 fl_12_126 rfl L S g
theorem eX12_keepAct_71 (L : pmL) (S : List Value) (g : pmH) : pmV mX12_keepAct 71 L S g = zVret S g := ez_return kcX12_keepAct dX12_keepAct_71 rfl L S g
theorem eX12_let_0 (L : pmL) (S : List Value) (g : pmH) : pmV mX12_let 0 L S g = zLdA mX12_let 1 0 L S g := ez_aload_n kcX12_let dX12_let_0 rfl rfl L S g
theorem eX12_let_1 (L : pmL) (S : List Value) (g : pmH) : pmV mX12_let 1 L S g = zLdI mX12_let 2 1 L S g := ez_iload_n kcX12_let dX12_let_1 rfl rfl L S g
theorem eX12_let_2 (L : pmL) (S : List Value) (g : pmH) : pmV mX12_let 2 L S g = yV mX12_let 5 1 mX12_isBalloon 12 2 L S g := (ez_virtual kcX12_let dX12_let_2 ml_12_152 rfl L S g).trans (zCallV_y rfl rfl (by decide) L S g)
theorem eX12_let_5 (L : pmL) (S : List Value) (g : pmH) : pmV mX12_let 5 L S g = zCne mX12_let 8 10 L S g := ez_if_ne kcX12_let dX12_let_5 (by decide) rfl L S g
theorem eX12_let_8 (L : pmL) (S : List Value) (g : pmH) : pmV mX12_let 8 L S g = zPush mX12_let 9 (.int (-1)) L S g := ez_iconst kcX12_let dX12_let_8 (by decide) rfl L S g
theorem eX12_let_9 (L : pmL) (S : List Value) (g : pmH) : pmV mX12_let 9 L S g = zIret mX12_let S g := ez_ireturn kcX12_let dX12_let_9 L S g
theorem eX12_let_10 (L : pmL) (S : List Value) (g : pmH) : pmV mX12_let 10 L S g = zLdA mX12_let 11 0 L S g := ez_aload_n kcX12_let dX12_let_10 rfl rfl L S g
theorem eX12_let_11 (L : pmL) (S : List Value) (g : pmH) : pmV mX12_let 11 L S g = zGet mX12_let 14 12 9 L S g := ez_getfield kcX12_let dX12_let_11 fl_12_28 rfl L S g
theorem eX12_let_14 (L : pmL) (S : List Value) (g : pmH) : pmV mX12_let 14 L S g = zPush mX12_let 15 (.int (nI 5)) L S g := ez_iconst kcX12_let dX12_let_14 (by decide) rfl L S g
theorem eX12_let_15 (L : pmL) (S : List Value) (g : pmH) : pmV mX12_let 15 L S g = zLdI mX12_let 16 1 L S g := ez_iload_n kcX12_let dX12_let_15 rfl rfl L S g
theorem eX12_let_16 (L : pmL) (S : List Value) (g : pmH) : pmV mX12_let 16 L S g = zAdd mX12_let 17 L S g := ez_iadd kcX12_let dX12_let_16 rfl L S g
theorem eX12_let_17 (L : pmL) (S : List Value) (g : pmH) : pmV mX12_let 17 L S g = zIald mX12_let 18 L S g := ez_iaload kcX12_let dX12_let_17 rfl L S g
theorem eX12_let_18 (L : pmL) (S : List Value) (g : pmH) : pmV mX12_let 18 L S g = zCeq mX12_let 21 24 L S g := ez_if_eq kcX12_let dX12_let_18 (by decide) rfl L S g
theorem eX12_let_21 (L : pmL) (S : List Value) (g : pmH) : pmV mX12_let 21 L S g = zPush mX12_let 23 (.int (-3)) L S g := ez_bipush kcX12_let dX12_let_21 (by decide) rfl L S g
theorem eX12_let_23 (L : pmL) (S : List Value) (g : pmH) : pmV mX12_let 23 L S g = zIret mX12_let S g := ez_ireturn kcX12_let dX12_let_23 L S g
theorem eX12_let_24 (L : pmL) (S : List Value) (g : pmH) : pmV mX12_let 24 L S g = zLdA mX12_let 25 0 L S g := ez_aload_n kcX12_let dX12_let_24 rfl rfl L S g
theorem eX12_let_25 (L : pmL) (S : List Value) (g : pmH) : pmV mX12_let 25 L S g = yV mX12_let 28 0 mX12_keepAct 12 2 L S g := (ez_virtual kcX12_let dX12_let_25 ml_12_168 rfl L S g).trans (zCallV_y rfl rfl (by decide) L S g)
theorem eX12_let_28 (L : pmL) (S : List Value) (g : pmH) : pmV mX12_let 28 L S g = zLdA mX12_let 29 0 L S g := ez_aload_n kcX12_let dX12_let_28 rfl rfl L S g
theorem eX12_let_29 (L : pmL) (S : List Value) (g : pmH) : pmV mX12_let 29 L S g = zGet mX12_let 32 12 9 L S g := ez_getfield kcX12_let dX12_let_29 fl_12_28 rfl L S g
theorem eX12_let_32 (L : pmL) (S : List Value) (g : pmH) : pmV mX12_let 32 L S g = zPush mX12_let 33 (.int (nI 5)) L S g := ez_iconst kcX12_let dX12_let_32 (by decide) rfl L S g
theorem eX12_let_33 (L : pmL) (S : List Value) (g : pmH) : pmV mX12_let 33 L S g = zLdI mX12_let 34 1 L S g := ez_iload_n kcX12_let dX12_let_33 rfl rfl L S g
theorem eX12_let_34 (L : pmL) (S : List Value) (g : pmH) : pmV mX12_let 34 L S g = zAdd mX12_let 35 L S g := ez_iadd kcX12_let dX12_let_34 rfl L S g
theorem eX12_let_35 (L : pmL) (S : List Value) (g : pmH) : pmV mX12_let 35 L S g = zPush mX12_let 36 (.int (nI 1)) L S g := ez_iconst kcX12_let dX12_let_35 (by decide) rfl L S g
theorem eX12_let_36 (L : pmL) (S : List Value) (g : pmH) : pmV mX12_let 36 L S g = zIast mX12_let 37 L S g := ez_iastore kcX12_let dX12_let_36 rfl L S g
theorem eX12_let_37 (L : pmL) (S : List Value) (g : pmH) : pmV mX12_let 37 L S g = zLdA mX12_let 38 0 L S g := ez_aload_n kcX12_let dX12_let_37 rfl rfl L S g
theorem eX12_let_38 (L : pmL) (S : List Value) (g : pmH) : pmV mX12_let 38 L S g = zPush mX12_let 39 (.int (nI 0)) L S g := ez_iconst kcX12_let dX12_let_38 (by decide) rfl L S g
theorem eX12_let_39 (L : pmL) (S : List Value) (g : pmH) : pmV mX12_let 39 L S g = zPush mX12_let 40 (.int (nI 1)) L S g := ez_iconst kcX12_let dX12_let_39 (by decide) rfl L S g
theorem eX12_let_40 (L : pmL) (S : List Value) (g : pmH) : pmV mX12_let 40 L S g = yV mX12_let 43 2 mX12_whoIs 12 5 L S g := (ez_virtual kcX12_let dX12_let_40 ml_12_171 rfl L S g).trans (zCallV_y rfl rfl (by decide) L S g)
theorem eX12_let_43 (L : pmL) (S : List Value) (g : pmH) : pmV mX12_let 43 L S g = yS mX12_let 46 1 mX12_ones 3 L S g := (ez_static kcX12_let dX12_let_43 ml_12_174 (by decide) rfl L S g).trans (zCall_y rfl (by decide) L S g)
theorem eX12_let_46 (L : pmL) (S : List Value) (g : pmH) : pmV mX12_let 46 L S g = zIret mX12_let S g := ez_ireturn kcX12_let dX12_let_46 L S g
theorem eX12_hour_0 (L : pmL) (S : List Value) (g : pmH) : pmV mX12_hour 0 L S g = zLdA mX12_hour 1 0 L S g := ez_aload_n kcX12_hour dX12_hour_0 rfl rfl L S g
theorem eX12_hour_1 (L : pmL) (S : List Value) (g : pmH) : pmV mX12_hour 1 L S g = yV mX12_hour 4 0 mX12_keepAct 12 2 L S g := (ez_virtual kcX12_hour dX12_hour_1 ml_12_168 rfl L S g).trans (zCallV_y rfl rfl (by decide) L S g)
theorem eX12_hour_4 (L : pmL) (S : List Value) (g : pmH) : pmV mX12_hour 4 L S g = zLdA mX12_hour 5 0 L S g := ez_aload_n kcX12_hour dX12_hour_4 rfl rfl L S g
theorem eX12_hour_5 (L : pmL) (S : List Value) (g : pmH) : pmV mX12_hour 5 L S g = zPush mX12_hour 6 (.int (nI 0)) L S g := ez_iconst kcX12_hour dX12_hour_5 (by decide) rfl L S g
theorem eX12_hour_6 (L : pmL) (S : List Value) (g : pmH) : pmV mX12_hour 6 L S g = zPush mX12_hour 7 (.int (nI 1)) L S g := ez_iconst kcX12_hour dX12_hour_6 (by decide) rfl L S g
theorem eX12_hour_7 (L : pmL) (S : List Value) (g : pmH) : pmV mX12_hour 7 L S g = yV mX12_hour 10 2 mX12_passOn 12 8 L S g := (ez_virtual kcX12_hour dX12_hour_7 ml_12_177 rfl L S g).trans (zCallV_y rfl rfl (by decide) L S g)
theorem eX12_hour_10 (L : pmL) (S : List Value) (g : pmH) : pmV mX12_hour 10 L S g = zIret mX12_hour S g := ez_ireturn kcX12_hour dX12_hour_10 L S g
theorem eX12_free_0 (L : pmL) (S : List Value) (g : pmH) : pmV mX12_free 0 L S g = zLdA mX12_free 1 0 L S g := ez_aload_n kcX12_free dX12_free_0 rfl rfl L S g
theorem eX12_free_1 (L : pmL) (S : List Value) (g : pmH) : pmV mX12_free 1 L S g = zLdI mX12_free 2 1 L S g := ez_iload_n kcX12_free dX12_free_1 rfl rfl L S g
theorem eX12_free_2 (L : pmL) (S : List Value) (g : pmH) : pmV mX12_free 2 L S g = yV mX12_free 5 1 mX12_isBalloon 12 2 L S g := (ez_virtual kcX12_free dX12_free_2 ml_12_152 rfl L S g).trans (zCallV_y rfl rfl (by decide) L S g)
theorem eX12_free_5 (L : pmL) (S : List Value) (g : pmH) : pmV mX12_free 5 L S g = zCne mX12_free 8 10 L S g := ez_if_ne kcX12_free dX12_free_5 (by decide) rfl L S g
theorem eX12_free_8 (L : pmL) (S : List Value) (g : pmH) : pmV mX12_free 8 L S g = zPush mX12_free 9 (.int (-1)) L S g := ez_iconst kcX12_free dX12_free_8 (by decide) rfl L S g
theorem eX12_free_9 (L : pmL) (S : List Value) (g : pmH) : pmV mX12_free 9 L S g = zIret mX12_free S g := ez_ireturn kcX12_free dX12_free_9 L S g
theorem eX12_free_10 (L : pmL) (S : List Value) (g : pmH) : pmV mX12_free 10 L S g = zLdA mX12_free 11 0 L S g := ez_aload_n kcX12_free dX12_free_10 rfl rfl L S g
theorem eX12_free_11 (L : pmL) (S : List Value) (g : pmH) : pmV mX12_free 11 L S g = zGet mX12_free 14 12 9 L S g := ez_getfield kcX12_free dX12_free_11 fl_12_28 rfl L S g
theorem eX12_free_14 (L : pmL) (S : List Value) (g : pmH) : pmV mX12_free 14 L S g = zPush mX12_free 15 (.int (nI 5)) L S g := ez_iconst kcX12_free dX12_free_14 (by decide) rfl L S g
theorem eX12_free_15 (L : pmL) (S : List Value) (g : pmH) : pmV mX12_free 15 L S g = zLdI mX12_free 16 1 L S g := ez_iload_n kcX12_free dX12_free_15 rfl rfl L S g
theorem eX12_free_16 (L : pmL) (S : List Value) (g : pmH) : pmV mX12_free 16 L S g = zAdd mX12_free 17 L S g := ez_iadd kcX12_free dX12_free_16 rfl L S g
theorem eX12_free_17 (L : pmL) (S : List Value) (g : pmH) : pmV mX12_free 17 L S g = zIald mX12_free 18 L S g := ez_iaload kcX12_free dX12_free_17 rfl L S g
theorem eX12_free_18 (L : pmL) (S : List Value) (g : pmH) : pmV mX12_free 18 L S g = zPush mX12_free 19 (.int (nI 2)) L S g := ez_iconst kcX12_free dX12_free_18 (by decide) rfl L S g
theorem eX12_free_19 (L : pmL) (S : List Value) (g : pmH) : pmV mX12_free 19 L S g = zBeq mX12_free 22 25 L S g := ez_icmp_eq kcX12_free dX12_free_19 (by decide) rfl L S g
theorem eX12_free_22 (L : pmL) (S : List Value) (g : pmH) : pmV mX12_free 22 L S g = zPush mX12_free 24 (.int (-3)) L S g := ez_bipush kcX12_free dX12_free_22 (by decide) rfl L S g
theorem eX12_free_24 (L : pmL) (S : List Value) (g : pmH) : pmV mX12_free 24 L S g = zIret mX12_free S g := ez_ireturn kcX12_free dX12_free_24 L S g
theorem eX12_free_25 (L : pmL) (S : List Value) (g : pmH) : pmV mX12_free 25 L S g = zLdA mX12_free 26 0 L S g := ez_aload_n kcX12_free dX12_free_25 rfl rfl L S g
theorem eX12_free_26 (L : pmL) (S : List Value) (g : pmH) : pmV mX12_free 26 L S g = yV mX12_free 29 0 mX12_keepAct 12 2 L S g := (ez_virtual kcX12_free dX12_free_26 ml_12_168 rfl L S g).trans (zCallV_y rfl rfl (by decide) L S g)
theorem eX12_free_29 (L : pmL) (S : List Value) (g : pmH) : pmV mX12_free 29 L S g = zLdA mX12_free 30 0 L S g := ez_aload_n kcX12_free dX12_free_29 rfl rfl L S g
theorem eX12_free_30 (L : pmL) (S : List Value) (g : pmH) : pmV mX12_free 30 L S g = zGet mX12_free 33 12 9 L S g := ez_getfield kcX12_free dX12_free_30 fl_12_28 rfl L S g
theorem eX12_free_33 (L : pmL) (S : List Value) (g : pmH) : pmV mX12_free 33 L S g = zPush mX12_free 34 (.int (nI 5)) L S g := ez_iconst kcX12_free dX12_free_33 (by decide) rfl L S g
theorem eX12_free_34 (L : pmL) (S : List Value) (g : pmH) : pmV mX12_free 34 L S g = zLdI mX12_free 35 1 L S g := ez_iload_n kcX12_free dX12_free_34 rfl rfl L S g
theorem eX12_free_35 (L : pmL) (S : List Value) (g : pmH) : pmV mX12_free 35 L S g = zAdd mX12_free 36 L S g := ez_iadd kcX12_free dX12_free_35 rfl L S g
theorem eX12_free_36 (L : pmL) (S : List Value) (g : pmH) : pmV mX12_free 36 L S g = zPush mX12_free 37 (.int (nI 1)) L S g := ez_iconst kcX12_free dX12_free_36 (by decide) rfl L S g
theorem eX12_free_37 (L : pmL) (S : List Value) (g : pmH) : pmV mX12_free 37 L S g = zIast mX12_free 38 L S g := ez_iastore kcX12_free dX12_free_37 rfl L S g
theorem eX12_free_38 (L : pmL) (S : List Value) (g : pmH) : pmV mX12_free 38 L S g = zLdA mX12_free 39 0 L S g := ez_aload_n kcX12_free dX12_free_38 rfl rfl L S g
theorem eX12_free_39 (L : pmL) (S : List Value) (g : pmH) : pmV mX12_free 39 L S g = zGet mX12_free 42 12 9 L S g := ez_getfield kcX12_free dX12_free_39 fl_12_28 rfl L S g
theorem eX12_free_42 (L : pmL) (S : List Value) (g : pmH) : pmV mX12_free 42 L S g = zPush mX12_free 44 (.int (nI 15)) L S g := ez_bipush kcX12_free dX12_free_42 (by decide) rfl L S g
theorem eX12_free_44 (L : pmL) (S : List Value) (g : pmH) : pmV mX12_free 44 L S g = zLdI mX12_free 45 1 L S g := ez_iload_n kcX12_free dX12_free_44 rfl rfl L S g
theorem eX12_free_45 (L : pmL) (S : List Value) (g : pmH) : pmV mX12_free 45 L S g = zAdd mX12_free 46 L S g := ez_iadd kcX12_free dX12_free_45 rfl L S g
theorem eX12_free_46 (L : pmL) (S : List Value) (g : pmH) : pmV mX12_free 46 L S g = zIald mX12_free 47 L S g := ez_iaload kcX12_free dX12_free_46 rfl L S g
theorem eX12_free_47 (L : pmL) (S : List Value) (g : pmH) : pmV mX12_free 47 L S g = zIret mX12_free S g := ez_ireturn kcX12_free dX12_free_47 L S g
theorem eX12_exchange_0 (L : pmL) (S : List Value) (g : pmH) : pmV mX12_exchange 0 L S g = zPush mX12_exchange 2 (.int (nI 31)) L S g := ez_bipush kcX12_exchange dX12_exchange_0 (by decide) rfl L S g
theorem eX12_exchange_2 (L : pmL) (S : List Value) (g : pmH) : pmV mX12_exchange 2 L S g = zLdI mX12_exchange 3 1 L S g := ez_iload_n kcX12_exchange dX12_exchange_2 rfl rfl L S g
theorem eX12_exchange_3 (L : pmL) (S : List Value) (g : pmH) : pmV mX12_exchange 3 L S g = zMul mX12_exchange 4 L S g := ez_imul kcX12_exchange dX12_exchange_3 rfl L S g
theorem eX12_exchange_4 (L : pmL) (S : List Value) (g : pmH) : pmV mX12_exchange 4 L S g = zPush mX12_exchange 6 (.int (nI 25)) L S g := ez_bipush kcX12_exchange dX12_exchange_4 (by decide) rfl L S g
theorem eX12_exchange_6 (L : pmL) (S : List Value) (g : pmH) : pmV mX12_exchange 6 L S g = zAdd mX12_exchange 7 L S g := ez_iadd kcX12_exchange dX12_exchange_6 rfl L S g
theorem eX12_exchange_7 (L : pmL) (S : List Value) (g : pmH) : pmV mX12_exchange 7 L S g = zStI mX12_exchange 9 4 L S g := ez_istore kcX12_exchange dX12_exchange_7 rfl L S g
theorem eX12_exchange_9 (L : pmL) (S : List Value) (g : pmH) : pmV mX12_exchange 9 L S g = zLdA mX12_exchange 10 0 L S g := ez_aload_n kcX12_exchange dX12_exchange_9 rfl rfl L S g
theorem eX12_exchange_10 (L : pmL) (S : List Value) (g : pmH) : pmV mX12_exchange 10 L S g = zGet mX12_exchange 13 12 9 L S g := ez_getfield kcX12_exchange dX12_exchange_10 fl_12_28 rfl L S g
theorem eX12_exchange_13 (L : pmL) (S : List Value) (g : pmH) : pmV mX12_exchange 13 L S g = zLdI mX12_exchange 15 4 L S g := ez_iload kcX12_exchange dX12_exchange_13 rfl L S g
theorem eX12_exchange_15 (L : pmL) (S : List Value) (g : pmH) : pmV mX12_exchange 15 L S g = zLdI mX12_exchange 16 2 L S g := ez_iload_n kcX12_exchange dX12_exchange_15 rfl rfl L S g
theorem eX12_exchange_16 (L : pmL) (S : List Value) (g : pmH) : pmV mX12_exchange 16 L S g = zAdd mX12_exchange 17 L S g := ez_iadd kcX12_exchange dX12_exchange_16 rfl L S g
theorem eX12_exchange_17 (L : pmL) (S : List Value) (g : pmH) : pmV mX12_exchange 17 L S g = zIald mX12_exchange 18 L S g := ez_iaload kcX12_exchange dX12_exchange_17 rfl L S g
theorem eX12_exchange_18 (L : pmL) (S : List Value) (g : pmH) : pmV mX12_exchange 18 L S g = zStI mX12_exchange 20 5 L S g := ez_istore kcX12_exchange dX12_exchange_18 rfl L S g
theorem eX12_exchange_20 (L : pmL) (S : List Value) (g : pmH) : pmV mX12_exchange 20 L S g = zLdA mX12_exchange 21 0 L S g := ez_aload_n kcX12_exchange dX12_exchange_20 rfl rfl L S g
theorem eX12_exchange_21 (L : pmL) (S : List Value) (g : pmH) : pmV mX12_exchange 21 L S g = zGet mX12_exchange 24 12 9 L S g := ez_getfield kcX12_exchange dX12_exchange_21 fl_12_28 rfl L S g
theorem eX12_exchange_24 (L : pmL) (S : List Value) (g : pmH) : pmV mX12_exchange 24 L S g = zLdI mX12_exchange 26 4 L S g := ez_iload kcX12_exchange dX12_exchange_24 rfl L S g
theorem eX12_exchange_26 (L : pmL) (S : List Value) (g : pmH) : pmV mX12_exchange 26 L S g = zLdI mX12_exchange 27 2 L S g := ez_iload_n kcX12_exchange dX12_exchange_26 rfl rfl L S g
theorem eX12_exchange_27 (L : pmL) (S : List Value) (g : pmH) : pmV mX12_exchange 27 L S g = zAdd mX12_exchange 28 L S g := ez_iadd kcX12_exchange dX12_exchange_27 rfl L S g
theorem eX12_exchange_28 (L : pmL) (S : List Value) (g : pmH) : pmV mX12_exchange 28 L S g = zLdA mX12_exchange 29 0 L S g := ez_aload_n kcX12_exchange dX12_exchange_28 rfl rfl L S g
theorem eX12_exchange_29 (L : pmL) (S : List Value) (g : pmH) : pmV mX12_exchange 29 L S g = zGet mX12_exchange 32 12 9 L S g := ez_getfield kcX12_exchange dX12_exchange_29 fl_12_28 rfl L S g
theorem eX12_exchange_32 (L : pmL) (S : List Value) (g : pmH) : pmV mX12_exchange 32 L S g = zLdI mX12_exchange 34 4 L S g := ez_iload kcX12_exchange dX12_exchange_32 rfl L S g
theorem eX12_exchange_34 (L : pmL) (S : List Value) (g : pmH) : pmV mX12_exchange 34 L S g = zLdI mX12_exchange 35 3 L S g := ez_iload_n kcX12_exchange dX12_exchange_34 rfl rfl L S g
theorem eX12_exchange_35 (L : pmL) (S : List Value) (g : pmH) : pmV mX12_exchange 35 L S g = zAdd mX12_exchange 36 L S g := ez_iadd kcX12_exchange dX12_exchange_35 rfl L S g
theorem eX12_exchange_36 (L : pmL) (S : List Value) (g : pmH) : pmV mX12_exchange 36 L S g = zIald mX12_exchange 37 L S g := ez_iaload kcX12_exchange dX12_exchange_36 rfl L S g
theorem eX12_exchange_37 (L : pmL) (S : List Value) (g : pmH) : pmV mX12_exchange 37 L S g = zIast mX12_exchange 38 L S g := ez_iastore kcX12_exchange dX12_exchange_37 rfl L S g
theorem eX12_exchange_38 (L : pmL) (S : List Value) (g : pmH) : pmV mX12_exchange 38 L S g = zLdA mX12_exchange 39 0 L S g := ez_aload_n kcX12_exchange dX12_exchange_38 rfl rfl L S g
theorem eX12_exchange_39 (L : pmL) (S : List Value) (g : pmH) : pmV mX12_exchange 39 L S g = zGet mX12_exchange 42 12 9 L S g := ez_getfield kcX12_exchange dX12_exchange_39 fl_12_28 rfl L S g
theorem eX12_exchange_42 (L : pmL) (S : List Value) (g : pmH) : pmV mX12_exchange 42 L S g = zLdI mX12_exchange 44 4 L S g := ez_iload kcX12_exchange dX12_exchange_42 rfl L S g
theorem eX12_exchange_44 (L : pmL) (S : List Value) (g : pmH) : pmV mX12_exchange 44 L S g = zLdI mX12_exchange 45 3 L S g := ez_iload_n kcX12_exchange dX12_exchange_44 rfl rfl L S g
theorem eX12_exchange_45 (L : pmL) (S : List Value) (g : pmH) : pmV mX12_exchange 45 L S g = zAdd mX12_exchange 46 L S g := ez_iadd kcX12_exchange dX12_exchange_45 rfl L S g
theorem eX12_exchange_46 (L : pmL) (S : List Value) (g : pmH) : pmV mX12_exchange 46 L S g = zLdI mX12_exchange 48 5 L S g := ez_iload kcX12_exchange dX12_exchange_46 rfl L S g
theorem eX12_exchange_48 (L : pmL) (S : List Value) (g : pmH) : pmV mX12_exchange 48 L S g = zIast mX12_exchange 49 L S g := ez_iastore kcX12_exchange dX12_exchange_48 rfl L S g
theorem eX12_exchange_49 (L : pmL) (S : List Value) (g : pmH) : pmV mX12_exchange 49 L S g = zVret S g := ez_return kcX12_exchange dX12_exchange_49 rfl L S g
theorem eX12_right_0 (L : pmL) (S : List Value) (g : pmH) : pmV mX12_right 0 L S g = zLdA mX12_right 1 0 L S g := ez_aload_n kcX12_right dX12_right_0 rfl rfl L S g
theorem eX12_right_1 (L : pmL) (S : List Value) (g : pmH) : pmV mX12_right 1 L S g = zLdI mX12_right 2 1 L S g := ez_iload_n kcX12_right dX12_right_1 rfl rfl L S g
theorem eX12_right_2 (L : pmL) (S : List Value) (g : pmH) : pmV mX12_right 2 L S g = yV mX12_right 5 1 mX12_isBalloon 12 2 L S g := (ez_virtual kcX12_right dX12_right_2 ml_12_152 rfl L S g).trans (zCallV_y rfl rfl (by decide) L S g)
theorem eX12_right_5 (L : pmL) (S : List Value) (g : pmH) : pmV mX12_right 5 L S g = zCeq mX12_right 8 16 L S g := ez_if_eq kcX12_right dX12_right_5 (by decide) rfl L S g
theorem eX12_right_8 (L : pmL) (S : List Value) (g : pmH) : pmV mX12_right 8 L S g = zLdA mX12_right 9 0 L S g := ez_aload_n kcX12_right dX12_right_8 rfl rfl L S g
theorem eX12_right_9 (L : pmL) (S : List Value) (g : pmH) : pmV mX12_right 9 L S g = zLdI mX12_right 10 2 L S g := ez_iload_n kcX12_right dX12_right_9 rfl rfl L S g
theorem eX12_right_10 (L : pmL) (S : List Value) (g : pmH) : pmV mX12_right 10 L S g = yV mX12_right 13 1 mX12_isBalloon 12 2 L S g := (ez_virtual kcX12_right dX12_right_10 ml_12_152 rfl L S g).trans (zCallV_y rfl rfl (by decide) L S g)
theorem eX12_right_13 (L : pmL) (S : List Value) (g : pmH) : pmV mX12_right 13 L S g = zCne mX12_right 16 18 L S g := ez_if_ne kcX12_right dX12_right_13 (by decide) rfl L S g
theorem eX12_right_16 (L : pmL) (S : List Value) (g : pmH) : pmV mX12_right 16 L S g = zPush mX12_right 17 (.int (-1)) L S g := ez_iconst kcX12_right dX12_right_16 (by decide) rfl L S g
theorem eX12_right_17 (L : pmL) (S : List Value) (g : pmH) : pmV mX12_right 17 L S g = zIret mX12_right S g := ez_ireturn kcX12_right dX12_right_17 L S g
theorem eX12_right_18 (L : pmL) (S : List Value) (g : pmH) : pmV mX12_right 18 L S g = zLdI mX12_right 19 1 L S g := ez_iload_n kcX12_right dX12_right_18 rfl rfl L S g
theorem eX12_right_19 (L : pmL) (S : List Value) (g : pmH) : pmV mX12_right 19 L S g = zLdI mX12_right 20 2 L S g := ez_iload_n kcX12_right dX12_right_19 rfl rfl L S g
theorem eX12_right_20 (L : pmL) (S : List Value) (g : pmH) : pmV mX12_right 20 L S g = zBne mX12_right 23 26 L S g := ez_icmp_ne kcX12_right dX12_right_20 (by decide) rfl L S g
theorem eX12_right_23 (L : pmL) (S : List Value) (g : pmH) : pmV mX12_right 23 L S g = zPush mX12_right 25 (.int (-2)) L S g := ez_bipush kcX12_right dX12_right_23 (by decide) rfl L S g
theorem eX12_right_25 (L : pmL) (S : List Value) (g : pmH) : pmV mX12_right 25 L S g = zIret mX12_right S g := ez_ireturn kcX12_right dX12_right_25 L S g
theorem eX12_right_26 (L : pmL) (S : List Value) (g : pmH) : pmV mX12_right 26 L S g = zLdA mX12_right 27 0 L S g := ez_aload_n kcX12_right dX12_right_26 rfl rfl L S g
theorem eX12_right_27 (L : pmL) (S : List Value) (g : pmH) : pmV mX12_right 27 L S g = yV mX12_right 30 0 mX12_keepAct 12 2 L S g := (ez_virtual kcX12_right dX12_right_27 ml_12_168 rfl L S g).trans (zCallV_y rfl rfl (by decide) L S g)
theorem eX12_right_30 (L : pmL) (S : List Value) (g : pmH) : pmV mX12_right 30 L S g = zLdA mX12_right 31 0 L S g := ez_aload_n kcX12_right dX12_right_30 rfl rfl L S g
