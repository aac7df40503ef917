theorem eX12_right_31 (L : pmL) (S : List Value) (g : pmH) : pmV mX12_right 31 L S g = zPush mX12_right 32 (.int (nI 0)) L S g := ez_iconst kcX12_right dX12_right_31 (by decide) rfl L S g
theorem eX12_right_32 (L : pmL) (S : List Value) (g : pmH) : pmV mX12_right 32 L S g = zLdI mX12_right 33 1 L S g := ez_iload_n kcX12_right dX12_right_32 rfl rfl L S g
theorem eX12_right_33 (L : pmL) (S : List Value) (g : pmH) : pmV mX12_right 33 L S g = zLdI mX12_right 34 2 L S g := ez_iload_n kcX12_right dX12_right_33 rfl rfl L S g
theorem eX12_right_34 (L : pmL) (S : List Value) (g : pmH) : pmV mX12_right 34 L S g = yV mX12_right 37 3 mX12_exchange 12 6 L S g := (ez_virtual kcX12_right dX12_right_34 ml_12_181 rfl L S g).trans (zCallV_y rfl rfl (by decide) L S g)
theorem eX12_right_37 (L : pmL) (S : List Value) (g : pmH) : pmV mX12_right 37 L S g = zLdA mX12_right 38 0 L S g := ez_aload_n kcX12_right dX12_right_37 rfl rfl L S g
theorem eX12_right_38 (L : pmL) (S : List Value) (g : pmH) : pmV mX12_right 38 L S g = zPush mX12_right 39 (.int (nI 0)) L S g := ez_iconst kcX12_right dX12_right_38 (by decide) rfl L S g
theorem eX12_right_39 (L : pmL) (S : List Value) (g : pmH) : pmV mX12_right 39 L S g = yV mX12_right 42 1 mX12_glad 12 5 L S g := (ez_virtual kcX12_right dX12_right_39 ml_12_156 rfl L S g).trans (zCallV_y rfl rfl (by decide) L S g)
theorem eX12_right_42 (L : pmL) (S : List Value) (g : pmH) : pmV mX12_right 42 L S g = yS mX12_right 45 1 mX12_ones 3 L S g := (ez_static kcX12_right dX12_right_42 ml_12_174 (by decide) rfl L S g).trans (zCall_y rfl (by decide) L S g)
theorem eX12_right_45 (L : pmL) (S : List Value) (g : pmH) : pmV mX12_right 45 L S g = zIret mX12_right S g := ez_ireturn kcX12_right dX12_right_45 L S g
theorem eX12_undo_0 (L : pmL) (S : List Value) (g : pmH) : pmV mX12_undo 0 L S g = zLdA mX12_undo 1 0 L S g := ez_aload_n kcX12_undo dX12_undo_0 rfl rfl L S g
theorem eX12_undo_1 (L : pmL) (S : List Value) (g : pmH) : pmV mX12_undo 1 L S g = zGet mX12_undo 4 12 22 L S g := ez_getfield kcX12_undo dX12_undo_1 fl_12_126 rfl L S g
theorem eX12_undo_4 (L : pmL) (S : List Value) (g : pmH) : pmV mX12_undo 4 L S g = zCne mX12_undo 7 10 L S g := ez_if_ne kcX12_undo dX12_undo_4 (by decide) rfl L S g
theorem eX12_undo_7 (L : pmL) (S : List Value) (g : pmH) : pmV mX12_undo 7 L S g = zPush mX12_undo 9 (.int (-3)) L S g := ez_bipush kcX12_undo dX12_undo_7 (by decide) rfl L S g
theorem eX12_undo_9 (L : pmL) (S : List Value) (g : pmH) : pmV mX12_undo 9 L S g = zIret mX12_undo S g := ez_ireturn kcX12_undo dX12_undo_9 L S g
theorem eX12_undo_10 (L : pmL) (S : List Value) (g : pmH) : pmV mX12_undo 10 L S g = zLdA mX12_undo 11 0 L S g := ez_aload_n kcX12_undo dX12_undo_10 rfl rfl L S g
theorem eX12_undo_11 (L : pmL) (S : List Value) (g : pmH) : pmV mX12_undo 11 L S g = zDup mX12_undo 12 L S g := ez_dup kcX12_undo dX12_undo_11 rfl L S g
theorem eX12_undo_12 (L : pmL) (S : List Value) (g : pmH) : pmV mX12_undo 12 L S g = zGet mX12_undo 15 12 22 L S g := ez_getfield kcX12_undo dX12_undo_12 fl_12_126 rfl L S g
theorem eX12_undo_15 (L : pmL) (S : List Value) (g : pmH) : pmV mX12_undo 15 L S g = zPush mX12_undo 16 (.int (nI 1)) L S g := ez_iconst kcX12_undo dX12_undo_15 (by decide) rfl L S g
theorem eX12_undo_16 (L : pmL) (S : List Value) (g : pmH) : pmV mX12_undo 16 L S g = zSub mX12_undo 17 L S g := ez_isub kcX12_undo dX12_undo_16 rfl L S g
theorem eX12_undo_17 (L : pmL) (S : List Value) (g : pmH) : pmV mX12_undo 17 L S g = zPut mX12_undo 20 12 22 L S g := ez_putfield kcX12_undo dX12_undo_17 fl_12_126 rfl L S g
theorem eX12_undo_20 (L : pmL) (S : List Value) (g : pmH) : pmV mX12_undo 20 L S g = zLdA mX12_undo 21 0 L S g := ez_aload_n kcX12_undo dX12_undo_20 rfl rfl L S g
theorem eX12_undo_21 (L : pmL) (S : List Value) (g : pmH) : pmV mX12_undo 21 L S g = zLdA mX12_undo 22 0 L S g := ez_aload_n kcX12_undo dX12_undo_21 rfl rfl L S g
theorem eX12_undo_22 (L : pmL) (S : List Value) (g : pmH) : pmV mX12_undo 22 L S g = zGet mX12_undo 25 12 23 L S g := ez_getfield kcX12_undo dX12_undo_22 fl_12_165 rfl L S g
theorem eX12_undo_25 (L : pmL) (S : List Value) (g : pmH) : pmV mX12_undo 25 L S g = zPush mX12_undo 27 (.int (nI 13)) L S g := ez_bipush kcX12_undo dX12_undo_25 (by decide) rfl L S g
theorem eX12_undo_27 (L : pmL) (S : List Value) (g : pmH) : pmV mX12_undo 27 L S g = zAdd mX12_undo 28 L S g := ez_iadd kcX12_undo dX12_undo_27 rfl L S g
theorem eX12_undo_28 (L : pmL) (S : List Value) (g : pmH) : pmV mX12_undo 28 L S g = zPush mX12_undo 30 (.int (nI 14)) L S g := ez_bipush kcX12_undo dX12_undo_28 (by decide) rfl L S g
theorem eX12_undo_30 (L : pmL) (S : List Value) (g : pmH) : pmV mX12_undo 30 L S g = zRem mX12_undo 31 L S g := ez_irem kcX12_undo dX12_undo_30 rfl L S g
theorem eX12_undo_31 (L : pmL) (S : List Value) (g : pmH) : pmV mX12_undo 31 L S g = zPut mX12_undo 34 12 23 L S g := ez_putfield kcX12_undo dX12_undo_31 fl_12_165 rfl L S g
theorem eX12_undo_34 (L : pmL) (S : List Value) (g : pmH) : pmV mX12_undo 34 L S g = zPush mX12_undo 35 (.int (nI 0)) L S g := ez_iconst kcX12_undo dX12_undo_34 (by decide) rfl L S g
theorem eX12_undo_35 (L : pmL) (S : List Value) (g : pmH) : pmV mX12_undo 35 L S g = zStI mX12_undo 36 1 L S g := ez_istore_n kcX12_undo dX12_undo_35 rfl rfl L S g
theorem eX12_undo_36 (L : pmL) (S : List Value) (g : pmH) : pmV mX12_undo 36 L S g = zLdI mX12_undo 37 1 L S g := ez_iload_n kcX12_undo dX12_undo_36 rfl rfl L S g
theorem eX12_undo_37 (L : pmL) (S : List Value) (g : pmH) : pmV mX12_undo 37 L S g = zPush mX12_undo 39 (.int (nI 31)) L S g := ez_bipush kcX12_undo dX12_undo_37 (by decide) rfl L S g
theorem eX12_undo_39 (L : pmL) (S : List Value) (g : pmH) : pmV mX12_undo 39 L S g = zBge mX12_undo 42 68 L S g := ez_icmp_ge kcX12_undo dX12_undo_39 (by decide) rfl L S g
theorem eX12_undo_42 (L : pmL) (S : List Value) (g : pmH) : pmV mX12_undo 42 L S g = zLdA mX12_undo 43 0 L S g := ez_aload_n kcX12_undo dX12_undo_42 rfl rfl L S g
theorem eX12_undo_43 (L : pmL) (S : List Value) (g : pmH) : pmV mX12_undo 43 L S g = zGet mX12_undo 46 12 9 L S g := ez_getfield kcX12_undo dX12_undo_43 fl_12_28 rfl L S g
theorem eX12_undo_46 (L : pmL) (S : List Value) (g : pmH) : pmV mX12_undo 46 L S g = zLdI mX12_undo 47 1 L S g := ez_iload_n kcX12_undo dX12_undo_46 rfl rfl L S g
theorem eX12_undo_47 (L : pmL) (S : List Value) (g : pmH) : pmV mX12_undo 47 L S g = zLdA mX12_undo 48 0 L S g := ez_aload_n kcX12_undo dX12_undo_47 rfl rfl L S g
theorem eX12_undo_48 (L : pmL) (S : List Value) (g : pmH) : pmV mX12_undo 48 L S g = zGet mX12_undo 51 12 24 L S g := ez_getfield kcX12_undo dX12_undo_48 fl_12_47 rfl L S g
theorem eX12_undo_51 (L : pmL) (S : List Value) (g : pmH) : pmV mX12_undo 51 L S g = zPush mX12_undo 53 (.int (nI 31)) L S g := ez_bipush kcX12_undo dX12_undo_51 (by decide) rfl L S g
theorem eX12_undo_53 (L : pmL) (S : List Value) (g : pmH) : pmV mX12_undo 53 L S g = zLdA mX12_undo 54 0 L S g := ez_aload_n kcX12_undo dX12_undo_53 rfl rfl L S g
theorem eX12_undo_54 (L : pmL) (S : List Value) (g : pmH) : pmV mX12_undo 54 L S g = zGet mX12_undo 57 12 23 L S g := ez_getfield kcX12_undo dX12_undo_54 fl_12_165 rfl L S g
theorem eX12_undo_57 (L : pmL) (S : List Value) (g : pmH) : pmV mX12_undo 57 L S g = zMul mX12_undo 58 L S g := ez_imul kcX12_undo dX12_undo_57 rfl L S g
theorem eX12_undo_58 (L : pmL) (S : List Value) (g : pmH) : pmV mX12_undo 58 L S g = zLdI mX12_undo 59 1 L S g := ez_iload_n kcX12_undo dX12_undo_58 rfl rfl L S g
theorem eX12_undo_59 (L : pmL) (S : List Value) (g : pmH) : pmV mX12_undo 59 L S g = zAdd mX12_undo 60 L S g := ez_iadd kcX12_undo dX12_undo_59 rfl L S g
theorem eX12_undo_60 (L : pmL) (S : List Value) (g : pmH) : pmV mX12_undo 60 L S g = zIald mX12_undo 61 L S g := ez_iaload kcX12_undo dX12_undo_60 rfl L S g
theorem eX12_undo_61 (L : pmL) (S : List Value) (g : pmH) : pmV mX12_undo 61 L S g = zIast mX12_undo 62 L S g := ez_iastore kcX12_undo dX12_undo_61 rfl L S g
theorem eX12_undo_62 (L : pmL) (S : List Value) (g : pmH) : pmV mX12_undo 62 L S g = zInc mX12_undo 65 1 (nI 1) L S g := ez_iinc kcX12_undo dX12_undo_62 (by decide) rfl L S g
theorem eX12_undo_65 (L : pmL) (S : List Value) (g : pmH) : pmV mX12_undo 65 L S g = zNx mX12_undo 36 L S g := ez_goto kcX12_undo dX12_undo_65 (by decide) L S g
theorem eX12_undo_68 (L : pmL) (S : List Value) (g : pmH) : pmV mX12_undo 68 L S g = zLdA mX12_undo 69 0 L S g := ez_aload_n kcX12_undo dX12_undo_68 rfl rfl L S g
theorem eX12_undo_69 (L : pmL) (S : List Value) (g : pmH) : pmV mX12_undo 69 L S g = zGet mX12_undo 72 12 22 L S g := ez_getfield kcX12_undo dX12_undo_69 fl_12_126 rfl L S g
theorem eX12_undo_72 (L : pmL) (S : List Value) (g : pmH) : pmV mX12_undo 72 L S g = zIret mX12_undo S g := ez_ireturn kcX12_undo dX12_undo_72 L S g
theorem eX12_layTrial_0 (L : pmL) (S : List Value) (g : pmH) : pmV mX12_layTrial 0 L S g = zPush mX12_layTrial 1 (.int (nI 0)) L S g := ez_iconst kcX12_layTrial dX12_layTrial_0 (by decide) rfl L S g
theorem eX12_layTrial_1 (L : pmL) (S : List Value) (g : pmH) : pmV mX12_layTrial 1 L S g = zStI mX12_layTrial 2 1 L S g := ez_istore_n kcX12_layTrial dX12_layTrial_1 rfl rfl L S g
theorem eX12_layTrial_2 (L : pmL) (S : List Value) (g : pmH) : pmV mX12_layTrial 2 L S g = zLdI mX12_layTrial 3 1 L S g := ez_iload_n kcX12_layTrial dX12_layTrial_2 rfl rfl L S g
theorem eX12_layTrial_3 (L : pmL) (S : List Value) (g : pmH) : pmV mX12_layTrial 3 L S g = zPush mX12_layTrial 5 (.int (nI 31)) L S g := ez_bipush kcX12_layTrial dX12_layTrial_3 (by decide) rfl L S g
theorem eX12_layTrial_5 (L : pmL) (S : List Value) (g : pmH) : pmV mX12_layTrial 5 L S g = zBge mX12_layTrial 8 29 L S g := ez_icmp_ge kcX12_layTrial dX12_layTrial_5 (by decide) rfl L S g
theorem eX12_layTrial_8 (L : pmL) (S : List Value) (g : pmH) : pmV mX12_layTrial 8 L S g = zLdA mX12_layTrial 9 0 L S g := ez_aload_n kcX12_layTrial dX12_layTrial_8 rfl rfl L S g
theorem eX12_layTrial_9 (L : pmL) (S : List Value) (g : pmH) : pmV mX12_layTrial 9 L S g = zGet mX12_layTrial 12 12 9 L S g := ez_getfield kcX12_layTrial dX12_layTrial_9 fl_12_28 rfl L S g
theorem eX12_layTrial_12 (L : pmL) (S : List Value) (g : pmH) : pmV mX12_layTrial 12 L S g = zPush mX12_layTrial 14 (.int (nI 31)) L S g := ez_bipush kcX12_layTrial dX12_layTrial_12 (by decide) rfl L S g
theorem eX12_layTrial_14 (L : pmL) (S : List Value) (g : pmH) : pmV mX12_layTrial 14 L S g = zLdI mX12_layTrial 15 1 L S g := ez_iload_n kcX12_layTrial dX12_layTrial_14 rfl rfl L S g
theorem eX12_layTrial_15 (L : pmL) (S : List Value) (g : pmH) : pmV mX12_layTrial 15 L S g = zAdd mX12_layTrial 16 L S g := ez_iadd kcX12_layTrial dX12_layTrial_15 rfl L S g
theorem eX12_layTrial_16 (L : pmL) (S : List Value) (g : pmH) : pmV mX12_layTrial 16 L S g = zLdA mX12_layTrial 17 0 L S g := ez_aload_n kcX12_layTrial dX12_layTrial_16 rfl rfl L S g
theorem eX12_layTrial_17 (L : pmL) (S : List Value) (g : pmH) : pmV mX12_layTrial 17 L S g = zGet mX12_layTrial 20 12 9 L S g := ez_getfield kcX12_layTrial dX12_layTrial_17 fl_12_28 rfl L S g
theorem eX12_layTrial_20 (L : pmL) (S : List Value) (g : pmH) : pmV mX12_layTrial 20 L S g = zLdI mX12_layTrial 21 1 L S g := ez_iload_n kcX12_layTrial dX12_layTrial_20 rfl rfl L S g
theorem eX12_layTrial_21 (L : pmL) (S : List Value) (g : pmH) : pmV mX12_layTrial 21 L S g = zIald mX12_layTrial 22 L S g := ez_iaload kcX12_layTrial dX12_layTrial_21 rfl L S g
theorem eX12_layTrial_22 (L : pmL) (S : List Value) (g : pmH) : pmV mX12_layTrial 22 L S g = zIast mX12_layTrial 23 L S g := ez_iastore kcX12_layTrial dX12_layTrial_22 rfl L S g
theorem eX12_layTrial_23 (L : pmL) (S : List Value) (g : pmH) : pmV mX12_layTrial 23 L S g = zInc mX12_layTrial 26 1 (nI 1) L S g := ez_iinc kcX12_layTrial dX12_layTrial_23 (by decide) rfl L S g
theorem eX12_layTrial_26 (L : pmL) (S : List Value) (g : pmH) : pmV mX12_layTrial 26 L S g = zNx mX12_layTrial 2 L S g := ez_goto kcX12_layTrial dX12_layTrial_26 (by decide) L S g
theorem eX12_layTrial_29 (L : pmL) (S : List Value) (g : pmH) : pmV mX12_layTrial 29 L S g = zVret S g := ez_return kcX12_layTrial dX12_layTrial_29 rfl L S g
theorem eX12_goOn_0 (L : pmL) (S : List Value) (g : pmH) : pmV mX12_goOn 0 L S g = zPush mX12_goOn 1 (.int (nI 0)) L S g := ez_iconst kcX12_goOn dX12_goOn_0 (by decide) rfl L S g
theorem eX12_goOn_1 (L : pmL) (S : List Value) (g : pmH) : pmV mX12_goOn 1 L S g = zStI mX12_goOn 2 2 L S g := ez_istore_n kcX12_goOn dX12_goOn_1 rfl rfl L S g
theorem eX12_goOn_2 (L : pmL) (S : List Value) (g : pmH) : pmV mX12_goOn 2 L S g = zLdI mX12_goOn 3 2 L S g := ez_iload_n kcX12_goOn dX12_goOn_2 rfl rfl L S g
theorem eX12_goOn_3 (L : pmL) (S : List Value) (g : pmH) : pmV mX12_goOn 3 L S g = zLdI mX12_goOn 4 1 L S g := ez_iload_n kcX12_goOn dX12_goOn_3 rfl rfl L S g
theorem eX12_goOn_4 (L : pmL) (S : List Value) (g : pmH) : pmV mX12_goOn 4 L S g = zBge mX12_goOn 7 20 L S g := ez_icmp_ge kcX12_goOn dX12_goOn_4 (by decide) rfl L S g
theorem eX12_goOn_7 (L : pmL) (S : List Value) (g : pmH) : pmV mX12_goOn 7 L S g = zLdA mX12_goOn 8 0 L S g := ez_aload_n kcX12_goOn dX12_goOn_7 rfl rfl L S g
theorem eX12_goOn_8 (L : pmL) (S : List Value) (g : pmH) : pmV mX12_goOn 8 L S g = zPush mX12_goOn 9 (.int (nI 1)) L S g := ez_iconst kcX12_goOn dX12_goOn_8 (by decide) rfl L S g
theorem eX12_goOn_9 (L : pmL) (S : List Value) (g : pmH) : pmV mX12_goOn 9 L S g = zPush mX12_goOn 10 (.int (nI 1)) L S g := ez_iconst kcX12_goOn dX12_goOn_9 (by decide) rfl L S g
theorem eX12_goOn_10 (L : pmL) (S : List Value) (g : pmH) : pmV mX12_goOn 10 L S g = yV mX12_goOn 13 2 mX12_passOn 12 8 L S g := (ez_virtual kcX12_goOn dX12_goOn_10 ml_12_177 rfl L S g).trans (zCallV_y rfl rfl (by decide) L S g)
theorem eX12_goOn_13 (L : pmL) (S : List Value) (g : pmH) : pmV mX12_goOn 13 L S g = zPop mX12_goOn 14 L S g := ez_pop kcX12_goOn dX12_goOn_13 rfl L S g
theorem eX12_goOn_14 (L : pmL) (S : List Value) (g : pmH) : pmV mX12_goOn 14 L S g = zInc mX12_goOn 17 2 (nI 1) L S g := ez_iinc kcX12_goOn dX12_goOn_14 (by decide) rfl L S g
theorem eX12_goOn_17 (L : pmL) (S : List Value) (g : pmH) : pmV mX12_goOn 17 L S g = zNx mX12_goOn 2 L S g := ez_goto kcX12_goOn dX12_goOn_17 (by decide) L S g
theorem eX12_goOn_20 (L : pmL) (S : List Value) (g : pmH) : pmV mX12_goOn 20 L S g = zVret S g := ez_return kcX12_goOn dX12_goOn_20 rfl L S g
theorem eX12_later_0 (L : pmL) (S : List Value) (g : pmH) : pmV mX12_later 0 L S g = zLdA mX12_later 1 0 L S g := ez_aload_n kcX12_later dX12_later_0 rfl rfl L S g
theorem eX12_later_1 (L : pmL) (S : List Value) (g : pmH) : pmV mX12_later 1 L S g = zLdI mX12_later 2 1 L S g := ez_iload_n kcX12_later dX12_later_1 rfl rfl L S g
theorem eX12_later_2 (L : pmL) (S : List Value) (g : pmH) : pmV mX12_later 2 L S g = yV mX12_later 5 1 mX12_isBalloon 12 2 L S g := (ez_virtual kcX12_later dX12_later_2 ml_12_152 rfl L S g).trans (zCallV_y rfl rfl (by decide) L S g)
theorem eX12_later_5 (L : pmL) (S : List Value) (g : pmH) : pmV mX12_later 5 L S g = zCne mX12_later 8 10 L S g := ez_if_ne kcX12_later dX12_later_5 (by decide) rfl L S g
theorem eX12_later_8 (L : pmL) (S : List Value) (g : pmH) : pmV mX12_later 8 L S g = zPush mX12_later 9 (.int (-1)) L S g := ez_iconst kcX12_later dX12_later_8 (by decide) rfl L S g
theorem eX12_later_9 (L : pmL) (S : List Value) (g : pmH) : pmV mX12_later 9 L S g = zIret mX12_later S g := ez_ireturn kcX12_later dX12_later_9 L S g
theorem eX12_later_10 (L : pmL) (S : List Value) (g : pmH) : pmV mX12_later 10 L S g = zLdI mX12_later 11 2 L S g := ez_iload_n kcX12_later dX12_later_10 rfl rfl L S g
theorem eX12_later_11 (L : pmL) (S : List Value) (g : pmH) : pmV mX12_later 11 L S g = zI2l mX12_later 12 L S g := ez_i2l kcX12_later dX12_later_11 rfl L S g
theorem eX12_later_12 (L : pmL) (S : List Value) (g : pmH) : pmV mX12_later 12 L S g = zPush mX12_later 13 (.long (lN 0)) L S g := ez_lconst kcX12_later dX12_later_12 rfl rfl L S g
theorem eX12_later_13 (L : pmL) (S : List Value) (g : pmH) : pmV mX12_later 13 L S g = zPush mX12_later 16 (.long (lN 20)) L S g := ez_ldc2_w kcX12_later dX12_later_13 jl_12_184 rfl L S g
theorem eX12_later_16 (L : pmL) (S : List Value) (g : pmH) : pmV mX12_later 16 L S g = yS mX12_later 19 3 mX12_in 6 L S g := (ez_static kcX12_later dX12_later_16 ml_12_71 (by decide) rfl L S g).trans (zCall_y rfl (by decide) L S g)
theorem eX12_later_19 (L : pmL) (S : List Value) (g : pmH) : pmV mX12_later 19 L S g = zCeq mX12_later 22 32 L S g := ez_if_eq kcX12_later dX12_later_19 (by decide) rfl L S g
theorem eX12_later_22 (L : pmL) (S : List Value) (g : pmH) : pmV mX12_later 22 L S g = zLdI mX12_later 23 3 L S g := ez_iload_n kcX12_later dX12_later_22 rfl rfl L S g
theorem eX12_later_23 (L : pmL) (S : List Value) (g : pmH) : pmV mX12_later 23 L S g = zI2l mX12_later 24 L S g := ez_i2l kcX12_later dX12_later_23 rfl L S g
theorem eX12_later_24 (L : pmL) (S : List Value) (g : pmH) : pmV mX12_later 24 L S g = zPush mX12_later 25 (.long (lN 0)) L S g := ez_lconst kcX12_later dX12_later_24 rfl rfl L S g
theorem eX12_later_25 (L : pmL) (S : List Value) (g : pmH) : pmV mX12_later 25 L S g = zPush mX12_later 26 (.long (lN 1)) L S g := ez_lconst kcX12_later dX12_later_25 rfl rfl L S g
theorem eX12_later_26 (L : pmL) (S : List Value) (g : pmH) : pmV mX12_later 26 L S g = yS mX12_later 29 3 mX12_in 6 L S g := (ez_static kcX12_later dX12_later_26 ml_12_71 (by decide) rfl L S g).trans (zCall_y rfl (by decide) L S g)
theorem eX12_later_29 (L : pmL) (S : List Value) (g : pmH) : pmV mX12_later 29 L S g = zCne mX12_later 32 35 L S g := ez_if_ne kcX12_later dX12_later_29 (by decide) rfl L S g
theorem eX12_later_32 (L : pmL) (S : List Value) (g : pmH) : pmV mX12_later 32 L S g = zPush mX12_later 34 (.int (-2)) L S g := ez_bipush kcX12_later dX12_later_32 (by decide) rfl L S g
theorem eX12_later_34 (L : pmL) (S : List Value) (g : pmH) : pmV mX12_later 34 L S g = zIret mX12_later S g := ez_ireturn kcX12_later dX12_later_34 L S g
theorem eX12_later_35 (L : pmL) (S : List Value) (g : pmH) : pmV mX12_later 35 L S g = zLdA mX12_later 36 0 L S g := ez_aload_n kcX12_later dX12_later_35 rfl rfl L S g
theorem eX12_later_36 (L : pmL) (S : List Value) (g : pmH) : pmV mX12_later 36 L S g = yV mX12_later 39 0 mX12_layTrial 12 2 L S g := (ez_virtual kcX12_later dX12_later_36 ml_12_186 rfl L S g).trans (zCallV_y rfl rfl (by decide) L S g)
theorem eX12_later_39 (L : pmL) (S : List Value) (g : pmH) : pmV mX12_later 39 L S g = zLdA mX12_later 40 0 L S g := ez_aload_n kcX12_later dX12_later_39 rfl rfl L S g
theorem eX12_later_40 (L : pmL) (S : List Value) (g : pmH) : pmV mX12_later 40 L S g = zLdI mX12_later 41 2 L S g := ez_iload_n kcX12_later dX12_later_40 rfl rfl L S g
theorem eX12_later_41 (L : pmL) (S : List Value) (g : pmH) : pmV mX12_later 41 L S g = yV mX12_later 44 1 mX12_goOn 12 3 L S g := (ez_virtual kcX12_later dX12_later_41 ml_12_189 rfl L S g).trans (zCallV_y rfl rfl (by decide) L S g)
theorem eX12_later_44 (L : pmL) (S : List Value) (g : pmH) : pmV mX12_later 44 L S g = zLdI mX12_later 45 3 L S g := ez_iload_n kcX12_later dX12_later_44 rfl rfl L S g
theorem eX12_later_45 (L : pmL) (S : List Value) (g : pmH) : pmV mX12_later 45 L S g = zCne mX12_later 48 60 L S g := ez_if_ne kcX12_later dX12_later_45 (by decide) rfl L S g
theorem eX12_later_48 (L : pmL) (S : List Value) (g : pmH) : pmV mX12_later 48 L S g = zLdA mX12_later 49 0 L S g := ez_aload_n kcX12_later dX12_later_48 rfl rfl L S g
theorem eX12_later_49 (L : pmL) (S : List Value) (g : pmH) : pmV mX12_later 49 L S g = zGet mX12_later 52 12 9 L S g := ez_getfield kcX12_later dX12_later_49 fl_12_28 rfl L S g
theorem eX12_later_52 (L : pmL) (S : List Value) (g : pmH) : pmV mX12_later 52 L S g = zPush mX12_later 54 (.int (nI 31)) L S g := ez_bipush kcX12_later dX12_later_52 (by decide) rfl L S g
theorem eX12_later_54 (L : pmL) (S : List Value) (g : pmH) : pmV mX12_later 54 L S g = zLdI mX12_later 55 1 L S g := ez_iload_n kcX12_later dX12_later_54 rfl rfl L S g
theorem eX12_later_55 (L : pmL) (S : List Value) (g : pmH) : pmV mX12_later 55 L S g = zAdd mX12_later 56 L S g := ez_iadd kcX12_later dX12_later_55 rfl L S g
theorem eX12_later_56 (L : pmL) (S : List Value) (g : pmH) : pmV mX12_later 56 L S g = zIald mX12_later 57 L S g := ez_iaload kcX12_later dX12_later_56 rfl L S g
theorem eX12_later_57 (L : pmL) (S : List Value) (g : pmH) : pmV mX12_later 57 L S g = zNx mX12_later 69 L S g := ez_goto kcX12_later dX12_later_57 (by decide) L S g
theorem eX12_later_60 (L : pmL) (S : List Value) (g : pmH) : pmV mX12_later 60 L S g = zLdA mX12_later 61 0 L S g := ez_aload_n kcX12_later dX12_later_60 rfl rfl L S g
theorem eX12_later_61 (L : pmL) (S : List Value) (g : pmH) : pmV mX12_later 61 L S g = zGet mX12_later 64 12 9 L S g := ez_getfield kcX12_later dX12_later_61 fl_12_28 rfl L S g
theorem eX12_later_64 (L : pmL) (S : List Value) (g : pmH) : pmV mX12_later 64 L S g = zPush mX12_later 66 (.int (nI 36)) L S g := ez_bipush kcX12_later dX12_later_64 (by decide) rfl L S g
theorem eX12_later_66 (L : pmL) (S : List Value) (g : pmH) : pmV mX12_later 66 L S g = zLdI mX12_later 67 1 L S g := ez_iload_n kcX12_later dX12_later_66 rfl rfl L S g
theorem eX12_later_67 (L : pmL) (S : List Value) (g : pmH) : pmV mX12_later 67 L S g = zAdd mX12_later 68 L S g := ez_iadd kcX12_later dX12_later_67 rfl L S g
theorem eX12_later_68 (L : pmL) (S : List Value) (g : pmH) : pmV mX12_later 68 L S g = zIald mX12_later 69 L S g := ez_iaload kcX12_later dX12_later_68 rfl L S g
theorem eX12_later_69 (L : pmL) (S : List Value) (g : pmH) : pmV mX12_later 69 L S g = zIret mX12_later S g := ez_ireturn kcX12_later dX12_later_69 L S g
theorem eX12_comes_0 (L : pmL) (S : List Value) (g : pmH) : pmV mX12_comes 0 L S g = zLdA mX12_comes 1 0 L S g := ez_aload_n kcX12_comes dX12_comes_0 rfl rfl L S g
theorem eX12_comes_1 (L : pmL) (S : List Value) (g : pmH) : pmV mX12_comes 1 L S g = zLdI mX12_comes 2 1 L S g := ez_iload_n kcX12_comes dX12_comes_1 rfl rfl L S g
theorem eX12_comes_2 (L : pmL) (S : List Value) (g : pmH) : pmV mX12_comes 2 L S g = yV mX12_comes 5 1 mX12_isBalloon 12 2 L S g := (ez_virtual kcX12_comes dX12_comes_2 ml_12_152 rfl L S g).trans (zCallV_y rfl rfl (by decide) L S g)
theorem eX12_comes_5 (L : pmL) (S : List Value) (g : pmH) : pmV mX12_comes 5 L S g = zCne mX12_comes 8 10 L S g := ez_if_ne kcX12_comes dX12_comes_5 (by decide) rfl L S g
theorem eX12_comes_8 (L : pmL) (S : List Value) (g : pmH) : pmV mX12_comes 8 L S g = zPush mX12_comes 9 (.int (-1)) L S g := ez_iconst kcX12_comes dX12_comes_8 (by decide) rfl L S g
theorem eX12_comes_9 (L : pmL) (S : List Value) (g : pmH) : pmV mX12_comes 9 L S g = zIret mX12_comes S g := ez_ireturn kcX12_comes dX12_comes_9 L S g
theorem eX12_comes_10 (L : pmL) (S : List Value) (g : pmH) : pmV mX12_comes 10 L S g = zLdA mX12_comes 11 0 L S g := ez_aload_n kcX12_comes dX12_comes_10 rfl rfl L S g
theorem eX12_comes_11 (L : pmL) (S : List Value) (g : pmH) : pmV mX12_comes 11 L S g = yV mX12_comes 14 0 mX12_layTrial 12 2 L S g := (ez_virtual kcX12_comes dX12_comes_11 ml_12_186 rfl L S g).trans (zCallV_y rfl rfl (by decide) L S g)
theorem eX12_comes_14 (L : pmL) (S : List Value) (g : pmH) : pmV mX12_comes 14 L S g = zPush mX12_comes 15 (.int (nI 0)) L S g := ez_iconst kcX12_comes dX12_comes_14 (by decide) rfl L S g
theorem eX12_comes_15 (L : pmL) (S : List Value) (g : pmH) : pmV mX12_comes 15 L S g = zStI mX12_comes 16 2 L S g := ez_istore_n kcX12_comes dX12_comes_15 rfl rfl L S g
theorem eX12_comes_16 (L : pmL) (S : List Value) (g : pmH) : pmV mX12_comes 16 L S g = zLdI mX12_comes 17 2 L S g := ez_iload_n kcX12_comes dX12_comes_16 rfl rfl L S g
theorem eX12_comes_17 (L : pmL) (S : List Value) (g : pmH) : pmV mX12_comes 17 L S g = zPush mX12_comes 19 (.int (nI 31)) L S g := ez_bipush kcX12_comes dX12_comes_17 (by decide) rfl L S g
theorem eX12_comes_19 (L : pmL) (S : List Value) (g : pmH) : pmV mX12_comes 19 L S g = zBge mX12_comes 22 46 L S g := ez_icmp_ge kcX12_comes dX12_comes_19 (by decide) rfl L S g
theorem eX12_comes_22 (L : pmL) (S : List Value) (g : pmH) : pmV mX12_comes 22 L S g = zLdA mX12_comes 23 0 L S g := ez_aload_n kcX12_comes dX12_comes_22 rfl rfl L S g
theorem eX12_comes_23 (L : pmL) (S : List Value) (g : pmH) : pmV mX12_comes 23 L S g = zPush mX12_comes 24 (.int (nI 1)) L S g := ez_iconst kcX12_comes dX12_comes_23 (by decide) rfl L S g
theorem eX12_comes_24 (L : pmL) (S : List Value) (g : pmH) : pmV mX12_comes 24 L S g = zLdI mX12_comes 25 1 L S g := ez_iload_n kcX12_comes dX12_comes_24 rfl rfl L S g
theorem eX12_comes_25 (L : pmL) (S : List Value) (g : pmH) : pmV mX12_comes 25 L S g = yV mX12_comes 28 2 mX12_isAnswered 12 4 L S g := (ez_virtual kcX12_comes dX12_comes_25 ml_12_146 rfl L S g).trans (zCallV_y rfl rfl (by decide) L S g)
theorem eX12_comes_28 (L : pmL) (S : List Value) (g : pmH) : pmV mX12_comes 28 L S g = zCeq mX12_comes 31 33 L S g := ez_if_eq kcX12_comes dX12_comes_28 (by decide) rfl L S g
theorem eX12_comes_31 (L : pmL) (S : List Value) (g : pmH) : pmV mX12_comes 31 L S g = zLdI mX12_comes 32 2 L S g := ez_iload_n kcX12_comes dX12_comes_31 rfl rfl L S g
theorem eX12_comes_32 (L : pmL) (S : List Value) (g : pmH) : pmV mX12_comes 32 L S g = zIret mX12_comes S g := ez_ireturn kcX12_comes dX12_comes_32 L S g
theorem eX12_comes_33 (L : pmL) (S : List Value) (g : pmH) : pmV mX12_comes 33 L S g = zLdA mX12_comes 34 0 L S g := ez_aload_n kcX12_comes dX12_comes_33 rfl rfl L S g
theorem eX12_comes_34 (L : pmL) (S : List Value) (g : pmH) : pmV mX12_comes 34 L S g = zPush mX12_comes 35 (.int (nI 1)) L S g := ez_iconst kcX12_comes dX12_comes_34 (by decide) rfl L S g
theorem eX12_comes_35 (L : pmL) (S : List Value) (g : pmH) : pmV mX12_comes 35 L S g = zPush mX12_comes 36 (.int (nI 1)) L S g := ez_iconst kcX12_comes dX12_comes_35 (by decide) rfl L S g
theorem eX12_comes_36 (L : pmL) (S : List Value) (g : pmH) : pmV mX12_comes 36 L S g = yV mX12_comes 39 2 mX12_passOn 12 8 L S g := (ez_virtual kcX12_comes dX12_comes_36 ml_12_177 rfl L S g).trans (zCallV_y rfl rfl (by decide) L S g)
theorem eX12_comes_39 (L : pmL) (S : List Value) (g : pmH) : pmV mX12_comes 39 L S g = zPop mX12_comes 40 L S g := ez_pop kcX12_comes dX12_comes_39 rfl L S g
theorem eX12_comes_40 (L : pmL) (S : List Value) (g : pmH) : pmV mX12_comes 40 L S g = zInc mX12_comes 43 2 (nI 1) L S g := ez_iinc kcX12_comes dX12_comes_40 (by decide) rfl L S g
theorem eX12_comes_43 (L : pmL) (S : List Value) (g : pmH) : pmV mX12_comes 43 L S g = zNx mX12_comes 16 L S g := ez_goto kcX12_comes dX12_comes_43 (by decide) L S g
theorem eX12_comes_46 (L : pmL) (S : List Value) (g : pmH) : pmV mX12_comes 46 L S g = zPush mX12_comes 48 (.int (-9)) L S g := ez_bipush kcX12_comes dX12_comes_46 (by decide) rfl L S g
theorem eX12_comes_48 (L : pmL) (S : List Value) (g : pmH) : pmV mX12_comes 48 L S g = zIret mX12_comes S g := ez_ireturn kcX12_comes dX12_comes_48 L S g
theorem eX12_isWellLet_0 (L : pmL) (S : List Value) (g : pmH) : pmV mX12_isWellLet 0 L S g = zLdA mX12_isWellLet 1 0 L S g := ez_aload_n kcX12_isWellLet dX12_isWellLet_0 rfl rfl L S g
theorem eX12_isWellLet_1 (L : pmL) (S : List Value) (g : pmH) : pmV mX12_isWellLet 1 L S g = yV mX12_isWellLet 4 0 mX12_layTrial 12 2 L S g := (ez_virtual kcX12_isWellLet dX12_isWellLet_1 ml_12_186 rfl L S g).trans (zCallV_y rfl rfl (by decide) L S g)
theorem eX12_isWellLet_4 (L : pmL) (S : List Value) (g : pmH) : pmV mX12_isWellLet 4 L S g = zLdA mX12_isWellLet 5 0 L S g := ez_aload_n kcX12_isWellLet dX12_isWellLet_4 rfl rfl L S g
theorem eX12_isWellLet_5 (L : pmL) (S : List Value) (g : pmH) : pmV mX12_isWellLet 5 L S g = zLdI mX12_isWellLet 6 2 L S g := ez_iload_n kcX12_isWellLet dX12_isWellLet_5 rfl rfl L S g
theorem eX12_isWellLet_6 (L : pmL) (S : List Value) (g : pmH) : pmV mX12_isWellLet 6 L S g = yV mX12_isWellLet 9 1 mX12_goOn 12 3 L S g := (ez_virtual kcX12_isWellLet dX12_isWellLet_6 ml_12_189 rfl L S g).trans (zCallV_y rfl rfl (by decide) L S g)
theorem eX12_isWellLet_9 (L : pmL) (S : List Value) (g : pmH) : pmV mX12_isWellLet 9 L S g = zLdA mX12_isWellLet 10 0 L S g := ez_aload_n kcX12_isWellLet dX12_isWellLet_9 rfl rfl L S g
theorem eX12_isWellLet_10 (L : pmL) (S : List Value) (g : pmH) : pmV mX12_isWellLet 10 L S g = zGet mX12_isWellLet 13 12 9 L S g := ez_getfield kcX12_isWellLet dX12_isWellLet_10 fl_12_28 rfl L S g
theorem eX12_isWellLet_13 (L : pmL) (S : List Value) (g : pmH) : pmV mX12_isWellLet 13 L S g = zPush mX12_isWellLet 15 (.int (nI 36)) L S g := ez_bipush kcX12_isWellLet dX12_isWellLet_13 (by decide) rfl L S g
theorem eX12_isWellLet_15 (L : pmL) (S : List Value) (g : pmH) : pmV mX12_isWellLet 15 L S g = zLdI mX12_isWellLet 16 1 L S g := ez_iload_n kcX12_isWellLet dX12_isWellLet_15 rfl rfl L S g
theorem eX12_isWellLet_16 (L : pmL) (S : List Value) (g : pmH) : pmV mX12_isWellLet 16 L S g = zAdd mX12_isWellLet 17 L S g := ez_iadd kcX12_isWellLet dX12_isWellLet_16 rfl L S g
theorem eX12_isWellLet_17 (L : pmL) (S : List Value) (g : pmH) : pmV mX12_isWellLet 17 L S g = zPush mX12_isWellLet 18 (.int (nI 1)) L S g := ez_iconst kcX12_isWellLet dX12_isWellLet_17 (by decide) rfl L S g
theorem eX12_isWellLet_18 (L : pmL) (S : List Value) (g : pmH) : pmV mX12_isWellLet 18 L S g = zIast mX12_isWellLet 19 L S g := ez_iastore kcX12_isWellLet dX12_isWellLet_18 rfl L S g
theorem eX12_isWellLet_19 (L : pmL) (S : List Value) (g : pmH) : pmV mX12_isWellLet 19 L S g = zLdA mX12_isWellLet 20 0 L S g := ez_aload_n kcX12_isWellLet dX12_isWellLet_19 rfl rfl L S g
theorem eX12_isWellLet_20 (L : pmL) (S : List Value) (g : pmH) : pmV mX12_isWellLet 20 L S g = zPush mX12_isWellLet 22 (.int (nI 20)) L S g := ez_bipush kcX12_isWellLet dX12_isWellLet_20 (by decide) rfl L S g
theorem eX12_isWellLet_22 (L : pmL) (S : List Value) (g : pmH) : pmV mX12_isWellLet 22 L S g = yV mX12_isWellLet 25 1 mX12_goOn 12 3 L S g := (ez_virtual kcX12_isWellLet dX12_isWellLet_22 ml_12_189 rfl L S g).trans (zCallV_y rfl rfl (by decide) L S g)
theorem eX12_isWellLet_25 (L : pmL) (S : List Value) (g : pmH) : pmV mX12_isWellLet 25 L S g = zLdA mX12_isWellLet 26 0 L S g := ez_aload_n kcX12_isWellLet dX12_isWellLet_25 rfl rfl L S g
theorem eX12_isWellLet_26 (L : pmL) (S : List Value) (g : pmH) : pmV mX12_isWellLet 26 L S g = zGet mX12_isWellLet 29 12 9 L S g := ez_getfield kcX12_isWellLet dX12_isWellLet_26 fl_12_28 rfl L S g
theorem eX12_isWellLet_29 (L : pmL) (S : List Value) (g : pmH) : pmV mX12_isWellLet 29 L S g = zPush mX12_isWellLet 31 (.int (nI 36)) L S g := ez_bipush kcX12_isWellLet dX12_isWellLet_29 (by decide) rfl L S g
theorem eX12_isWellLet_31 (L : pmL) (S : List Value) (g : pmH) : pmV mX12_isWellLet 31 L S g = zLdI mX12_isWellLet 32 1 L S g := ez_iload_n kcX12_isWellLet dX12_isWellLet_31 rfl rfl L S g
theorem eX12_isWellLet_32 (L : pmL) (S : List Value) (g : pmH) : pmV mX12_isWellLet 32 L S g = zAdd mX12_isWellLet 33 L S g := ez_iadd kcX12_isWellLet dX12_isWellLet_32 rfl L S g
theorem eX12_isWellLet_33 (L : pmL) (S : List Value) (g : pmH) : pmV mX12_isWellLet 33 L S g = zIald mX12_isWellLet 34 L S g := ez_iaload kcX12_isWellLet dX12_isWellLet_33 rfl L S g
theorem eX12_isWellLet_34 (L : pmL) (S : List Value) (g : pmH) : pmV mX12_isWellLet 34 L S g = zPush mX12_isWellLet 35 (.int (nI 2)) L S g := ez_iconst kcX12_isWellLet dX12_isWellLet_34 (by decide) rfl L S g
theorem eX12_isWellLet_35 (L : pmL) (S : List Value) (g : pmH) : pmV mX12_isWellLet 35 L S g = zBne mX12_isWellLet 38 65 L S g := ez_icmp_ne kcX12_isWellLet dX12_isWellLet_35 (by decide) rfl L S g
theorem eX12_isWellLet_38 (L : pmL) (S : List Value) (g : pmH) : pmV mX12_isWellLet 38 L S g = zLdA mX12_isWellLet 39 0 L S g := ez_aload_n kcX12_isWellLet dX12_isWellLet_38 rfl rfl L S g
theorem eX12_isWellLet_39 (L : pmL) (S : List Value) (g : pmH) : pmV mX12_isWellLet 39 L S g = zGet mX12_isWellLet 42 12 8 L S g := ez_getfield kcX12_isWellLet dX12_isWellLet_39 fl_12_25 rfl L S g
theorem eX12_isWellLet_42 (L : pmL) (S : List Value) (g : pmH) : pmV mX12_isWellLet 42 L S g = zLdA mX12_isWellLet 43 0 L S g := ez_aload_n kcX12_isWellLet dX12_isWellLet_42 rfl rfl L S g
theorem eX12_isWellLet_43 (L : pmL) (S : List Value) (g : pmH) : pmV mX12_isWellLet 43 L S g = zGet mX12_isWellLet 46 12 9 L S g := ez_getfield kcX12_isWellLet dX12_isWellLet_43 fl_12_28 rfl L S g
theorem eX12_isWellLet_46 (L : pmL) (S : List Value) (g : pmH) : pmV mX12_isWellLet 46 L S g = zPush mX12_isWellLet 48 (.int (nI 46)) L S g := ez_bipush kcX12_isWellLet dX12_isWellLet_46 (by decide) rfl L S g
theorem eX12_isWellLet_48 (L : pmL) (S : List Value) (g : pmH) : pmV mX12_isWellLet 48 L S g = zLdI mX12_isWellLet 49 1 L S g := ez_iload_n kcX12_isWellLet dX12_isWellLet_48 rfl rfl L S g
theorem eX12_isWellLet_49 (L : pmL) (S : List Value) (g : pmH) : pmV mX12_isWellLet 49 L S g = zAdd mX12_isWellLet 50 L S g := ez_iadd kcX12_isWellLet dX12_isWellLet_49 rfl L S g
theorem eX12_isWellLet_50 (L : pmL) (S : List Value) (g : pmH) : pmV mX12_isWellLet 50 L S g = zIald mX12_isWellLet 51 L S g := ez_iaload kcX12_isWellLet dX12_isWellLet_50 rfl L S g
theorem eX12_isWellLet_51 (L : pmL) (S : List Value) (g : pmH) : pmV mX12_isWellLet 51 L S g = zIald mX12_isWellLet 52 L S g := ez_iaload kcX12_isWellLet dX12_isWellLet_51 rfl L S g
theorem eX12_isWellLet_52 (L : pmL) (S : List Value) (g : pmH) : pmV mX12_isWellLet 52 L S g = zLdA mX12_isWellLet 53 0 L S g := ez_aload_n kcX12_isWellLet dX12_isWellLet_52 rfl rfl L S g
theorem eX12_isWellLet_53 (L : pmL) (S : List Value) (g : pmH) : pmV mX12_isWellLet 53 L S g = zGet mX12_isWellLet 56 12 5 L S g := ez_getfield kcX12_isWellLet dX12_isWellLet_53 fl_12_16 rfl L S g
theorem eX12_isWellLet_56 (L : pmL) (S : List Value) (g : pmH) : pmV mX12_isWellLet 56 L S g = zLdI mX12_isWellLet 57 1 L S g := ez_iload_n kcX12_isWellLet dX12_isWellLet_56 rfl rfl L S g
theorem eX12_isWellLet_57 (L : pmL) (S : List Value) (g : pmH) : pmV mX12_isWellLet 57 L S g = zIald mX12_isWellLet 58 L S g := ez_iaload kcX12_isWellLet dX12_isWellLet_57 rfl L S g
theorem eX12_isWellLet_58 (L : pmL) (S : List Value) (g : pmH) : pmV mX12_isWellLet 58 L S g = zBne mX12_isWellLet 61 65 L S g := ez_icmp_ne kcX12_isWellLet dX12_isWellLet_58 (by decide) rfl L S g
theorem eX12_isWellLet_61 (L : pmL) (S : List Value) (g : pmH) : pmV mX12_isWellLet 61 L S g = zPush mX12_isWellLet 62 (.int (nI 1)) L S g := ez_iconst kcX12_isWellLet dX12_isWellLet_61 (by decide) rfl L S g
theorem eX12_isWellLet_62 (L : pmL) (S : List Value) (g : pmH) : pmV mX12_isWellLet 62 L S g = zNx mX12_isWellLet 66 L S g := ez_goto kcX12_isWellLet dX12_isWellLet_62 (by decide) L S g
theorem eX12_isWellLet_65 (L : pmL) (S : List Value) (g : pmH) : pmV mX12_isWellLet 65 L S g = zPush mX12_isWellLet 66 (.int (nI 0)) L S g := ez_iconst kcX12_isWellLet dX12_isWellLet_65 (by decide) rfl L S g
theorem eX12_isWellLet_66 (L : pmL) (S : List Value) (g : pmH) : pmV mX12_isWellLet 66 L S g = zIret mX12_isWellLet S g := ez_ireturn kcX12_isWellLet dX12_isWellLet_66 L S g
theorem eX12_best_0 (L : pmL) (S : List Value) (g : pmH) : pmV mX12_best 0 L S g = zLdA mX12_best 1 0 L S g := ez_aload_n kcX12_best dX12_best_0 rfl rfl L S g
theorem eX12_best_1 (L : pmL) (S : List Value) (g : pmH) : pmV mX12_best 1 L S g = zLdI mX12_best 2 1 L S g := ez_iload_n kcX12_best dX12_best_1 rfl rfl L S g
theorem eX12_best_2 (L : pmL) (S : List Value) (g : pmH) : pmV mX12_best 2 L S g = yV mX12_best 5 1 mX12_isBalloon 12 2 L S g := (ez_virtual kcX12_best dX12_best_2 ml_12_152 rfl L S g).trans (zCallV_y rfl rfl (by decide) L S g)
theorem eX12_best_5 (L : pmL) (S : List Value) (g : pmH) : pmV mX12_best 5 L S g = zCne mX12_best 8 10 L S g := ez_if_ne kcX12_best dX12_best_5 (by decide) rfl L S g
theorem eX12_best_8 (L : pmL) (S : List Value) (g : pmH) : pmV mX12_best 8 L S g = zPush mX12_best 9 (.int (-1)) L S g := ez_iconst kcX12_best dX12_best_8 (by decide) rfl L S g
theorem eX12_best_9 (L : pmL) (S : List Value) (g : pmH) : pmV mX12_best 9 L S g = zIret mX12_best S g := ez_ireturn kcX12_best dX12_best_9 L S g
theorem eX12_best_10 (L : pmL) (S : List Value) (g : pmH) : pmV mX12_best 10 L S g = zLdA mX12_best 11 0 L S g := ez_aload_n kcX12_best dX12_best_10 rfl rfl L S g
theorem eX12_best_11 (L : pmL) (S : List Value) (g : pmH) : pmV mX12_best 11 L S g = zGet mX12_best 14 12 9 L S g := ez_getfield kcX12_best dX12_best_11 fl_12_28 rfl L S g
theorem eX12_best_14 (L : pmL) (S : List Value) (g : pmH) : pmV mX12_best 14 L S g = zPush mX12_best 15 (.int (nI 5)) L S g := ez_iconst kcX12_best dX12_best_14 (by decide) rfl L S g
theorem eX12_best_15 (L : pmL) (S : List Value) (g : pmH) : pmV mX12_best 15 L S g = zLdI mX12_best 16 1 L S g := ez_iload_n kcX12_best dX12_best_15 rfl rfl L S g
theorem eX12_best_16 (L : pmL) (S : List Value) (g : pmH) : pmV mX12_best 16 L S g = zAdd mX12_best 17 L S g := ez_iadd kcX12_best dX12_best_16 rfl L S g
theorem eX12_best_17 (L : pmL) (S : List Value) (g : pmH) : pmV mX12_best 17 L S g = zIald mX12_best 18 L S g := ez_iaload kcX12_best dX12_best_17 rfl L S g
theorem eX12_best_18 (L : pmL) (S : List Value) (g : pmH) : pmV mX12_best 18 L S g = zCeq mX12_best 21 24 L S g := ez_if_eq kcX12_best dX12_best_18 (by decide) rfl L S g
theorem eX12_best_21 (L : pmL) (S : List Value) (g : pmH) : pmV mX12_best 21 L S g = zPush mX12_best 23 (.int (-3)) L S g := ez_bipush kcX12_best dX12_best_21 (by decide) rfl L S g
theorem eX12_best_23 (L : pmL) (S : List Value) (g : pmH) : pmV mX12_best 23 L S g = zIret mX12_best S g := ez_ireturn kcX12_best dX12_best_23 L S g
theorem eX12_best_24 (L : pmL) (S : List Value) (g : pmH) : pmV mX12_best 24 L S g = zPush mX12_best 25 (.int (nI 0)) L S g := ez_iconst kcX12_best dX12_best_24 (by decide) rfl L S g
theorem eX12_best_25 (L : pmL) (S : List Value) (g : pmH) : pmV mX12_best 25 L S g = zStI mX12_best 26 2 L S g := ez_istore_n kcX12_best dX12_best_25 rfl rfl L S g
theorem eX12_best_26 (L : pmL) (S : List Value) (g : pmH) : pmV mX12_best 26 L S g = zLdI mX12_best 27 2 L S g := ez_iload_n kcX12_best dX12_best_26 rfl rfl L S g
theorem eX12_best_27 (L : pmL) (S : List Value) (g : pmH) : pmV mX12_best 27 L S g = zPush mX12_best 29 (.int (nI 13)) L S g := ez_bipush kcX12_best dX12_best_27 (by decide) rfl L S g
theorem eX12_best_29 (L : pmL) (S : List Value) (g : pmH) : pmV mX12_best 29 L S g = zBge mX12_best 32 49 L S g := ez_icmp_ge kcX12_best dX12_best_29 (by decide) rfl L S g
theorem eX12_best_32 (L : pmL) (S : List Value) (g : pmH) : pmV mX12_best 32 L S g = zLdA mX12_best 33 0 L S g := ez_aload_n kcX12_best dX12_best_32 rfl rfl L S g
theorem eX12_best_33 (L : pmL) (S : List Value) (g : pmH) : pmV mX12_best 33 L S g = zLdI mX12_best 34 1 L S g := ez_iload_n kcX12_best dX12_best_33 rfl rfl L S g
theorem eX12_best_34 (L : pmL) (S : List Value) (g : pmH) : pmV mX12_best 34 L S g = zLdI mX12_best 35 2 L S g := ez_iload_n kcX12_best dX12_best_34 rfl rfl L S g
theorem eX12_best_35 (L : pmL) (S : List Value) (g : pmH) : pmV mX12_best 35 L S g = yV mX12_best 38 2 mX12_isWellLet 12 3 L S g := (ez_virtual kcX12_best dX12_best_35 ml_12_192 rfl L S g).trans (zCallV_y rfl rfl (by decide) L S g)
theorem eX12_best_38 (L : pmL) (S : List Value) (g : pmH) : pmV mX12_best 38 L S g = zCeq mX12_best 41 43 L S g := ez_if_eq kcX12_best dX12_best_38 (by decide) rfl L S g
theorem eX12_best_41 (L : pmL) (S : List Value) (g : pmH) : pmV mX12_best 41 L S g = zLdI mX12_best 42 2 L S g := ez_iload_n kcX12_best dX12_best_41 rfl rfl L S g
theorem eX12_best_42 (L : pmL) (S : List Value) (g : pmH) : pmV mX12_best 42 L S g = zIret mX12_best S g := ez_ireturn kcX12_best dX12_best_42 L S g
theorem eX12_best_43 (L : pmL) (S : List Value) (g : pmH) : pmV mX12_best 43 L S g = zInc mX12_best 46 2 (nI 1) L S g := ez_iinc kcX12_best dX12_best_43 (by decide) rfl L S g
theorem eX12_best_46 (L : pmL) (S : List Value) (g : pmH) : pmV mX12_best 46 L S g = zNx mX12_best 26 L S g := ez_goto kcX12_best dX12_best_46 (by decide) L S g
theorem eX12_best_49 (L : pmL) (S : List Value) (g : pmH) : pmV mX12_best 49 L S g = zPush mX12_best 51 (.int (-9)) L S g := ez_bipush kcX12_best dX12_best_49 (by decide) rfl L S g
theorem eX12_best_51 (L : pmL) (S : List Value) (g : pmH) : pmV mX12_best 51 L S g = zIret mX12_best S g := ez_ireturn kcX12_best dX12_best_51 L S g
theorem eX12_isOrder_0 (L : pmL) (S : List Value) (g : pmH) : pmV mX12_isOrder 0 L S g = zPush mX12_isOrder 1 (.int (nI 0)) L S g := ez_iconst kcX12_isOrder dX12_isOrder_0 (by decide) rfl L S g
theorem eX12_isOrder_1 (L : pmL) (S : List Value) (g : pmH) : pmV mX12_isOrder 1 L S g = zStI mX12_isOrder 2 2 L S g := ez_istore_n kcX12_isOrder dX12_isOrder_1 rfl rfl L S g
theorem eX12_isOrder_2 (L : pmL) (S : List Value) (g : pmH) : pmV mX12_isOrder 2 L S g = zLdI mX12_isOrder 3 1 L S g := ez_iload_n kcX12_isOrder dX12_isOrder_2 rfl rfl L S g
theorem eX12_isOrder_3 (L : pmL) (S : List Value) (g : pmH) : pmV mX12_isOrder 3 L S g = zStI mX12_isOrder 4 3 L S g := ez_istore_n kcX12_isOrder dX12_isOrder_3 rfl rfl L S g
theorem eX12_isOrder_4 (L : pmL) (S : List Value) (g : pmH) : pmV mX12_isOrder 4 L S g = zPush mX12_isOrder 5 (.int (nI 0)) L S g := ez_iconst kcX12_isOrder dX12_isOrder_4 (by decide) rfl L S g
theorem eX12_isOrder_5 (L : pmL) (S : List Value) (g : pmH) : pmV mX12_isOrder 5 L S g = zStI mX12_isOrder 7 4 L S g := ez_istore kcX12_isOrder dX12_isOrder_5 rfl L S g
theorem eX12_isOrder_7 (L : pmL) (S : List Value) (g : pmH) : pmV mX12_isOrder 7 L S g = zLdI mX12_isOrder 9 4 L S g := ez_iload kcX12_isOrder dX12_isOrder_7 rfl L S g
theorem eX12_isOrder_9 (L : pmL) (S : List Value) (g : pmH) : pmV mX12_isOrder 9 L S g = zLdA mX12_isOrder 10 0 L S g := ez_aload_n kcX12_isOrder dX12_isOrder_9 rfl rfl L S g
theorem eX12_isOrder_10 (L : pmL) (S : List Value) (g : pmH) : pmV mX12_isOrder 10 L S g = zGet mX12_isOrder 13 12 1 L S g := ez_getfield kcX12_isOrder dX12_isOrder_10 fl_12_120 rfl L S g
theorem eX12_isOrder_13 (L : pmL) (S : List Value) (g : pmH) : pmV mX12_isOrder 13 L S g = zBge mX12_isOrder 16 48 L S g := ez_icmp_ge kcX12_isOrder dX12_isOrder_13 (by decide) rfl L S g
theorem eX12_isOrder_16 (L : pmL) (S : List Value) (g : pmH) : pmV mX12_isOrder 16 L S g = zLdA mX12_isOrder 17 0 L S g := ez_aload_n kcX12_isOrder dX12_isOrder_16 rfl rfl L S g
theorem eX12_isOrder_17 (L : pmL) (S : List Value) (g : pmH) : pmV mX12_isOrder 17 L S g = zGet mX12_isOrder 20 12 26 L S g := ez_getfield kcX12_isOrder dX12_isOrder_17 fl_12_53 rfl L S g
theorem eX12_isOrder_20 (L : pmL) (S : List Value) (g : pmH) : pmV mX12_isOrder 20 L S g = zLdI mX12_isOrder 22 4 L S g := ez_iload kcX12_isOrder dX12_isOrder_20 rfl L S g
theorem eX12_isOrder_22 (L : pmL) (S : List Value) (g : pmH) : pmV mX12_isOrder 22 L S g = zLdI mX12_isOrder 23 3 L S g := ez_iload_n kcX12_isOrder dX12_isOrder_22 rfl rfl L S g
theorem eX12_isOrder_23 (L : pmL) (S : List Value) (g : pmH) : pmV mX12_isOrder 23 L S g = zPush mX12_isOrder 24 (.int (nI 5)) L S g := ez_iconst kcX12_isOrder dX12_isOrder_23 (by decide) rfl L S g
theorem eX12_isOrder_24 (L : pmL) (S : List Value) (g : pmH) : pmV mX12_isOrder 24 L S g = zRem mX12_isOrder 25 L S g := ez_irem kcX12_isOrder dX12_isOrder_24 rfl L S g
theorem eX12_isOrder_25 (L : pmL) (S : List Value) (g : pmH) : pmV mX12_isOrder 25 L S g = zIast mX12_isOrder 26 L S g := ez_iastore kcX12_isOrder dX12_isOrder_25 rfl L S g
theorem eX12_isOrder_26 (L : pmL) (S : List Value) (g : pmH) : pmV mX12_isOrder 26 L S g = zLdI mX12_isOrder 27 2 L S g := ez_iload_n kcX12_isOrder dX12_isOrder_26 rfl rfl L S g
theorem eX12_isOrder_27 (L : pmL) (S : List Value) (g : pmH) : pmV mX12_isOrder 27 L S g = zPush mX12_isOrder 28 (.int (nI 1)) L S g := ez_iconst kcX12_isOrder dX12_isOrder_27 (by decide) rfl L S g
theorem eX12_isOrder_28 (L : pmL) (S : List Value) (g : pmH) : pmV mX12_isOrder 28 L S g = zLdA mX12_isOrder 29 0 L S g := ez_aload_n kcX12_isOrder dX12_isOrder_28 rfl rfl L S g
theorem eX12_isOrder_29 (L : pmL) (S : List Value) (g : pmH) : pmV mX12_isOrder 29 L S g = zGet mX12_isOrder 32 12 26 L S g := ez_getfield kcX12_isOrder dX12_isOrder_29 fl_12_53 rfl L S g
theorem eX12_isOrder_32 (L : pmL) (S : List Value) (g : pmH) : pmV mX12_isOrder 32 L S g = zLdI mX12_isOrder 34 4 L S g := ez_iload kcX12_isOrder dX12_isOrder_32 rfl L S g
theorem eX12_isOrder_34 (L : pmL) (S : List Value) (g : pmH) : pmV mX12_isOrder 34 L S g = zIald mX12_isOrder 35 L S g := ez_iaload kcX12_isOrder dX12_isOrder_34 rfl L S g
theorem eX12_isOrder_35 (L : pmL) (S : List Value) (g : pmH) : pmV mX12_isOrder 35 L S g = zShl mX12_isOrder 36 L S g := ez_ishl kcX12_isOrder dX12_isOrder_35 rfl L S g
theorem eX12_isOrder_36 (L : pmL) (S : List Value) (g : pmH) : pmV mX12_isOrder 36 L S g = zOr mX12_isOrder 37 L S g := ez_ior kcX12_isOrder dX12_isOrder_36 rfl L S g
theorem eX12_isOrder_37 (L : pmL) (S : List Value) (g : pmH) : pmV mX12_isOrder 37 L S g = zStI mX12_isOrder 38 2 L S g := ez_istore_n kcX12_isOrder dX12_isOrder_37 rfl rfl L S g
theorem eX12_isOrder_38 (L : pmL) (S : List Value) (g : pmH) : pmV mX12_isOrder 38 L S g = zLdI mX12_isOrder 39 3 L S g := ez_iload_n kcX12_isOrder dX12_isOrder_38 rfl rfl L S g
theorem eX12_isOrder_39 (L : pmL) (S : List Value) (g : pmH) : pmV mX12_isOrder 39 L S g = zPush mX12_isOrder 40 (.int (nI 5)) L S g := ez_iconst kcX12_isOrder dX12_isOrder_39 (by decide) rfl L S g
theorem eX12_isOrder_40 (L : pmL) (S : List Value) (g : pmH) : pmV mX12_isOrder 40 L S g = zDiv mX12_isOrder 41 L S g := ez_idiv kcX12_isOrder dX12_isOrder_40 rfl L S g
theorem eX12_isOrder_41 (L : pmL) (S : List Value) (g : pmH) : pmV mX12_isOrder 41 L S g = zStI mX12_isOrder 42 3 L S g := ez_istore_n kcX12_isOrder dX12_isOrder_41 rfl rfl L S g
theorem eX12_isOrder_42 (L : pmL) (S : List Value) (g : pmH) : pmV mX12_isOrder 42 L S g = zInc mX12_isOrder 45 4 (nI 1) L S g := ez_iinc kcX12_isOrder dX12_isOrder_42 (by decide) rfl L S g
theorem eX12_isOrder_45 (L : pmL) (S : List Value) (g : pmH) : pmV mX12_isOrder 45 L S g = zNx mX12_isOrder 7 L S g := ez_goto kcX12_isOrder dX12_isOrder_45 (by decide) L S g
theorem eX12_isOrder_48 (L : pmL) (S : List Value) (g : pmH) : pmV mX12_isOrder 48 L S g = zLdI mX12_isOrder 49 3 L S g := ez_iload_n kcX12_isOrder dX12_isOrder_48 rfl rfl L S g
theorem eX12_isOrder_49 (L : pmL) (S : List Value) (g : pmH) : pmV mX12_isOrder 49 L S g = zCne mX12_isOrder 52 68 L S g := ez_if_ne kcX12_isOrder dX12_isOrder_49 (by decide) rfl L S g
theorem eX12_isOrder_52 (L : pmL) (S : List Value) (g : pmH) : pmV mX12_isOrder 52 L S g = zLdI mX12_isOrder 53 2 L S g := ez_iload_n kcX12_isOrder dX12_isOrder_52 rfl rfl L S g
theorem eX12_isOrder_53 (L : pmL) (S : List Value) (g : pmH) : pmV mX12_isOrder 53 L S g = zPush mX12_isOrder 54 (.int (nI 1)) L S g := ez_iconst kcX12_isOrder dX12_isOrder_53 (by decide) rfl L S g
theorem eX12_isOrder_54 (L : pmL) (S : List Value) (g : pmH) : pmV mX12_isOrder 54 L S g = zLdA mX12_isOrder 55 0 L S g := ez_aload_n kcX12_isOrder dX12_isOrder_54 rfl rfl L S g
theorem eX12_isOrder_55 (L : pmL) (S : List Value) (g : pmH) : pmV mX12_isOrder 55 L S g = zGet mX12_isOrder 58 12 1 L S g := ez_getfield kcX12_isOrder dX12_isOrder_55 fl_12_120 rfl L S g
theorem eX12_isOrder_58 (L : pmL) (S : List Value) (g : pmH) : pmV mX12_isOrder 58 L S g = zShl mX12_isOrder 59 L S g := ez_ishl kcX12_isOrder dX12_isOrder_58 rfl L S g
theorem eX12_isOrder_59 (L : pmL) (S : List Value) (g : pmH) : pmV mX12_isOrder 59 L S g = zPush mX12_isOrder 60 (.int (nI 1)) L S g := ez_iconst kcX12_isOrder dX12_isOrder_59 (by decide) rfl L S g
theorem eX12_isOrder_60 (L : pmL) (S : List Value) (g : pmH) : pmV mX12_isOrder 60 L S g = zSub mX12_isOrder 61 L S g := ez_isub kcX12_isOrder dX12_isOrder_60 rfl L S g
theorem eX12_isOrder_61 (L : pmL) (S : List Value) (g : pmH) : pmV mX12_isOrder 61 L S g = zBne mX12_isOrder 64 68 L S g := ez_icmp_ne kcX12_isOrder dX12_isOrder_61 (by decide) rfl L S g
theorem eX12_isOrder_64 (L : pmL) (S : List Value) (g : pmH) : pmV mX12_isOrder 64 L S g = zPush mX12_isOrder 65 (.int (nI 1)) L S g := ez_iconst kcX12_isOrder dX12_isOrder_64 (by decide) rfl L S g
theorem eX12_isOrder_65 (L : pmL) (S : List Value) (g : pmH) : pmV mX12_isOrder 65 L S g = zNx mX12_isOrder 69 L S g := ez_goto kcX12_isOrder dX12_isOrder_65 (by decide) L S g
theorem eX12_isOrder_68 (L : pmL) (S : List Value) (g : pmH) : pmV mX12_isOrder 68 L S g = zPush mX12_isOrder 69 (.int (nI 0)) L S g := ez_iconst kcX12_isOrder dX12_isOrder_68 (by decide) rfl L S g
theorem eX12_isOrder_69 (L : pmL) (S : List Value) (g : pmH) : pmV mX12_isOrder 69 L S g = zIret mX12_isOrder S g := ez_ireturn kcX12_isOrder dX12_isOrder_69 L S g
theorem eX12_gladBy_0 (L : pmL) (S : List Value) (g : pmH) : pmV mX12_gladBy 0 L S g = zPush mX12_gladBy 1 (.int (nI 0)) L S g := ez_iconst kcX12_gladBy dX12_gladBy_0 (by decide) rfl L S g
theorem eX12_gladBy_1 (L : pmL) (S : List Value) (g : pmH) : pmV mX12_gladBy 1 L S g = zStI mX12_gladBy 2 1 L S g := ez_istore_n kcX12_gladBy dX12_gladBy_1 rfl rfl L S g
theorem eX12_gladBy_2 (L : pmL) (S : List Value) (g : pmH) : pmV mX12_gladBy 2 L S g = zPush mX12_gladBy 3 (.int (nI 0)) L S g := ez_iconst kcX12_gladBy dX12_gladBy_2 (by decide) rfl L S g
theorem eX12_gladBy_3 (L : pmL) (S : List Value) (g : pmH) : pmV mX12_gladBy 3 L S g = zStI mX12_gladBy 4 2 L S g := ez_istore_n kcX12_gladBy dX12_gladBy_3 rfl rfl L S g
theorem eX12_gladBy_4 (L : pmL) (S : List Value) (g : pmH) : pmV mX12_gladBy 4 L S g = zLdI mX12_gladBy 5 2 L S g := ez_iload_n kcX12_gladBy dX12_gladBy_4 rfl rfl L S g
theorem eX12_gladBy_5 (L : pmL) (S : List Value) (g : pmH) : pmV mX12_gladBy 5 L S g = zLdA mX12_gladBy 6 0 L S g := ez_aload_n kcX12_gladBy dX12_gladBy_5 rfl rfl L S g
theorem eX12_gladBy_6 (L : pmL) (S : List Value) (g : pmH) : pmV mX12_gladBy 6 L S g = zGet mX12_gladBy 9 12 1 L S g := ez_getfield kcX12_gladBy dX12_gladBy_6 fl_12_120 rfl L S g
theorem eX12_gladBy_9 (L : pmL) (S : List Value) (g : pmH) : pmV mX12_gladBy 9 L S g = zBge mX12_gladBy 12 46 L S g := ez_icmp_ge kcX12_gladBy dX12_gladBy_9 (by decide) rfl L S g
theorem eX12_gladBy_12 (L : pmL) (S : List Value) (g : pmH) : pmV mX12_gladBy 12 L S g = zLdI mX12_gladBy 13 1 L S g := ez_iload_n kcX12_gladBy dX12_gladBy_12 rfl rfl L S g
theorem eX12_gladBy_13 (L : pmL) (S : List Value) (g : pmH) : pmV mX12_gladBy 13 L S g = zLdA mX12_gladBy 14 0 L S g := ez_aload_n kcX12_gladBy dX12_gladBy_13 rfl rfl L S g
theorem eX12_gladBy_14 (L : pmL) (S : List Value) (g : pmH) : pmV mX12_gladBy 14 L S g = zGet mX12_gladBy 17 12 25 L S g := ez_getfield kcX12_gladBy dX12_gladBy_14 fl_12_50 rfl L S g
theorem eX12_gladBy_17 (L : pmL) (S : List Value) (g : pmH) : pmV mX12_gladBy 17 L S g = zLdI mX12_gladBy 18 2 L S g := ez_iload_n kcX12_gladBy dX12_gladBy_17 rfl rfl L S g
theorem eX12_gladBy_18 (L : pmL) (S : List Value) (g : pmH) : pmV mX12_gladBy 18 L S g = zIald mX12_gladBy 19 L S g := ez_iaload kcX12_gladBy dX12_gladBy_18 rfl L S g
theorem eX12_gladBy_19 (L : pmL) (S : List Value) (g : pmH) : pmV mX12_gladBy 19 L S g = zLdA mX12_gladBy 20 0 L S g := ez_aload_n kcX12_gladBy dX12_gladBy_19 rfl rfl L S g
theorem eX12_gladBy_20 (L : pmL) (S : List Value) (g : pmH) : pmV mX12_gladBy 20 L S g = zGet mX12_gladBy 23 12 5 L S g := ez_getfield kcX12_gladBy dX12_gladBy_20 fl_12_16 rfl L S g
theorem eX12_gladBy_23 (L : pmL) (S : List Value) (g : pmH) : pmV mX12_gladBy 23 L S g = zLdA mX12_gladBy 24 0 L S g := ez_aload_n kcX12_gladBy dX12_gladBy_23 rfl rfl L S g
theorem eX12_gladBy_24 (L : pmL) (S : List Value) (g : pmH) : pmV mX12_gladBy 24 L S g = zGet mX12_gladBy 27 12 26 L S g := ez_getfield kcX12_gladBy dX12_gladBy_24 fl_12_53 rfl L S g
theorem eX12_gladBy_27 (L : pmL) (S : List Value) (g : pmH) : pmV mX12_gladBy 27 L S g = zLdI mX12_gladBy 28 2 L S g := ez_iload_n kcX12_gladBy dX12_gladBy_27 rfl rfl L S g
theorem eX12_gladBy_28 (L : pmL) (S : List Value) (g : pmH) : pmV mX12_gladBy 28 L S g = zIald mX12_gladBy 29 L S g := ez_iaload kcX12_gladBy dX12_gladBy_28 rfl L S g
theorem eX12_gladBy_29 (L : pmL) (S : List Value) (g : pmH) : pmV mX12_gladBy 29 L S g = zIald mX12_gladBy 30 L S g := ez_iaload kcX12_gladBy dX12_gladBy_29 rfl L S g
theorem eX12_gladBy_30 (L : pmL) (S : List Value) (g : pmH) : pmV mX12_gladBy 30 L S g = zBne mX12_gladBy 33 37 L S g := ez_icmp_ne kcX12_gladBy dX12_gladBy_30 (by decide) rfl L S g
theorem eX12_gladBy_33 (L : pmL) (S : List Value) (g : pmH) : pmV mX12_gladBy 33 L S g = zPush mX12_gladBy 34 (.int (nI 1)) L S g := ez_iconst kcX12_gladBy dX12_gladBy_33 (by decide) rfl L S g
theorem eX12_gladBy_34 (L : pmL) (S : List Value) (g : pmH) : pmV mX12_gladBy 34 L S g = zNx mX12_gladBy 38 L S g := ez_goto kcX12_gladBy dX12_gladBy_34 (by decide) L S g
theorem eX12_gladBy_37 (L : pmL) (S : List Value) (g : pmH) : pmV mX12_gladBy 37 L S g = zPush mX12_gladBy 38 (.int (nI 0)) L S g := ez_iconst kcX12_gladBy dX12_gladBy_37 (by decide) rfl L S g
theorem eX12_gladBy_38 (L : pmL) (S : List Value) (g : pmH) : pmV mX12_gladBy 38 L S g = zAdd mX12_gladBy 39 L S g := ez_iadd kcX12_gladBy dX12_gladBy_38 rfl L S g
theorem eX12_gladBy_39 (L : pmL) (S : List Value) (g : pmH) : pmV mX12_gladBy 39 L S g = zStI mX12_gladBy 40 1 L S g := ez_istore_n kcX12_gladBy dX12_gladBy_39 rfl rfl L S g
theorem eX12_gladBy_40 (L : pmL) (S : List Value) (g : pmH) : pmV mX12_gladBy 40 L S g = zInc mX12_gladBy 43 2 (nI 1) L S g := ez_iinc kcX12_gladBy dX12_gladBy_40 (by decide) rfl L S g
theorem eX12_gladBy_43 (L : pmL) (S : List Value) (g : pmH) : pmV mX12_gladBy 43 L S g = zNx mX12_gladBy 4 L S g := ez_goto kcX12_gladBy dX12_gladBy_43 (by decide) L S g
theorem eX12_gladBy_46 (L : pmL) (S : List Value) (g : pmH) : pmV mX12_gladBy 46 L S g = zLdI mX12_gladBy 47 1 L S g := ez_iload_n kcX12_gladBy dX12_gladBy_46 rfl rfl L S g
theorem eX12_gladBy_47 (L : pmL) (S : List Value) (g : pmH) : pmV mX12_gladBy 47 L S g = zIret mX12_gladBy S g := ez_ireturn kcX12_gladBy dX12_gladBy_47 L S g
theorem eX12_exchanges_0 (L : pmL) (S : List Value) (g : pmH) : pmV mX12_exchanges 0 L S g = zPush mX12_exchanges 1 (.int (nI 0)) L S g := ez_iconst kcX12_exchanges dX12_exchanges_0 (by decide) rfl L S g
theorem eX12_exchanges_1 (L : pmL) (S : List Value) (g : pmH) : pmV mX12_exchanges 1 L S g = zStI mX12_exchanges 2 1 L S g := ez_istore_n kcX12_exchanges dX12_exchanges_1 rfl rfl L S g
theorem eX12_exchanges_2 (L : pmL) (S : List Value) (g : pmH) : pmV mX12_exchanges 2 L S g = zPush mX12_exchanges 3 (.int (nI 0)) L S g := ez_iconst kcX12_exchanges dX12_exchanges_2 (by decide) rfl L S g
theorem eX12_exchanges_3 (L : pmL) (S : List Value) (g : pmH) : pmV mX12_exchanges 3 L S g = zStI mX12_exchanges 4 2 L S g := ez_istore_n kcX12_exchanges dX12_exchanges_3 rfl rfl L S g
theorem eX12_exchanges_4 (L : pmL) (S : List Value) (g : pmH) : pmV mX12_exchanges 4 L S g = zPush mX12_exchanges 5 (.int (nI 0)) L S g := ez_iconst kcX12_exchanges dX12_exchanges_4 (by decide) rfl L S g
theorem eX12_exchanges_5 (L : pmL) (S : List Value) (g : pmH) : pmV mX12_exchanges 5 L S g = zStI mX12_exchanges 6 3 L S g := ez_istore_n kcX12_exchanges dX12_exchanges_5 rfl rfl L S g
theorem eX12_exchanges_6 (L : pmL) (S : List Value) (g : pmH) : pmV mX12_exchanges 6 L S g = zLdI mX12_exchanges 7 3 L S g := ez_iload_n kcX12_exchanges dX12_exchanges_6 rfl rfl L S g
theorem eX12_exchanges_7 (L : pmL) (S : List Value) (g : pmH) : pmV mX12_exchanges 7 L S g = zLdA mX12_exchanges 8 0 L S g := ez_aload_n kcX12_exchanges dX12_exchanges_7 rfl rfl L S g
theorem eX12_exchanges_8 (L : pmL) (S : List Value) (g : pmH) : pmV mX12_exchanges 8 L S g = zGet mX12_exchanges 11 12 1 L S g := ez_getfield kcX12_exchanges dX12_exchanges_8 fl_12_120 rfl L S g
theorem eX12_exchanges_11 (L : pmL) (S : List Value) (g : pmH) : pmV mX12_exchanges 11 L S g = zBge mX12_exchanges 14 77 L S g := ez_icmp_ge kcX12_exchanges dX12_exchanges_11 (by decide) rfl L S g
theorem eX12_exchanges_14 (L : pmL) (S : List Value) (g : pmH) : pmV mX12_exchanges 14 L S g = zLdI mX12_exchanges 15 3 L S g := ez_iload_n kcX12_exchanges dX12_exchanges_14 rfl rfl L S g
theorem eX12_exchanges_15 (L : pmL) (S : List Value) (g : pmH) : pmV mX12_exchanges 15 L S g = zStI mX12_exchanges 17 4 L S g := ez_istore kcX12_exchanges dX12_exchanges_15 rfl L S g
theorem eX12_exchanges_17 (L : pmL) (S : List Value) (g : pmH) : pmV mX12_exchanges 17 L S g = zPush mX12_exchanges 18 (.int (nI 0)) L S g := ez_iconst kcX12_exchanges dX12_exchanges_17 (by decide) rfl L S g
theorem eX12_exchanges_18 (L : pmL) (S : List Value) (g : pmH) : pmV mX12_exchanges 18 L S g = zStI mX12_exchanges 20 5 L S g := ez_istore kcX12_exchanges dX12_exchanges_18 rfl L S g
theorem eX12_exchanges_20 (L : pmL) (S : List Value) (g : pmH) : pmV mX12_exchanges 20 L S g = zLdI mX12_exchanges 21 1 L S g := ez_iload_n kcX12_exchanges dX12_exchanges_20 rfl rfl L S g
theorem eX12_exchanges_21 (L : pmL) (S : List Value) (g : pmH) : pmV mX12_exchanges 21 L S g = zLdI mX12_exchanges 23 4 L S g := ez_iload kcX12_exchanges dX12_exchanges_21 rfl L S g
theorem eX12_exchanges_23 (L : pmL) (S : List Value) (g : pmH) : pmV mX12_exchanges 23 L S g = yS mX12_exchanges 26 2 mX12_has 2 L S g := (ez_static kcX12_exchanges dX12_exchanges_23 ml_12_86 (by decide) rfl L S g).trans (zCall_y rfl (by decide) L S g)
theorem eX12_exchanges_26 (L : pmL) (S : List Value) (g : pmH) : pmV mX12_exchanges 26 L S g = zCne mX12_exchanges 29 55 L S g := ez_if_ne kcX12_exchanges dX12_exchanges_26 (by decide) rfl L S g
theorem eX12_exchanges_29 (L : pmL) (S : List Value) (g : pmH) : pmV mX12_exchanges 29 L S g = zLdI mX12_exchanges 30 1 L S g := ez_iload_n kcX12_exchanges dX12_exchanges_29 rfl rfl L S g
theorem eX12_exchanges_30 (L : pmL) (S : List Value) (g : pmH) : pmV mX12_exchanges 30 L S g = zPush mX12_exchanges 31 (.int (nI 1)) L S g := ez_iconst kcX12_exchanges dX12_exchanges_30 (by decide) rfl L S g
theorem eX12_exchanges_31 (L : pmL) (S : List Value) (g : pmH) : pmV mX12_exchanges 31 L S g = zLdI mX12_exchanges 33 4 L S g := ez_iload kcX12_exchanges dX12_exchanges_31 rfl L S g
theorem eX12_exchanges_33 (L : pmL) (S : List Value) (g : pmH) : pmV mX12_exchanges 33 L S g = zShl mX12_exchanges 34 L S g := ez_ishl kcX12_exchanges dX12_exchanges_33 rfl L S g
theorem eX12_exchanges_34 (L : pmL) (S : List Value) (g : pmH) : pmV mX12_exchanges 34 L S g = zOr mX12_exchanges 35 L S g := ez_ior kcX12_exchanges dX12_exchanges_34 rfl L S g
theorem eX12_exchanges_35 (L : pmL) (S : List Value) (g : pmH) : pmV mX12_exchanges 35 L S g = zStI mX12_exchanges 36 1 L S g := ez_istore_n kcX12_exchanges dX12_exchanges_35 rfl rfl L S g
theorem eX12_exchanges_36 (L : pmL) (S : List Value) (g : pmH) : pmV mX12_exchanges 36 L S g = zInc mX12_exchanges 39 5 (nI 1) L S g := ez_iinc kcX12_exchanges dX12_exchanges_36 (by decide) rfl L S g
theorem eX12_exchanges_39 (L : pmL) (S : List Value) (g : pmH) : pmV mX12_exchanges 39 L S g = zLdA mX12_exchanges 40 0 L S g := ez_aload_n kcX12_exchanges dX12_exchanges_39 rfl rfl L S g
theorem eX12_exchanges_40 (L : pmL) (S : List Value) (g : pmH) : pmV mX12_exchanges 40 L S g = zLdA mX12_exchanges 41 0 L S g := ez_aload_n kcX12_exchanges dX12_exchanges_40 rfl rfl L S g
theorem eX12_exchanges_41 (L : pmL) (S : List Value) (g : pmH) : pmV mX12_exchanges 41 L S g = zGet mX12_exchanges 44 12 26 L S g := ez_getfield kcX12_exchanges dX12_exchanges_41 fl_12_53 rfl L S g
theorem eX12_exchanges_44 (L : pmL) (S : List Value) (g : pmH) : pmV mX12_exchanges 44 L S g = zLdI mX12_exchanges 46 4 L S g := ez_iload kcX12_exchanges dX12_exchanges_44 rfl L S g
theorem eX12_exchanges_46 (L : pmL) (S : List Value) (g : pmH) : pmV mX12_exchanges 46 L S g = zIald mX12_exchanges 47 L S g := ez_iaload kcX12_exchanges dX12_exchanges_46 rfl L S g
theorem eX12_exchanges_47 (L : pmL) (S : List Value) (g : pmH) : pmV mX12_exchanges 47 L S g = yV mX12_exchanges 50 1 mX12_balloonTo 12 4 L S g := (ez_virtual kcX12_exchanges dX12_exchanges_47 ml_12_195 rfl L S g).trans (zCallV_y rfl rfl (by decide) L S g)
theorem eX12_exchanges_50 (L : pmL) (S : List Value) (g : pmH) : pmV mX12_exchanges 50 L S g = zStI mX12_exchanges 52 4 L S g := ez_istore kcX12_exchanges dX12_exchanges_50 rfl L S g
theorem eX12_exchanges_52 (L : pmL) (S : List Value) (g : pmH) : pmV mX12_exchanges 52 L S g = zNx mX12_exchanges 20 L S g := ez_goto kcX12_exchanges dX12_exchanges_52 (by decide) L S g
theorem eX12_exchanges_55 (L : pmL) (S : List Value) (g : pmH) : pmV mX12_exchanges 55 L S g = zLdI mX12_exchanges 56 2 L S g := ez_iload_n kcX12_exchanges dX12_exchanges_55 rfl rfl L S g
theorem eX12_exchanges_56 (L : pmL) (S : List Value) (g : pmH) : pmV mX12_exchanges 56 L S g = zLdI mX12_exchanges 58 5 L S g := ez_iload kcX12_exchanges dX12_exchanges_56 rfl L S g
theorem eX12_exchanges_58 (L : pmL) (S : List Value) (g : pmH) : pmV mX12_exchanges 58 L S g = zCle mX12_exchanges 61 68 L S g := ez_if_le kcX12_exchanges dX12_exchanges_58 (by decide) rfl L S g
theorem eX12_exchanges_61 (L : pmL) (S : List Value) (g : pmH) : pmV mX12_exchanges 61 L S g = zLdI mX12_exchanges 63 5 L S g := ez_iload kcX12_exchanges dX12_exchanges_61 rfl L S g
theorem eX12_exchanges_63 (L : pmL) (S : List Value) (g : pmH) : pmV mX12_exchanges 63 L S g = zPush mX12_exchanges 64 (.int (nI 1)) L S g := ez_iconst kcX12_exchanges dX12_exchanges_63 (by decide) rfl L S g
theorem eX12_exchanges_64 (L : pmL) (S : List Value) (g : pmH) : pmV mX12_exchanges 64 L S g = zSub mX12_exchanges 65 L S g := ez_isub kcX12_exchanges dX12_exchanges_64 rfl L S g
theorem eX12_exchanges_65 (L : pmL) (S : List Value) (g : pmH) : pmV mX12_exchanges 65 L S g = zNx mX12_exchanges 69 L S g := ez_goto kcX12_exchanges dX12_exchanges_65 (by decide) L S g
theorem eX12_exchanges_68 (L : pmL) (S : List Value) (g : pmH) : pmV mX12_exchanges 68 L S g = zPush mX12_exchanges 69 (.int (nI 0)) L S g := ez_iconst kcX12_exchanges dX12_exchanges_68 (by decide) rfl L S g
theorem eX12_exchanges_69 (L : pmL) (S : List Value) (g : pmH) : pmV mX12_exchanges 69 L S g = zAdd mX12_exchanges 70 L S g := ez_iadd kcX12_exchanges dX12_exchanges_69 rfl L S g
theorem eX12_exchanges_70 (L : pmL) (S : List Value) (g : pmH) : pmV mX12_exchanges 70 L S g = zStI mX12_exchanges 71 2 L S g := ez_istore_n kcX12_exchanges dX12_exchanges_70 rfl rfl L S g
theorem eX12_exchanges_71 (L : pmL) (S : List Value) (g : pmH) : pmV mX12_exchanges 71 L S g = zInc mX12_exchanges 74 3 (nI 1) L S g := ez_iinc kcX12_exchanges dX12_exchanges_71 (by decide) rfl L S g
theorem eX12_exchanges_74 (L : pmL) (S : List Value) (g : pmH) : pmV mX12_exchanges 74 L S g = zNx mX12_exchanges 6 L S g := ez_goto kcX12_exchanges dX12_exchanges_74 (by decide) L S g
theorem eX12_exchanges_77 (L : pmL) (S : List Value) (g : pmH) : pmV mX12_exchanges 77 L S g = zLdI mX12_exchanges 78 2 L S g := ez_iload_n kcX12_exchanges dX12_exchanges_77 rfl rfl L S g
theorem eX12_exchanges_78 (L : pmL) (S : List Value) (g : pmH) : pmV mX12_exchanges 78 L S g = zIret mX12_exchanges S g := ez_ireturn kcX12_exchanges dX12_exchanges_78 L S g
theorem eX12_balloonTo_0 (L : pmL) (S : List Value) (g : pmH) : pmV mX12_balloonTo 0 L S g = zPush mX12_balloonTo 1 (.int (nI 0)) L S g := ez_iconst kcX12_balloonTo dX12_balloonTo_0 (by decide) rfl L S g
theorem eX12_balloonTo_1 (L : pmL) (S : List Value) (g : pmH) : pmV mX12_balloonTo 1 L S g = zStI mX12_balloonTo 2 2 L S g := ez_istore_n kcX12_balloonTo dX12_balloonTo_1 rfl rfl L S g
theorem eX12_balloonTo_2 (L : pmL) (S : List Value) (g : pmH) : pmV mX12_balloonTo 2 L S g = zPush mX12_balloonTo 3 (.int (nI 0)) L S g := ez_iconst kcX12_balloonTo dX12_balloonTo_2 (by decide) rfl L S g
theorem eX12_balloonTo_3 (L : pmL) (S : List Value) (g : pmH) : pmV mX12_balloonTo 3 L S g = zStI mX12_balloonTo 4 3 L S g := ez_istore_n kcX12_balloonTo dX12_balloonTo_3 rfl rfl L S g
theorem eX12_balloonTo_4 (L : pmL) (S : List Value) (g : pmH) : pmV mX12_balloonTo 4 L S g = zLdI mX12_balloonTo 5 3 L S g := ez_iload_n kcX12_balloonTo dX12_balloonTo_4 rfl rfl L S g
theorem eX12_balloonTo_5 (L : pmL) (S : List Value) (g : pmH) : pmV mX12_balloonTo 5 L S g = zLdA mX12_balloonTo 6 0 L S g := ez_aload_n kcX12_balloonTo dX12_balloonTo_5 rfl rfl L S g
theorem eX12_balloonTo_6 (L : pmL) (S : List Value) (g : pmH) : pmV mX12_balloonTo 6 L S g = zGet mX12_balloonTo 9 12 1 L S g := ez_getfield kcX12_balloonTo dX12_balloonTo_6 fl_12_120 rfl L S g
theorem eX12_balloonTo_9 (L : pmL) (S : List Value) (g : pmH) : pmV mX12_balloonTo 9 L S g = zBge mX12_balloonTo 12 37 L S g := ez_icmp_ge kcX12_balloonTo dX12_balloonTo_9 (by decide) rfl L S g
theorem eX12_balloonTo_12 (L : pmL) (S : List Value) (g : pmH) : pmV mX12_balloonTo 12 L S g = zLdA mX12_balloonTo 13 0 L S g := ez_aload_n kcX12_balloonTo dX12_balloonTo_12 rfl rfl L S g
theorem eX12_balloonTo_13 (L : pmL) (S : List Value) (g : pmH) : pmV mX12_balloonTo 13 L S g = zGet mX12_balloonTo 16 12 9 L S g := ez_getfield kcX12_balloonTo dX12_balloonTo_13 fl_12_28 rfl L S g
theorem eX12_balloonTo_16 (L : pmL) (S : List Value) (g : pmH) : pmV mX12_balloonTo 16 L S g = zPush mX12_balloonTo 18 (.int (nI 25)) L S g := ez_bipush kcX12_balloonTo dX12_balloonTo_16 (by decide) rfl L S g
theorem eX12_balloonTo_18 (L : pmL) (S : List Value) (g : pmH) : pmV mX12_balloonTo 18 L S g = zLdI mX12_balloonTo 19 3 L S g := ez_iload_n kcX12_balloonTo dX12_balloonTo_18 rfl rfl L S g
theorem eX12_balloonTo_19 (L : pmL) (S : List Value) (g : pmH) : pmV mX12_balloonTo 19 L S g = zAdd mX12_balloonTo 20 L S g := ez_iadd kcX12_balloonTo dX12_balloonTo_19 rfl L S g
theorem eX12_balloonTo_20 (L : pmL) (S : List Value) (g : pmH) : pmV mX12_balloonTo 20 L S g = zIald mX12_balloonTo 21 L S g := ez_iaload kcX12_balloonTo dX12_balloonTo_20 rfl L S g
theorem eX12_balloonTo_21 (L : pmL) (S : List Value) (g : pmH) : pmV mX12_balloonTo 21 L S g = zLdI mX12_balloonTo 22 1 L S g := ez_iload_n kcX12_balloonTo dX12_balloonTo_21 rfl rfl L S g
theorem eX12_balloonTo_22 (L : pmL) (S : List Value) (g : pmH) : pmV mX12_balloonTo 22 L S g = zBne mX12_balloonTo 25 29 L S g := ez_icmp_ne kcX12_balloonTo dX12_balloonTo_22 (by decide) rfl L S g
theorem eX12_balloonTo_25 (L : pmL) (S : List Value) (g : pmH) : pmV mX12_balloonTo 25 L S g = zLdI mX12_balloonTo 26 3 L S g := ez_iload_n kcX12_balloonTo dX12_balloonTo_25 rfl rfl L S g
theorem eX12_balloonTo_26 (L : pmL) (S : List Value) (g : pmH) : pmV mX12_balloonTo 26 L S g = zNx mX12_balloonTo 30 L S g := ez_goto kcX12_balloonTo dX12_balloonTo_26 (by decide) L S g
theorem eX12_balloonTo_29 (L : pmL) (S : List Value) (g : pmH) : pmV mX12_balloonTo 29 L S g = zLdI mX12_balloonTo 30 2 L S g := ez_iload_n kcX12_balloonTo dX12_balloonTo_29 rfl rfl L S g
theorem eX12_balloonTo_30 (L : pmL) (S : List Value) (g : pmH) : pmV mX12_balloonTo 30 L S g = zStI mX12_balloonTo 31 2 L S g := ez_istore_n kcX12_balloonTo dX12_balloonTo_30 rfl rfl L S g
theorem eX12_balloonTo_31 (L : pmL) (S : List Value) (g : pmH) : pmV mX12_balloonTo 31 L S g = zInc mX12_balloonTo 34 3 (nI 1) L S g := ez_iinc kcX12_balloonTo dX12_balloonTo_31 (by decide) rfl L S g
theorem eX12_balloonTo_34 (L : pmL) (S : List Value) (g : pmH) : pmV mX12_balloonTo 34 L S g = zNx mX12_balloonTo 4 L S g := ez_goto kcX12_balloonTo dX12_balloonTo_34 (by decide) L S g
theorem eX12_balloonTo_37 (L : pmL) (S : List Value) (g : pmH) : pmV mX12_balloonTo 37 L S g = zLdI mX12_balloonTo 38 2 L S g := ez_iload_n kcX12_balloonTo dX12_balloonTo_37 rfl rfl L S g
theorem eX12_balloonTo_38 (L : pmL) (S : List Value) (g : pmH) : pmV mX12_balloonTo 38 L S g = zIret mX12_balloonTo S g := ez_ireturn kcX12_balloonTo dX12_balloonTo_38 L S g
theorem eX12_most_0 (L : pmL) (S : List Value) (g : pmH) : pmV mX12_most 0 L S g = zLdI mX12_most 1 1 L S g := ez_iload_n kcX12_most dX12_most_0 rfl rfl L S g
theorem eX12_most_1 (L : pmL) (S : List Value) (g : pmH) : pmV mX12_most 1 L S g = zI2l mX12_most 2 L S g := ez_i2l kcX12_most dX12_most_1 rfl L S g
theorem eX12_most_2 (L : pmL) (S : List Value) (g : pmH) : pmV mX12_most 2 L S g = zPush mX12_most 3 (.long (lN 0)) L S g := ez_lconst kcX12_most dX12_most_2 rfl rfl L S g
theorem eX12_most_3 (L : pmL) (S : List Value) (g : pmH) : pmV mX12_most 3 L S g = zPush mX12_most 4 (.long (lN 1)) L S g := ez_lconst kcX12_most dX12_most_3 rfl rfl L S g
theorem eX12_most_4 (L : pmL) (S : List Value) (g : pmH) : pmV mX12_most 4 L S g = yS mX12_most 7 3 mX12_in 6 L S g := (ez_static kcX12_most dX12_most_4 ml_12_71 (by decide) rfl L S g).trans (zCall_y rfl (by decide) L S g)
theorem eX12_most_7 (L : pmL) (S : List Value) (g : pmH) : pmV mX12_most 7 L S g = zCne mX12_most 10 13 L S g := ez_if_ne kcX12_most dX12_most_7 (by decide) rfl L S g
theorem eX12_most_10 (L : pmL) (S : List Value) (g : pmH) : pmV mX12_most 10 L S g = zPush mX12_most 12 (.int (-2)) L S g := ez_bipush kcX12_most dX12_most_10 (by decide) rfl L S g
theorem eX12_most_12 (L : pmL) (S : List Value) (g : pmH) : pmV mX12_most 12 L S g = zIret mX12_most S g := ez_ireturn kcX12_most dX12_most_12 L S g
theorem eX12_most_13 (L : pmL) (S : List Value) (g : pmH) : pmV mX12_most 13 L S g = zLdA mX12_most 14 0 L S g := ez_aload_n kcX12_most dX12_most_13 rfl rfl L S g
theorem eX12_most_14 (L : pmL) (S : List Value) (g : pmH) : pmV mX12_most 14 L S g = yV mX12_most 17 0 mX12_layTrial 12 2 L S g := (ez_virtual kcX12_most dX12_most_14 ml_12_186 rfl L S g).trans (zCallV_y rfl rfl (by decide) L S g)
theorem eX12_most_17 (L : pmL) (S : List Value) (g : pmH) : pmV mX12_most 17 L S g = zLdA mX12_most 18 0 L S g := ez_aload_n kcX12_most dX12_most_17 rfl rfl L S g
theorem eX12_most_18 (L : pmL) (S : List Value) (g : pmH) : pmV mX12_most 18 L S g = zPush mX12_most 20 (.int (nI 30)) L S g := ez_bipush kcX12_most dX12_most_18 (by decide) rfl L S g
theorem eX12_most_20 (L : pmL) (S : List Value) (g : pmH) : pmV mX12_most 20 L S g = yV mX12_most 23 1 mX12_goOn 12 3 L S g := (ez_virtual kcX12_most dX12_most_20 ml_12_189 rfl L S g).trans (zCallV_y rfl rfl (by decide) L S g)
theorem eX12_most_23 (L : pmL) (S : List Value) (g : pmH) : pmV mX12_most 23 L S g = zPush mX12_most 24 (.int (nI 0)) L S g := ez_iconst kcX12_most dX12_most_23 (by decide) rfl L S g
theorem eX12_most_24 (L : pmL) (S : List Value) (g : pmH) : pmV mX12_most 24 L S g = zStI mX12_most 25 2 L S g := ez_istore_n kcX12_most dX12_most_24 rfl rfl L S g
theorem eX12_most_25 (L : pmL) (S : List Value) (g : pmH) : pmV mX12_most 25 L S g = zLdI mX12_most 26 2 L S g := ez_iload_n kcX12_most dX12_most_25 rfl rfl L S g
theorem eX12_most_26 (L : pmL) (S : List Value) (g : pmH) : pmV mX12_most 26 L S g = zLdA mX12_most 27 0 L S g := ez_aload_n kcX12_most dX12_most_26 rfl rfl L S g
theorem eX12_most_27 (L : pmL) (S : List Value) (g : pmH) : pmV mX12_most 27 L S g = zGet mX12_most 30 12 1 L S g := ez_getfield kcX12_most dX12_most_27 fl_12_120 rfl L S g
theorem eX12_most_30 (L : pmL) (S : List Value) (g : pmH) : pmV mX12_most 30 L S g = zBge mX12_most 33 51 L S g := ez_icmp_ge kcX12_most dX12_most_30 (by decide) rfl L S g
theorem eX12_most_33 (L : pmL) (S : List Value) (g : pmH) : pmV mX12_most 33 L S g = zLdA mX12_most 34 0 L S g := ez_aload_n kcX12_most dX12_most_33 rfl rfl L S g
theorem eX12_most_34 (L : pmL) (S : List Value) (g : pmH) : pmV mX12_most 34 L S g = zGet mX12_most 37 12 25 L S g := ez_getfield kcX12_most dX12_most_34 fl_12_50 rfl L S g
theorem eX12_most_37 (L : pmL) (S : List Value) (g : pmH) : pmV mX12_most 37 L S g = zLdI mX12_most 38 2 L S g := ez_iload_n kcX12_most dX12_most_37 rfl rfl L S g
theorem eX12_most_38 (L : pmL) (S : List Value) (g : pmH) : pmV mX12_most 38 L S g = zLdA mX12_most 39 0 L S g := ez_aload_n kcX12_most dX12_most_38 rfl rfl L S g
theorem eX12_most_39 (L : pmL) (S : List Value) (g : pmH) : pmV mX12_most 39 L S g = zPush mX12_most 40 (.int (nI 1)) L S g := ez_iconst kcX12_most dX12_most_39 (by decide) rfl L S g
theorem eX12_most_40 (L : pmL) (S : List Value) (g : pmH) : pmV mX12_most 40 L S g = zLdI mX12_most 41 2 L S g := ez_iload_n kcX12_most dX12_most_40 rfl rfl L S g
theorem eX12_most_41 (L : pmL) (S : List Value) (g : pmH) : pmV mX12_most 41 L S g = yV mX12_most 44 2 mX12_brings 12 3 L S g := (ez_virtual kcX12_most dX12_most_41 ml_12_149 rfl L S g).trans (zCallV_y rfl rfl (by decide) L S g)
theorem eX12_most_44 (L : pmL) (S : List Value) (g : pmH) : pmV mX12_most 44 L S g = zIast mX12_most 45 L S g := ez_iastore kcX12_most dX12_most_44 rfl L S g
theorem eX12_most_45 (L : pmL) (S : List Value) (g : pmH) : pmV mX12_most 45 L S g = zInc mX12_most 48 2 (nI 1) L S g := ez_iinc kcX12_most dX12_most_45 (by decide) rfl L S g
theorem eX12_most_48 (L : pmL) (S : List Value) (g : pmH) : pmV mX12_most 48 L S g = zNx mX12_most 25 L S g := ez_goto kcX12_most dX12_most_48 (by decide) L S g
theorem eX12_most_51 (L : pmL) (S : List Value) (g : pmH) : pmV mX12_most 51 L S g = zPush mX12_most 52 (.int (nI 0)) L S g := ez_iconst kcX12_most dX12_most_51 (by decide) rfl L S g
theorem eX12_most_52 (L : pmL) (S : List Value) (g : pmH) : pmV mX12_most 52 L S g = zStI mX12_most 53 2 L S g := ez_istore_n kcX12_most dX12_most_52 rfl rfl L S g
theorem eX12_most_53 (L : pmL) (S : List Value) (g : pmH) : pmV mX12_most 53 L S g = zPush mX12_most 54 (.int (nI 0)) L S g := ez_iconst kcX12_most dX12_most_53 (by decide) rfl L S g
theorem eX12_most_54 (L : pmL) (S : List Value) (g : pmH) : pmV mX12_most 54 L S g = zStI mX12_most 55 3 L S g := ez_istore_n kcX12_most dX12_most_54 rfl rfl L S g
theorem eX12_most_55 (L : pmL) (S : List Value) (g : pmH) : pmV mX12_most 55 L S g = zPush mX12_most 56 (.int (nI 0)) L S g := ez_iconst kcX12_most dX12_most_55 (by decide) rfl L S g
theorem eX12_most_56 (L : pmL) (S : List Value) (g : pmH) : pmV mX12_most 56 L S g = zStI mX12_most 58 4 L S g := ez_istore kcX12_most dX12_most_56 rfl L S g
theorem eX12_most_58 (L : pmL) (S : List Value) (g : pmH) : pmV mX12_most 58 L S g = zLdI mX12_most 60 4 L S g := ez_iload kcX12_most dX12_most_58 rfl L S g
theorem eX12_most_60 (L : pmL) (S : List Value) (g : pmH) : pmV mX12_most 60 L S g = zPush mX12_most 63 (.int (nI 3125)) L S g := ez_sipush kcX12_most dX12_most_60 (by decide) rfl L S g
theorem eX12_most_63 (L : pmL) (S : List Value) (g : pmH) : pmV mX12_most 63 L S g = zBge mX12_most 66 136 L S g := ez_icmp_ge kcX12_most dX12_most_63 (by decide) rfl L S g
theorem eX12_most_66 (L : pmL) (S : List Value) (g : pmH) : pmV mX12_most 66 L S g = zLdA mX12_most 67 0 L S g := ez_aload_n kcX12_most dX12_most_66 rfl rfl L S g
theorem eX12_most_67 (L : pmL) (S : List Value) (g : pmH) : pmV mX12_most 67 L S g = zLdI mX12_most 69 4 L S g := ez_iload kcX12_most dX12_most_67 rfl L S g
theorem eX12_most_69 (L : pmL) (S : List Value) (g : pmH) : pmV mX12_most 69 L S g = yV mX12_most 72 1 mX12_isOrder 12 5 L S g := (ez_virtual kcX12_most dX12_most_69 ml_12_198 rfl L S g).trans (zCallV_y rfl rfl (by decide) L S g)
theorem eX12_most_72 (L : pmL) (S : List Value) (g : pmH) : pmV mX12_most 72 L S g = zCeq mX12_most 75 130 L S g := ez_if_eq kcX12_most dX12_most_72 (by decide) rfl L S g
theorem eX12_most_75 (L : pmL) (S : List Value) (g : pmH) : pmV mX12_most 75 L S g = zLdA mX12_most 76 0 L S g := ez_aload_n kcX12_most dX12_most_75 rfl rfl L S g
theorem eX12_most_76 (L : pmL) (S : List Value) (g : pmH) : pmV mX12_most 76 L S g = yV mX12_most 79 0 mX12_gladBy 12 3 L S g := (ez_virtual kcX12_most dX12_most_76 ml_12_201 rfl L S g).trans (zCallV_y rfl rfl (by decide) L S g)
theorem eX12_most_79 (L : pmL) (S : List Value) (g : pmH) : pmV mX12_most 79 L S g = zStI mX12_most 81 5 L S g := ez_istore kcX12_most dX12_most_79 rfl L S g
theorem eX12_most_81 (L : pmL) (S : List Value) (g : pmH) : pmV mX12_most 81 L S g = zLdA mX12_most 82 0 L S g := ez_aload_n kcX12_most dX12_most_81 rfl rfl L S g
theorem eX12_most_82 (L : pmL) (S : List Value) (g : pmH) : pmV mX12_most 82 L S g = yV mX12_most 85 0 mX12_exchanges 12 6 L S g := (ez_virtual kcX12_most dX12_most_82 ml_12_204 rfl L S g).trans (zCallV_y rfl rfl (by decide) L S g)
theorem eX12_most_85 (L : pmL) (S : List Value) (g : pmH) : pmV mX12_most 85 L S g = zStI mX12_most 87 6 L S g := ez_istore kcX12_most dX12_most_85 rfl L S g
theorem eX12_most_87 (L : pmL) (S : List Value) (g : pmH) : pmV mX12_most 87 L S g = zLdI mX12_most 89 4 L S g := ez_iload kcX12_most dX12_most_87 rfl L S g
theorem eX12_most_89 (L : pmL) (S : List Value) (g : pmH) : pmV mX12_most 89 L S g = zCeq mX12_most 92 110 L S g := ez_if_eq kcX12_most dX12_most_89 (by decide) rfl L S g
theorem eX12_most_92 (L : pmL) (S : List Value) (g : pmH) : pmV mX12_most 92 L S g = zLdI mX12_most 94 5 L S g := ez_iload kcX12_most dX12_most_92 rfl L S g
theorem eX12_most_94 (L : pmL) (S : List Value) (g : pmH) : pmV mX12_most 94 L S g = zLdI mX12_most 95 2 L S g := ez_iload_n kcX12_most dX12_most_94 rfl rfl L S g
theorem eX12_most_95 (L : pmL) (S : List Value) (g : pmH) : pmV mX12_most 95 L S g = zBgt mX12_most 98 110 L S g := ez_icmp_gt kcX12_most dX12_most_95 (by decide) rfl L S g
theorem eX12_most_98 (L : pmL) (S : List Value) (g : pmH) : pmV mX12_most 98 L S g = zLdI mX12_most 100 5 L S g := ez_iload kcX12_most dX12_most_98 rfl L S g
theorem eX12_most_100 (L : pmL) (S : List Value) (g : pmH) : pmV mX12_most 100 L S g = zLdI mX12_most 101 2 L S g := ez_iload_n kcX12_most dX12_most_100 rfl rfl L S g
theorem eX12_most_101 (L : pmL) (S : List Value) (g : pmH) : pmV mX12_most 101 L S g = zBne mX12_most 104 115 L S g := ez_icmp_ne kcX12_most dX12_most_101 (by decide) rfl L S g
theorem eX12_most_104 (L : pmL) (S : List Value) (g : pmH) : pmV mX12_most 104 L S g = zLdI mX12_most 106 6 L S g := ez_iload kcX12_most dX12_most_104 rfl L S g
theorem eX12_most_106 (L : pmL) (S : List Value) (g : pmH) : pmV mX12_most 106 L S g = zLdI mX12_most 107 3 L S g := ez_iload_n kcX12_most dX12_most_106 rfl rfl L S g
theorem eX12_most_107 (L : pmL) (S : List Value) (g : pmH) : pmV mX12_most 107 L S g = zBge mX12_most 110 115 L S g := ez_icmp_ge kcX12_most dX12_most_107 (by decide) rfl L S g
theorem eX12_most_110 (L : pmL) (S : List Value) (g : pmH) : pmV mX12_most 110 L S g = zLdI mX12_most 112 6 L S g := ez_iload kcX12_most dX12_most_110 rfl L S g
theorem eX12_most_112 (L : pmL) (S : List Value) (g : pmH) : pmV mX12_most 112 L S g = zNx mX12_most 116 L S g := ez_goto kcX12_most dX12_most_112 (by decide) L S g
theorem eX12_most_115 (L : pmL) (S : List Value) (g : pmH) : pmV mX12_most 115 L S g = zLdI mX12_most 116 3 L S g := ez_iload_n kcX12_most dX12_most_115 rfl rfl L S g
theorem eX12_most_116 (L : pmL) (S : List Value) (g : pmH) : pmV mX12_most 116 L S g = zStI mX12_most 117 3 L S g := ez_istore_n kcX12_most dX12_most_116 rfl rfl L S g
theorem eX12_most_117 (L : pmL) (S : List Value) (g : pmH) : pmV mX12_most 117 L S g = zLdI mX12_most 119 5 L S g := ez_iload kcX12_most dX12_most_117 rfl L S g
theorem eX12_most_119 (L : pmL) (S : List Value) (g : pmH) : pmV mX12_most 119 L S g = zLdI mX12_most 120 2 L S g := ez_iload_n kcX12_most dX12_most_119 rfl rfl L S g
theorem eX12_most_120 (L : pmL) (S : List Value) (g : pmH) : pmV mX12_most 120 L S g = zBle mX12_most 123 128 L S g := ez_icmp_le kcX12_most dX12_most_120 (by decide) rfl L S g
theorem eX12_most_123 (L : pmL) (S : List Value) (g : pmH) : pmV mX12_most 123 L S g = zLdI mX12_most 125 5 L S g := ez_iload kcX12_most dX12_most_123 rfl L S g
theorem eX12_most_125 (L : pmL) (S : List Value) (g : pmH) : pmV mX12_most 125 L S g = zNx mX12_most 129 L S g := ez_goto kcX12_most dX12_most_125 (by decide) L S g
theorem eX12_most_128 (L : pmL) (S : List Value) (g : pmH) : pmV mX12_most 128 L S g = zLdI mX12_most 129 2 L S g := ez_iload_n kcX12_most dX12_most_128 rfl rfl L S g
theorem eX12_most_129 (L : pmL) (S : List Value) (g : pmH) : pmV mX12_most 129 L S g = zStI mX12_most 130 2 L S g := ez_istore_n kcX12_most dX12_most_129 rfl rfl L S g
theorem eX12_most_130 (L : pmL) (S : List Value) (g : pmH) : pmV mX12_most 130 L S g = zInc mX12_most 133 4 (nI 1) L S g := ez_iinc kcX12_most dX12_most_130 (by decide) rfl L S g
theorem eX12_most_133 (L : pmL) (S : List Value) (g : pmH) : pmV mX12_most 133 L S g = zNx mX12_most 58 L S g := ez_goto kcX12_most dX12_most_133 (by decide) L S g
theorem eX12_most_136 (L : pmL) (S : List Value) (g : pmH) : pmV mX12_most 136 L S g = zLdI mX12_most 137 1 L S g := ez_iload_n kcX12_most dX12_most_136 rfl rfl L S g
theorem eX12_most_137 (L : pmL) (S : List Value) (g : pmH) : pmV mX12_most 137 L S g = zCne mX12_most 140 144 L S g := ez_if_ne kcX12_most dX12_most_137 (by decide) rfl L S g
theorem eX12_most_140 (L : pmL) (S : List Value) (g : pmH) : pmV mX12_most 140 L S g = zLdI mX12_most 141 2 L S g := ez_iload_n kcX12_most dX12_most_140 rfl rfl L S g
theorem eX12_most_141 (L : pmL) (S : List Value) (g : pmH) : pmV mX12_most 141 L S g = zNx mX12_most 145 L S g := ez_goto kcX12_most dX12_most_141 (by decide) L S g
theorem eX12_most_144 (L : pmL) (S : List Value) (g : pmH) : pmV mX12_most 144 L S g = zLdI mX12_most 145 3 L S g := ez_iload_n kcX12_most dX12_most_144 rfl rfl L S g
theorem eX12_most_145 (L : pmL) (S : List Value) (g : pmH) : pmV mX12_most 145 L S g = zIret mX12_most S g := ez_ireturn kcX12_most dX12_most_145 L S g
theorem eX12_tryThing_0 (L : pmL) (S : List Value) (g : pmH) : pmV mX12_tryThing 0 L S g = zLdI mX12_tryThing 1 1 L S g := ez_iload_n kcX12_tryThing dX12_tryThing_0 rfl rfl L S g
theorem eX12_tryThing_1 (L : pmL) (S : List Value) (g : pmH) : pmV mX12_tryThing 1 L S g = zTab mX12_tryThing 1 228 0 4 #[35, 56, 105, 155, 198] L S g := ez_tab kcX12_tryThing dX12_tryThing_1 L S g
theorem eX12_tryThing_36 (L : pmL) (S : List Value) (g : pmH) : pmV mX12_tryThing 36 L S g = zLdA mX12_tryThing 37 0 L S g := ez_aload_n kcX12_tryThing dX12_tryThing_36 rfl rfl L S g
theorem eX12_tryThing_37 (L : pmL) (S : List Value) (g : pmH) : pmV mX12_tryThing 37 L S g = zPush mX12_tryThing 38 (.int (nI 1)) L S g := ez_iconst kcX12_tryThing dX12_tryThing_37 (by decide) rfl L S g
theorem eX12_tryThing_38 (L : pmL) (S : List Value) (g : pmH) : pmV mX12_tryThing 38 L S g = zPush mX12_tryThing 39 (.int (nI 1)) L S g := ez_iconst kcX12_tryThing dX12_tryThing_38 (by decide) rfl L S g
theorem eX12_tryThing_39 (L : pmL) (S : List Value) (g : pmH) : pmV mX12_tryThing 39 L S g = yV mX12_tryThing 42 2 mX12_passOn 12 8 L S g := (ez_virtual kcX12_tryThing dX12_tryThing_39 ml_12_177 rfl L S g).trans (zCallV_y rfl rfl (by decide) L S g)
theorem eX12_tryThing_42 (L : pmL) (S : List Value) (g : pmH) : pmV mX12_tryThing 42 L S g = zPop mX12_tryThing 43 L S g := ez_pop kcX12_tryThing dX12_tryThing_42 rfl L S g
theorem eX12_tryThing_43 (L : pmL) (S : List Value) (g : pmH) : pmV mX12_tryThing 43 L S g = zLdI mX12_tryThing 44 2 L S g := ez_iload_n kcX12_tryThing dX12_tryThing_43 rfl rfl L S g
theorem eX12_tryThing_44 (L : pmL) (S : List Value) (g : pmH) : pmV mX12_tryThing 44 L S g = zCne mX12_tryThing 47 55 L S g := ez_if_ne kcX12_tryThing dX12_tryThing_44 (by decide) rfl L S g
theorem eX12_tryThing_47 (L : pmL) (S : List Value) (g : pmH) : pmV mX12_tryThing 47 L S g = zLdI mX12_tryThing 48 3 L S g := ez_iload_n kcX12_tryThing dX12_tryThing_47 rfl rfl L S g
theorem eX12_tryThing_48 (L : pmL) (S : List Value) (g : pmH) : pmV mX12_tryThing 48 L S g = zCne mX12_tryThing 51 55 L S g := ez_if_ne kcX12_tryThing dX12_tryThing_48 (by decide) rfl L S g
theorem eX12_tryThing_51 (L : pmL) (S : List Value) (g : pmH) : pmV mX12_tryThing 51 L S g = zPush mX12_tryThing 52 (.int (nI 1)) L S g := ez_iconst kcX12_tryThing dX12_tryThing_51 (by decide) rfl L S g
theorem eX12_tryThing_52 (L : pmL) (S : List Value) (g : pmH) : pmV mX12_tryThing 52 L S g = zNx mX12_tryThing 56 L S g := ez_goto kcX12_tryThing dX12_tryThing_52 (by decide) L S g
theorem eX12_tryThing_55 (L : pmL) (S : List Value) (g : pmH) : pmV mX12_tryThing 55 L S g = zPush mX12_tryThing 56 (.int (nI 0)) L S g := ez_iconst kcX12_tryThing dX12_tryThing_55 (by decide) rfl L S g
theorem eX12_tryThing_56 (L : pmL) (S : List Value) (g : pmH) : pmV mX12_tryThing 56 L S g = zIret mX12_tryThing S g := ez_ireturn kcX12_tryThing dX12_tryThing_56 L S g
theorem eX12_tryThing_57 (L : pmL) (S : List Value) (g : pmH) : pmV mX12_tryThing 57 L S g = zLdI mX12_tryThing 58 2 L S g := ez_iload_n kcX12_tryThing dX12_tryThing_57 rfl rfl L S g
theorem eX12_tryThing_58 (L : pmL) (S : List Value) (g : pmH) : pmV mX12_tryThing 58 L S g = zCne mX12_tryThing 61 85 L S g := ez_if_ne kcX12_tryThing dX12_tryThing_58 (by decide) rfl L S g
theorem eX12_tryThing_61 (L : pmL) (S : List Value) (g : pmH) : pmV mX12_tryThing 61 L S g = zLdA mX12_tryThing 62 0 L S g := ez_aload_n kcX12_tryThing dX12_tryThing_61 rfl rfl L S g
theorem eX12_tryThing_62 (L : pmL) (S : List Value) (g : pmH) : pmV mX12_tryThing 62 L S g = zLdI mX12_tryThing 63 3 L S g := ez_iload_n kcX12_tryThing dX12_tryThing_62 rfl rfl L S g
theorem eX12_tryThing_63 (L : pmL) (S : List Value) (g : pmH) : pmV mX12_tryThing 63 L S g = yV mX12_tryThing 66 1 mX12_isBalloon 12 2 L S g := (ez_virtual kcX12_tryThing dX12_tryThing_63 ml_12_152 rfl L S g).trans (zCallV_y rfl rfl (by decide) L S g)
theorem eX12_tryThing_66 (L : pmL) (S : List Value) (g : pmH) : pmV mX12_tryThing 66 L S g = zCeq mX12_tryThing 69 85 L S g := ez_if_eq kcX12_tryThing dX12_tryThing_66 (by decide) rfl L S g
theorem eX12_tryThing_69 (L : pmL) (S : List Value) (g : pmH) : pmV mX12_tryThing 69 L S g = zLdA mX12_tryThing 70 0 L S g := ez_aload_n kcX12_tryThing dX12_tryThing_69 rfl rfl L S g
theorem eX12_tryThing_70 (L : pmL) (S : List Value) (g : pmH) : pmV mX12_tryThing 70 L S g = zGet mX12_tryThing 73 12 9 L S g := ez_getfield kcX12_tryThing dX12_tryThing_70 fl_12_28 rfl L S g
theorem eX12_tryThing_73 (L : pmL) (S : List Value) (g : pmH) : pmV mX12_tryThing 73 L S g = zPush mX12_tryThing 75 (.int (nI 36)) L S g := ez_bipush kcX12_tryThing dX12_tryThing_73 (by decide) rfl L S g
theorem eX12_tryThing_75 (L : pmL) (S : List Value) (g : pmH) : pmV mX12_tryThing 75 L S g = zLdI mX12_tryThing 76 3 L S g := ez_iload_n kcX12_tryThing dX12_tryThing_75 rfl rfl L S g
theorem eX12_tryThing_76 (L : pmL) (S : List Value) (g : pmH) : pmV mX12_tryThing 76 L S g = zAdd mX12_tryThing 77 L S g := ez_iadd kcX12_tryThing dX12_tryThing_76 rfl L S g
theorem eX12_tryThing_77 (L : pmL) (S : List Value) (g : pmH) : pmV mX12_tryThing 77 L S g = zIald mX12_tryThing 78 L S g := ez_iaload kcX12_tryThing dX12_tryThing_77 rfl L S g
theorem eX12_tryThing_78 (L : pmL) (S : List Value) (g : pmH) : pmV mX12_tryThing 78 L S g = zCne mX12_tryThing 81 85 L S g := ez_if_ne kcX12_tryThing dX12_tryThing_78 (by decide) rfl L S g
theorem eX12_tryThing_81 (L : pmL) (S : List Value) (g : pmH) : pmV mX12_tryThing 81 L S g = zPush mX12_tryThing 82 (.int (nI 1)) L S g := ez_iconst kcX12_tryThing dX12_tryThing_81 (by decide) rfl L S g
theorem eX12_tryThing_82 (L : pmL) (S : List Value) (g : pmH) : pmV mX12_tryThing 82 L S g = zNx mX12_tryThing 86 L S g := ez_goto kcX12_tryThing dX12_tryThing_82 (by decide) L S g
theorem eX12_tryThing_85 (L : pmL) (S : List Value) (g : pmH) : pmV mX12_tryThing 85 L S g = zPush mX12_tryThing 86 (.int (nI 0)) L S g := ez_iconst kcX12_tryThing dX12_tryThing_85 (by decide) rfl L S g
theorem eX12_tryThing_86 (L : pmL) (S : List Value) (g : pmH) : pmV mX12_tryThing 86 L S g = zStI mX12_tryThing 88 4 L S g := ez_istore kcX12_tryThing dX12_tryThing_86 rfl L S g
theorem eX12_tryThing_88 (L : pmL) (S : List Value) (g : pmH) : pmV mX12_tryThing 88 L S g = zLdI mX12_tryThing 90 4 L S g := ez_iload kcX12_tryThing dX12_tryThing_88 rfl L S g
theorem eX12_tryThing_90 (L : pmL) (S : List Value) (g : pmH) : pmV mX12_tryThing 90 L S g = zCeq mX12_tryThing 93 103 L S g := ez_if_eq kcX12_tryThing dX12_tryThing_90 (by decide) rfl L S g
theorem eX12_tryThing_93 (L : pmL) (S : List Value) (g : pmH) : pmV mX12_tryThing 93 L S g = zLdA mX12_tryThing 94 0 L S g := ez_aload_n kcX12_tryThing dX12_tryThing_93 rfl rfl L S g
theorem eX12_tryThing_94 (L : pmL) (S : List Value) (g : pmH) : pmV mX12_tryThing 94 L S g = zGet mX12_tryThing 97 12 9 L S g := ez_getfield kcX12_tryThing dX12_tryThing_94 fl_12_28 rfl L S g
theorem eX12_tryThing_97 (L : pmL) (S : List Value) (g : pmH) : pmV mX12_tryThing 97 L S g = zPush mX12_tryThing 99 (.int (nI 36)) L S g := ez_bipush kcX12_tryThing dX12_tryThing_97 (by decide) rfl L S g
theorem eX12_tryThing_99 (L : pmL) (S : List Value) (g : pmH) : pmV mX12_tryThing 99 L S g = zLdI mX12_tryThing 100 3 L S g := ez_iload_n kcX12_tryThing dX12_tryThing_99 rfl rfl L S g
theorem eX12_tryThing_100 (L : pmL) (S : List Value) (g : pmH) : pmV mX12_tryThing 100 L S g = zAdd mX12_tryThing 101 L S g := ez_iadd kcX12_tryThing dX12_tryThing_100 rfl L S g
theorem eX12_tryThing_101 (L : pmL) (S : List Value) (g : pmH) : pmV mX12_tryThing 101 L S g = zPush mX12_tryThing 102 (.int (nI 1)) L S g := ez_iconst kcX12_tryThing dX12_tryThing_101 (by decide) rfl L S g
theorem eX12_tryThing_102 (L : pmL) (S : List Value) (g : pmH) : pmV mX12_tryThing 102 L S g = zIast mX12_tryThing 103 L S g := ez_iastore kcX12_tryThing dX12_tryThing_102 rfl L S g
theorem eX12_tryThing_103 (L : pmL) (S : List Value) (g : pmH) : pmV mX12_tryThing 103 L S g = zLdI mX12_tryThing 105 4 L S g := ez_iload kcX12_tryThing dX12_tryThing_103 rfl L S g
theorem eX12_tryThing_105 (L : pmL) (S : List Value) (g : pmH) : pmV mX12_tryThing 105 L S g = zIret mX12_tryThing S g := ez_ireturn kcX12_tryThing dX12_tryThing_105 L S g
theorem eX12_tryThing_106 (L : pmL) (S : List Value) (g : pmH) : pmV mX12_tryThing 106 L S g = zLdI mX12_tryThing 107 2 L S g := ez_iload_n kcX12_tryThing dX12_tryThing_106 rfl rfl L S g
theorem eX12_tryThing_107 (L : pmL) (S : List Value) (g : pmH) : pmV mX12_tryThing 107 L S g = zCne mX12_tryThing 110 135 L S g := ez_if_ne kcX12_tryThing dX12_tryThing_107 (by decide) rfl L S g
theorem eX12_tryThing_110 (L : pmL) (S : List Value) (g : pmH) : pmV mX12_tryThing 110 L S g = zLdA mX12_tryThing 111 0 L S g := ez_aload_n kcX12_tryThing dX12_tryThing_110 rfl rfl L S g
theorem eX12_tryThing_111 (L : pmL) (S : List Value) (g : pmH) : pmV mX12_tryThing 111 L S g = zLdI mX12_tryThing 112 3 L S g := ez_iload_n kcX12_tryThing dX12_tryThing_111 rfl rfl L S g
theorem eX12_tryThing_112 (L : pmL) (S : List Value) (g : pmH) : pmV mX12_tryThing 112 L S g = yV mX12_tryThing 115 1 mX12_isBalloon 12 2 L S g := (ez_virtual kcX12_tryThing dX12_tryThing_112 ml_12_152 rfl L S g).trans (zCallV_y rfl rfl (by decide) L S g)
theorem eX12_tryThing_115 (L : pmL) (S : List Value) (g : pmH) : pmV mX12_tryThing 115 L S g = zCeq mX12_tryThing 118 135 L S g := ez_if_eq kcX12_tryThing dX12_tryThing_115 (by decide) rfl L S g
theorem eX12_tryThing_118 (L : pmL) (S : List Value) (g : pmH) : pmV mX12_tryThing 118 L S g = zLdA mX12_tryThing 119 0 L S g := ez_aload_n kcX12_tryThing dX12_tryThing_118 rfl rfl L S g
theorem eX12_tryThing_119 (L : pmL) (S : List Value) (g : pmH) : pmV mX12_tryThing 119 L S g = zGet mX12_tryThing 122 12 9 L S g := ez_getfield kcX12_tryThing dX12_tryThing_119 fl_12_28 rfl L S g
theorem eX12_tryThing_122 (L : pmL) (S : List Value) (g : pmH) : pmV mX12_tryThing 122 L S g = zPush mX12_tryThing 124 (.int (nI 36)) L S g := ez_bipush kcX12_tryThing dX12_tryThing_122 (by decide) rfl L S g
theorem eX12_tryThing_124 (L : pmL) (S : List Value) (g : pmH) : pmV mX12_tryThing 124 L S g = zLdI mX12_tryThing 125 3 L S g := ez_iload_n kcX12_tryThing dX12_tryThing_124 rfl rfl L S g
theorem eX12_tryThing_125 (L : pmL) (S : List Value) (g : pmH) : pmV mX12_tryThing 125 L S g = zAdd mX12_tryThing 126 L S g := ez_iadd kcX12_tryThing dX12_tryThing_125 rfl L S g
theorem eX12_tryThing_126 (L : pmL) (S : List Value) (g : pmH) : pmV mX12_tryThing 126 L S g = zIald mX12_tryThing 127 L S g := ez_iaload kcX12_tryThing dX12_tryThing_126 rfl L S g
theorem eX12_tryThing_127 (L : pmL) (S : List Value) (g : pmH) : pmV mX12_tryThing 127 L S g = zPush mX12_tryThing 128 (.int (nI 2)) L S g := ez_iconst kcX12_tryThing dX12_tryThing_127 (by decide) rfl L S g
theorem eX12_tryThing_128 (L : pmL) (S : List Value) (g : pmH) : pmV mX12_tryThing 128 L S g = zBne mX12_tryThing 131 135 L S g := ez_icmp_ne kcX12_tryThing dX12_tryThing_128 (by decide) rfl L S g
theorem eX12_tryThing_131 (L : pmL) (S : List Value) (g : pmH) : pmV mX12_tryThing 131 L S g = zPush mX12_tryThing 132 (.int (nI 1)) L S g := ez_iconst kcX12_tryThing dX12_tryThing_131 (by decide) rfl L S g
theorem eX12_tryThing_132 (L : pmL) (S : List Value) (g : pmH) : pmV mX12_tryThing 132 L S g = zNx mX12_tryThing 136 L S g := ez_goto kcX12_tryThing dX12_tryThing_132 (by decide) L S g
theorem eX12_tryThing_135 (L : pmL) (S : List Value) (g : pmH) : pmV mX12_tryThing 135 L S g = zPush mX12_tryThing 136 (.int (nI 0)) L S g := ez_iconst kcX12_tryThing dX12_tryThing_135 (by decide) rfl L S g
theorem eX12_tryThing_136 (L : pmL) (S : List Value) (g : pmH) : pmV mX12_tryThing 136 L S g = zStI mX12_tryThing 138 5 L S g := ez_istore kcX12_tryThing dX12_tryThing_136 rfl L S g
theorem eX12_tryThing_138 (L : pmL) (S : List Value) (g : pmH) : pmV mX12_tryThing 138 L S g = zLdI mX12_tryThing 140 5 L S g := ez_iload kcX12_tryThing dX12_tryThing_138 rfl L S g
theorem eX12_tryThing_140 (L : pmL) (S : List Value) (g : pmH) : pmV mX12_tryThing 140 L S g = zCeq mX12_tryThing 143 153 L S g := ez_if_eq kcX12_tryThing dX12_tryThing_140 (by decide) rfl L S g
theorem eX12_tryThing_143 (L : pmL) (S : List Value) (g : pmH) : pmV mX12_tryThing 143 L S g = zLdA mX12_tryThing 144 0 L S g := ez_aload_n kcX12_tryThing dX12_tryThing_143 rfl rfl L S g
theorem eX12_tryThing_144 (L : pmL) (S : List Value) (g : pmH) : pmV mX12_tryThing 144 L S g = zGet mX12_tryThing 147 12 9 L S g := ez_getfield kcX12_tryThing dX12_tryThing_144 fl_12_28 rfl L S g
theorem eX12_tryThing_147 (L : pmL) (S : List Value) (g : pmH) : pmV mX12_tryThing 147 L S g = zPush mX12_tryThing 149 (.int (nI 36)) L S g := ez_bipush kcX12_tryThing dX12_tryThing_147 (by decide) rfl L S g
theorem eX12_tryThing_149 (L : pmL) (S : List Value) (g : pmH) : pmV mX12_tryThing 149 L S g = zLdI mX12_tryThing 150 3 L S g := ez_iload_n kcX12_tryThing dX12_tryThing_149 rfl rfl L S g
theorem eX12_tryThing_150 (L : pmL) (S : List Value) (g : pmH) : pmV mX12_tryThing 150 L S g = zAdd mX12_tryThing 151 L S g := ez_iadd kcX12_tryThing dX12_tryThing_150 rfl L S g
theorem eX12_tryThing_151 (L : pmL) (S : List Value) (g : pmH) : pmV mX12_tryThing 151 L S g = zPush mX12_tryThing 152 (.int (nI 1)) L S g := ez_iconst kcX12_tryThing dX12_tryThing_151 (by decide) rfl L S g
theorem eX12_tryThing_152 (L : pmL) (S : List Value) (g : pmH) : pmV mX12_tryThing 152 L S g = zIast mX12_tryThing 153 L S g := ez_iastore kcX12_tryThing dX12_tryThing_152 rfl L S g
theorem eX12_tryThing_153 (L : pmL) (S : List Value) (g : pmH) : pmV mX12_tryThing 153 L S g = zLdI mX12_tryThing 155 5 L S g := ez_iload kcX12_tryThing dX12_tryThing_153 rfl L S g
theorem eX12_tryThing_155 (L : pmL) (S : List Value) (g : pmH) : pmV mX12_tryThing 155 L S g = zIret mX12_tryThing S g := ez_ireturn kcX12_tryThing dX12_tryThing_155 L S g
theorem eX12_tryThing_156 (L : pmL) (S : List Value) (g : pmH) : pmV mX12_tryThing 156 L S g = zLdA mX12_tryThing 157 0 L S g := ez_aload_n kcX12_tryThing dX12_tryThing_156 rfl rfl L S g
theorem eX12_tryThing_157 (L : pmL) (S : List Value) (g : pmH) : pmV mX12_tryThing 157 L S g = zLdI mX12_tryThing 158 2 L S g := ez_iload_n kcX12_tryThing dX12_tryThing_157 rfl rfl L S g
theorem eX12_tryThing_158 (L : pmL) (S : List Value) (g : pmH) : pmV mX12_tryThing 158 L S g = yV mX12_tryThing 161 1 mX12_isBalloon 12 2 L S g := (ez_virtual kcX12_tryThing dX12_tryThing_158 ml_12_152 rfl L S g).trans (zCallV_y rfl rfl (by decide) L S g)
theorem eX12_tryThing_161 (L : pmL) (S : List Value) (g : pmH) : pmV mX12_tryThing 161 L S g = zCeq mX12_tryThing 164 181 L S g := ez_if_eq kcX12_tryThing dX12_tryThing_161 (by decide) rfl L S g
theorem eX12_tryThing_164 (L : pmL) (S : List Value) (g : pmH) : pmV mX12_tryThing 164 L S g = zLdA mX12_tryThing 165 0 L S g := ez_aload_n kcX12_tryThing dX12_tryThing_164 rfl rfl L S g
theorem eX12_tryThing_165 (L : pmL) (S : List Value) (g : pmH) : pmV mX12_tryThing 165 L S g = zLdI mX12_tryThing 166 3 L S g := ez_iload_n kcX12_tryThing dX12_tryThing_165 rfl rfl L S g
theorem eX12_tryThing_166 (L : pmL) (S : List Value) (g : pmH) : pmV mX12_tryThing 166 L S g = yV mX12_tryThing 169 1 mX12_isBalloon 12 2 L S g := (ez_virtual kcX12_tryThing dX12_tryThing_166 ml_12_152 rfl L S g).trans (zCallV_y rfl rfl (by decide) L S g)
theorem eX12_tryThing_169 (L : pmL) (S : List Value) (g : pmH) : pmV mX12_tryThing 169 L S g = zCeq mX12_tryThing 172 181 L S g := ez_if_eq kcX12_tryThing dX12_tryThing_169 (by decide) rfl L S g
theorem eX12_tryThing_172 (L : pmL) (S : List Value) (g : pmH) : pmV mX12_tryThing 172 L S g = zLdI mX12_tryThing 173 2 L S g := ez_iload_n kcX12_tryThing dX12_tryThing_172 rfl rfl L S g
theorem eX12_tryThing_173 (L : pmL) (S : List Value) (g : pmH) : pmV mX12_tryThing 173 L S g = zLdI mX12_tryThing 174 3 L S g := ez_iload_n kcX12_tryThing dX12_tryThing_173 rfl rfl L S g
theorem eX12_tryThing_174 (L : pmL) (S : List Value) (g : pmH) : pmV mX12_tryThing 174 L S g = zBeq mX12_tryThing 177 181 L S g := ez_icmp_eq kcX12_tryThing dX12_tryThing_174 (by decide) rfl L S g
theorem eX12_tryThing_177 (L : pmL) (S : List Value) (g : pmH) : pmV mX12_tryThing 177 L S g = zPush mX12_tryThing 178 (.int (nI 1)) L S g := ez_iconst kcX12_tryThing dX12_tryThing_177 (by decide) rfl L S g
theorem eX12_tryThing_178 (L : pmL) (S : List Value) (g : pmH) : pmV mX12_tryThing 178 L S g = zNx mX12_tryThing 182 L S g := ez_goto kcX12_tryThing dX12_tryThing_178 (by decide) L S g
theorem eX12_tryThing_181 (L : pmL) (S : List Value) (g : pmH) : pmV mX12_tryThing 181 L S g = zPush mX12_tryThing 182 (.int (nI 0)) L S g := ez_iconst kcX12_tryThing dX12_tryThing_181 (by decide) rfl L S g
theorem eX12_tryThing_182 (L : pmL) (S : List Value) (g : pmH) : pmV mX12_tryThing 182 L S g = zStI mX12_tryThing 184 6 L S g := ez_istore kcX12_tryThing dX12_tryThing_182 rfl L S g
theorem eX12_tryThing_184 (L : pmL) (S : List Value) (g : pmH) : pmV mX12_tryThing 184 L S g = zLdI mX12_tryThing 186 6 L S g := ez_iload kcX12_tryThing dX12_tryThing_184 rfl L S g
theorem eX12_tryThing_186 (L : pmL) (S : List Value) (g : pmH) : pmV mX12_tryThing 186 L S g = zCeq mX12_tryThing 189 196 L S g := ez_if_eq kcX12_tryThing dX12_tryThing_186 (by decide) rfl L S g
theorem eX12_tryThing_189 (L : pmL) (S : List Value) (g : pmH) : pmV mX12_tryThing 189 L S g = zLdA mX12_tryThing 190 0 L S g := ez_aload_n kcX12_tryThing dX12_tryThing_189 rfl rfl L S g
theorem eX12_tryThing_190 (L : pmL) (S : List Value) (g : pmH) : pmV mX12_tryThing 190 L S g = zPush mX12_tryThing 191 (.int (nI 1)) L S g := ez_iconst kcX12_tryThing dX12_tryThing_190 (by decide) rfl L S g
theorem eX12_tryThing_191 (L : pmL) (S : List Value) (g : pmH) : pmV mX12_tryThing 191 L S g = zLdI mX12_tryThing 192 2 L S g := ez_iload_n kcX12_tryThing dX12_tryThing_191 rfl rfl L S g
theorem eX12_tryThing_192 (L : pmL) (S : List Value) (g : pmH) : pmV mX12_tryThing 192 L S g = zLdI mX12_tryThing 193 3 L S g := ez_iload_n kcX12_tryThing dX12_tryThing_192 rfl rfl L S g
theorem eX12_tryThing_193 (L : pmL) (S : List Value) (g : pmH) : pmV mX12_tryThing 193 L S g = yV mX12_tryThing 196 3 mX12_exchange 12 6 L S g := (ez_virtual kcX12_tryThing dX12_tryThing_193 ml_12_181 rfl L S g).trans (zCallV_y rfl rfl (by decide) L S g)
theorem eX12_tryThing_196 (L : pmL) (S : List Value) (g : pmH) : pmV mX12_tryThing 196 L S g = zLdI mX12_tryThing 198 6 L S g := ez_iload kcX12_tryThing dX12_tryThing_196 rfl L S g
theorem eX12_tryThing_198 (L : pmL) (S : List Value) (g : pmH) : pmV mX12_tryThing 198 L S g = zIret mX12_tryThing S g := ez_ireturn kcX12_tryThing dX12_tryThing_198 L S g
theorem eX12_tryThing_199 (L : pmL) (S : List Value) (g : pmH) : pmV mX12_tryThing 199 L S g = zLdI mX12_tryThing 200 2 L S g := ez_iload_n kcX12_tryThing dX12_tryThing_199 rfl rfl L S g
theorem eX12_tryThing_200 (L : pmL) (S : List Value) (g : pmH) : pmV mX12_tryThing 200 L S g = zCne mX12_tryThing 203 227 L S g := ez_if_ne kcX12_tryThing dX12_tryThing_200 (by decide) rfl L S g
theorem eX12_tryThing_203 (L : pmL) (S : List Value) (g : pmH) : pmV mX12_tryThing 203 L S g = zLdA mX12_tryThing 204 0 L S g := ez_aload_n kcX12_tryThing dX12_tryThing_203 rfl rfl L S g
theorem eX12_tryThing_204 (L : pmL) (S : List Value) (g : pmH) : pmV mX12_tryThing 204 L S g = zLdI mX12_tryThing 205 3 L S g := ez_iload_n kcX12_tryThing dX12_tryThing_204 rfl rfl L S g
theorem eX12_tryThing_205 (L : pmL) (S : List Value) (g : pmH) : pmV mX12_tryThing 205 L S g = yV mX12_tryThing 208 1 mX12_isBalloon 12 2 L S g := (ez_virtual kcX12_tryThing dX12_tryThing_205 ml_12_152 rfl L S g).trans (zCallV_y rfl rfl (by decide) L S g)
theorem eX12_tryThing_208 (L : pmL) (S : List Value) (g : pmH) : pmV mX12_tryThing 208 L S g = zCeq mX12_tryThing 211 227 L S g := ez_if_eq kcX12_tryThing dX12_tryThing_208 (by decide) rfl L S g
theorem eX12_tryThing_211 (L : pmL) (S : List Value) (g : pmH) : pmV mX12_tryThing 211 L S g = zLdA mX12_tryThing 212 0 L S g := ez_aload_n kcX12_tryThing dX12_tryThing_211 rfl rfl L S g
theorem eX12_tryThing_212 (L : pmL) (S : List Value) (g : pmH) : pmV mX12_tryThing 212 L S g = zPush mX12_tryThing 213 (.int (nI 1)) L S g := ez_iconst kcX12_tryThing dX12_tryThing_212 (by decide) rfl L S g
theorem eX12_tryThing_213 (L : pmL) (S : List Value) (g : pmH) : pmV mX12_tryThing 213 L S g = yV mX12_tryThing 216 1 mX12_glad 12 5 L S g := (ez_virtual kcX12_tryThing dX12_tryThing_213 ml_12_156 rfl L S g).trans (zCallV_y rfl rfl (by decide) L S g)
theorem eX12_tryThing_216 (L : pmL) (S : List Value) (g : pmH) : pmV mX12_tryThing 216 L S g = zLdI mX12_tryThing 217 3 L S g := ez_iload_n kcX12_tryThing dX12_tryThing_216 rfl rfl L S g
theorem eX12_tryThing_217 (L : pmL) (S : List Value) (g : pmH) : pmV mX12_tryThing 217 L S g = yS mX12_tryThing 220 2 mX12_has 2 L S g := (ez_static kcX12_tryThing dX12_tryThing_217 ml_12_86 (by decide) rfl L S g).trans (zCall_y rfl (by decide) L S g)
theorem eX12_tryThing_220 (L : pmL) (S : List Value) (g : pmH) : pmV mX12_tryThing 220 L S g = zCeq mX12_tryThing 223 227 L S g := ez_if_eq kcX12_tryThing dX12_tryThing_220 (by decide) rfl L S g
theorem eX12_tryThing_223 (L : pmL) (S : List Value) (g : pmH) : pmV mX12_tryThing 223 L S g = zPush mX12_tryThing 224 (.int (nI 1)) L S g := ez_iconst kcX12_tryThing dX12_tryThing_223 (by decide) rfl L S g
theorem eX12_tryThing_224 (L : pmL) (S : List Value) (g : pmH) : pmV mX12_tryThing 224 L S g = zNx mX12_tryThing 228 L S g := ez_goto kcX12_tryThing dX12_tryThing_224 (by decide) L S g
theorem eX12_tryThing_227 (L : pmL) (S : List Value) (g : pmH) : pmV mX12_tryThing 227 L S g = zPush mX12_tryThing 228 (.int (nI 0)) L S g := ez_iconst kcX12_tryThing dX12_tryThing_227 (by decide) rfl L S g
theorem eX12_tryThing_228 (L : pmL) (S : List Value) (g : pmH) : pmV mX12_tryThing 228 L S g = zIret mX12_tryThing S g := ez_ireturn kcX12_tryThing dX12_tryThing_228 L S g
theorem eX12_tryThing_229 (L : pmL) (S : List Value) (g : pmH) : pmV mX12_tryThing 229 L S g = zPush mX12_tryThing 230 (.int (nI 0)) L S g := ez_iconst kcX12_tryThing dX12_tryThing_229 (by decide) rfl L S g
theorem eX12_tryThing_230 (L : pmL) (S : List Value) (g : pmH) : pmV mX12_tryThing 230 L S g = zIret mX12_tryThing S g := ez_ireturn kcX12_tryThing dX12_tryThing_230 L S g
theorem eX12_thousandTo_0 (L : pmL) (S : List Value) (g : pmH) : pmV mX12_thousandTo 0 L S g = zPush mX12_thousandTo 1 (.long (lN 1)) L S g := ez_lconst kcX12_thousandTo dX12_thousandTo_0 rfl rfl L S g
theorem eX12_thousandTo_1 (L : pmL) (S : List Value) (g : pmH) : pmV mX12_thousandTo 1 L S g = zStJ mX12_thousandTo 2 1 L S g := ez_lstore_n kcX12_thousandTo dX12_thousandTo_1 rfl rfl L S g
theorem eX12_thousandTo_2 (L : pmL) (S : List Value) (g : pmH) : pmV mX12_thousandTo 2 L S g = zPush mX12_thousandTo 3 (.int (nI 0)) L S g := ez_iconst kcX12_thousandTo dX12_thousandTo_2 (by decide) rfl L S g
theorem eX12_thousandTo_3 (L : pmL) (S : List Value) (g : pmH) : pmV mX12_thousandTo 3 L S g = zStI mX12_thousandTo 4 3 L S g := ez_istore_n kcX12_thousandTo dX12_thousandTo_3 rfl rfl L S g
theorem eX12_thousandTo_4 (L : pmL) (S : List Value) (g : pmH) : pmV mX12_thousandTo 4 L S g = zLdI mX12_thousandTo 5 3 L S g := ez_iload_n kcX12_thousandTo dX12_thousandTo_4 rfl rfl L S g
theorem eX12_thousandTo_5 (L : pmL) (S : List Value) (g : pmH) : pmV mX12_thousandTo 5 L S g = zLdI mX12_thousandTo 6 0 L S g := ez_iload_n kcX12_thousandTo dX12_thousandTo_5 rfl rfl L S g
theorem eX12_thousandTo_6 (L : pmL) (S : List Value) (g : pmH) : pmV mX12_thousandTo 6 L S g = zBge mX12_thousandTo 9 21 L S g := ez_icmp_ge kcX12_thousandTo dX12_thousandTo_6 (by decide) rfl L S g
theorem eX12_thousandTo_9 (L : pmL) (S : List Value) (g : pmH) : pmV mX12_thousandTo 9 L S g = zLdJ mX12_thousandTo 10 1 L S g := ez_lload_n kcX12_thousandTo dX12_thousandTo_9 rfl rfl L S g
theorem eX12_thousandTo_10 (L : pmL) (S : List Value) (g : pmH) : pmV mX12_thousandTo 10 L S g = zPush mX12_thousandTo 13 (.long (lN 1000)) L S g := ez_ldc2_w kcX12_thousandTo dX12_thousandTo_10 jl_12_207 rfl L S g
theorem eX12_thousandTo_13 (L : pmL) (S : List Value) (g : pmH) : pmV mX12_thousandTo 13 L S g = zJMul mX12_thousandTo 14 L S g := ez_lmul kcX12_thousandTo dX12_thousandTo_13 rfl L S g
theorem eX12_thousandTo_14 (L : pmL) (S : List Value) (g : pmH) : pmV mX12_thousandTo 14 L S g = zStJ mX12_thousandTo 15 1 L S g := ez_lstore_n kcX12_thousandTo dX12_thousandTo_14 rfl rfl L S g
theorem eX12_thousandTo_15 (L : pmL) (S : List Value) (g : pmH) : pmV mX12_thousandTo 15 L S g = zInc mX12_thousandTo 18 3 (nI 1) L S g := ez_iinc kcX12_thousandTo dX12_thousandTo_15 (by decide) rfl L S g
theorem eX12_thousandTo_18 (L : pmL) (S : List Value) (g : pmH) : pmV mX12_thousandTo 18 L S g = zNx mX12_thousandTo 4 L S g := ez_goto kcX12_thousandTo dX12_thousandTo_18 (by decide) L S g
theorem eX12_thousandTo_21 (L : pmL) (S : List Value) (g : pmH) : pmV mX12_thousandTo 21 L S g = zLdJ mX12_thousandTo 22 1 L S g := ez_lload_n kcX12_thousandTo dX12_thousandTo_21 rfl rfl L S g
theorem eX12_thousandTo_22 (L : pmL) (S : List Value) (g : pmH) : pmV mX12_thousandTo 22 L S g = zLret S g := ez_lreturn kcX12_thousandTo dX12_thousandTo_22 rfl L S g
theorem eX12_judge_0 (L : pmL) (S : List Value) (g : pmH) : pmV mX12_judge 0 L S g = zLdI mX12_judge 1 1 L S g := ez_iload_n kcX12_judge dX12_judge_0 rfl rfl L S g
theorem eX12_judge_1 (L : pmL) (S : List Value) (g : pmH) : pmV mX12_judge 1 L S g = zI2l mX12_judge 2 L S g := ez_i2l kcX12_judge dX12_judge_1 rfl L S g
theorem eX12_judge_2 (L : pmL) (S : List Value) (g : pmH) : pmV mX12_judge 2 L S g = zPush mX12_judge 3 (.long (lN 1)) L S g := ez_lconst kcX12_judge dX12_judge_2 rfl rfl L S g
theorem eX12_judge_3 (L : pmL) (S : List Value) (g : pmH) : pmV mX12_judge 3 L S g = zPush mX12_judge 6 (.long (lN 4)) L S g := ez_ldc2_w kcX12_judge dX12_judge_3 jl_12_209 rfl L S g
theorem eX12_judge_6 (L : pmL) (S : List Value) (g : pmH) : pmV mX12_judge 6 L S g = yS mX12_judge 9 3 mX12_in 6 L S g := (ez_static kcX12_judge dX12_judge_6 ml_12_71 (by decide) rfl L S g).trans (zCall_y rfl (by decide) L S g)
theorem eX12_judge_9 (L : pmL) (S : List Value) (g : pmH) : pmV mX12_judge 9 L S g = zCeq mX12_judge 12 26 L S g := ez_if_eq kcX12_judge dX12_judge_9 (by decide) rfl L S g
theorem eX12_judge_12 (L : pmL) (S : List Value) (g : pmH) : pmV mX12_judge 12 L S g = zLdJ mX12_judge 13 2 L S g := ez_lload_n kcX12_judge dX12_judge_12 rfl rfl L S g
theorem eX12_judge_13 (L : pmL) (S : List Value) (g : pmH) : pmV mX12_judge 13 L S g = zPush mX12_judge 14 (.long (lN 0)) L S g := ez_lconst kcX12_judge dX12_judge_13 rfl rfl L S g
theorem eX12_judge_14 (L : pmL) (S : List Value) (g : pmH) : pmV mX12_judge 14 L S g = zLdI mX12_judge 15 1 L S g := ez_iload_n kcX12_judge dX12_judge_14 rfl rfl L S g
theorem eX12_judge_15 (L : pmL) (S : List Value) (g : pmH) : pmV mX12_judge 15 L S g = yS mX12_judge 18 1 mX12_thousandTo 4 L S g := (ez_static kcX12_judge dX12_judge_15 ml_12_211 (by decide) rfl L S g).trans (zCall_y rfl (by decide) L S g)
theorem eX12_judge_18 (L : pmL) (S : List Value) (g : pmH) : pmV mX12_judge 18 L S g = zPush mX12_judge 19 (.long (lN 1)) L S g := ez_lconst kcX12_judge dX12_judge_18 rfl rfl L S g
theorem eX12_judge_19 (L : pmL) (S : List Value) (g : pmH) : pmV mX12_judge 19 L S g = zJSub mX12_judge 20 L S g := ez_lsub kcX12_judge dX12_judge_19 rfl L S g
theorem eX12_judge_20 (L : pmL) (S : List Value) (g : pmH) : pmV mX12_judge 20 L S g = yS mX12_judge 23 3 mX12_in 6 L S g := (ez_static kcX12_judge dX12_judge_20 ml_12_71 (by decide) rfl L S g).trans (zCall_y rfl (by decide) L S g)
theorem eX12_judge_23 (L : pmL) (S : List Value) (g : pmH) : pmV mX12_judge 23 L S g = zCne mX12_judge 26 29 L S g := ez_if_ne kcX12_judge dX12_judge_23 (by decide) rfl L S g
theorem eX12_judge_26 (L : pmL) (S : List Value) (g : pmH) : pmV mX12_judge 26 L S g = zPush mX12_judge 28 (.int (-2)) L S g := ez_bipush kcX12_judge dX12_judge_26 (by decide) rfl L S g
theorem eX12_judge_28 (L : pmL) (S : List Value) (g : pmH) : pmV mX12_judge 28 L S g = zIret mX12_judge S g := ez_ireturn kcX12_judge dX12_judge_28 L S g
theorem eX12_judge_29 (L : pmL) (S : List Value) (g : pmH) : pmV mX12_judge 29 L S g = zLdA mX12_judge 30 0 L S g := ez_aload_n kcX12_judge dX12_judge_29 rfl rfl L S g
theorem eX12_judge_30 (L : pmL) (S : List Value) (g : pmH) : pmV mX12_judge 30 L S g = yV mX12_judge 33 0 mX12_layTrial 12 2 L S g := (ez_virtual kcX12_judge dX12_judge_30 ml_12_186 rfl L S g).trans (zCallV_y rfl rfl (by decide) L S g)
theorem eX12_judge_33 (L : pmL) (S : List Value) (g : pmH) : pmV mX12_judge 33 L S g = zPush mX12_judge 34 (.int (nI 0)) L S g := ez_iconst kcX12_judge dX12_judge_33 (by decide) rfl L S g
theorem eX12_judge_34 (L : pmL) (S : List Value) (g : pmH) : pmV mX12_judge 34 L S g = zStI mX12_judge 36 4 L S g := ez_istore kcX12_judge dX12_judge_34 rfl L S g
theorem eX12_judge_36 (L : pmL) (S : List Value) (g : pmH) : pmV mX12_judge 36 L S g = zLdI mX12_judge 38 4 L S g := ez_iload kcX12_judge dX12_judge_36 rfl L S g
theorem eX12_judge_38 (L : pmL) (S : List Value) (g : pmH) : pmV mX12_judge 38 L S g = zLdI mX12_judge 39 1 L S g := ez_iload_n kcX12_judge dX12_judge_38 rfl rfl L S g
theorem eX12_judge_39 (L : pmL) (S : List Value) (g : pmH) : pmV mX12_judge 39 L S g = zBge mX12_judge 42 94 L S g := ez_icmp_ge kcX12_judge dX12_judge_39 (by decide) rfl L S g
theorem eX12_judge_42 (L : pmL) (S : List Value) (g : pmH) : pmV mX12_judge 42 L S g = zLdJ mX12_judge 43 2 L S g := ez_lload_n kcX12_judge dX12_judge_42 rfl rfl L S g
theorem eX12_judge_43 (L : pmL) (S : List Value) (g : pmH) : pmV mX12_judge 43 L S g = zLdI mX12_judge 44 1 L S g := ez_iload_n kcX12_judge dX12_judge_43 rfl rfl L S g
theorem eX12_judge_44 (L : pmL) (S : List Value) (g : pmH) : pmV mX12_judge 44 L S g = zPush mX12_judge 45 (.int (nI 1)) L S g := ez_iconst kcX12_judge dX12_judge_44 (by decide) rfl L S g
theorem eX12_judge_45 (L : pmL) (S : List Value) (g : pmH) : pmV mX12_judge 45 L S g = zSub mX12_judge 46 L S g := ez_isub kcX12_judge dX12_judge_45 rfl L S g
theorem eX12_judge_46 (L : pmL) (S : List Value) (g : pmH) : pmV mX12_judge 46 L S g = zLdI mX12_judge 48 4 L S g := ez_iload kcX12_judge dX12_judge_46 rfl L S g
theorem eX12_judge_48 (L : pmL) (S : List Value) (g : pmH) : pmV mX12_judge 48 L S g = zSub mX12_judge 49 L S g := ez_isub kcX12_judge dX12_judge_48 rfl L S g
theorem eX12_judge_49 (L : pmL) (S : List Value) (g : pmH) : pmV mX12_judge 49 L S g = yS mX12_judge 52 1 mX12_thousandTo 4 L S g := (ez_static kcX12_judge dX12_judge_49 ml_12_211 (by decide) rfl L S g).trans (zCall_y rfl (by decide) L S g)
theorem eX12_judge_52 (L : pmL) (S : List Value) (g : pmH) : pmV mX12_judge 52 L S g = zJDiv mX12_judge 53 L S g := ez_ldiv kcX12_judge dX12_judge_52 rfl L S g
theorem eX12_judge_53 (L : pmL) (S : List Value) (g : pmH) : pmV mX12_judge 53 L S g = zPush mX12_judge 56 (.long (lN 1000)) L S g := ez_ldc2_w kcX12_judge dX12_judge_53 jl_12_207 rfl L S g
theorem eX12_judge_56 (L : pmL) (S : List Value) (g : pmH) : pmV mX12_judge 56 L S g = zJRem mX12_judge 57 L S g := ez_lrem kcX12_judge dX12_judge_56 rfl L S g
theorem eX12_judge_57 (L : pmL) (S : List Value) (g : pmH) : pmV mX12_judge 57 L S g = zL2i mX12_judge 58 L S g := ez_l2i kcX12_judge dX12_judge_57 rfl L S g
theorem eX12_judge_58 (L : pmL) (S : List Value) (g : pmH) : pmV mX12_judge 58 L S g = zStI mX12_judge 60 5 L S g := ez_istore kcX12_judge dX12_judge_58 rfl L S g
theorem eX12_judge_60 (L : pmL) (S : List Value) (g : pmH) : pmV mX12_judge 60 L S g = zLdA mX12_judge 61 0 L S g := ez_aload_n kcX12_judge dX12_judge_60 rfl rfl L S g
theorem eX12_judge_61 (L : pmL) (S : List Value) (g : pmH) : pmV mX12_judge 61 L S g = zLdI mX12_judge 63 5 L S g := ez_iload kcX12_judge dX12_judge_61 rfl L S g
theorem eX12_judge_63 (L : pmL) (S : List Value) (g : pmH) : pmV mX12_judge 63 L S g = zPush mX12_judge 65 (.int (nI 100)) L S g := ez_bipush kcX12_judge dX12_judge_63 (by decide) rfl L S g
theorem eX12_judge_65 (L : pmL) (S : List Value) (g : pmH) : pmV mX12_judge 65 L S g = zDiv mX12_judge 66 L S g := ez_idiv kcX12_judge dX12_judge_65 rfl L S g
theorem eX12_judge_66 (L : pmL) (S : List Value) (g : pmH) : pmV mX12_judge 66 L S g = zLdI mX12_judge 68 5 L S g := ez_iload kcX12_judge dX12_judge_66 rfl L S g
theorem eX12_judge_68 (L : pmL) (S : List Value) (g : pmH) : pmV mX12_judge 68 L S g = zPush mX12_judge 70 (.int (nI 10)) L S g := ez_bipush kcX12_judge dX12_judge_68 (by decide) rfl L S g
theorem eX12_judge_70 (L : pmL) (S : List Value) (g : pmH) : pmV mX12_judge 70 L S g = zDiv mX12_judge 71 L S g := ez_idiv kcX12_judge dX12_judge_70 rfl L S g
theorem eX12_judge_71 (L : pmL) (S : List Value) (g : pmH) : pmV mX12_judge 71 L S g = zPush mX12_judge 73 (.int (nI 10)) L S g := ez_bipush kcX12_judge dX12_judge_71 (by decide) rfl L S g
theorem eX12_judge_73 (L : pmL) (S : List Value) (g : pmH) : pmV mX12_judge 73 L S g = zRem mX12_judge 74 L S g := ez_irem kcX12_judge dX12_judge_73 rfl L S g
theorem eX12_judge_74 (L : pmL) (S : List Value) (g : pmH) : pmV mX12_judge 74 L S g = zLdI mX12_judge 76 5 L S g := ez_iload kcX12_judge dX12_judge_74 rfl L S g
theorem eX12_judge_76 (L : pmL) (S : List Value) (g : pmH) : pmV mX12_judge 76 L S g = zPush mX12_judge 78 (.int (nI 10)) L S g := ez_bipush kcX12_judge dX12_judge_76 (by decide) rfl L S g
theorem eX12_judge_78 (L : pmL) (S : List Value) (g : pmH) : pmV mX12_judge 78 L S g = zRem mX12_judge 79 L S g := ez_irem kcX12_judge dX12_judge_78 rfl L S g
theorem eX12_judge_79 (L : pmL) (S : List Value) (g : pmH) : pmV mX12_judge 79 L S g = yV mX12_judge 82 3 mX12_tryThing 12 7 L S g := (ez_virtual kcX12_judge dX12_judge_79 ml_12_215 rfl L S g).trans (zCallV_y rfl rfl (by decide) L S g)
theorem eX12_judge_82 (L : pmL) (S : List Value) (g : pmH) : pmV mX12_judge 82 L S g = zCne mX12_judge 85 88 L S g := ez_if_ne kcX12_judge dX12_judge_82 (by decide) rfl L S g
theorem eX12_judge_85 (L : pmL) (S : List Value) (g : pmH) : pmV mX12_judge 85 L S g = zLdI mX12_judge 87 4 L S g := ez_iload kcX12_judge dX12_judge_85 rfl L S g
theorem eX12_judge_87 (L : pmL) (S : List Value) (g : pmH) : pmV mX12_judge 87 L S g = zIret mX12_judge S g := ez_ireturn kcX12_judge dX12_judge_87 L S g
theorem eX12_judge_88 (L : pmL) (S : List Value) (g : pmH) : pmV mX12_judge 88 L S g = zInc mX12_judge 91 4 (nI 1) L S g := ez_iinc kcX12_judge dX12_judge_88 (by decide) rfl L S g
theorem eX12_judge_91 (L : pmL) (S : List Value) (g : pmH) : pmV mX12_judge 91 L S g = zNx mX12_judge 36 L S g := ez_goto kcX12_judge dX12_judge_91 (by decide) L S g
theorem eX12_judge_94 (L : pmL) (S : List Value) (g : pmH) : pmV mX12_judge 94 L S g = zPush mX12_judge 96 (.int (-9)) L S g := ez_bipush kcX12_judge dX12_judge_94 (by decide) rfl L S g
theorem eX12_judge_96 (L : pmL) (S : List Value) (g : pmH) : pmV mX12_judge 96 L S g = zIret mX12_judge S g := ez_ireturn kcX12_judge dX12_judge_96 L S g
theorem eX12_find_0 (L : pmL) (S : List Value) (g : pmH) : pmV mX12_find 0 L S g = zLdI mX12_find 1 1 L S g := ez_iload_n kcX12_find dX12_find_0 rfl rfl L S g
theorem eX12_find_1 (L : pmL) (S : List Value) (g : pmH) : pmV mX12_find 1 L S g = yS mX12_find 4 1 mX12_isCell 1 L S g := (ez_static kcX12_find dX12_find_1 ml_12_219 (by decide) rfl L S g).trans (zCall_y rfl (by decide) L S g)
theorem eX12_find_4 (L : pmL) (S : List Value) (g : pmH) : pmV mX12_find 4 L S g = zCne mX12_find 7 9 L S g := ez_if_ne kcX12_find dX12_find_4 (by decide) rfl L S g
theorem eX12_find_7 (L : pmL) (S : List Value) (g : pmH) : pmV mX12_find 7 L S g = zPush mX12_find 8 (.int (-1)) L S g := ez_iconst kcX12_find dX12_find_7 (by decide) rfl L S g
theorem eX12_find_8 (L : pmL) (S : List Value) (g : pmH) : pmV mX12_find 8 L S g = zIret mX12_find S g := ez_ireturn kcX12_find dX12_find_8 L S g
theorem eX12_find_9 (L : pmL) (S : List Value) (g : pmH) : pmV mX12_find 9 L S g = zLdI mX12_find 10 2 L S g := ez_iload_n kcX12_find dX12_find_9 rfl rfl L S g
theorem eX12_find_10 (L : pmL) (S : List Value) (g : pmH) : pmV mX12_find 10 L S g = zI2l mX12_find 11 L S g := ez_i2l kcX12_find dX12_find_10 rfl L S g
theorem eX12_find_11 (L : pmL) (S : List Value) (g : pmH) : pmV mX12_find 11 L S g = zPush mX12_find 12 (.long (lN 0)) L S g := ez_lconst kcX12_find dX12_find_11 rfl rfl L S g
theorem eX12_find_12 (L : pmL) (S : List Value) (g : pmH) : pmV mX12_find 12 L S g = zPush mX12_find 15 (.long (lN 9)) L S g := ez_ldc2_w kcX12_find dX12_find_12 jl_12_222 rfl L S g
theorem eX12_find_15 (L : pmL) (S : List Value) (g : pmH) : pmV mX12_find 15 L S g = yS mX12_find 18 3 mX12_in 6 L S g := (ez_static kcX12_find dX12_find_15 ml_12_71 (by decide) rfl L S g).trans (zCall_y rfl (by decide) L S g)
theorem eX12_find_18 (L : pmL) (S : List Value) (g : pmH) : pmV mX12_find 18 L S g = zCne mX12_find 21 24 L S g := ez_if_ne kcX12_find dX12_find_18 (by decide) rfl L S g
theorem eX12_find_21 (L : pmL) (S : List Value) (g : pmH) : pmV mX12_find 21 L S g = zPush mX12_find 23 (.int (-2)) L S g := ez_bipush kcX12_find dX12_find_21 (by decide) rfl L S g
theorem eX12_find_23 (L : pmL) (S : List Value) (g : pmH) : pmV mX12_find 23 L S g = zIret mX12_find S g := ez_ireturn kcX12_find dX12_find_23 L S g
theorem eX12_find_24 (L : pmL) (S : List Value) (g : pmH) : pmV mX12_find 24 L S g = zLdA mX12_find 25 0 L S g := ez_aload_n kcX12_find dX12_find_24 rfl rfl L S g
theorem eX12_find_25 (L : pmL) (S : List Value) (g : pmH) : pmV mX12_find 25 L S g = zGet mX12_find 28 12 27 L S g := ez_getfield kcX12_find dX12_find_25 fl_12_224 rfl L S g
theorem eX12_find_28 (L : pmL) (S : List Value) (g : pmH) : pmV mX12_find 28 L S g = zPush mX12_find 30 (.int (nI 6)) L S g := ez_bipush kcX12_find dX12_find_28 (by decide) rfl L S g
theorem eX12_find_30 (L : pmL) (S : List Value) (g : pmH) : pmV mX12_find 30 L S g = zBne mX12_find 33 36 L S g := ez_icmp_ne kcX12_find dX12_find_30 (by decide) rfl L S g
theorem eX12_find_33 (L : pmL) (S : List Value) (g : pmH) : pmV mX12_find 33 L S g = zPush mX12_find 35 (.int (-4)) L S g := ez_bipush kcX12_find dX12_find_33 (by decide) rfl L S g
theorem eX12_find_35 (L : pmL) (S : List Value) (g : pmH) : pmV mX12_find 35 L S g = zIret mX12_find S g := ez_ireturn kcX12_find dX12_find_35 L S g
theorem eX12_find_36 (L : pmL) (S : List Value) (g : pmH) : pmV mX12_find 36 L S g = zLdA mX12_find 37 0 L S g := ez_aload_n kcX12_find dX12_find_36 rfl rfl L S g
theorem eX12_find_37 (L : pmL) (S : List Value) (g : pmH) : pmV mX12_find 37 L S g = zGet mX12_find 40 12 28 L S g := ez_getfield kcX12_find dX12_find_37 fl_12_56 rfl L S g
theorem eX12_find_40 (L : pmL) (S : List Value) (g : pmH) : pmV mX12_find 40 L S g = zLdA mX12_find 41 0 L S g := ez_aload_n kcX12_find dX12_find_40 rfl rfl L S g
theorem eX12_find_41 (L : pmL) (S : List Value) (g : pmH) : pmV mX12_find 41 L S g = zGet mX12_find 44 12 27 L S g := ez_getfield kcX12_find dX12_find_41 fl_12_224 rfl L S g
theorem eX12_find_44 (L : pmL) (S : List Value) (g : pmH) : pmV mX12_find 44 L S g = zLdI mX12_find 45 1 L S g := ez_iload_n kcX12_find dX12_find_44 rfl rfl L S g
theorem eX12_find_45 (L : pmL) (S : List Value) (g : pmH) : pmV mX12_find 45 L S g = zIast mX12_find 46 L S g := ez_iastore kcX12_find dX12_find_45 rfl L S g
theorem eX12_find_46 (L : pmL) (S : List Value) (g : pmH) : pmV mX12_find 46 L S g = zLdA mX12_find 47 0 L S g := ez_aload_n kcX12_find dX12_find_46 rfl rfl L S g
theorem eX12_find_47 (L : pmL) (S : List Value) (g : pmH) : pmV mX12_find 47 L S g = zGet mX12_find 50 12 29 L S g := ez_getfield kcX12_find dX12_find_47 fl_12_59 rfl L S g
theorem eX12_find_50 (L : pmL) (S : List Value) (g : pmH) : pmV mX12_find 50 L S g = zLdA mX12_find 51 0 L S g := ez_aload_n kcX12_find dX12_find_50 rfl rfl L S g
theorem eX12_find_51 (L : pmL) (S : List Value) (g : pmH) : pmV mX12_find 51 L S g = zGet mX12_find 54 12 27 L S g := ez_getfield kcX12_find dX12_find_51 fl_12_224 rfl L S g
theorem eX12_find_54 (L : pmL) (S : List Value) (g : pmH) : pmV mX12_find 54 L S g = zLdI mX12_find 55 2 L S g := ez_iload_n kcX12_find dX12_find_54 rfl rfl L S g
theorem eX12_find_55 (L : pmL) (S : List Value) (g : pmH) : pmV mX12_find 55 L S g = zIast mX12_find 56 L S g := ez_iastore kcX12_find dX12_find_55 rfl L S g
theorem eX12_find_56 (L : pmL) (S : List Value) (g : pmH) : pmV mX12_find 56 L S g = zLdA mX12_find 57 0 L S g := ez_aload_n kcX12_find dX12_find_56 rfl rfl L S g
theorem eX12_find_57 (L : pmL) (S : List Value) (g : pmH) : pmV mX12_find 57 L S g = zDup mX12_find 58 L S g := ez_dup kcX12_find dX12_find_57 rfl L S g
theorem eX12_find_58 (L : pmL) (S : List Value) (g : pmH) : pmV mX12_find 58 L S g = zGet mX12_find 61 12 27 L S g := ez_getfield kcX12_find dX12_find_58 fl_12_224 rfl L S g
theorem eX12_find_61 (L : pmL) (S : List Value) (g : pmH) : pmV mX12_find 61 L S g = zPush mX12_find 62 (.int (nI 1)) L S g := ez_iconst kcX12_find dX12_find_61 (by decide) rfl L S g
theorem eX12_find_62 (L : pmL) (S : List Value) (g : pmH) : pmV mX12_find 62 L S g = zAdd mX12_find 63 L S g := ez_iadd kcX12_find dX12_find_62 rfl L S g
theorem eX12_find_63 (L : pmL) (S : List Value) (g : pmH) : pmV mX12_find 63 L S g = zPut mX12_find 66 12 27 L S g := ez_putfield kcX12_find dX12_find_63 fl_12_224 rfl L S g
theorem eX12_find_66 (L : pmL) (S : List Value) (g : pmH) : pmV mX12_find 66 L S g = zLdA mX12_find 67 0 L S g := ez_aload_n kcX12_find dX12_find_66 rfl rfl L S g
theorem eX12_find_67 (L : pmL) (S : List Value) (g : pmH) : pmV mX12_find 67 L S g = zGet mX12_find 70 12 27 L S g := ez_getfield kcX12_find dX12_find_67 fl_12_224 rfl L S g
theorem eX12_find_70 (L : pmL) (S : List Value) (g : pmH) : pmV mX12_find 70 L S g = zIret mX12_find S g := ez_ireturn kcX12_find dX12_find_70 L S g
theorem eX12_lose_0 (L : pmL) (S : List Value) (g : pmH) : pmV mX12_lose 0 L S g = zLdA mX12_lose 1 0 L S g := ez_aload_n kcX12_lose dX12_lose_0 rfl rfl L S g
theorem eX12_lose_1 (L : pmL) (S : List Value) (g : pmH) : pmV mX12_lose 1 L S g = zGet mX12_lose 4 12 27 L S g := ez_getfield kcX12_lose dX12_lose_1 fl_12_224 rfl L S g
theorem eX12_lose_4 (L : pmL) (S : List Value) (g : pmH) : pmV mX12_lose 4 L S g = zStI mX12_lose 5 1 L S g := ez_istore_n kcX12_lose dX12_lose_4 rfl rfl L S g
theorem eX12_lose_5 (L : pmL) (S : List Value) (g : pmH) : pmV mX12_lose 5 L S g = zLdA mX12_lose 6 0 L S g := ez_aload_n kcX12_lose dX12_lose_5 rfl rfl L S g
theorem eX12_lose_6 (L : pmL) (S : List Value) (g : pmH) : pmV mX12_lose 6 L S g = zPush mX12_lose 7 (.int (nI 0)) L S g := ez_iconst kcX12_lose dX12_lose_6 (by decide) rfl L S g
theorem eX12_lose_7 (L : pmL) (S : List Value) (g : pmH) : pmV mX12_lose 7 L S g = zPut mX12_lose 10 12 27 L S g := ez_putfield kcX12_lose dX12_lose_7 fl_12_224 rfl L S g
theorem eX12_lose_10 (L : pmL) (S : List Value) (g : pmH) : pmV mX12_lose 10 L S g = zLdI mX12_lose 11 1 L S g := ez_iload_n kcX12_lose dX12_lose_10 rfl rfl L S g
theorem eX12_lose_11 (L : pmL) (S : List Value) (g : pmH) : pmV mX12_lose 11 L S g = zIret mX12_lose S g := ez_ireturn kcX12_lose dX12_lose_11 L S g
theorem eX12_behind_0 (L : pmL) (S : List Value) (g : pmH) : pmV mX12_behind 0 L S g = zLdI mX12_behind 1 1 L S g := ez_iload_n kcX12_behind dX12_behind_0 rfl rfl L S g
theorem eX12_behind_1 (L : pmL) (S : List Value) (g : pmH) : pmV mX12_behind 1 L S g = zStI mX12_behind 3 4 L S g := ez_istore kcX12_behind dX12_behind_1 rfl L S g
theorem eX12_behind_3 (L : pmL) (S : List Value) (g : pmH) : pmV mX12_behind 3 L S g = zPush mX12_behind 4 (.int (nI 0)) L S g := ez_iconst kcX12_behind dX12_behind_3 (by decide) rfl L S g
theorem eX12_behind_4 (L : pmL) (S : List Value) (g : pmH) : pmV mX12_behind 4 L S g = zStI mX12_behind 6 5 L S g := ez_istore kcX12_behind dX12_behind_4 rfl L S g
theorem eX12_behind_6 (L : pmL) (S : List Value) (g : pmH) : pmV mX12_behind 6 L S g = zPush mX12_behind 7 (.int (nI 0)) L S g := ez_iconst kcX12_behind dX12_behind_6 (by decide) rfl L S g
theorem eX12_behind_7 (L : pmL) (S : List Value) (g : pmH) : pmV mX12_behind 7 L S g = zStI mX12_behind 9 6 L S g := ez_istore kcX12_behind dX12_behind_7 rfl L S g
theorem eX12_behind_9 (L : pmL) (S : List Value) (g : pmH) : pmV mX12_behind 9 L S g = zLdI mX12_behind 11 6 L S g := ez_iload kcX12_behind dX12_behind_9 rfl L S g
theorem eX12_behind_11 (L : pmL) (S : List Value) (g : pmH) : pmV mX12_behind 11 L S g = zLdI mX12_behind 12 3 L S g := ez_iload_n kcX12_behind dX12_behind_11 rfl rfl L S g
theorem eX12_behind_12 (L : pmL) (S : List Value) (g : pmH) : pmV mX12_behind 12 L S g = zBge mX12_behind 15 120 L S g := ez_icmp_ge kcX12_behind dX12_behind_12 (by decide) rfl L S g
theorem eX12_behind_15 (L : pmL) (S : List Value) (g : pmH) : pmV mX12_behind 15 L S g = zLdI mX12_behind 17 4 L S g := ez_iload kcX12_behind dX12_behind_15 rfl L S g
theorem eX12_behind_17 (L : pmL) (S : List Value) (g : pmH) : pmV mX12_behind 17 L S g = zPush mX12_behind 19 (.int (-9)) L S g := ez_bipush kcX12_behind dX12_behind_17 (by decide) rfl L S g
theorem eX12_behind_19 (L : pmL) (S : List Value) (g : pmH) : pmV mX12_behind 19 L S g = zBeq mX12_behind 22 120 L S g := ez_icmp_eq kcX12_behind dX12_behind_19 (by decide) rfl L S g
theorem eX12_behind_22 (L : pmL) (S : List Value) (g : pmH) : pmV mX12_behind 22 L S g = zLdI mX12_behind 23 2 L S g := ez_iload_n kcX12_behind dX12_behind_22 rfl rfl L S g
theorem eX12_behind_23 (L : pmL) (S : List Value) (g : pmH) : pmV mX12_behind 23 L S g = zPush mX12_behind 24 (.int (nI 2)) L S g := ez_iconst kcX12_behind dX12_behind_23 (by decide) rfl L S g
theorem eX12_behind_24 (L : pmL) (S : List Value) (g : pmH) : pmV mX12_behind 24 L S g = zBne mX12_behind 27 39 L S g := ez_icmp_ne kcX12_behind dX12_behind_24 (by decide) rfl L S g
theorem eX12_behind_27 (L : pmL) (S : List Value) (g : pmH) : pmV mX12_behind 27 L S g = zLdI mX12_behind 29 6 L S g := ez_iload kcX12_behind dX12_behind_27 rfl L S g
theorem eX12_behind_29 (L : pmL) (S : List Value) (g : pmH) : pmV mX12_behind 29 L S g = zPush mX12_behind 30 (.int (nI 2)) L S g := ez_iconst kcX12_behind dX12_behind_29 (by decide) rfl L S g
theorem eX12_behind_30 (L : pmL) (S : List Value) (g : pmH) : pmV mX12_behind 30 L S g = zRem mX12_behind 31 L S g := ez_irem kcX12_behind dX12_behind_30 rfl L S g
theorem eX12_behind_31 (L : pmL) (S : List Value) (g : pmH) : pmV mX12_behind 31 L S g = zPush mX12_behind 32 (.int (nI 1)) L S g := ez_iconst kcX12_behind dX12_behind_31 (by decide) rfl L S g
theorem eX12_behind_32 (L : pmL) (S : List Value) (g : pmH) : pmV mX12_behind 32 L S g = zBne mX12_behind 35 39 L S g := ez_icmp_ne kcX12_behind dX12_behind_32 (by decide) rfl L S g
theorem eX12_behind_35 (L : pmL) (S : List Value) (g : pmH) : pmV mX12_behind 35 L S g = zPush mX12_behind 36 (.int (nI 0)) L S g := ez_iconst kcX12_behind dX12_behind_35 (by decide) rfl L S g
theorem eX12_behind_36 (L : pmL) (S : List Value) (g : pmH) : pmV mX12_behind 36 L S g = zNx mX12_behind 45 L S g := ez_goto kcX12_behind dX12_behind_36 (by decide) L S g
theorem eX12_behind_39 (L : pmL) (S : List Value) (g : pmH) : pmV mX12_behind 39 L S g = zLdA mX12_behind 40 0 L S g := ez_aload_n kcX12_behind dX12_behind_39 rfl rfl L S g
theorem eX12_behind_40 (L : pmL) (S : List Value) (g : pmH) : pmV mX12_behind 40 L S g = zLdI mX12_behind 42 6 L S g := ez_iload kcX12_behind dX12_behind_40 rfl L S g
theorem eX12_behind_42 (L : pmL) (S : List Value) (g : pmH) : pmV mX12_behind 42 L S g = yV mX12_behind 45 1 mX12_windOf 12 2 L S g := (ez_virtual kcX12_behind dX12_behind_42 ml_12_137 rfl L S g).trans (zCallV_y rfl rfl (by decide) L S g)
theorem eX12_behind_45 (L : pmL) (S : List Value) (g : pmH) : pmV mX12_behind 45 L S g = zStI mX12_behind 47 7 L S g := ez_istore kcX12_behind dX12_behind_45 rfl L S g
theorem eX12_behind_47 (L : pmL) (S : List Value) (g : pmH) : pmV mX12_behind 47 L S g = zLdI mX12_behind 49 5 L S g := ez_iload kcX12_behind dX12_behind_47 rfl L S g
theorem eX12_behind_49 (L : pmL) (S : List Value) (g : pmH) : pmV mX12_behind 49 L S g = zCne mX12_behind 52 61 L S g := ez_if_ne kcX12_behind dX12_behind_49 (by decide) rfl L S g
theorem eX12_behind_52 (L : pmL) (S : List Value) (g : pmH) : pmV mX12_behind 52 L S g = zLdA mX12_behind 53 0 L S g := ez_aload_n kcX12_behind dX12_behind_52 rfl rfl L S g
theorem eX12_behind_53 (L : pmL) (S : List Value) (g : pmH) : pmV mX12_behind 53 L S g = zLdI mX12_behind 55 6 L S g := ez_iload kcX12_behind dX12_behind_53 rfl L S g
theorem eX12_behind_55 (L : pmL) (S : List Value) (g : pmH) : pmV mX12_behind 55 L S g = yV mX12_behind 58 1 mX12_windOf 12 2 L S g := (ez_virtual kcX12_behind dX12_behind_55 ml_12_137 rfl L S g).trans (zCallV_y rfl rfl (by decide) L S g)
theorem eX12_behind_58 (L : pmL) (S : List Value) (g : pmH) : pmV mX12_behind 58 L S g = zNx mX12_behind 63 L S g := ez_goto kcX12_behind dX12_behind_58 (by decide) L S g
theorem eX12_behind_61 (L : pmL) (S : List Value) (g : pmH) : pmV mX12_behind 61 L S g = zLdI mX12_behind 63 5 L S g := ez_iload kcX12_behind dX12_behind_61 rfl L S g
theorem eX12_behind_63 (L : pmL) (S : List Value) (g : pmH) : pmV mX12_behind 63 L S g = zStI mX12_behind 65 5 L S g := ez_istore kcX12_behind dX12_behind_63 rfl L S g
theorem eX12_behind_65 (L : pmL) (S : List Value) (g : pmH) : pmV mX12_behind 65 L S g = zLdI mX12_behind 66 2 L S g := ez_iload_n kcX12_behind dX12_behind_65 rfl rfl L S g
theorem eX12_behind_66 (L : pmL) (S : List Value) (g : pmH) : pmV mX12_behind 66 L S g = zPush mX12_behind 67 (.int (nI 1)) L S g := ez_iconst kcX12_behind dX12_behind_66 (by decide) rfl L S g
theorem eX12_behind_67 (L : pmL) (S : List Value) (g : pmH) : pmV mX12_behind 67 L S g = zBne mX12_behind 70 75 L S g := ez_icmp_ne kcX12_behind dX12_behind_67 (by decide) rfl L S g
theorem eX12_behind_70 (L : pmL) (S : List Value) (g : pmH) : pmV mX12_behind 70 L S g = zLdI mX12_behind 72 5 L S g := ez_iload kcX12_behind dX12_behind_70 rfl L S g
theorem eX12_behind_72 (L : pmL) (S : List Value) (g : pmH) : pmV mX12_behind 72 L S g = zNx mX12_behind 77 L S g := ez_goto kcX12_behind dX12_behind_72 (by decide) L S g
theorem eX12_behind_75 (L : pmL) (S : List Value) (g : pmH) : pmV mX12_behind 75 L S g = zLdI mX12_behind 77 7 L S g := ez_iload kcX12_behind dX12_behind_75 rfl L S g
theorem eX12_behind_77 (L : pmL) (S : List Value) (g : pmH) : pmV mX12_behind 77 L S g = zStI mX12_behind 79 7 L S g := ez_istore kcX12_behind dX12_behind_77 rfl L S g
theorem eX12_behind_79 (L : pmL) (S : List Value) (g : pmH) : pmV mX12_behind 79 L S g = zLdI mX12_behind 81 4 L S g := ez_iload kcX12_behind dX12_behind_79 rfl L S g
theorem eX12_behind_81 (L : pmL) (S : List Value) (g : pmH) : pmV mX12_behind 81 L S g = zLdI mX12_behind 83 7 L S g := ez_iload kcX12_behind dX12_behind_81 rfl L S g
theorem eX12_behind_83 (L : pmL) (S : List Value) (g : pmH) : pmV mX12_behind 83 L S g = yS mX12_behind 86 2 mX12_blown 2 L S g := (ez_static kcX12_behind dX12_behind_83 ml_12_129 (by decide) rfl L S g).trans (zCall_y rfl (by decide) L S g)
theorem eX12_behind_86 (L : pmL) (S : List Value) (g : pmH) : pmV mX12_behind 86 L S g = zStI mX12_behind 88 4 L S g := ez_istore kcX12_behind dX12_behind_86 rfl L S g
theorem eX12_behind_88 (L : pmL) (S : List Value) (g : pmH) : pmV mX12_behind 88 L S g = zLdI mX12_behind 89 2 L S g := ez_iload_n kcX12_behind dX12_behind_88 rfl rfl L S g
theorem eX12_behind_89 (L : pmL) (S : List Value) (g : pmH) : pmV mX12_behind 89 L S g = zPush mX12_behind 90 (.int (nI 3)) L S g := ez_iconst kcX12_behind dX12_behind_89 (by decide) rfl L S g
theorem eX12_behind_90 (L : pmL) (S : List Value) (g : pmH) : pmV mX12_behind 90 L S g = zBne mX12_behind 93 110 L S g := ez_icmp_ne kcX12_behind dX12_behind_90 (by decide) rfl L S g
theorem eX12_behind_93 (L : pmL) (S : List Value) (g : pmH) : pmV mX12_behind 93 L S g = zLdI mX12_behind 95 4 L S g := ez_iload kcX12_behind dX12_behind_93 rfl L S g
theorem eX12_behind_95 (L : pmL) (S : List Value) (g : pmH) : pmV mX12_behind 95 L S g = zPush mX12_behind 97 (.int (-9)) L S g := ez_bipush kcX12_behind dX12_behind_95 (by decide) rfl L S g
theorem eX12_behind_97 (L : pmL) (S : List Value) (g : pmH) : pmV mX12_behind 97 L S g = zBeq mX12_behind 100 110 L S g := ez_icmp_eq kcX12_behind dX12_behind_97 (by decide) rfl L S g
theorem eX12_behind_100 (L : pmL) (S : List Value) (g : pmH) : pmV mX12_behind 100 L S g = zLdI mX12_behind 102 4 L S g := ez_iload kcX12_behind dX12_behind_100 rfl L S g
theorem eX12_behind_102 (L : pmL) (S : List Value) (g : pmH) : pmV mX12_behind 102 L S g = zLdI mX12_behind 104 7 L S g := ez_iload kcX12_behind dX12_behind_102 rfl L S g
theorem eX12_behind_104 (L : pmL) (S : List Value) (g : pmH) : pmV mX12_behind 104 L S g = yS mX12_behind 107 2 mX12_blown 2 L S g := (ez_static kcX12_behind dX12_behind_104 ml_12_129 (by decide) rfl L S g).trans (zCall_y rfl (by decide) L S g)
theorem eX12_behind_107 (L : pmL) (S : List Value) (g : pmH) : pmV mX12_behind 107 L S g = zNx mX12_behind 112 L S g := ez_goto kcX12_behind dX12_behind_107 (by decide) L S g
theorem eX12_behind_110 (L : pmL) (S : List Value) (g : pmH) : pmV mX12_behind 110 L S g = zLdI mX12_behind 112 4 L S g := ez_iload kcX12_behind dX12_behind_110 rfl L S g
theorem eX12_behind_112 (L : pmL) (S : List Value) (g : pmH) : pmV mX12_behind 112 L S g = zStI mX12_behind 114 4 L S g := ez_istore kcX12_behind dX12_behind_112 rfl L S g
theorem eX12_behind_114 (L : pmL) (S : List Value) (g : pmH) : pmV mX12_behind 114 L S g = zInc mX12_behind 117 6 (nI 1) L S g := ez_iinc kcX12_behind dX12_behind_114 (by decide) rfl L S g
theorem eX12_behind_117 (L : pmL) (S : List Value) (g : pmH) : pmV mX12_behind 117 L S g = zNx mX12_behind 9 L S g := ez_goto kcX12_behind dX12_behind_117 (by decide) L S g
theorem eX12_behind_120 (L : pmL) (S : List Value) (g : pmH) : pmV mX12_behind 120 L S g = zLdI mX12_behind 122 4 L S g := ez_iload kcX12_behind dX12_behind_120 rfl L S g
theorem eX12_behind_122 (L : pmL) (S : List Value) (g : pmH) : pmV mX12_behind 122 L S g = zIret mX12_behind S g := ez_ireturn kcX12_behind dX12_behind_122 L S g
theorem eX12_began_0 (L : pmL) (S : List Value) (g : pmH) : pmV mX12_began 0 L S g = zLdI mX12_began 1 1 L S g := ez_iload_n kcX12_began dX12_began_0 rfl rfl L S g
theorem eX12_began_1 (L : pmL) (S : List Value) (g : pmH) : pmV mX12_began 1 L S g = zI2l mX12_began 2 L S g := ez_i2l kcX12_began dX12_began_1 rfl L S g
theorem eX12_began_2 (L : pmL) (S : List Value) (g : pmH) : pmV mX12_began 2 L S g = zPush mX12_began 3 (.long (lN 0)) L S g := ez_lconst kcX12_began dX12_began_2 rfl rfl L S g
theorem eX12_began_3 (L : pmL) (S : List Value) (g : pmH) : pmV mX12_began 3 L S g = zPush mX12_began 6 (.long (lN 3)) L S g := ez_ldc2_w kcX12_began dX12_began_3 jl_12_227 rfl L S g
theorem eX12_began_6 (L : pmL) (S : List Value) (g : pmH) : pmV mX12_began 6 L S g = yS mX12_began 9 3 mX12_in 6 L S g := (ez_static kcX12_began dX12_began_6 ml_12_71 (by decide) rfl L S g).trans (zCall_y rfl (by decide) L S g)
theorem eX12_began_9 (L : pmL) (S : List Value) (g : pmH) : pmV mX12_began 9 L S g = zCne mX12_began 12 15 L S g := ez_if_ne kcX12_began dX12_began_9 (by decide) rfl L S g
theorem eX12_began_12 (L : pmL) (S : List Value) (g : pmH) : pmV mX12_began 12 L S g = zPush mX12_began 14 (.int (-2)) L S g := ez_bipush kcX12_began dX12_began_12 (by decide) rfl L S g
theorem eX12_began_14 (L : pmL) (S : List Value) (g : pmH) : pmV mX12_began 14 L S g = zIret mX12_began S g := ez_ireturn kcX12_began dX12_began_14 L S g
theorem eX12_began_15 (L : pmL) (S : List Value) (g : pmH) : pmV mX12_began 15 L S g = zPush mX12_began 16 (.int (nI 0)) L S g := ez_iconst kcX12_began dX12_began_15 (by decide) rfl L S g
theorem eX12_began_16 (L : pmL) (S : List Value) (g : pmH) : pmV mX12_began 16 L S g = zStI mX12_began 17 2 L S g := ez_istore_n kcX12_began dX12_began_16 rfl rfl L S g
theorem eX12_began_17 (L : pmL) (S : List Value) (g : pmH) : pmV mX12_began 17 L S g = zPush mX12_began 18 (.int (nI 0)) L S g := ez_iconst kcX12_began dX12_began_17 (by decide) rfl L S g
theorem eX12_began_18 (L : pmL) (S : List Value) (g : pmH) : pmV mX12_began 18 L S g = zStI mX12_began 19 3 L S g := ez_istore_n kcX12_began dX12_began_18 rfl rfl L S g
theorem eX12_began_19 (L : pmL) (S : List Value) (g : pmH) : pmV mX12_began 19 L S g = zLdI mX12_began 20 3 L S g := ez_iload_n kcX12_began dX12_began_19 rfl rfl L S g
theorem eX12_began_20 (L : pmL) (S : List Value) (g : pmH) : pmV mX12_began 20 L S g = zPush mX12_began 22 (.int (nI 20)) L S g := ez_bipush kcX12_began dX12_began_20 (by decide) rfl L S g
theorem eX12_began_22 (L : pmL) (S : List Value) (g : pmH) : pmV mX12_began 22 L S g = zBge mX12_began 25 102 L S g := ez_icmp_ge kcX12_began dX12_began_22 (by decide) rfl L S g
theorem eX12_began_25 (L : pmL) (S : List Value) (g : pmH) : pmV mX12_began 25 L S g = zPush mX12_began 26 (.int (nI 1)) L S g := ez_iconst kcX12_began dX12_began_25 (by decide) rfl L S g
theorem eX12_began_26 (L : pmL) (S : List Value) (g : pmH) : pmV mX12_began 26 L S g = zStI mX12_began 28 4 L S g := ez_istore kcX12_began dX12_began_26 rfl L S g
theorem eX12_began_28 (L : pmL) (S : List Value) (g : pmH) : pmV mX12_began 28 L S g = zPush mX12_began 29 (.int (nI 0)) L S g := ez_iconst kcX12_began dX12_began_28 (by decide) rfl L S g
theorem eX12_began_29 (L : pmL) (S : List Value) (g : pmH) : pmV mX12_began 29 L S g = zStI mX12_began 31 5 L S g := ez_istore kcX12_began dX12_began_29 rfl L S g
theorem eX12_began_31 (L : pmL) (S : List Value) (g : pmH) : pmV mX12_began 31 L S g = zLdI mX12_began 33 5 L S g := ez_iload kcX12_began dX12_began_31 rfl L S g
theorem eX12_began_33 (L : pmL) (S : List Value) (g : pmH) : pmV mX12_began 33 L S g = zLdA mX12_began 34 0 L S g := ez_aload_n kcX12_began dX12_began_33 rfl rfl L S g
theorem eX12_began_34 (L : pmL) (S : List Value) (g : pmH) : pmV mX12_began 34 L S g = zGet mX12_began 37 12 27 L S g := ez_getfield kcX12_began dX12_began_34 fl_12_224 rfl L S g
theorem eX12_began_37 (L : pmL) (S : List Value) (g : pmH) : pmV mX12_began 37 L S g = zBge mX12_began 40 81 L S g := ez_icmp_ge kcX12_began dX12_began_37 (by decide) rfl L S g
theorem eX12_began_40 (L : pmL) (S : List Value) (g : pmH) : pmV mX12_began 40 L S g = zLdI mX12_began 42 4 L S g := ez_iload kcX12_began dX12_began_40 rfl L S g
theorem eX12_began_42 (L : pmL) (S : List Value) (g : pmH) : pmV mX12_began 42 L S g = zCeq mX12_began 45 72 L S g := ez_if_eq kcX12_began dX12_began_42 (by decide) rfl L S g
theorem eX12_began_45 (L : pmL) (S : List Value) (g : pmH) : pmV mX12_began 45 L S g = zLdA mX12_began 46 0 L S g := ez_aload_n kcX12_began dX12_began_45 rfl rfl L S g
theorem eX12_began_46 (L : pmL) (S : List Value) (g : pmH) : pmV mX12_began 46 L S g = zLdI mX12_began 47 3 L S g := ez_iload_n kcX12_began dX12_began_46 rfl rfl L S g
theorem eX12_began_47 (L : pmL) (S : List Value) (g : pmH) : pmV mX12_began 47 L S g = zLdI mX12_began 48 1 L S g := ez_iload_n kcX12_began dX12_began_47 rfl rfl L S g
theorem eX12_began_48 (L : pmL) (S : List Value) (g : pmH) : pmV mX12_began 48 L S g = zLdA mX12_began 49 0 L S g := ez_aload_n kcX12_began dX12_began_48 rfl rfl L S g
theorem eX12_began_49 (L : pmL) (S : List Value) (g : pmH) : pmV mX12_began 49 L S g = zGet mX12_began 52 12 29 L S g := ez_getfield kcX12_began dX12_began_49 fl_12_59 rfl L S g
theorem eX12_began_52 (L : pmL) (S : List Value) (g : pmH) : pmV mX12_began 52 L S g = zLdI mX12_began 54 5 L S g := ez_iload kcX12_began dX12_began_52 rfl L S g
theorem eX12_began_54 (L : pmL) (S : List Value) (g : pmH) : pmV mX12_began 54 L S g = zIald mX12_began 55 L S g := ez_iaload kcX12_began dX12_began_54 rfl L S g
theorem eX12_began_55 (L : pmL) (S : List Value) (g : pmH) : pmV mX12_began 55 L S g = yV mX12_began 58 3 mX12_behind 12 8 L S g := (ez_virtual kcX12_began dX12_began_55 ml_12_229 rfl L S g).trans (zCallV_y rfl rfl (by decide) L S g)
theorem eX12_began_58 (L : pmL) (S : List Value) (g : pmH) : pmV mX12_began 58 L S g = zLdA mX12_began 59 0 L S g := ez_aload_n kcX12_began dX12_began_58 rfl rfl L S g
theorem eX12_began_59 (L : pmL) (S : List Value) (g : pmH) : pmV mX12_began 59 L S g = zGet mX12_began 62 12 28 L S g := ez_getfield kcX12_began dX12_began_59 fl_12_56 rfl L S g
theorem eX12_began_62 (L : pmL) (S : List Value) (g : pmH) : pmV mX12_began 62 L S g = zLdI mX12_began 64 5 L S g := ez_iload kcX12_began dX12_began_62 rfl L S g
theorem eX12_began_64 (L : pmL) (S : List Value) (g : pmH) : pmV mX12_began 64 L S g = zIald mX12_began 65 L S g := ez_iaload kcX12_began dX12_began_64 rfl L S g
theorem eX12_began_65 (L : pmL) (S : List Value) (g : pmH) : pmV mX12_began 65 L S g = zBne mX12_began 68 72 L S g := ez_icmp_ne kcX12_began dX12_began_65 (by decide) rfl L S g
theorem eX12_began_68 (L : pmL) (S : List Value) (g : pmH) : pmV mX12_began 68 L S g = zPush mX12_began 69 (.int (nI 1)) L S g := ez_iconst kcX12_began dX12_began_68 (by decide) rfl L S g
theorem eX12_began_69 (L : pmL) (S : List Value) (g : pmH) : pmV mX12_began 69 L S g = zNx mX12_began 73 L S g := ez_goto kcX12_began dX12_began_69 (by decide) L S g
theorem eX12_began_72 (L : pmL) (S : List Value) (g : pmH) : pmV mX12_began 72 L S g = zPush mX12_began 73 (.int (nI 0)) L S g := ez_iconst kcX12_began dX12_began_72 (by decide) rfl L S g
theorem eX12_began_73 (L : pmL) (S : List Value) (g : pmH) : pmV mX12_began 73 L S g = zStI mX12_began 75 4 L S g := ez_istore kcX12_began dX12_began_73 rfl L S g
theorem eX12_began_75 (L : pmL) (S : List Value) (g : pmH) : pmV mX12_began 75 L S g = zInc mX12_began 78 5 (nI 1) L S g := ez_iinc kcX12_began dX12_began_75 (by decide) rfl L S g
theorem eX12_began_78 (L : pmL) (S : List Value) (g : pmH) : pmV mX12_began 78 L S g = zNx mX12_began 31 L S g := ez_goto kcX12_began dX12_began_78 (by decide) L S g
theorem eX12_began_81 (L : pmL) (S : List Value) (g : pmH) : pmV mX12_began 81 L S g = zLdI mX12_began 82 2 L S g := ez_iload_n kcX12_began dX12_began_81 rfl rfl L S g
theorem eX12_began_82 (L : pmL) (S : List Value) (g : pmH) : pmV mX12_began 82 L S g = zLdI mX12_began 84 4 L S g := ez_iload kcX12_began dX12_began_82 rfl L S g
theorem eX12_began_84 (L : pmL) (S : List Value) (g : pmH) : pmV mX12_began 84 L S g = zCeq mX12_began 87 93 L S g := ez_if_eq kcX12_began dX12_began_84 (by decide) rfl L S g
theorem eX12_began_87 (L : pmL) (S : List Value) (g : pmH) : pmV mX12_began 87 L S g = zPush mX12_began 88 (.int (nI 1)) L S g := ez_iconst kcX12_began dX12_began_87 (by decide) rfl L S g
theorem eX12_began_88 (L : pmL) (S : List Value) (g : pmH) : pmV mX12_began 88 L S g = zLdI mX12_began 89 3 L S g := ez_iload_n kcX12_began dX12_began_88 rfl rfl L S g
theorem eX12_began_89 (L : pmL) (S : List Value) (g : pmH) : pmV mX12_began 89 L S g = zShl mX12_began 90 L S g := ez_ishl kcX12_began dX12_began_89 rfl L S g
theorem eX12_began_90 (L : pmL) (S : List Value) (g : pmH) : pmV mX12_began 90 L S g = zNx mX12_began 94 L S g := ez_goto kcX12_began dX12_began_90 (by decide) L S g
theorem eX12_began_93 (L : pmL) (S : List Value) (g : pmH) : pmV mX12_began 93 L S g = zPush mX12_began 94 (.int (nI 0)) L S g := ez_iconst kcX12_began dX12_began_93 (by decide) rfl L S g
theorem eX12_began_94 (L : pmL) (S : List Value) (g : pmH) : pmV mX12_began 94 L S g = zOr mX12_began 95 L S g := ez_ior kcX12_began dX12_began_94 rfl L S g
theorem eX12_began_95 (L : pmL) (S : List Value) (g : pmH) : pmV mX12_began 95 L S g = zStI mX12_began 96 2 L S g := ez_istore_n kcX12_began dX12_began_95 rfl rfl L S g
theorem eX12_began_96 (L : pmL) (S : List Value) (g : pmH) : pmV mX12_began 96 L S g = zInc mX12_began 99 3 (nI 1) L S g := ez_iinc kcX12_began dX12_began_96 (by decide) rfl L S g
theorem eX12_began_99 (L : pmL) (S : List Value) (g : pmH) : pmV mX12_began 99 L S g = zNx mX12_began 19 L S g := ez_goto kcX12_began dX12_began_99 (by decide) L S g
theorem eX12_began_102 (L : pmL) (S : List Value) (g : pmH) : pmV mX12_began 102 L S g = zLdI mX12_began 103 2 L S g := ez_iload_n kcX12_began dX12_began_102 rfl rfl L S g
theorem eX12_began_103 (L : pmL) (S : List Value) (g : pmH) : pmV mX12_began 103 L S g = zIret mX12_began S g := ez_ireturn kcX12_began dX12_began_103 L S g
theorem eX12_factorial_0 (L : pmL) (S : List Value) (g : pmH) : pmV mX12_factorial 0 L S g = zPush mX12_factorial 1 (.int (nI 1)) L S g := ez_iconst kcX12_factorial dX12_factorial_0 (by decide) rfl L S g
theorem eX12_factorial_1 (L : pmL) (S : List Value) (g : pmH) : pmV mX12_factorial 1 L S g = zStI mX12_factorial 2 1 L S g := ez_istore_n kcX12_factorial dX12_factorial_1 rfl rfl L S g
theorem eX12_factorial_2 (L : pmL) (S : List Value) (g : pmH) : pmV mX12_factorial 2 L S g = zPush mX12_factorial 3 (.int (nI 2)) L S g := ez_iconst kcX12_factorial dX12_factorial_2 (by decide) rfl L S g
theorem eX12_factorial_3 (L : pmL) (S : List Value) (g : pmH) : pmV mX12_factorial 3 L S g = zStI mX12_factorial 4 2 L S g := ez_istore_n kcX12_factorial dX12_factorial_3 rfl rfl L S g
theorem eX12_factorial_4 (L : pmL) (S : List Value) (g : pmH) : pmV mX12_factorial 4 L S g = zLdI mX12_factorial 5 2 L S g := ez_iload_n kcX12_factorial dX12_factorial_4 rfl rfl L S g
theorem eX12_factorial_5 (L : pmL) (S : List Value) (g : pmH) : pmV mX12_factorial 5 L S g = zLdI mX12_factorial 6 0 L S g := ez_iload_n kcX12_factorial dX12_factorial_5 rfl rfl L S g
theorem eX12_factorial_6 (L : pmL) (S : List Value) (g : pmH) : pmV mX12_factorial 6 L S g = zBgt mX12_factorial 9 19 L S g := ez_icmp_gt kcX12_factorial dX12_factorial_6 (by decide) rfl L S g
theorem eX12_factorial_9 (L : pmL) (S : List Value) (g : pmH) : pmV mX12_factorial 9 L S g = zLdI mX12_factorial 10 1 L S g := ez_iload_n kcX12_factorial dX12_factorial_9 rfl rfl L S g
theorem eX12_factorial_10 (L : pmL) (S : List Value) (g : pmH) : pmV mX12_factorial 10 L S g = zLdI mX12_factorial 11 2 L S g := ez_iload_n kcX12_factorial dX12_factorial_10 rfl rfl L S g
theorem eX12_factorial_11 (L : pmL) (S : List Value) (g : pmH) : pmV mX12_factorial 11 L S g = zMul mX12_factorial 12 L S g := ez_imul kcX12_factorial dX12_factorial_11 rfl L S g
theorem eX12_factorial_12 (L : pmL) (S : List Value) (g : pmH) : pmV mX12_factorial 12 L S g = zStI mX12_factorial 13 1 L S g := ez_istore_n kcX12_factorial dX12_factorial_12 rfl rfl L S g
theorem eX12_factorial_13 (L : pmL) (S : List Value) (g : pmH) : pmV mX12_factorial 13 L S g = zInc mX12_factorial 16 2 (nI 1) L S g := ez_iinc kcX12_factorial dX12_factorial_13 (by decide) rfl L S g
theorem eX12_factorial_16 (L : pmL) (S : List Value) (g : pmH) : pmV mX12_factorial 16 L S g = zNx mX12_factorial 4 L S g := ez_goto kcX12_factorial dX12_factorial_16 (by decide) L S g
theorem eX12_factorial_19 (L : pmL) (S : List Value) (g : pmH) : pmV mX12_factorial 19 L S g = zLdI mX12_factorial 20 1 L S g := ez_iload_n kcX12_factorial dX12_factorial_19 rfl rfl L S g
theorem eX12_factorial_20 (L : pmL) (S : List Value) (g : pmH) : pmV mX12_factorial 20 L S g = zIret mX12_factorial S g := ez_ireturn kcX12_factorial dX12_factorial_20 L S g
theorem eX12_common_0 (L : pmL) (S : List Value) (g : pmH) : pmV mX12_common 0 L S g = zLdI mX12_common 1 0 L S g := ez_iload_n kcX12_common dX12_common_0 rfl rfl L S g
theorem eX12_common_1 (L : pmL) (S : List Value) (g : pmH) : pmV mX12_common 1 L S g = zCge mX12_common 4 9 L S g := ez_if_ge kcX12_common dX12_common_1 (by decide) rfl L S g
theorem eX12_common_4 (L : pmL) (S : List Value) (g : pmH) : pmV mX12_common 4 L S g = zLdI mX12_common 5 0 L S g := ez_iload_n kcX12_common dX12_common_4 rfl rfl L S g
theorem eX12_common_5 (L : pmL) (S : List Value) (g : pmH) : pmV mX12_common 5 L S g = zNeg mX12_common 6 L S g := ez_ineg kcX12_common dX12_common_5 rfl L S g
theorem eX12_common_6 (L : pmL) (S : List Value) (g : pmH) : pmV mX12_common 6 L S g = zNx mX12_common 10 L S g := ez_goto kcX12_common dX12_common_6 (by decide) L S g
theorem eX12_common_9 (L : pmL) (S : List Value) (g : pmH) : pmV mX12_common 9 L S g = zLdI mX12_common 10 0 L S g := ez_iload_n kcX12_common dX12_common_9 rfl rfl L S g
theorem eX12_common_10 (L : pmL) (S : List Value) (g : pmH) : pmV mX12_common 10 L S g = zStI mX12_common 11 2 L S g := ez_istore_n kcX12_common dX12_common_10 rfl rfl L S g
theorem eX12_common_11 (L : pmL) (S : List Value) (g : pmH) : pmV mX12_common 11 L S g = zLdI mX12_common 12 1 L S g := ez_iload_n kcX12_common dX12_common_11 rfl rfl L S g
theorem eX12_common_12 (L : pmL) (S : List Value) (g : pmH) : pmV mX12_common 12 L S g = zStI mX12_common 13 3 L S g := ez_istore_n kcX12_common dX12_common_12 rfl rfl L S g
theorem eX12_common_13 (L : pmL) (S : List Value) (g : pmH) : pmV mX12_common 13 L S g = zLdI mX12_common 14 3 L S g := ez_iload_n kcX12_common dX12_common_13 rfl rfl L S g
theorem eX12_common_14 (L : pmL) (S : List Value) (g : pmH) : pmV mX12_common 14 L S g = zCeq mX12_common 17 30 L S g := ez_if_eq kcX12_common dX12_common_14 (by decide) rfl L S g
theorem eX12_common_17 (L : pmL) (S : List Value) (g : pmH) : pmV mX12_common 17 L S g = zLdI mX12_common 18 2 L S g := ez_iload_n kcX12_common dX12_common_17 rfl rfl L S g
theorem eX12_common_18 (L : pmL) (S : List Value) (g : pmH) : pmV mX12_common 18 L S g = zLdI mX12_common 19 3 L S g := ez_iload_n kcX12_common dX12_common_18 rfl rfl L S g
theorem eX12_common_19 (L : pmL) (S : List Value) (g : pmH) : pmV mX12_common 19 L S g = zRem mX12_common 20 L S g := ez_irem kcX12_common dX12_common_19 rfl L S g
theorem eX12_common_20 (L : pmL) (S : List Value) (g : pmH) : pmV mX12_common 20 L S g = zStI mX12_common 22 4 L S g := ez_istore kcX12_common dX12_common_20 rfl L S g
theorem eX12_common_22 (L : pmL) (S : List Value) (g : pmH) : pmV mX12_common 22 L S g = zLdI mX12_common 23 3 L S g := ez_iload_n kcX12_common dX12_common_22 rfl rfl L S g
theorem eX12_common_23 (L : pmL) (S : List Value) (g : pmH) : pmV mX12_common 23 L S g = zStI mX12_common 24 2 L S g := ez_istore_n kcX12_common dX12_common_23 rfl rfl L S g
theorem eX12_common_24 (L : pmL) (S : List Value) (g : pmH) : pmV mX12_common 24 L S g = zLdI mX12_common 26 4 L S g := ez_iload kcX12_common dX12_common_24 rfl L S g
theorem eX12_common_26 (L : pmL) (S : List Value) (g : pmH) : pmV mX12_common 26 L S g = zStI mX12_common 27 3 L S g := ez_istore_n kcX12_common dX12_common_26 rfl rfl L S g
theorem eX12_common_27 (L : pmL) (S : List Value) (g : pmH) : pmV mX12_common 27 L S g = zNx mX12_common 13 L S g := ez_goto kcX12_common dX12_common_27 (by decide) L S g
theorem eX12_common_30 (L : pmL) (S : List Value) (g : pmH) : pmV mX12_common 30 L S g = zLdI mX12_common 31 2 L S g := ez_iload_n kcX12_common dX12_common_30 rfl rfl L S g
theorem eX12_common_31 (L : pmL) (S : List Value) (g : pmH) : pmV mX12_common 31 L S g = zIret mX12_common S g := ez_ireturn kcX12_common dX12_common_31 L S g
theorem eX12_gladOf_0 (L : pmL) (S : List Value) (g : pmH) : pmV mX12_gladOf 0 L S g = zLdA mX12_gladOf 1 0 L S g := ez_aload_n kcX12_gladOf dX12_gladOf_0 rfl rfl L S g
theorem eX12_gladOf_1 (L : pmL) (S : List Value) (g : pmH) : pmV mX12_gladOf 1 L S g = zLdI mX12_gladOf 2 1 L S g := ez_iload_n kcX12_gladOf dX12_gladOf_1 rfl rfl L S g
theorem eX12_gladOf_2 (L : pmL) (S : List Value) (g : pmH) : pmV mX12_gladOf 2 L S g = zPut mX12_gladOf 5 12 21 L S g := ez_putfield kcX12_gladOf dX12_gladOf_2 fl_12_43 rfl L S g
theorem eX12_gladOf_5 (L : pmL) (S : List Value) (g : pmH) : pmV mX12_gladOf 5 L S g = zLdA mX12_gladOf 6 0 L S g := ez_aload_n kcX12_gladOf dX12_gladOf_5 rfl rfl L S g
theorem eX12_gladOf_6 (L : pmL) (S : List Value) (g : pmH) : pmV mX12_gladOf 6 L S g = yV mX12_gladOf 9 0 mX12_layTrial 12 2 L S g := (ez_virtual kcX12_gladOf dX12_gladOf_6 ml_12_186 rfl L S g).trans (zCallV_y rfl rfl (by decide) L S g)
theorem eX12_gladOf_9 (L : pmL) (S : List Value) (g : pmH) : pmV mX12_gladOf 9 L S g = zPush mX12_gladOf 10 (.int (nI 0)) L S g := ez_iconst kcX12_gladOf dX12_gladOf_9 (by decide) rfl L S g
theorem eX12_gladOf_10 (L : pmL) (S : List Value) (g : pmH) : pmV mX12_gladOf 10 L S g = zStI mX12_gladOf 11 2 L S g := ez_istore_n kcX12_gladOf dX12_gladOf_10 rfl rfl L S g
theorem eX12_gladOf_11 (L : pmL) (S : List Value) (g : pmH) : pmV mX12_gladOf 11 L S g = zLdI mX12_gladOf 12 2 L S g := ez_iload_n kcX12_gladOf dX12_gladOf_11 rfl rfl L S g
theorem eX12_gladOf_12 (L : pmL) (S : List Value) (g : pmH) : pmV mX12_gladOf 12 L S g = zLdA mX12_gladOf 13 0 L S g := ez_aload_n kcX12_gladOf dX12_gladOf_12 rfl rfl L S g
theorem eX12_gladOf_13 (L : pmL) (S : List Value) (g : pmH) : pmV mX12_gladOf 13 L S g = zGet mX12_gladOf 16 12 1 L S g := ez_getfield kcX12_gladOf dX12_gladOf_13 fl_12_120 rfl L S g
theorem eX12_gladOf_16 (L : pmL) (S : List Value) (g : pmH) : pmV mX12_gladOf 16 L S g = zBge mX12_gladOf 19 85 L S g := ez_icmp_ge kcX12_gladOf dX12_gladOf_16 (by decide) rfl L S g
theorem eX12_gladOf_19 (L : pmL) (S : List Value) (g : pmH) : pmV mX12_gladOf 19 L S g = zLdA mX12_gladOf 20 0 L S g := ez_aload_n kcX12_gladOf dX12_gladOf_19 rfl rfl L S g
theorem eX12_gladOf_20 (L : pmL) (S : List Value) (g : pmH) : pmV mX12_gladOf 20 L S g = zGet mX12_gladOf 23 12 9 L S g := ez_getfield kcX12_gladOf dX12_gladOf_20 fl_12_28 rfl L S g
theorem eX12_gladOf_23 (L : pmL) (S : List Value) (g : pmH) : pmV mX12_gladOf 23 L S g = zPush mX12_gladOf 24 (.int (nI 5)) L S g := ez_iconst kcX12_gladOf dX12_gladOf_23 (by decide) rfl L S g
theorem eX12_gladOf_24 (L : pmL) (S : List Value) (g : pmH) : pmV mX12_gladOf 24 L S g = zLdI mX12_gladOf 25 2 L S g := ez_iload_n kcX12_gladOf dX12_gladOf_24 rfl rfl L S g
theorem eX12_gladOf_25 (L : pmL) (S : List Value) (g : pmH) : pmV mX12_gladOf 25 L S g = zAdd mX12_gladOf 26 L S g := ez_iadd kcX12_gladOf dX12_gladOf_25 rfl L S g
theorem eX12_gladOf_26 (L : pmL) (S : List Value) (g : pmH) : pmV mX12_gladOf 26 L S g = zIald mX12_gladOf 27 L S g := ez_iaload kcX12_gladOf dX12_gladOf_26 rfl L S g
theorem eX12_gladOf_27 (L : pmL) (S : List Value) (g : pmH) : pmV mX12_gladOf 27 L S g = zPush mX12_gladOf 28 (.int (nI 2)) L S g := ez_iconst kcX12_gladOf dX12_gladOf_27 (by decide) rfl L S g
theorem eX12_gladOf_28 (L : pmL) (S : List Value) (g : pmH) : pmV mX12_gladOf 28 L S g = zBne mX12_gladOf 31 51 L S g := ez_icmp_ne kcX12_gladOf dX12_gladOf_28 (by decide) rfl L S g
theorem eX12_gladOf_31 (L : pmL) (S : List Value) (g : pmH) : pmV mX12_gladOf 31 L S g = zLdI mX12_gladOf 32 1 L S g := ez_iload_n kcX12_gladOf dX12_gladOf_31 rfl rfl L S g
theorem eX12_gladOf_32 (L : pmL) (S : List Value) (g : pmH) : pmV mX12_gladOf 32 L S g = zLdA mX12_gladOf 33 0 L S g := ez_aload_n kcX12_gladOf dX12_gladOf_32 rfl rfl L S g
theorem eX12_gladOf_33 (L : pmL) (S : List Value) (g : pmH) : pmV mX12_gladOf 33 L S g = zGet mX12_gladOf 36 12 9 L S g := ez_getfield kcX12_gladOf dX12_gladOf_33 fl_12_28 rfl L S g
theorem eX12_gladOf_36 (L : pmL) (S : List Value) (g : pmH) : pmV mX12_gladOf 36 L S g = zPush mX12_gladOf 38 (.int (nI 15)) L S g := ez_bipush kcX12_gladOf dX12_gladOf_36 (by decide) rfl L S g
theorem eX12_gladOf_38 (L : pmL) (S : List Value) (g : pmH) : pmV mX12_gladOf 38 L S g = zLdI mX12_gladOf 39 2 L S g := ez_iload_n kcX12_gladOf dX12_gladOf_38 rfl rfl L S g
theorem eX12_gladOf_39 (L : pmL) (S : List Value) (g : pmH) : pmV mX12_gladOf 39 L S g = zAdd mX12_gladOf 40 L S g := ez_iadd kcX12_gladOf dX12_gladOf_39 rfl L S g
theorem eX12_gladOf_40 (L : pmL) (S : List Value) (g : pmH) : pmV mX12_gladOf 40 L S g = zIald mX12_gladOf 41 L S g := ez_iaload kcX12_gladOf dX12_gladOf_40 rfl L S g
theorem eX12_gladOf_41 (L : pmL) (S : List Value) (g : pmH) : pmV mX12_gladOf 41 L S g = yS mX12_gladOf 44 2 mX12_has 2 L S g := (ez_static kcX12_gladOf dX12_gladOf_41 ml_12_86 (by decide) rfl L S g).trans (zCall_y rfl (by decide) L S g)
theorem eX12_gladOf_44 (L : pmL) (S : List Value) (g : pmH) : pmV mX12_gladOf 44 L S g = zCne mX12_gladOf 47 51 L S g := ez_if_ne kcX12_gladOf dX12_gladOf_44 (by decide) rfl L S g
theorem eX12_gladOf_47 (L : pmL) (S : List Value) (g : pmH) : pmV mX12_gladOf 47 L S g = zPush mX12_gladOf 48 (.int (nI 1)) L S g := ez_iconst kcX12_gladOf dX12_gladOf_47 (by decide) rfl L S g
theorem eX12_gladOf_48 (L : pmL) (S : List Value) (g : pmH) : pmV mX12_gladOf 48 L S g = zNx mX12_gladOf 52 L S g := ez_goto kcX12_gladOf dX12_gladOf_48 (by decide) L S g
theorem eX12_gladOf_51 (L : pmL) (S : List Value) (g : pmH) : pmV mX12_gladOf 51 L S g = zPush mX12_gladOf 52 (.int (nI 0)) L S g := ez_iconst kcX12_gladOf dX12_gladOf_51 (by decide) rfl L S g
theorem eX12_gladOf_52 (L : pmL) (S : List Value) (g : pmH) : pmV mX12_gladOf 52 L S g = zStI mX12_gladOf 53 3 L S g := ez_istore_n kcX12_gladOf dX12_gladOf_52 rfl rfl L S g
theorem eX12_gladOf_53 (L : pmL) (S : List Value) (g : pmH) : pmV mX12_gladOf 53 L S g = zLdA mX12_gladOf 54 0 L S g := ez_aload_n kcX12_gladOf dX12_gladOf_53 rfl rfl L S g
theorem eX12_gladOf_54 (L : pmL) (S : List Value) (g : pmH) : pmV mX12_gladOf 54 L S g = zGet mX12_gladOf 57 12 9 L S g := ez_getfield kcX12_gladOf dX12_gladOf_54 fl_12_28 rfl L S g
theorem eX12_gladOf_57 (L : pmL) (S : List Value) (g : pmH) : pmV mX12_gladOf 57 L S g = zPush mX12_gladOf 59 (.int (nI 36)) L S g := ez_bipush kcX12_gladOf dX12_gladOf_57 (by decide) rfl L S g
theorem eX12_gladOf_59 (L : pmL) (S : List Value) (g : pmH) : pmV mX12_gladOf 59 L S g = zLdI mX12_gladOf 60 2 L S g := ez_iload_n kcX12_gladOf dX12_gladOf_59 rfl rfl L S g
theorem eX12_gladOf_60 (L : pmL) (S : List Value) (g : pmH) : pmV mX12_gladOf 60 L S g = zAdd mX12_gladOf 61 L S g := ez_iadd kcX12_gladOf dX12_gladOf_60 rfl L S g
theorem eX12_gladOf_61 (L : pmL) (S : List Value) (g : pmH) : pmV mX12_gladOf 61 L S g = zLdI mX12_gladOf 62 3 L S g := ez_iload_n kcX12_gladOf dX12_gladOf_61 rfl rfl L S g
theorem eX12_gladOf_62 (L : pmL) (S : List Value) (g : pmH) : pmV mX12_gladOf 62 L S g = zCeq mX12_gladOf 65 69 L S g := ez_if_eq kcX12_gladOf dX12_gladOf_62 (by decide) rfl L S g
theorem eX12_gladOf_65 (L : pmL) (S : List Value) (g : pmH) : pmV mX12_gladOf 65 L S g = zPush mX12_gladOf 66 (.int (nI 3)) L S g := ez_iconst kcX12_gladOf dX12_gladOf_65 (by decide) rfl L S g
theorem eX12_gladOf_66 (L : pmL) (S : List Value) (g : pmH) : pmV mX12_gladOf 66 L S g = zNx mX12_gladOf 78 L S g := ez_goto kcX12_gladOf dX12_gladOf_66 (by decide) L S g
theorem eX12_gladOf_69 (L : pmL) (S : List Value) (g : pmH) : pmV mX12_gladOf 69 L S g = zLdA mX12_gladOf 70 0 L S g := ez_aload_n kcX12_gladOf dX12_gladOf_69 rfl rfl L S g
theorem eX12_gladOf_70 (L : pmL) (S : List Value) (g : pmH) : pmV mX12_gladOf 70 L S g = zGet mX12_gladOf 73 12 9 L S g := ez_getfield kcX12_gladOf dX12_gladOf_70 fl_12_28 rfl L S g
theorem eX12_gladOf_73 (L : pmL) (S : List Value) (g : pmH) : pmV mX12_gladOf 73 L S g = zPush mX12_gladOf 75 (.int (nI 36)) L S g := ez_bipush kcX12_gladOf dX12_gladOf_73 (by decide) rfl L S g
theorem eX12_gladOf_75 (L : pmL) (S : List Value) (g : pmH) : pmV mX12_gladOf 75 L S g = zLdI mX12_gladOf 76 2 L S g := ez_iload_n kcX12_gladOf dX12_gladOf_75 rfl rfl L S g
theorem eX12_gladOf_76 (L : pmL) (S : List Value) (g : pmH) : pmV mX12_gladOf 76 L S g = zAdd mX12_gladOf 77 L S g := ez_iadd kcX12_gladOf dX12_gladOf_76 rfl L S g
theorem eX12_gladOf_77 (L : pmL) (S : List Value) (g : pmH) : pmV mX12_gladOf 77 L S g = zIald mX12_gladOf 78 L S g := ez_iaload kcX12_gladOf dX12_gladOf_77 rfl L S g
theorem eX12_gladOf_78 (L : pmL) (S : List Value) (g : pmH) : pmV mX12_gladOf 78 L S g = zIast mX12_gladOf 79 L S g := ez_iastore kcX12_gladOf dX12_gladOf_78 rfl L S g
theorem eX12_gladOf_79 (L : pmL) (S : List Value) (g : pmH) : pmV mX12_gladOf 79 L S g = zInc mX12_gladOf 82 2 (nI 1) L S g := ez_iinc kcX12_gladOf dX12_gladOf_79 (by decide) rfl L S g
theorem eX12_gladOf_82 (L : pmL) (S : List Value) (g : pmH) : pmV mX12_gladOf 82 L S g = zNx mX12_gladOf 11 L S g := ez_goto kcX12_gladOf dX12_gladOf_82 (by decide) L S g
theorem eX12_gladOf_85 (L : pmL) (S : List Value) (g : pmH) : pmV mX12_gladOf 85 L S g = zLdA mX12_gladOf 86 0 L S g := ez_aload_n kcX12_gladOf dX12_gladOf_85 rfl rfl L S g
theorem eX12_gladOf_86 (L : pmL) (S : List Value) (g : pmH) : pmV mX12_gladOf 86 L S g = zPush mX12_gladOf 88 (.int (nI 30)) L S g := ez_bipush kcX12_gladOf dX12_gladOf_86 (by decide) rfl L S g
theorem eX12_gladOf_88 (L : pmL) (S : List Value) (g : pmH) : pmV mX12_gladOf 88 L S g = yV mX12_gladOf 91 1 mX12_goOn 12 3 L S g := (ez_virtual kcX12_gladOf dX12_gladOf_88 ml_12_189 rfl L S g).trans (zCallV_y rfl rfl (by decide) L S g)
theorem eX12_gladOf_91 (L : pmL) (S : List Value) (g : pmH) : pmV mX12_gladOf 91 L S g = zLdA mX12_gladOf 92 0 L S g := ez_aload_n kcX12_gladOf dX12_gladOf_91 rfl rfl L S g
theorem eX12_gladOf_92 (L : pmL) (S : List Value) (g : pmH) : pmV mX12_gladOf 92 L S g = zPush mX12_gladOf 94 (.int (nI 15)) L S g := ez_bipush kcX12_gladOf dX12_gladOf_92 (by decide) rfl L S g
theorem eX12_gladOf_94 (L : pmL) (S : List Value) (g : pmH) : pmV mX12_gladOf 94 L S g = zPut mX12_gladOf 97 12 21 L S g := ez_putfield kcX12_gladOf dX12_gladOf_94 fl_12_43 rfl L S g
theorem eX12_gladOf_97 (L : pmL) (S : List Value) (g : pmH) : pmV mX12_gladOf 97 L S g = zLdA mX12_gladOf 98 0 L S g := ez_aload_n kcX12_gladOf dX12_gladOf_97 rfl rfl L S g
theorem eX12_gladOf_98 (L : pmL) (S : List Value) (g : pmH) : pmV mX12_gladOf 98 L S g = zPush mX12_gladOf 99 (.int (nI 1)) L S g := ez_iconst kcX12_gladOf dX12_gladOf_98 (by decide) rfl L S g
theorem eX12_gladOf_99 (L : pmL) (S : List Value) (g : pmH) : pmV mX12_gladOf 99 L S g = yV mX12_gladOf 102 1 mX12_glad 12 5 L S g := (ez_virtual kcX12_gladOf dX12_gladOf_99 ml_12_156 rfl L S g).trans (zCallV_y rfl rfl (by decide) L S g)
theorem eX12_gladOf_102 (L : pmL) (S : List Value) (g : pmH) : pmV mX12_gladOf 102 L S g = yS mX12_gladOf 105 1 mX12_ones 3 L S g := (ez_static kcX12_gladOf dX12_gladOf_102 ml_12_174 (by decide) rfl L S g).trans (zCall_y rfl (by decide) L S g)
theorem eX12_gladOf_105 (L : pmL) (S : List Value) (g : pmH) : pmV mX12_gladOf 105 L S g = zIret mX12_gladOf S g := ez_ireturn kcX12_gladOf dX12_gladOf_105 L S g
theorem eX12_share_0 (L : pmL) (S : List Value) (g : pmH) : pmV mX12_share 0 L S g = zLdA mX12_share 1 0 L S g := ez_aload_n kcX12_share dX12_share_0 rfl rfl L S g
theorem eX12_share_1 (L : pmL) (S : List Value) (g : pmH) : pmV mX12_share 1 L S g = zLdI mX12_share 2 1 L S g := ez_iload_n kcX12_share dX12_share_1 rfl rfl L S g
theorem eX12_share_2 (L : pmL) (S : List Value) (g : pmH) : pmV mX12_share 2 L S g = yV mX12_share 5 1 mX12_isHedge 12 2 L S g := (ez_virtual kcX12_share dX12_share_2 ml_12_159 rfl L S g).trans (zCallV_y rfl rfl (by decide) L S g)
theorem eX12_share_5 (L : pmL) (S : List Value) (g : pmH) : pmV mX12_share 5 L S g = zCne mX12_share 8 10 L S g := ez_if_ne kcX12_share dX12_share_5 (by decide) rfl L S g
theorem eX12_share_8 (L : pmL) (S : List Value) (g : pmH) : pmV mX12_share 8 L S g = zPush mX12_share 9 (.int (-1)) L S g := ez_iconst kcX12_share dX12_share_8 (by decide) rfl L S g
theorem eX12_share_9 (L : pmL) (S : List Value) (g : pmH) : pmV mX12_share 9 L S g = zIret mX12_share S g := ez_ireturn kcX12_share dX12_share_9 L S g
theorem eX12_share_10 (L : pmL) (S : List Value) (g : pmH) : pmV mX12_share 10 L S g = zPush mX12_share 11 (.int (nI 0)) L S g := ez_iconst kcX12_share dX12_share_10 (by decide) rfl L S g
theorem eX12_share_11 (L : pmL) (S : List Value) (g : pmH) : pmV mX12_share 11 L S g = zStI mX12_share 12 3 L S g := ez_istore_n kcX12_share dX12_share_11 rfl rfl L S g
theorem eX12_share_12 (L : pmL) (S : List Value) (g : pmH) : pmV mX12_share 12 L S g = zPush mX12_share 13 (.int (nI 0)) L S g := ez_iconst kcX12_share dX12_share_12 (by decide) rfl L S g
theorem eX12_share_13 (L : pmL) (S : List Value) (g : pmH) : pmV mX12_share 13 L S g = zStI mX12_share 15 4 L S g := ez_istore kcX12_share dX12_share_13 rfl L S g
theorem eX12_share_15 (L : pmL) (S : List Value) (g : pmH) : pmV mX12_share 15 L S g = zLdI mX12_share 17 4 L S g := ez_iload kcX12_share dX12_share_15 rfl L S g
theorem eX12_share_17 (L : pmL) (S : List Value) (g : pmH) : pmV mX12_share 17 L S g = zPush mX12_share 18 (.int (nI 1)) L S g := ez_iconst kcX12_share dX12_share_17 (by decide) rfl L S g
theorem eX12_share_18 (L : pmL) (S : List Value) (g : pmH) : pmV mX12_share 18 L S g = zLdA mX12_share 19 0 L S g := ez_aload_n kcX12_share dX12_share_18 rfl rfl L S g
theorem eX12_share_19 (L : pmL) (S : List Value) (g : pmH) : pmV mX12_share 19 L S g = zGet mX12_share 22 12 2 L S g := ez_getfield kcX12_share dX12_share_19 fl_12_123 rfl L S g
theorem eX12_share_22 (L : pmL) (S : List Value) (g : pmH) : pmV mX12_share 22 L S g = zShl mX12_share 23 L S g := ez_ishl kcX12_share dX12_share_22 rfl L S g
theorem eX12_share_23 (L : pmL) (S : List Value) (g : pmH) : pmV mX12_share 23 L S g = zBge mX12_share 26 90 L S g := ez_icmp_ge kcX12_share dX12_share_23 (by decide) rfl L S g
theorem eX12_share_26 (L : pmL) (S : List Value) (g : pmH) : pmV mX12_share 26 L S g = zLdI mX12_share 28 4 L S g := ez_iload kcX12_share dX12_share_26 rfl L S g
theorem eX12_share_28 (L : pmL) (S : List Value) (g : pmH) : pmV mX12_share 28 L S g = zLdI mX12_share 29 1 L S g := ez_iload_n kcX12_share dX12_share_28 rfl rfl L S g
theorem eX12_share_29 (L : pmL) (S : List Value) (g : pmH) : pmV mX12_share 29 L S g = yS mX12_share 32 2 mX12_has 2 L S g := (ez_static kcX12_share dX12_share_29 ml_12_86 (by decide) rfl L S g).trans (zCall_y rfl (by decide) L S g)
theorem eX12_share_32 (L : pmL) (S : List Value) (g : pmH) : pmV mX12_share 32 L S g = zCne mX12_share 35 84 L S g := ez_if_ne kcX12_share dX12_share_32 (by decide) rfl L S g
theorem eX12_share_35 (L : pmL) (S : List Value) (g : pmH) : pmV mX12_share 35 L S g = zLdI mX12_share 37 4 L S g := ez_iload kcX12_share dX12_share_35 rfl L S g
theorem eX12_share_37 (L : pmL) (S : List Value) (g : pmH) : pmV mX12_share 37 L S g = yS mX12_share 40 1 mX12_ones 3 L S g := (ez_static kcX12_share dX12_share_37 ml_12_174 (by decide) rfl L S g).trans (zCall_y rfl (by decide) L S g)
theorem eX12_share_40 (L : pmL) (S : List Value) (g : pmH) : pmV mX12_share 40 L S g = yS mX12_share 43 1 mX12_factorial 3 L S g := (ez_static kcX12_share dX12_share_40 ml_12_233 (by decide) rfl L S g).trans (zCall_y rfl (by decide) L S g)
theorem eX12_share_43 (L : pmL) (S : List Value) (g : pmH) : pmV mX12_share 43 L S g = zLdA mX12_share 44 0 L S g := ez_aload_n kcX12_share dX12_share_43 rfl rfl L S g
theorem eX12_share_44 (L : pmL) (S : List Value) (g : pmH) : pmV mX12_share 44 L S g = zGet mX12_share 47 12 2 L S g := ez_getfield kcX12_share dX12_share_44 fl_12_123 rfl L S g
theorem eX12_share_47 (L : pmL) (S : List Value) (g : pmH) : pmV mX12_share 47 L S g = zPush mX12_share 48 (.int (nI 1)) L S g := ez_iconst kcX12_share dX12_share_47 (by decide) rfl L S g
theorem eX12_share_48 (L : pmL) (S : List Value) (g : pmH) : pmV mX12_share 48 L S g = zSub mX12_share 49 L S g := ez_isub kcX12_share dX12_share_48 rfl L S g
theorem eX12_share_49 (L : pmL) (S : List Value) (g : pmH) : pmV mX12_share 49 L S g = zLdI mX12_share 51 4 L S g := ez_iload kcX12_share dX12_share_49 rfl L S g
theorem eX12_share_51 (L : pmL) (S : List Value) (g : pmH) : pmV mX12_share 51 L S g = yS mX12_share 54 1 mX12_ones 3 L S g := (ez_static kcX12_share dX12_share_51 ml_12_174 (by decide) rfl L S g).trans (zCall_y rfl (by decide) L S g)
theorem eX12_share_54 (L : pmL) (S : List Value) (g : pmH) : pmV mX12_share 54 L S g = zSub mX12_share 55 L S g := ez_isub kcX12_share dX12_share_54 rfl L S g
theorem eX12_share_55 (L : pmL) (S : List Value) (g : pmH) : pmV mX12_share 55 L S g = yS mX12_share 58 1 mX12_factorial 3 L S g := (ez_static kcX12_share dX12_share_55 ml_12_233 (by decide) rfl L S g).trans (zCall_y rfl (by decide) L S g)
theorem eX12_share_58 (L : pmL) (S : List Value) (g : pmH) : pmV mX12_share 58 L S g = zMul mX12_share 59 L S g := ez_imul kcX12_share dX12_share_58 rfl L S g
theorem eX12_share_59 (L : pmL) (S : List Value) (g : pmH) : pmV mX12_share 59 L S g = zStI mX12_share 61 5 L S g := ez_istore kcX12_share dX12_share_59 rfl L S g
theorem eX12_share_61 (L : pmL) (S : List Value) (g : pmH) : pmV mX12_share 61 L S g = zLdI mX12_share 62 3 L S g := ez_iload_n kcX12_share dX12_share_61 rfl rfl L S g
theorem eX12_share_62 (L : pmL) (S : List Value) (g : pmH) : pmV mX12_share 62 L S g = zLdI mX12_share 64 5 L S g := ez_iload kcX12_share dX12_share_62 rfl L S g
theorem eX12_share_64 (L : pmL) (S : List Value) (g : pmH) : pmV mX12_share 64 L S g = zLdA mX12_share 65 0 L S g := ez_aload_n kcX12_share dX12_share_64 rfl rfl L S g
theorem eX12_share_65 (L : pmL) (S : List Value) (g : pmH) : pmV mX12_share 65 L S g = zLdI mX12_share 67 4 L S g := ez_iload kcX12_share dX12_share_65 rfl L S g
theorem eX12_share_67 (L : pmL) (S : List Value) (g : pmH) : pmV mX12_share 67 L S g = zPush mX12_share 68 (.int (nI 1)) L S g := ez_iconst kcX12_share dX12_share_67 (by decide) rfl L S g
theorem eX12_share_68 (L : pmL) (S : List Value) (g : pmH) : pmV mX12_share 68 L S g = zLdI mX12_share 69 1 L S g := ez_iload_n kcX12_share dX12_share_68 rfl rfl L S g
theorem eX12_share_69 (L : pmL) (S : List Value) (g : pmH) : pmV mX12_share 69 L S g = zShl mX12_share 70 L S g := ez_ishl kcX12_share dX12_share_69 rfl L S g
theorem eX12_share_70 (L : pmL) (S : List Value) (g : pmH) : pmV mX12_share 70 L S g = zOr mX12_share 71 L S g := ez_ior kcX12_share dX12_share_70 rfl L S g
theorem eX12_share_71 (L : pmL) (S : List Value) (g : pmH) : pmV mX12_share 71 L S g = yV mX12_share 74 1 mX12_gladOf 12 4 L S g := (ez_virtual kcX12_share dX12_share_71 ml_12_236 rfl L S g).trans (zCallV_y rfl rfl (by decide) L S g)
theorem eX12_share_74 (L : pmL) (S : List Value) (g : pmH) : pmV mX12_share 74 L S g = zLdA mX12_share 75 0 L S g := ez_aload_n kcX12_share dX12_share_74 rfl rfl L S g
theorem eX12_share_75 (L : pmL) (S : List Value) (g : pmH) : pmV mX12_share 75 L S g = zLdI mX12_share 77 4 L S g := ez_iload kcX12_share dX12_share_75 rfl L S g
theorem eX12_share_77 (L : pmL) (S : List Value) (g : pmH) : pmV mX12_share 77 L S g = yV mX12_share 80 1 mX12_gladOf 12 4 L S g := (ez_virtual kcX12_share dX12_share_77 ml_12_236 rfl L S g).trans (zCallV_y rfl rfl (by decide) L S g)
theorem eX12_share_80 (L : pmL) (S : List Value) (g : pmH) : pmV mX12_share 80 L S g = zSub mX12_share 81 L S g := ez_isub kcX12_share dX12_share_80 rfl L S g
theorem eX12_share_81 (L : pmL) (S : List Value) (g : pmH) : pmV mX12_share 81 L S g = zMul mX12_share 82 L S g := ez_imul kcX12_share dX12_share_81 rfl L S g
theorem eX12_share_82 (L : pmL) (S : List Value) (g : pmH) : pmV mX12_share 82 L S g = zAdd mX12_share 83 L S g := ez_iadd kcX12_share dX12_share_82 rfl L S g
theorem eX12_share_83 (L : pmL) (S : List Value) (g : pmH) : pmV mX12_share 83 L S g = zStI mX12_share 84 3 L S g := ez_istore_n kcX12_share dX12_share_83 rfl rfl L S g
theorem eX12_share_84 (L : pmL) (S : List Value) (g : pmH) : pmV mX12_share 84 L S g = zInc mX12_share 87 4 (nI 1) L S g := ez_iinc kcX12_share dX12_share_84 (by decide) rfl L S g
theorem eX12_share_87 (L : pmL) (S : List Value) (g : pmH) : pmV mX12_share 87 L S g = zNx mX12_share 15 L S g := ez_goto kcX12_share dX12_share_87 (by decide) L S g
theorem eX12_share_90 (L : pmL) (S : List Value) (g : pmH) : pmV mX12_share 90 L S g = zLdI mX12_share 91 3 L S g := ez_iload_n kcX12_share dX12_share_90 rfl rfl L S g
theorem eX12_share_91 (L : pmL) (S : List Value) (g : pmH) : pmV mX12_share 91 L S g = zLdA mX12_share 92 0 L S g := ez_aload_n kcX12_share dX12_share_91 rfl rfl L S g
theorem eX12_share_92 (L : pmL) (S : List Value) (g : pmH) : pmV mX12_share 92 L S g = zGet mX12_share 95 12 2 L S g := ez_getfield kcX12_share dX12_share_92 fl_12_123 rfl L S g
theorem eX12_share_95 (L : pmL) (S : List Value) (g : pmH) : pmV mX12_share 95 L S g = yS mX12_share 98 1 mX12_factorial 3 L S g := (ez_static kcX12_share dX12_share_95 ml_12_233 (by decide) rfl L S g).trans (zCall_y rfl (by decide) L S g)
theorem eX12_share_98 (L : pmL) (S : List Value) (g : pmH) : pmV mX12_share 98 L S g = yS mX12_share 101 2 mX12_common 5 L S g := (ez_static kcX12_share dX12_share_98 ml_12_239 (by decide) rfl L S g).trans (zCall_y rfl (by decide) L S g)
theorem eX12_share_101 (L : pmL) (S : List Value) (g : pmH) : pmV mX12_share 101 L S g = zStI mX12_share 103 4 L S g := ez_istore kcX12_share dX12_share_101 rfl L S g
theorem eX12_share_103 (L : pmL) (S : List Value) (g : pmH) : pmV mX12_share 103 L S g = zLdI mX12_share 104 2 L S g := ez_iload_n kcX12_share dX12_share_103 rfl rfl L S g
theorem eX12_share_104 (L : pmL) (S : List Value) (g : pmH) : pmV mX12_share 104 L S g = zCeq mX12_share 107 114 L S g := ez_if_eq kcX12_share dX12_share_104 (by decide) rfl L S g
theorem eX12_share_107 (L : pmL) (S : List Value) (g : pmH) : pmV mX12_share 107 L S g = zLdI mX12_share 108 3 L S g := ez_iload_n kcX12_share dX12_share_107 rfl rfl L S g
theorem eX12_share_108 (L : pmL) (S : List Value) (g : pmH) : pmV mX12_share 108 L S g = zLdI mX12_share 110 4 L S g := ez_iload kcX12_share dX12_share_108 rfl L S g
theorem eX12_share_110 (L : pmL) (S : List Value) (g : pmH) : pmV mX12_share 110 L S g = zDiv mX12_share 111 L S g := ez_idiv kcX12_share dX12_share_110 rfl L S g
theorem eX12_share_111 (L : pmL) (S : List Value) (g : pmH) : pmV mX12_share 111 L S g = zNx mX12_share 124 L S g := ez_goto kcX12_share dX12_share_111 (by decide) L S g
theorem eX12_share_114 (L : pmL) (S : List Value) (g : pmH) : pmV mX12_share 114 L S g = zLdA mX12_share 115 0 L S g := ez_aload_n kcX12_share dX12_share_114 rfl rfl L S g
theorem eX12_share_115 (L : pmL) (S : List Value) (g : pmH) : pmV mX12_share 115 L S g = zGet mX12_share 118 12 2 L S g := ez_getfield kcX12_share dX12_share_115 fl_12_123 rfl L S g
theorem eX12_share_118 (L : pmL) (S : List Value) (g : pmH) : pmV mX12_share 118 L S g = yS mX12_share 121 1 mX12_factorial 3 L S g := (ez_static kcX12_share dX12_share_118 ml_12_233 (by decide) rfl L S g).trans (zCall_y rfl (by decide) L S g)
theorem eX12_share_121 (L : pmL) (S : List Value) (g : pmH) : pmV mX12_share 121 L S g = zLdI mX12_share 123 4 L S g := ez_iload kcX12_share dX12_share_121 rfl L S g
theorem eX12_share_123 (L : pmL) (S : List Value) (g : pmH) : pmV mX12_share 123 L S g = zDiv mX12_share 124 L S g := ez_idiv kcX12_share dX12_share_123 rfl L S g
theorem eX12_share_124 (L : pmL) (S : List Value) (g : pmH) : pmV mX12_share 124 L S g = zIret mX12_share S g := ez_ireturn kcX12_share dX12_share_124 L S g
theorem eX12_gain_0 (L : pmL) (S : List Value) (g : pmH) : pmV mX12_gain 0 L S g = zLdA mX12_gain 1 0 L S g := ez_aload_n kcX12_gain dX12_gain_0 rfl rfl L S g
theorem eX12_gain_1 (L : pmL) (S : List Value) (g : pmH) : pmV mX12_gain 1 L S g = yV mX12_gain 4 0 mX12_layTrial 12 2 L S g := (ez_virtual kcX12_gain dX12_gain_1 ml_12_186 rfl L S g).trans (zCallV_y rfl rfl (by decide) L S g)
theorem eX12_gain_4 (L : pmL) (S : List Value) (g : pmH) : pmV mX12_gain 4 L S g = zLdA mX12_gain 5 0 L S g := ez_aload_n kcX12_gain dX12_gain_4 rfl rfl L S g
theorem eX12_gain_5 (L : pmL) (S : List Value) (g : pmH) : pmV mX12_gain 5 L S g = zGet mX12_gain 8 12 9 L S g := ez_getfield kcX12_gain dX12_gain_5 fl_12_28 rfl L S g
theorem eX12_gain_8 (L : pmL) (S : List Value) (g : pmH) : pmV mX12_gain 8 L S g = zPush mX12_gain 10 (.int (nI 36)) L S g := ez_bipush kcX12_gain dX12_gain_8 (by decide) rfl L S g
theorem eX12_gain_10 (L : pmL) (S : List Value) (g : pmH) : pmV mX12_gain 10 L S g = zLdI mX12_gain 11 1 L S g := ez_iload_n kcX12_gain dX12_gain_10 rfl rfl L S g
theorem eX12_gain_11 (L : pmL) (S : List Value) (g : pmH) : pmV mX12_gain 11 L S g = zAdd mX12_gain 12 L S g := ez_iadd kcX12_gain dX12_gain_11 rfl L S g
theorem eX12_gain_12 (L : pmL) (S : List Value) (g : pmH) : pmV mX12_gain 12 L S g = zLdI mX12_gain 13 3 L S g := ez_iload_n kcX12_gain dX12_gain_12 rfl rfl L S g
theorem eX12_gain_13 (L : pmL) (S : List Value) (g : pmH) : pmV mX12_gain 13 L S g = zPush mX12_gain 14 (.int (nI 1)) L S g := ez_iconst kcX12_gain dX12_gain_13 (by decide) rfl L S g
theorem eX12_gain_14 (L : pmL) (S : List Value) (g : pmH) : pmV mX12_gain 14 L S g = zBne mX12_gain 17 21 L S g := ez_icmp_ne kcX12_gain dX12_gain_14 (by decide) rfl L S g
theorem eX12_gain_17 (L : pmL) (S : List Value) (g : pmH) : pmV mX12_gain 17 L S g = zPush mX12_gain 18 (.int (nI 1)) L S g := ez_iconst kcX12_gain dX12_gain_17 (by decide) rfl L S g
theorem eX12_gain_18 (L : pmL) (S : List Value) (g : pmH) : pmV mX12_gain 18 L S g = zNx mX12_gain 22 L S g := ez_goto kcX12_gain dX12_gain_18 (by decide) L S g
theorem eX12_gain_21 (L : pmL) (S : List Value) (g : pmH) : pmV mX12_gain 21 L S g = zPush mX12_gain 22 (.int (nI 0)) L S g := ez_iconst kcX12_gain dX12_gain_21 (by decide) rfl L S g
theorem eX12_gain_22 (L : pmL) (S : List Value) (g : pmH) : pmV mX12_gain 22 L S g = zIast mX12_gain 23 L S g := ez_iastore kcX12_gain dX12_gain_22 rfl L S g
theorem eX12_gain_23 (L : pmL) (S : List Value) (g : pmH) : pmV mX12_gain 23 L S g = zLdA mX12_gain 24 0 L S g := ez_aload_n kcX12_gain dX12_gain_23 rfl rfl L S g
theorem eX12_gain_24 (L : pmL) (S : List Value) (g : pmH) : pmV mX12_gain 24 L S g = zGet mX12_gain 27 12 9 L S g := ez_getfield kcX12_gain dX12_gain_24 fl_12_28 rfl L S g
theorem eX12_gain_27 (L : pmL) (S : List Value) (g : pmH) : pmV mX12_gain 27 L S g = zPush mX12_gain 29 (.int (nI 36)) L S g := ez_bipush kcX12_gain dX12_gain_27 (by decide) rfl L S g
theorem eX12_gain_29 (L : pmL) (S : List Value) (g : pmH) : pmV mX12_gain 29 L S g = zLdI mX12_gain 30 2 L S g := ez_iload_n kcX12_gain dX12_gain_29 rfl rfl L S g
theorem eX12_gain_30 (L : pmL) (S : List Value) (g : pmH) : pmV mX12_gain 30 L S g = zAdd mX12_gain 31 L S g := ez_iadd kcX12_gain dX12_gain_30 rfl L S g
theorem eX12_gain_31 (L : pmL) (S : List Value) (g : pmH) : pmV mX12_gain 31 L S g = zLdI mX12_gain 33 4 L S g := ez_iload kcX12_gain dX12_gain_31 rfl L S g
theorem eX12_gain_33 (L : pmL) (S : List Value) (g : pmH) : pmV mX12_gain 33 L S g = zPush mX12_gain 34 (.int (nI 1)) L S g := ez_iconst kcX12_gain dX12_gain_33 (by decide) rfl L S g
theorem eX12_gain_34 (L : pmL) (S : List Value) (g : pmH) : pmV mX12_gain 34 L S g = zBne mX12_gain 37 41 L S g := ez_icmp_ne kcX12_gain dX12_gain_34 (by decide) rfl L S g
theorem eX12_gain_37 (L : pmL) (S : List Value) (g : pmH) : pmV mX12_gain 37 L S g = zPush mX12_gain 38 (.int (nI 1)) L S g := ez_iconst kcX12_gain dX12_gain_37 (by decide) rfl L S g
theorem eX12_gain_38 (L : pmL) (S : List Value) (g : pmH) : pmV mX12_gain 38 L S g = zNx mX12_gain 42 L S g := ez_goto kcX12_gain dX12_gain_38 (by decide) L S g
theorem eX12_gain_41 (L : pmL) (S : List Value) (g : pmH) : pmV mX12_gain 41 L S g = zPush mX12_gain 42 (.int (nI 0)) L S g := ez_iconst kcX12_gain dX12_gain_41 (by decide) rfl L S g
theorem eX12_gain_42 (L : pmL) (S : List Value) (g : pmH) : pmV mX12_gain 42 L S g = zIast mX12_gain 43 L S g := ez_iastore kcX12_gain dX12_gain_42 rfl L S g
theorem eX12_gain_43 (L : pmL) (S : List Value) (g : pmH) : pmV mX12_gain 43 L S g = zLdA mX12_gain 44 0 L S g := ez_aload_n kcX12_gain dX12_gain_43 rfl rfl L S g
theorem eX12_gain_44 (L : pmL) (S : List Value) (g : pmH) : pmV mX12_gain 44 L S g = zPush mX12_gain 46 (.int (nI 9)) L S g := ez_bipush kcX12_gain dX12_gain_44 (by decide) rfl L S g
theorem eX12_gain_46 (L : pmL) (S : List Value) (g : pmH) : pmV mX12_gain 46 L S g = yV mX12_gain 49 1 mX12_goOn 12 3 L S g := (ez_virtual kcX12_gain dX12_gain_46 ml_12_189 rfl L S g).trans (zCallV_y rfl rfl (by decide) L S g)
theorem eX12_gain_49 (L : pmL) (S : List Value) (g : pmH) : pmV mX12_gain 49 L S g = zLdA mX12_gain 50 0 L S g := ez_aload_n kcX12_gain dX12_gain_49 rfl rfl L S g
theorem eX12_gain_50 (L : pmL) (S : List Value) (g : pmH) : pmV mX12_gain 50 L S g = zGet mX12_gain 53 12 9 L S g := ez_getfield kcX12_gain dX12_gain_50 fl_12_28 rfl L S g
theorem eX12_gain_53 (L : pmL) (S : List Value) (g : pmH) : pmV mX12_gain 53 L S g = zPush mX12_gain 55 (.int (nI 36)) L S g := ez_bipush kcX12_gain dX12_gain_53 (by decide) rfl L S g
theorem eX12_gain_55 (L : pmL) (S : List Value) (g : pmH) : pmV mX12_gain 55 L S g = zLdI mX12_gain 56 1 L S g := ez_iload_n kcX12_gain dX12_gain_55 rfl rfl L S g
theorem eX12_gain_56 (L : pmL) (S : List Value) (g : pmH) : pmV mX12_gain 56 L S g = zAdd mX12_gain 57 L S g := ez_iadd kcX12_gain dX12_gain_56 rfl L S g
theorem eX12_gain_57 (L : pmL) (S : List Value) (g : pmH) : pmV mX12_gain 57 L S g = zIald mX12_gain 58 L S g := ez_iaload kcX12_gain dX12_gain_57 rfl L S g
theorem eX12_gain_58 (L : pmL) (S : List Value) (g : pmH) : pmV mX12_gain 58 L S g = zCne mX12_gain 61 65 L S g := ez_if_ne kcX12_gain dX12_gain_58 (by decide) rfl L S g
theorem eX12_gain_61 (L : pmL) (S : List Value) (g : pmH) : pmV mX12_gain 61 L S g = zPush mX12_gain 62 (.int (nI 1)) L S g := ez_iconst kcX12_gain dX12_gain_61 (by decide) rfl L S g
theorem eX12_gain_62 (L : pmL) (S : List Value) (g : pmH) : pmV mX12_gain 62 L S g = zNx mX12_gain 66 L S g := ez_goto kcX12_gain dX12_gain_62 (by decide) L S g
theorem eX12_gain_65 (L : pmL) (S : List Value) (g : pmH) : pmV mX12_gain 65 L S g = zPush mX12_gain 66 (.int (nI 0)) L S g := ez_iconst kcX12_gain dX12_gain_65 (by decide) rfl L S g
theorem eX12_gain_66 (L : pmL) (S : List Value) (g : pmH) : pmV mX12_gain 66 L S g = zStI mX12_gain 68 5 L S g := ez_istore kcX12_gain dX12_gain_66 rfl L S g
theorem eX12_gain_68 (L : pmL) (S : List Value) (g : pmH) : pmV mX12_gain 68 L S g = zLdA mX12_gain 69 0 L S g := ez_aload_n kcX12_gain dX12_gain_68 rfl rfl L S g
theorem eX12_gain_69 (L : pmL) (S : List Value) (g : pmH) : pmV mX12_gain 69 L S g = zGet mX12_gain 72 12 9 L S g := ez_getfield kcX12_gain dX12_gain_69 fl_12_28 rfl L S g
theorem eX12_gain_72 (L : pmL) (S : List Value) (g : pmH) : pmV mX12_gain 72 L S g = zPush mX12_gain 74 (.int (nI 36)) L S g := ez_bipush kcX12_gain dX12_gain_72 (by decide) rfl L S g
theorem eX12_gain_74 (L : pmL) (S : List Value) (g : pmH) : pmV mX12_gain 74 L S g = zLdI mX12_gain 75 1 L S g := ez_iload_n kcX12_gain dX12_gain_74 rfl rfl L S g
theorem eX12_gain_75 (L : pmL) (S : List Value) (g : pmH) : pmV mX12_gain 75 L S g = zAdd mX12_gain 76 L S g := ez_iadd kcX12_gain dX12_gain_75 rfl L S g
theorem eX12_gain_76 (L : pmL) (S : List Value) (g : pmH) : pmV mX12_gain 76 L S g = zIald mX12_gain 77 L S g := ez_iaload kcX12_gain dX12_gain_76 rfl L S g
theorem eX12_gain_77 (L : pmL) (S : List Value) (g : pmH) : pmV mX12_gain 77 L S g = zPush mX12_gain 78 (.int (nI 2)) L S g := ez_iconst kcX12_gain dX12_gain_77 (by decide) rfl L S g
theorem eX12_gain_78 (L : pmL) (S : List Value) (g : pmH) : pmV mX12_gain 78 L S g = zBne mX12_gain 81 119 L S g := ez_icmp_ne kcX12_gain dX12_gain_78 (by decide) rfl L S g
theorem eX12_gain_81 (L : pmL) (S : List Value) (g : pmH) : pmV mX12_gain 81 L S g = zLdA mX12_gain 82 0 L S g := ez_aload_n kcX12_gain dX12_gain_81 rfl rfl L S g
theorem eX12_gain_82 (L : pmL) (S : List Value) (g : pmH) : pmV mX12_gain 82 L S g = zGet mX12_gain 85 12 9 L S g := ez_getfield kcX12_gain dX12_gain_82 fl_12_28 rfl L S g
theorem eX12_gain_85 (L : pmL) (S : List Value) (g : pmH) : pmV mX12_gain 85 L S g = zPush mX12_gain 87 (.int (nI 36)) L S g := ez_bipush kcX12_gain dX12_gain_85 (by decide) rfl L S g
theorem eX12_gain_87 (L : pmL) (S : List Value) (g : pmH) : pmV mX12_gain 87 L S g = zLdI mX12_gain 88 2 L S g := ez_iload_n kcX12_gain dX12_gain_87 rfl rfl L S g
theorem eX12_gain_88 (L : pmL) (S : List Value) (g : pmH) : pmV mX12_gain 88 L S g = zAdd mX12_gain 89 L S g := ez_iadd kcX12_gain dX12_gain_88 rfl L S g
theorem eX12_gain_89 (L : pmL) (S : List Value) (g : pmH) : pmV mX12_gain 89 L S g = zIald mX12_gain 90 L S g := ez_iaload kcX12_gain dX12_gain_89 rfl L S g
theorem eX12_gain_90 (L : pmL) (S : List Value) (g : pmH) : pmV mX12_gain 90 L S g = zPush mX12_gain 91 (.int (nI 2)) L S g := ez_iconst kcX12_gain dX12_gain_90 (by decide) rfl L S g
theorem eX12_gain_91 (L : pmL) (S : List Value) (g : pmH) : pmV mX12_gain 91 L S g = zBne mX12_gain 94 119 L S g := ez_icmp_ne kcX12_gain dX12_gain_91 (by decide) rfl L S g
theorem eX12_gain_94 (L : pmL) (S : List Value) (g : pmH) : pmV mX12_gain 94 L S g = zLdA mX12_gain 95 0 L S g := ez_aload_n kcX12_gain dX12_gain_94 rfl rfl L S g
theorem eX12_gain_95 (L : pmL) (S : List Value) (g : pmH) : pmV mX12_gain 95 L S g = zGet mX12_gain 98 12 9 L S g := ez_getfield kcX12_gain dX12_gain_95 fl_12_28 rfl L S g
theorem eX12_gain_98 (L : pmL) (S : List Value) (g : pmH) : pmV mX12_gain 98 L S g = zPush mX12_gain 100 (.int (nI 46)) L S g := ez_bipush kcX12_gain dX12_gain_98 (by decide) rfl L S g
theorem eX12_gain_100 (L : pmL) (S : List Value) (g : pmH) : pmV mX12_gain 100 L S g = zLdI mX12_gain 101 1 L S g := ez_iload_n kcX12_gain dX12_gain_100 rfl rfl L S g
theorem eX12_gain_101 (L : pmL) (S : List Value) (g : pmH) : pmV mX12_gain 101 L S g = zAdd mX12_gain 102 L S g := ez_iadd kcX12_gain dX12_gain_101 rfl L S g
theorem eX12_gain_102 (L : pmL) (S : List Value) (g : pmH) : pmV mX12_gain 102 L S g = zIald mX12_gain 103 L S g := ez_iaload kcX12_gain dX12_gain_102 rfl L S g
theorem eX12_gain_103 (L : pmL) (S : List Value) (g : pmH) : pmV mX12_gain 103 L S g = zLdA mX12_gain 104 0 L S g := ez_aload_n kcX12_gain dX12_gain_103 rfl rfl L S g
theorem eX12_gain_104 (L : pmL) (S : List Value) (g : pmH) : pmV mX12_gain 104 L S g = zGet mX12_gain 107 12 9 L S g := ez_getfield kcX12_gain dX12_gain_104 fl_12_28 rfl L S g
theorem eX12_gain_107 (L : pmL) (S : List Value) (g : pmH) : pmV mX12_gain 107 L S g = zPush mX12_gain 109 (.int (nI 46)) L S g := ez_bipush kcX12_gain dX12_gain_107 (by decide) rfl L S g
theorem eX12_gain_109 (L : pmL) (S : List Value) (g : pmH) : pmV mX12_gain 109 L S g = zLdI mX12_gain 110 2 L S g := ez_iload_n kcX12_gain dX12_gain_109 rfl rfl L S g
theorem eX12_gain_110 (L : pmL) (S : List Value) (g : pmH) : pmV mX12_gain 110 L S g = zAdd mX12_gain 111 L S g := ez_iadd kcX12_gain dX12_gain_110 rfl L S g
theorem eX12_gain_111 (L : pmL) (S : List Value) (g : pmH) : pmV mX12_gain 111 L S g = zIald mX12_gain 112 L S g := ez_iaload kcX12_gain dX12_gain_111 rfl L S g
theorem eX12_gain_112 (L : pmL) (S : List Value) (g : pmH) : pmV mX12_gain 112 L S g = zBne mX12_gain 115 119 L S g := ez_icmp_ne kcX12_gain dX12_gain_112 (by decide) rfl L S g
theorem eX12_gain_115 (L : pmL) (S : List Value) (g : pmH) : pmV mX12_gain 115 L S g = zPush mX12_gain 116 (.int (nI 1)) L S g := ez_iconst kcX12_gain dX12_gain_115 (by decide) rfl L S g
theorem eX12_gain_116 (L : pmL) (S : List Value) (g : pmH) : pmV mX12_gain 116 L S g = zNx mX12_gain 120 L S g := ez_goto kcX12_gain dX12_gain_116 (by decide) L S g
theorem eX12_gain_119 (L : pmL) (S : List Value) (g : pmH) : pmV mX12_gain 119 L S g = zPush mX12_gain 120 (.int (nI 0)) L S g := ez_iconst kcX12_gain dX12_gain_119 (by decide) rfl L S g
theorem eX12_gain_120 (L : pmL) (S : List Value) (g : pmH) : pmV mX12_gain 120 L S g = zStI mX12_gain 122 6 L S g := ez_istore kcX12_gain dX12_gain_120 rfl L S g
theorem eX12_gain_122 (L : pmL) (S : List Value) (g : pmH) : pmV mX12_gain 122 L S g = zLdA mX12_gain 123 0 L S g := ez_aload_n kcX12_gain dX12_gain_122 rfl rfl L S g
theorem eX12_gain_123 (L : pmL) (S : List Value) (g : pmH) : pmV mX12_gain 123 L S g = zPush mX12_gain 124 (.int (nI 1)) L S g := ez_iconst kcX12_gain dX12_gain_123 (by decide) rfl L S g
theorem eX12_gain_124 (L : pmL) (S : List Value) (g : pmH) : pmV mX12_gain 124 L S g = yV mX12_gain 127 1 mX12_glad 12 5 L S g := (ez_virtual kcX12_gain dX12_gain_124 ml_12_156 rfl L S g).trans (zCallV_y rfl rfl (by decide) L S g)
theorem eX12_gain_127 (L : pmL) (S : List Value) (g : pmH) : pmV mX12_gain 127 L S g = zLdI mX12_gain 128 1 L S g := ez_iload_n kcX12_gain dX12_gain_127 rfl rfl L S g
theorem eX12_gain_128 (L : pmL) (S : List Value) (g : pmH) : pmV mX12_gain 128 L S g = yS mX12_gain 131 2 mX12_has 2 L S g := (ez_static kcX12_gain dX12_gain_128 ml_12_86 (by decide) rfl L S g).trans (zCall_y rfl (by decide) L S g)
theorem eX12_gain_131 (L : pmL) (S : List Value) (g : pmH) : pmV mX12_gain 131 L S g = zCeq mX12_gain 134 138 L S g := ez_if_eq kcX12_gain dX12_gain_131 (by decide) rfl L S g
theorem eX12_gain_134 (L : pmL) (S : List Value) (g : pmH) : pmV mX12_gain 134 L S g = zPush mX12_gain 135 (.int (nI 3)) L S g := ez_iconst kcX12_gain dX12_gain_134 (by decide) rfl L S g
theorem eX12_gain_135 (L : pmL) (S : List Value) (g : pmH) : pmV mX12_gain 135 L S g = zNx mX12_gain 139 L S g := ez_goto kcX12_gain dX12_gain_135 (by decide) L S g
theorem eX12_gain_138 (L : pmL) (S : List Value) (g : pmH) : pmV mX12_gain 138 L S g = zPush mX12_gain 139 (.int (nI 0)) L S g := ez_iconst kcX12_gain dX12_gain_138 (by decide) rfl L S g
theorem eX12_gain_139 (L : pmL) (S : List Value) (g : pmH) : pmV mX12_gain 139 L S g = zLdI mX12_gain 141 5 L S g := ez_iload kcX12_gain dX12_gain_139 rfl L S g
theorem eX12_gain_141 (L : pmL) (S : List Value) (g : pmH) : pmV mX12_gain 141 L S g = zCeq mX12_gain 144 148 L S g := ez_if_eq kcX12_gain dX12_gain_141 (by decide) rfl L S g
theorem eX12_gain_144 (L : pmL) (S : List Value) (g : pmH) : pmV mX12_gain 144 L S g = zPush mX12_gain 145 (.int (nI 1)) L S g := ez_iconst kcX12_gain dX12_gain_144 (by decide) rfl L S g
theorem eX12_gain_145 (L : pmL) (S : List Value) (g : pmH) : pmV mX12_gain 145 L S g = zNx mX12_gain 149 L S g := ez_goto kcX12_gain dX12_gain_145 (by decide) L S g
theorem eX12_gain_148 (L : pmL) (S : List Value) (g : pmH) : pmV mX12_gain 148 L S g = zPush mX12_gain 149 (.int (nI 0)) L S g := ez_iconst kcX12_gain dX12_gain_148 (by decide) rfl L S g
theorem eX12_gain_149 (L : pmL) (S : List Value) (g : pmH) : pmV mX12_gain 149 L S g = zAdd mX12_gain 150 L S g := ez_iadd kcX12_gain dX12_gain_149 rfl L S g
theorem eX12_gain_150 (L : pmL) (S : List Value) (g : pmH) : pmV mX12_gain 150 L S g = zLdI mX12_gain 152 6 L S g := ez_iload kcX12_gain dX12_gain_150 rfl L S g
theorem eX12_gain_152 (L : pmL) (S : List Value) (g : pmH) : pmV mX12_gain 152 L S g = zCeq mX12_gain 155 159 L S g := ez_if_eq kcX12_gain dX12_gain_152 (by decide) rfl L S g
theorem eX12_gain_155 (L : pmL) (S : List Value) (g : pmH) : pmV mX12_gain 155 L S g = zPush mX12_gain 156 (.int (nI 1)) L S g := ez_iconst kcX12_gain dX12_gain_155 (by decide) rfl L S g
theorem eX12_gain_156 (L : pmL) (S : List Value) (g : pmH) : pmV mX12_gain 156 L S g = zNx mX12_gain 160 L S g := ez_goto kcX12_gain dX12_gain_156 (by decide) L S g
theorem eX12_gain_159 (L : pmL) (S : List Value) (g : pmH) : pmV mX12_gain 159 L S g = zPush mX12_gain 160 (.int (nI 0)) L S g := ez_iconst kcX12_gain dX12_gain_159 (by decide) rfl L S g
theorem eX12_gain_160 (L : pmL) (S : List Value) (g : pmH) : pmV mX12_gain 160 L S g = zSub mX12_gain 161 L S g := ez_isub kcX12_gain dX12_gain_160 rfl L S g
theorem eX12_gain_161 (L : pmL) (S : List Value) (g : pmH) : pmV mX12_gain 161 L S g = zIret mX12_gain S g := ez_ireturn kcX12_gain dX12_gain_161 L S g
theorem eX12_isRest_0 (L : pmL) (S : List Value) (g : pmH) : pmV mX12_isRest 0 L S g = zLdA mX12_isRest 1 0 L S g := ez_aload_n kcX12_isRest dX12_isRest_0 rfl rfl L S g
theorem eX12_isRest_1 (L : pmL) (S : List Value) (g : pmH) : pmV mX12_isRest 1 L S g = zLdI mX12_isRest 2 1 L S g := ez_iload_n kcX12_isRest dX12_isRest_1 rfl rfl L S g
theorem eX12_isRest_2 (L : pmL) (S : List Value) (g : pmH) : pmV mX12_isRest 2 L S g = zLdI mX12_isRest 3 2 L S g := ez_iload_n kcX12_isRest dX12_isRest_2 rfl rfl L S g
theorem eX12_isRest_3 (L : pmL) (S : List Value) (g : pmH) : pmV mX12_isRest 3 L S g = zPush mX12_isRest 4 (.int (nI 1)) L S g := ez_iconst kcX12_isRest dX12_isRest_3 (by decide) rfl L S g
theorem eX12_isRest_4 (L : pmL) (S : List Value) (g : pmH) : pmV mX12_isRest 4 L S g = zLdI mX12_isRest 5 3 L S g := ez_iload_n kcX12_isRest dX12_isRest_4 rfl rfl L S g
theorem eX12_isRest_5 (L : pmL) (S : List Value) (g : pmH) : pmV mX12_isRest 5 L S g = zSub mX12_isRest 6 L S g := ez_isub kcX12_isRest dX12_isRest_5 rfl L S g
theorem eX12_isRest_6 (L : pmL) (S : List Value) (g : pmH) : pmV mX12_isRest 6 L S g = zLdI mX12_isRest 8 4 L S g := ez_iload kcX12_isRest dX12_isRest_6 rfl L S g
theorem eX12_isRest_8 (L : pmL) (S : List Value) (g : pmH) : pmV mX12_isRest 8 L S g = yV mX12_isRest 11 4 mX12_gain 12 7 L S g := (ez_virtual kcX12_isRest dX12_isRest_8 ml_12_242 rfl L S g).trans (zCallV_y rfl rfl (by decide) L S g)
theorem eX12_isRest_11 (L : pmL) (S : List Value) (g : pmH) : pmV mX12_isRest 11 L S g = zLdA mX12_isRest 12 0 L S g := ez_aload_n kcX12_isRest dX12_isRest_11 rfl rfl L S g
theorem eX12_isRest_12 (L : pmL) (S : List Value) (g : pmH) : pmV mX12_isRest 12 L S g = zLdI mX12_isRest 13 1 L S g := ez_iload_n kcX12_isRest dX12_isRest_12 rfl rfl L S g
theorem eX12_isRest_13 (L : pmL) (S : List Value) (g : pmH) : pmV mX12_isRest 13 L S g = zLdI mX12_isRest 14 2 L S g := ez_iload_n kcX12_isRest dX12_isRest_13 rfl rfl L S g
theorem eX12_isRest_14 (L : pmL) (S : List Value) (g : pmH) : pmV mX12_isRest 14 L S g = zLdI mX12_isRest 15 3 L S g := ez_iload_n kcX12_isRest dX12_isRest_14 rfl rfl L S g
theorem eX12_isRest_15 (L : pmL) (S : List Value) (g : pmH) : pmV mX12_isRest 15 L S g = zLdI mX12_isRest 17 4 L S g := ez_iload kcX12_isRest dX12_isRest_15 rfl L S g
theorem eX12_isRest_17 (L : pmL) (S : List Value) (g : pmH) : pmV mX12_isRest 17 L S g = yV mX12_isRest 20 4 mX12_gain 12 7 L S g := (ez_virtual kcX12_isRest dX12_isRest_17 ml_12_242 rfl L S g).trans (zCallV_y rfl rfl (by decide) L S g)
theorem eX12_isRest_20 (L : pmL) (S : List Value) (g : pmH) : pmV mX12_isRest 20 L S g = zBgt mX12_isRest 23 50 L S g := ez_icmp_gt kcX12_isRest dX12_isRest_20 (by decide) rfl L S g
theorem eX12_isRest_23 (L : pmL) (S : List Value) (g : pmH) : pmV mX12_isRest 23 L S g = zLdA mX12_isRest 24 0 L S g := ez_aload_n kcX12_isRest dX12_isRest_23 rfl rfl L S g
theorem eX12_isRest_24 (L : pmL) (S : List Value) (g : pmH) : pmV mX12_isRest 24 L S g = zLdI mX12_isRest 25 2 L S g := ez_iload_n kcX12_isRest dX12_isRest_24 rfl rfl L S g
theorem eX12_isRest_25 (L : pmL) (S : List Value) (g : pmH) : pmV mX12_isRest 25 L S g = zLdI mX12_isRest 26 1 L S g := ez_iload_n kcX12_isRest dX12_isRest_25 rfl rfl L S g
theorem eX12_isRest_26 (L : pmL) (S : List Value) (g : pmH) : pmV mX12_isRest 26 L S g = zPush mX12_isRest 27 (.int (nI 1)) L S g := ez_iconst kcX12_isRest dX12_isRest_26 (by decide) rfl L S g
theorem eX12_isRest_27 (L : pmL) (S : List Value) (g : pmH) : pmV mX12_isRest 27 L S g = zLdI mX12_isRest 29 4 L S g := ez_iload kcX12_isRest dX12_isRest_27 rfl L S g
theorem eX12_isRest_29 (L : pmL) (S : List Value) (g : pmH) : pmV mX12_isRest 29 L S g = zSub mX12_isRest 30 L S g := ez_isub kcX12_isRest dX12_isRest_29 rfl L S g
theorem eX12_isRest_30 (L : pmL) (S : List Value) (g : pmH) : pmV mX12_isRest 30 L S g = zLdI mX12_isRest 31 3 L S g := ez_iload_n kcX12_isRest dX12_isRest_30 rfl rfl L S g
theorem eX12_isRest_31 (L : pmL) (S : List Value) (g : pmH) : pmV mX12_isRest 31 L S g = yV mX12_isRest 34 4 mX12_gain 12 7 L S g := (ez_virtual kcX12_isRest dX12_isRest_31 ml_12_242 rfl L S g).trans (zCallV_y rfl rfl (by decide) L S g)
theorem eX12_isRest_34 (L : pmL) (S : List Value) (g : pmH) : pmV mX12_isRest 34 L S g = zLdA mX12_isRest 35 0 L S g := ez_aload_n kcX12_isRest dX12_isRest_34 rfl rfl L S g
theorem eX12_isRest_35 (L : pmL) (S : List Value) (g : pmH) : pmV mX12_isRest 35 L S g = zLdI mX12_isRest 36 2 L S g := ez_iload_n kcX12_isRest dX12_isRest_35 rfl rfl L S g
theorem eX12_isRest_36 (L : pmL) (S : List Value) (g : pmH) : pmV mX12_isRest 36 L S g = zLdI mX12_isRest 37 1 L S g := ez_iload_n kcX12_isRest dX12_isRest_36 rfl rfl L S g
theorem eX12_isRest_37 (L : pmL) (S : List Value) (g : pmH) : pmV mX12_isRest 37 L S g = zLdI mX12_isRest 39 4 L S g := ez_iload kcX12_isRest dX12_isRest_37 rfl L S g
theorem eX12_isRest_39 (L : pmL) (S : List Value) (g : pmH) : pmV mX12_isRest 39 L S g = zLdI mX12_isRest 40 3 L S g := ez_iload_n kcX12_isRest dX12_isRest_39 rfl rfl L S g
theorem eX12_isRest_40 (L : pmL) (S : List Value) (g : pmH) : pmV mX12_isRest 40 L S g = yV mX12_isRest 43 4 mX12_gain 12 7 L S g := (ez_virtual kcX12_isRest dX12_isRest_40 ml_12_242 rfl L S g).trans (zCallV_y rfl rfl (by decide) L S g)
theorem eX12_isRest_43 (L : pmL) (S : List Value) (g : pmH) : pmV mX12_isRest 43 L S g = zBgt mX12_isRest 46 50 L S g := ez_icmp_gt kcX12_isRest dX12_isRest_43 (by decide) rfl L S g
theorem eX12_isRest_46 (L : pmL) (S : List Value) (g : pmH) : pmV mX12_isRest 46 L S g = zPush mX12_isRest 47 (.int (nI 1)) L S g := ez_iconst kcX12_isRest dX12_isRest_46 (by decide) rfl L S g
theorem eX12_isRest_47 (L : pmL) (S : List Value) (g : pmH) : pmV mX12_isRest 47 L S g = zNx mX12_isRest 51 L S g := ez_goto kcX12_isRest dX12_isRest_47 (by decide) L S g
theorem eX12_isRest_50 (L : pmL) (S : List Value) (g : pmH) : pmV mX12_isRest 50 L S g = zPush mX12_isRest 51 (.int (nI 0)) L S g := ez_iconst kcX12_isRest dX12_isRest_50 (by decide) rfl L S g
theorem eX12_isRest_51 (L : pmL) (S : List Value) (g : pmH) : pmV mX12_isRest 51 L S g = zIret mX12_isRest S g := ez_ireturn kcX12_isRest dX12_isRest_51 L S g
theorem eX12_rests_0 (L : pmL) (S : List Value) (g : pmH) : pmV mX12_rests 0 L S g = zLdA mX12_rests 1 0 L S g := ez_aload_n kcX12_rests dX12_rests_0 rfl rfl L S g
theorem eX12_rests_1 (L : pmL) (S : List Value) (g : pmH) : pmV mX12_rests 1 L S g = zLdI mX12_rests 2 1 L S g := ez_iload_n kcX12_rests dX12_rests_1 rfl rfl L S g
theorem eX12_rests_2 (L : pmL) (S : List Value) (g : pmH) : pmV mX12_rests 2 L S g = yV mX12_rests 5 1 mX12_isBalloon 12 2 L S g := (ez_virtual kcX12_rests dX12_rests_2 ml_12_152 rfl L S g).trans (zCallV_y rfl rfl (by decide) L S g)
theorem eX12_rests_5 (L : pmL) (S : List Value) (g : pmH) : pmV mX12_rests 5 L S g = zCeq mX12_rests 8 16 L S g := ez_if_eq kcX12_rests dX12_rests_5 (by decide) rfl L S g
theorem eX12_rests_8 (L : pmL) (S : List Value) (g : pmH) : pmV mX12_rests 8 L S g = zLdA mX12_rests 9 0 L S g := ez_aload_n kcX12_rests dX12_rests_8 rfl rfl L S g
theorem eX12_rests_9 (L : pmL) (S : List Value) (g : pmH) : pmV mX12_rests 9 L S g = zLdI mX12_rests 10 2 L S g := ez_iload_n kcX12_rests dX12_rests_9 rfl rfl L S g
theorem eX12_rests_10 (L : pmL) (S : List Value) (g : pmH) : pmV mX12_rests 10 L S g = yV mX12_rests 13 1 mX12_isBalloon 12 2 L S g := (ez_virtual kcX12_rests dX12_rests_10 ml_12_152 rfl L S g).trans (zCallV_y rfl rfl (by decide) L S g)
theorem eX12_rests_13 (L : pmL) (S : List Value) (g : pmH) : pmV mX12_rests 13 L S g = zCne mX12_rests 16 18 L S g := ez_if_ne kcX12_rests dX12_rests_13 (by decide) rfl L S g
theorem eX12_rests_16 (L : pmL) (S : List Value) (g : pmH) : pmV mX12_rests 16 L S g = zPush mX12_rests 17 (.int (-1)) L S g := ez_iconst kcX12_rests dX12_rests_16 (by decide) rfl L S g
theorem eX12_rests_17 (L : pmL) (S : List Value) (g : pmH) : pmV mX12_rests 17 L S g = zIret mX12_rests S g := ez_ireturn kcX12_rests dX12_rests_17 L S g
theorem eX12_rests_18 (L : pmL) (S : List Value) (g : pmH) : pmV mX12_rests 18 L S g = zLdI mX12_rests 19 1 L S g := ez_iload_n kcX12_rests dX12_rests_18 rfl rfl L S g
theorem eX12_rests_19 (L : pmL) (S : List Value) (g : pmH) : pmV mX12_rests 19 L S g = zLdI mX12_rests 20 2 L S g := ez_iload_n kcX12_rests dX12_rests_19 rfl rfl L S g
theorem eX12_rests_20 (L : pmL) (S : List Value) (g : pmH) : pmV mX12_rests 20 L S g = zBeq mX12_rests 23 33 L S g := ez_icmp_eq kcX12_rests dX12_rests_20 (by decide) rfl L S g
theorem eX12_rests_23 (L : pmL) (S : List Value) (g : pmH) : pmV mX12_rests 23 L S g = zLdI mX12_rests 24 3 L S g := ez_iload_n kcX12_rests dX12_rests_23 rfl rfl L S g
theorem eX12_rests_24 (L : pmL) (S : List Value) (g : pmH) : pmV mX12_rests 24 L S g = zI2l mX12_rests 25 L S g := ez_i2l kcX12_rests dX12_rests_24 rfl L S g
theorem eX12_rests_25 (L : pmL) (S : List Value) (g : pmH) : pmV mX12_rests 25 L S g = zPush mX12_rests 26 (.long (lN 0)) L S g := ez_lconst kcX12_rests dX12_rests_25 rfl rfl L S g
theorem eX12_rests_26 (L : pmL) (S : List Value) (g : pmH) : pmV mX12_rests 26 L S g = zPush mX12_rests 27 (.long (lN 1)) L S g := ez_lconst kcX12_rests dX12_rests_26 rfl rfl L S g
theorem eX12_rests_27 (L : pmL) (S : List Value) (g : pmH) : pmV mX12_rests 27 L S g = yS mX12_rests 30 3 mX12_in 6 L S g := (ez_static kcX12_rests dX12_rests_27 ml_12_71 (by decide) rfl L S g).trans (zCall_y rfl (by decide) L S g)
theorem eX12_rests_30 (L : pmL) (S : List Value) (g : pmH) : pmV mX12_rests 30 L S g = zCne mX12_rests 33 36 L S g := ez_if_ne kcX12_rests dX12_rests_30 (by decide) rfl L S g
theorem eX12_rests_33 (L : pmL) (S : List Value) (g : pmH) : pmV mX12_rests 33 L S g = zPush mX12_rests 35 (.int (-2)) L S g := ez_bipush kcX12_rests dX12_rests_33 (by decide) rfl L S g
theorem eX12_rests_35 (L : pmL) (S : List Value) (g : pmH) : pmV mX12_rests 35 L S g = zIret mX12_rests S g := ez_ireturn kcX12_rests dX12_rests_35 L S g
theorem eX12_rests_36 (L : pmL) (S : List Value) (g : pmH) : pmV mX12_rests 36 L S g = zLdA mX12_rests 37 0 L S g := ez_aload_n kcX12_rests dX12_rests_36 rfl rfl L S g
theorem eX12_rests_37 (L : pmL) (S : List Value) (g : pmH) : pmV mX12_rests 37 L S g = zGet mX12_rests 40 12 9 L S g := ez_getfield kcX12_rests dX12_rests_37 fl_12_28 rfl L S g
theorem eX12_rests_40 (L : pmL) (S : List Value) (g : pmH) : pmV mX12_rests 40 L S g = zPush mX12_rests 41 (.int (nI 5)) L S g := ez_iconst kcX12_rests dX12_rests_40 (by decide) rfl L S g
theorem eX12_rests_41 (L : pmL) (S : List Value) (g : pmH) : pmV mX12_rests 41 L S g = zLdI mX12_rests 42 1 L S g := ez_iload_n kcX12_rests dX12_rests_41 rfl rfl L S g
theorem eX12_rests_42 (L : pmL) (S : List Value) (g : pmH) : pmV mX12_rests 42 L S g = zAdd mX12_rests 43 L S g := ez_iadd kcX12_rests dX12_rests_42 rfl L S g
theorem eX12_rests_43 (L : pmL) (S : List Value) (g : pmH) : pmV mX12_rests 43 L S g = zIald mX12_rests 44 L S g := ez_iaload kcX12_rests dX12_rests_43 rfl L S g
theorem eX12_rests_44 (L : pmL) (S : List Value) (g : pmH) : pmV mX12_rests 44 L S g = zCne mX12_rests 47 58 L S g := ez_if_ne kcX12_rests dX12_rests_44 (by decide) rfl L S g
theorem eX12_rests_47 (L : pmL) (S : List Value) (g : pmH) : pmV mX12_rests 47 L S g = zLdA mX12_rests 48 0 L S g := ez_aload_n kcX12_rests dX12_rests_47 rfl rfl L S g
theorem eX12_rests_48 (L : pmL) (S : List Value) (g : pmH) : pmV mX12_rests 48 L S g = zGet mX12_rests 51 12 9 L S g := ez_getfield kcX12_rests dX12_rests_48 fl_12_28 rfl L S g
theorem eX12_rests_51 (L : pmL) (S : List Value) (g : pmH) : pmV mX12_rests 51 L S g = zPush mX12_rests 52 (.int (nI 5)) L S g := ez_iconst kcX12_rests dX12_rests_51 (by decide) rfl L S g
theorem eX12_rests_52 (L : pmL) (S : List Value) (g : pmH) : pmV mX12_rests 52 L S g = zLdI mX12_rests 53 2 L S g := ez_iload_n kcX12_rests dX12_rests_52 rfl rfl L S g
theorem eX12_rests_53 (L : pmL) (S : List Value) (g : pmH) : pmV mX12_rests 53 L S g = zAdd mX12_rests 54 L S g := ez_iadd kcX12_rests dX12_rests_53 rfl L S g
theorem eX12_rests_54 (L : pmL) (S : List Value) (g : pmH) : pmV mX12_rests 54 L S g = zIald mX12_rests 55 L S g := ez_iaload kcX12_rests dX12_rests_54 rfl L S g
theorem eX12_rests_55 (L : pmL) (S : List Value) (g : pmH) : pmV mX12_rests 55 L S g = zCeq mX12_rests 58 61 L S g := ez_if_eq kcX12_rests dX12_rests_55 (by decide) rfl L S g
theorem eX12_rests_58 (L : pmL) (S : List Value) (g : pmH) : pmV mX12_rests 58 L S g = zPush mX12_rests 60 (.int (-3)) L S g := ez_bipush kcX12_rests dX12_rests_58 (by decide) rfl L S g
theorem eX12_rests_60 (L : pmL) (S : List Value) (g : pmH) : pmV mX12_rests 60 L S g = zIret mX12_rests S g := ez_ireturn kcX12_rests dX12_rests_60 L S g
theorem eX12_rests_61 (L : pmL) (S : List Value) (g : pmH) : pmV mX12_rests 61 L S g = zPush mX12_rests 62 (.int (nI 0)) L S g := ez_iconst kcX12_rests dX12_rests_61 (by decide) rfl L S g
theorem eX12_rests_62 (L : pmL) (S : List Value) (g : pmH) : pmV mX12_rests 62 L S g = zStI mX12_rests 64 4 L S g := ez_istore kcX12_rests dX12_rests_62 rfl L S g
theorem eX12_rests_64 (L : pmL) (S : List Value) (g : pmH) : pmV mX12_rests 64 L S g = zPush mX12_rests 66 (.int (-9)) L S g := ez_bipush kcX12_rests dX12_rests_64 (by decide) rfl L S g
theorem eX12_rests_66 (L : pmL) (S : List Value) (g : pmH) : pmV mX12_rests 66 L S g = zStI mX12_rests 68 5 L S g := ez_istore kcX12_rests dX12_rests_66 rfl L S g
theorem eX12_rests_68 (L : pmL) (S : List Value) (g : pmH) : pmV mX12_rests 68 L S g = zPush mX12_rests 69 (.int (nI 0)) L S g := ez_iconst kcX12_rests dX12_rests_68 (by decide) rfl L S g
theorem eX12_rests_69 (L : pmL) (S : List Value) (g : pmH) : pmV mX12_rests 69 L S g = zStI mX12_rests 71 6 L S g := ez_istore kcX12_rests dX12_rests_69 rfl L S g
theorem eX12_rests_71 (L : pmL) (S : List Value) (g : pmH) : pmV mX12_rests 71 L S g = zLdI mX12_rests 73 6 L S g := ez_iload kcX12_rests dX12_rests_71 rfl L S g
theorem eX12_rests_73 (L : pmL) (S : List Value) (g : pmH) : pmV mX12_rests 73 L S g = zPush mX12_rests 74 (.int (nI 4)) L S g := ez_iconst kcX12_rests dX12_rests_73 (by decide) rfl L S g
theorem eX12_rests_74 (L : pmL) (S : List Value) (g : pmH) : pmV mX12_rests 74 L S g = zBge mX12_rests 77 127 L S g := ez_icmp_ge kcX12_rests dX12_rests_74 (by decide) rfl L S g
theorem eX12_rests_77 (L : pmL) (S : List Value) (g : pmH) : pmV mX12_rests 77 L S g = zLdA mX12_rests 78 0 L S g := ez_aload_n kcX12_rests dX12_rests_77 rfl rfl L S g
theorem eX12_rests_78 (L : pmL) (S : List Value) (g : pmH) : pmV mX12_rests 78 L S g = zLdI mX12_rests 79 1 L S g := ez_iload_n kcX12_rests dX12_rests_78 rfl rfl L S g
theorem eX12_rests_79 (L : pmL) (S : List Value) (g : pmH) : pmV mX12_rests 79 L S g = zLdI mX12_rests 80 2 L S g := ez_iload_n kcX12_rests dX12_rests_79 rfl rfl L S g
theorem eX12_rests_80 (L : pmL) (S : List Value) (g : pmH) : pmV mX12_rests 80 L S g = zLdI mX12_rests 82 6 L S g := ez_iload kcX12_rests dX12_rests_80 rfl L S g
theorem eX12_rests_82 (L : pmL) (S : List Value) (g : pmH) : pmV mX12_rests 82 L S g = zPush mX12_rests 83 (.int (nI 2)) L S g := ez_iconst kcX12_rests dX12_rests_82 (by decide) rfl L S g
theorem eX12_rests_83 (L : pmL) (S : List Value) (g : pmH) : pmV mX12_rests 83 L S g = zDiv mX12_rests 84 L S g := ez_idiv kcX12_rests dX12_rests_83 rfl L S g
theorem eX12_rests_84 (L : pmL) (S : List Value) (g : pmH) : pmV mX12_rests 84 L S g = zLdI mX12_rests 86 6 L S g := ez_iload kcX12_rests dX12_rests_84 rfl L S g
theorem eX12_rests_86 (L : pmL) (S : List Value) (g : pmH) : pmV mX12_rests 86 L S g = zPush mX12_rests 87 (.int (nI 2)) L S g := ez_iconst kcX12_rests dX12_rests_86 (by decide) rfl L S g
theorem eX12_rests_87 (L : pmL) (S : List Value) (g : pmH) : pmV mX12_rests 87 L S g = zRem mX12_rests 88 L S g := ez_irem kcX12_rests dX12_rests_87 rfl L S g
theorem eX12_rests_88 (L : pmL) (S : List Value) (g : pmH) : pmV mX12_rests 88 L S g = yV mX12_rests 91 4 mX12_isRest 12 5 L S g := (ez_virtual kcX12_rests dX12_rests_88 ml_12_246 rfl L S g).trans (zCallV_y rfl rfl (by decide) L S g)
theorem eX12_rests_91 (L : pmL) (S : List Value) (g : pmH) : pmV mX12_rests 91 L S g = zCeq mX12_rests 94 121 L S g := ez_if_eq kcX12_rests dX12_rests_91 (by decide) rfl L S g
theorem eX12_rests_94 (L : pmL) (S : List Value) (g : pmH) : pmV mX12_rests 94 L S g = zLdI mX12_rests 96 4 L S g := ez_iload kcX12_rests dX12_rests_94 rfl L S g
theorem eX12_rests_96 (L : pmL) (S : List Value) (g : pmH) : pmV mX12_rests 96 L S g = zCne mX12_rests 99 114 L S g := ez_if_ne kcX12_rests dX12_rests_96 (by decide) rfl L S g
theorem eX12_rests_99 (L : pmL) (S : List Value) (g : pmH) : pmV mX12_rests 99 L S g = zPush mX12_rests 101 (.int (nI 10)) L S g := ez_bipush kcX12_rests dX12_rests_99 (by decide) rfl L S g
theorem eX12_rests_101 (L : pmL) (S : List Value) (g : pmH) : pmV mX12_rests 101 L S g = zLdI mX12_rests 103 6 L S g := ez_iload kcX12_rests dX12_rests_101 rfl L S g
theorem eX12_rests_103 (L : pmL) (S : List Value) (g : pmH) : pmV mX12_rests 103 L S g = zPush mX12_rests 104 (.int (nI 2)) L S g := ez_iconst kcX12_rests dX12_rests_103 (by decide) rfl L S g
theorem eX12_rests_104 (L : pmL) (S : List Value) (g : pmH) : pmV mX12_rests 104 L S g = zDiv mX12_rests 105 L S g := ez_idiv kcX12_rests dX12_rests_104 rfl L S g
theorem eX12_rests_105 (L : pmL) (S : List Value) (g : pmH) : pmV mX12_rests 105 L S g = zMul mX12_rests 106 L S g := ez_imul kcX12_rests dX12_rests_105 rfl L S g
theorem eX12_rests_106 (L : pmL) (S : List Value) (g : pmH) : pmV mX12_rests 106 L S g = zLdI mX12_rests 108 6 L S g := ez_iload kcX12_rests dX12_rests_106 rfl L S g
theorem eX12_rests_108 (L : pmL) (S : List Value) (g : pmH) : pmV mX12_rests 108 L S g = zPush mX12_rests 109 (.int (nI 2)) L S g := ez_iconst kcX12_rests dX12_rests_108 (by decide) rfl L S g
theorem eX12_rests_109 (L : pmL) (S : List Value) (g : pmH) : pmV mX12_rests 109 L S g = zRem mX12_rests 110 L S g := ez_irem kcX12_rests dX12_rests_109 rfl L S g
theorem eX12_rests_110 (L : pmL) (S : List Value) (g : pmH) : pmV mX12_rests 110 L S g = zAdd mX12_rests 111 L S g := ez_iadd kcX12_rests dX12_rests_110 rfl L S g
theorem eX12_rests_111 (L : pmL) (S : List Value) (g : pmH) : pmV mX12_rests 111 L S g = zNx mX12_rests 116 L S g := ez_goto kcX12_rests dX12_rests_111 (by decide) L S g
theorem eX12_rests_114 (L : pmL) (S : List Value) (g : pmH) : pmV mX12_rests 114 L S g = zLdI mX12_rests 116 5 L S g := ez_iload kcX12_rests dX12_rests_114 rfl L S g
theorem eX12_rests_116 (L : pmL) (S : List Value) (g : pmH) : pmV mX12_rests 116 L S g = zStI mX12_rests 118 5 L S g := ez_istore kcX12_rests dX12_rests_116 rfl L S g
theorem eX12_rests_118 (L : pmL) (S : List Value) (g : pmH) : pmV mX12_rests 118 L S g = zInc mX12_rests 121 4 (nI 1) L S g := ez_iinc kcX12_rests dX12_rests_118 (by decide) rfl L S g
theorem eX12_rests_121 (L : pmL) (S : List Value) (g : pmH) : pmV mX12_rests 121 L S g = zInc mX12_rests 124 6 (nI 1) L S g := ez_iinc kcX12_rests dX12_rests_121 (by decide) rfl L S g
theorem eX12_rests_124 (L : pmL) (S : List Value) (g : pmH) : pmV mX12_rests 124 L S g = zNx mX12_rests 71 L S g := ez_goto kcX12_rests dX12_rests_124 (by decide) L S g
theorem eX12_rests_127 (L : pmL) (S : List Value) (g : pmH) : pmV mX12_rests 127 L S g = zLdI mX12_rests 128 3 L S g := ez_iload_n kcX12_rests dX12_rests_127 rfl rfl L S g
theorem eX12_rests_128 (L : pmL) (S : List Value) (g : pmH) : pmV mX12_rests 128 L S g = zCne mX12_rests 131 136 L S g := ez_if_ne kcX12_rests dX12_rests_128 (by decide) rfl L S g
theorem eX12_rests_131 (L : pmL) (S : List Value) (g : pmH) : pmV mX12_rests 131 L S g = zLdI mX12_rests 133 4 L S g := ez_iload kcX12_rests dX12_rests_131 rfl L S g
theorem eX12_rests_133 (L : pmL) (S : List Value) (g : pmH) : pmV mX12_rests 133 L S g = zNx mX12_rests 138 L S g := ez_goto kcX12_rests dX12_rests_133 (by decide) L S g
theorem eX12_rests_136 (L : pmL) (S : List Value) (g : pmH) : pmV mX12_rests 136 L S g = zLdI mX12_rests 138 5 L S g := ez_iload kcX12_rests dX12_rests_136 rfl L S g
theorem eX12_rests_138 (L : pmL) (S : List Value) (g : pmH) : pmV mX12_rests 138 L S g = zIret mX12_rests S g := ez_ireturn kcX12_rests dX12_rests_138 L S g
theorem eX12_power_0 (L : pmL) (S : List Value) (g : pmH) : pmV mX12_power 0 L S g = zPush mX12_power 1 (.int (nI 1)) L S g := ez_iconst kcX12_power dX12_power_0 (by decide) rfl L S g
theorem eX12_power_1 (L : pmL) (S : List Value) (g : pmH) : pmV mX12_power 1 L S g = zStI mX12_power 2 2 L S g := ez_istore_n kcX12_power dX12_power_1 rfl rfl L S g
theorem eX12_power_2 (L : pmL) (S : List Value) (g : pmH) : pmV mX12_power 2 L S g = zPush mX12_power 3 (.int (nI 0)) L S g := ez_iconst kcX12_power dX12_power_2 (by decide) rfl L S g
theorem eX12_power_3 (L : pmL) (S : List Value) (g : pmH) : pmV mX12_power 3 L S g = zStI mX12_power 4 3 L S g := ez_istore_n kcX12_power dX12_power_3 rfl rfl L S g
theorem eX12_power_4 (L : pmL) (S : List Value) (g : pmH) : pmV mX12_power 4 L S g = zLdI mX12_power 5 3 L S g := ez_iload_n kcX12_power dX12_power_4 rfl rfl L S g
theorem eX12_power_5 (L : pmL) (S : List Value) (g : pmH) : pmV mX12_power 5 L S g = zLdI mX12_power 6 1 L S g := ez_iload_n kcX12_power dX12_power_5 rfl rfl L S g
theorem eX12_power_6 (L : pmL) (S : List Value) (g : pmH) : pmV mX12_power 6 L S g = zBge mX12_power 9 19 L S g := ez_icmp_ge kcX12_power dX12_power_6 (by decide) rfl L S g
theorem eX12_power_9 (L : pmL) (S : List Value) (g : pmH) : pmV mX12_power 9 L S g = zLdI mX12_power 10 2 L S g := ez_iload_n kcX12_power dX12_power_9 rfl rfl L S g
theorem eX12_power_10 (L : pmL) (S : List Value) (g : pmH) : pmV mX12_power 10 L S g = zLdI mX12_power 11 0 L S g := ez_iload_n kcX12_power dX12_power_10 rfl rfl L S g
theorem eX12_power_11 (L : pmL) (S : List Value) (g : pmH) : pmV mX12_power 11 L S g = zMul mX12_power 12 L S g := ez_imul kcX12_power dX12_power_11 rfl L S g
theorem eX12_power_12 (L : pmL) (S : List Value) (g : pmH) : pmV mX12_power 12 L S g = zStI mX12_power 13 2 L S g := ez_istore_n kcX12_power dX12_power_12 rfl rfl L S g
theorem eX12_power_13 (L : pmL) (S : List Value) (g : pmH) : pmV mX12_power 13 L S g = zInc mX12_power 16 3 (nI 1) L S g := ez_iinc kcX12_power dX12_power_13 (by decide) rfl L S g
theorem eX12_power_16 (L : pmL) (S : List Value) (g : pmH) : pmV mX12_power 16 L S g = zNx mX12_power 4 L S g := ez_goto kcX12_power dX12_power_16 (by decide) L S g
theorem eX12_power_19 (L : pmL) (S : List Value) (g : pmH) : pmV mX12_power 19 L S g = zLdI mX12_power 20 2 L S g := ez_iload_n kcX12_power dX12_power_19 rfl rfl L S g
theorem eX12_power_20 (L : pmL) (S : List Value) (g : pmH) : pmV mX12_power 20 L S g = zIret mX12_power S g := ez_ireturn kcX12_power dX12_power_20 L S g
theorem eX12_fails_0 (L : pmL) (S : List Value) (g : pmH) : pmV mX12_fails 0 L S g = zLdA mX12_fails 1 0 L S g := ez_aload_n kcX12_fails dX12_fails_0 rfl rfl L S g
theorem eX12_fails_1 (L : pmL) (S : List Value) (g : pmH) : pmV mX12_fails 1 L S g = zLdI mX12_fails 2 1 L S g := ez_iload_n kcX12_fails dX12_fails_1 rfl rfl L S g
theorem eX12_fails_2 (L : pmL) (S : List Value) (g : pmH) : pmV mX12_fails 2 L S g = yV mX12_fails 5 1 mX12_isBalloon 12 2 L S g := (ez_virtual kcX12_fails dX12_fails_2 ml_12_152 rfl L S g).trans (zCallV_y rfl rfl (by decide) L S g)
theorem eX12_fails_5 (L : pmL) (S : List Value) (g : pmH) : pmV mX12_fails 5 L S g = zCeq mX12_fails 8 16 L S g := ez_if_eq kcX12_fails dX12_fails_5 (by decide) rfl L S g
theorem eX12_fails_8 (L : pmL) (S : List Value) (g : pmH) : pmV mX12_fails 8 L S g = zLdA mX12_fails 9 0 L S g := ez_aload_n kcX12_fails dX12_fails_8 rfl rfl L S g
theorem eX12_fails_9 (L : pmL) (S : List Value) (g : pmH) : pmV mX12_fails 9 L S g = zLdI mX12_fails 10 2 L S g := ez_iload_n kcX12_fails dX12_fails_9 rfl rfl L S g
theorem eX12_fails_10 (L : pmL) (S : List Value) (g : pmH) : pmV mX12_fails 10 L S g = yV mX12_fails 13 1 mX12_isHedge 12 2 L S g := (ez_virtual kcX12_fails dX12_fails_10 ml_12_159 rfl L S g).trans (zCallV_y rfl rfl (by decide) L S g)
theorem eX12_fails_13 (L : pmL) (S : List Value) (g : pmH) : pmV mX12_fails 13 L S g = zCne mX12_fails 16 18 L S g := ez_if_ne kcX12_fails dX12_fails_13 (by decide) rfl L S g
theorem eX12_fails_16 (L : pmL) (S : List Value) (g : pmH) : pmV mX12_fails 16 L S g = zPush mX12_fails 17 (.int (-1)) L S g := ez_iconst kcX12_fails dX12_fails_16 (by decide) rfl L S g
theorem eX12_fails_17 (L : pmL) (S : List Value) (g : pmH) : pmV mX12_fails 17 L S g = zIret mX12_fails S g := ez_ireturn kcX12_fails dX12_fails_17 L S g
theorem eX12_fails_18 (L : pmL) (S : List Value) (g : pmH) : pmV mX12_fails 18 L S g = zLdI mX12_fails 19 3 L S g := ez_iload_n kcX12_fails dX12_fails_18 rfl rfl L S g
theorem eX12_fails_19 (L : pmL) (S : List Value) (g : pmH) : pmV mX12_fails 19 L S g = zI2l mX12_fails 20 L S g := ez_i2l kcX12_fails dX12_fails_19 rfl L S g
theorem eX12_fails_20 (L : pmL) (S : List Value) (g : pmH) : pmV mX12_fails 20 L S g = zPush mX12_fails 21 (.long (lN 1)) L S g := ez_lconst kcX12_fails dX12_fails_20 rfl rfl L S g
theorem eX12_fails_21 (L : pmL) (S : List Value) (g : pmH) : pmV mX12_fails 21 L S g = zPush mX12_fails 24 (.long (lN 6)) L S g := ez_ldc2_w kcX12_fails dX12_fails_21 jl_12_250 rfl L S g
theorem eX12_fails_24 (L : pmL) (S : List Value) (g : pmH) : pmV mX12_fails 24 L S g = yS mX12_fails 27 3 mX12_in 6 L S g := (ez_static kcX12_fails dX12_fails_24 ml_12_71 (by decide) rfl L S g).trans (zCall_y rfl (by decide) L S g)
theorem eX12_fails_27 (L : pmL) (S : List Value) (g : pmH) : pmV mX12_fails 27 L S g = zCeq mX12_fails 30 43 L S g := ez_if_eq kcX12_fails dX12_fails_27 (by decide) rfl L S g
theorem eX12_fails_30 (L : pmL) (S : List Value) (g : pmH) : pmV mX12_fails 30 L S g = zLdI mX12_fails 32 4 L S g := ez_iload kcX12_fails dX12_fails_30 rfl L S g
theorem eX12_fails_32 (L : pmL) (S : List Value) (g : pmH) : pmV mX12_fails 32 L S g = zI2l mX12_fails 33 L S g := ez_i2l kcX12_fails dX12_fails_32 rfl L S g
theorem eX12_fails_33 (L : pmL) (S : List Value) (g : pmH) : pmV mX12_fails 33 L S g = zPush mX12_fails 34 (.long (lN 0)) L S g := ez_lconst kcX12_fails dX12_fails_33 rfl rfl L S g
theorem eX12_fails_34 (L : pmL) (S : List Value) (g : pmH) : pmV mX12_fails 34 L S g = zPush mX12_fails 37 (.long (lN 10)) L S g := ez_ldc2_w kcX12_fails dX12_fails_34 jl_12_252 rfl L S g
theorem eX12_fails_37 (L : pmL) (S : List Value) (g : pmH) : pmV mX12_fails 37 L S g = yS mX12_fails 40 3 mX12_in 6 L S g := (ez_static kcX12_fails dX12_fails_37 ml_12_71 (by decide) rfl L S g).trans (zCall_y rfl (by decide) L S g)
theorem eX12_fails_40 (L : pmL) (S : List Value) (g : pmH) : pmV mX12_fails 40 L S g = zCne mX12_fails 43 46 L S g := ez_if_ne kcX12_fails dX12_fails_40 (by decide) rfl L S g
theorem eX12_fails_43 (L : pmL) (S : List Value) (g : pmH) : pmV mX12_fails 43 L S g = zPush mX12_fails 45 (.int (-2)) L S g := ez_bipush kcX12_fails dX12_fails_43 (by decide) rfl L S g
theorem eX12_fails_45 (L : pmL) (S : List Value) (g : pmH) : pmV mX12_fails 45 L S g = zIret mX12_fails S g := ez_ireturn kcX12_fails dX12_fails_45 L S g
theorem eX12_fails_46 (L : pmL) (S : List Value) (g : pmH) : pmV mX12_fails 46 L S g = zPush mX12_fails 47 (.int (nI 0)) L S g := ez_iconst kcX12_fails dX12_fails_46 (by decide) rfl L S g
theorem eX12_fails_47 (L : pmL) (S : List Value) (g : pmH) : pmV mX12_fails 47 L S g = zStI mX12_fails 49 6 L S g := ez_istore kcX12_fails dX12_fails_47 rfl L S g
theorem eX12_fails_49 (L : pmL) (S : List Value) (g : pmH) : pmV mX12_fails 49 L S g = zPush mX12_fails 50 (.int (nI 0)) L S g := ez_iconst kcX12_fails dX12_fails_49 (by decide) rfl L S g
theorem eX12_fails_50 (L : pmL) (S : List Value) (g : pmH) : pmV mX12_fails 50 L S g = zStI mX12_fails 52 7 L S g := ez_istore kcX12_fails dX12_fails_50 rfl L S g
theorem eX12_fails_52 (L : pmL) (S : List Value) (g : pmH) : pmV mX12_fails 52 L S g = zPush mX12_fails 53 (.int (nI 0)) L S g := ez_iconst kcX12_fails dX12_fails_52 (by decide) rfl L S g
theorem eX12_fails_53 (L : pmL) (S : List Value) (g : pmH) : pmV mX12_fails 53 L S g = zStI mX12_fails 55 8 L S g := ez_istore kcX12_fails dX12_fails_53 rfl L S g
theorem eX12_fails_55 (L : pmL) (S : List Value) (g : pmH) : pmV mX12_fails 55 L S g = zLdI mX12_fails 57 8 L S g := ez_iload kcX12_fails dX12_fails_55 rfl L S g
theorem eX12_fails_57 (L : pmL) (S : List Value) (g : pmH) : pmV mX12_fails 57 L S g = zPush mX12_fails 58 (.int (nI 1)) L S g := ez_iconst kcX12_fails dX12_fails_57 (by decide) rfl L S g
theorem eX12_fails_58 (L : pmL) (S : List Value) (g : pmH) : pmV mX12_fails 58 L S g = zLdI mX12_fails 59 3 L S g := ez_iload_n kcX12_fails dX12_fails_58 rfl rfl L S g
theorem eX12_fails_59 (L : pmL) (S : List Value) (g : pmH) : pmV mX12_fails 59 L S g = zShl mX12_fails 60 L S g := ez_ishl kcX12_fails dX12_fails_59 rfl L S g
theorem eX12_fails_60 (L : pmL) (S : List Value) (g : pmH) : pmV mX12_fails 60 L S g = zBge mX12_fails 63 181 L S g := ez_icmp_ge kcX12_fails dX12_fails_60 (by decide) rfl L S g
theorem eX12_fails_63 (L : pmL) (S : List Value) (g : pmH) : pmV mX12_fails 63 L S g = zLdI mX12_fails 65 4 L S g := ez_iload kcX12_fails dX12_fails_63 rfl L S g
theorem eX12_fails_65 (L : pmL) (S : List Value) (g : pmH) : pmV mX12_fails 65 L S g = zLdI mX12_fails 67 8 L S g := ez_iload kcX12_fails dX12_fails_65 rfl L S g
theorem eX12_fails_67 (L : pmL) (S : List Value) (g : pmH) : pmV mX12_fails 67 L S g = yS mX12_fails 70 1 mX12_ones 3 L S g := (ez_static kcX12_fails dX12_fails_67 ml_12_174 (by decide) rfl L S g).trans (zCall_y rfl (by decide) L S g)
theorem eX12_fails_70 (L : pmL) (S : List Value) (g : pmH) : pmV mX12_fails 70 L S g = yS mX12_fails 73 2 mX12_power 4 L S g := (ez_static kcX12_fails dX12_fails_70 ml_12_254 (by decide) rfl L S g).trans (zCall_y rfl (by decide) L S g)
theorem eX12_fails_73 (L : pmL) (S : List Value) (g : pmH) : pmV mX12_fails 73 L S g = zPush mX12_fails 75 (.int (nI 10)) L S g := ez_bipush kcX12_fails dX12_fails_73 (by decide) rfl L S g
theorem eX12_fails_75 (L : pmL) (S : List Value) (g : pmH) : pmV mX12_fails 75 L S g = zLdI mX12_fails 77 4 L S g := ez_iload kcX12_fails dX12_fails_75 rfl L S g
theorem eX12_fails_77 (L : pmL) (S : List Value) (g : pmH) : pmV mX12_fails 77 L S g = zSub mX12_fails 78 L S g := ez_isub kcX12_fails dX12_fails_77 rfl L S g
theorem eX12_fails_78 (L : pmL) (S : List Value) (g : pmH) : pmV mX12_fails 78 L S g = zLdI mX12_fails 79 3 L S g := ez_iload_n kcX12_fails dX12_fails_78 rfl rfl L S g
theorem eX12_fails_79 (L : pmL) (S : List Value) (g : pmH) : pmV mX12_fails 79 L S g = zLdI mX12_fails 81 8 L S g := ez_iload kcX12_fails dX12_fails_79 rfl L S g
theorem eX12_fails_81 (L : pmL) (S : List Value) (g : pmH) : pmV mX12_fails 81 L S g = yS mX12_fails 84 1 mX12_ones 3 L S g := (ez_static kcX12_fails dX12_fails_81 ml_12_174 (by decide) rfl L S g).trans (zCall_y rfl (by decide) L S g)
theorem eX12_fails_84 (L : pmL) (S : List Value) (g : pmH) : pmV mX12_fails 84 L S g = zSub mX12_fails 85 L S g := ez_isub kcX12_fails dX12_fails_84 rfl L S g
theorem eX12_fails_85 (L : pmL) (S : List Value) (g : pmH) : pmV mX12_fails 85 L S g = yS mX12_fails 88 2 mX12_power 4 L S g := (ez_static kcX12_fails dX12_fails_85 ml_12_254 (by decide) rfl L S g).trans (zCall_y rfl (by decide) L S g)
theorem eX12_fails_88 (L : pmL) (S : List Value) (g : pmH) : pmV mX12_fails 88 L S g = zMul mX12_fails 89 L S g := ez_imul kcX12_fails dX12_fails_88 rfl L S g
theorem eX12_fails_89 (L : pmL) (S : List Value) (g : pmH) : pmV mX12_fails 89 L S g = zStI mX12_fails 91 9 L S g := ez_istore kcX12_fails dX12_fails_89 rfl L S g
theorem eX12_fails_91 (L : pmL) (S : List Value) (g : pmH) : pmV mX12_fails 91 L S g = zLdA mX12_fails 92 0 L S g := ez_aload_n kcX12_fails dX12_fails_91 rfl rfl L S g
theorem eX12_fails_92 (L : pmL) (S : List Value) (g : pmH) : pmV mX12_fails 92 L S g = yV mX12_fails 95 0 mX12_layTrial 12 2 L S g := (ez_virtual kcX12_fails dX12_fails_92 ml_12_186 rfl L S g).trans (zCallV_y rfl rfl (by decide) L S g)
theorem eX12_fails_95 (L : pmL) (S : List Value) (g : pmH) : pmV mX12_fails 95 L S g = zPush mX12_fails 96 (.int (nI 0)) L S g := ez_iconst kcX12_fails dX12_fails_95 (by decide) rfl L S g
theorem eX12_fails_96 (L : pmL) (S : List Value) (g : pmH) : pmV mX12_fails 96 L S g = zStI mX12_fails 98 10 L S g := ez_istore kcX12_fails dX12_fails_96 rfl L S g
theorem eX12_fails_98 (L : pmL) (S : List Value) (g : pmH) : pmV mX12_fails 98 L S g = zLdI mX12_fails 100 10 L S g := ez_iload kcX12_fails dX12_fails_98 rfl L S g
theorem eX12_fails_100 (L : pmL) (S : List Value) (g : pmH) : pmV mX12_fails 100 L S g = zLdI mX12_fails 101 3 L S g := ez_iload_n kcX12_fails dX12_fails_100 rfl rfl L S g
theorem eX12_fails_101 (L : pmL) (S : List Value) (g : pmH) : pmV mX12_fails 101 L S g = zBge mX12_fails 104 131 L S g := ez_icmp_ge kcX12_fails dX12_fails_101 (by decide) rfl L S g
theorem eX12_fails_104 (L : pmL) (S : List Value) (g : pmH) : pmV mX12_fails 104 L S g = zLdA mX12_fails 105 0 L S g := ez_aload_n kcX12_fails dX12_fails_104 rfl rfl L S g
theorem eX12_fails_105 (L : pmL) (S : List Value) (g : pmH) : pmV mX12_fails 105 L S g = zPush mX12_fails 106 (.int (nI 1)) L S g := ez_iconst kcX12_fails dX12_fails_105 (by decide) rfl L S g
theorem eX12_fails_106 (L : pmL) (S : List Value) (g : pmH) : pmV mX12_fails 106 L S g = zLdI mX12_fails 108 8 L S g := ez_iload kcX12_fails dX12_fails_106 rfl L S g
theorem eX12_fails_108 (L : pmL) (S : List Value) (g : pmH) : pmV mX12_fails 108 L S g = zLdI mX12_fails 110 10 L S g := ez_iload kcX12_fails dX12_fails_108 rfl L S g
theorem eX12_fails_110 (L : pmL) (S : List Value) (g : pmH) : pmV mX12_fails 110 L S g = yS mX12_fails 113 2 mX12_has 2 L S g := (ez_static kcX12_fails dX12_fails_110 ml_12_86 (by decide) rfl L S g).trans (zCall_y rfl (by decide) L S g)
theorem eX12_fails_113 (L : pmL) (S : List Value) (g : pmH) : pmV mX12_fails 113 L S g = zCne mX12_fails 116 120 L S g := ez_if_ne kcX12_fails dX12_fails_113 (by decide) rfl L S g
theorem eX12_fails_116 (L : pmL) (S : List Value) (g : pmH) : pmV mX12_fails 116 L S g = zPush mX12_fails 117 (.int (nI 1)) L S g := ez_iconst kcX12_fails dX12_fails_116 (by decide) rfl L S g
theorem eX12_fails_117 (L : pmL) (S : List Value) (g : pmH) : pmV mX12_fails 117 L S g = zNx mX12_fails 121 L S g := ez_goto kcX12_fails dX12_fails_117 (by decide) L S g
theorem eX12_fails_120 (L : pmL) (S : List Value) (g : pmH) : pmV mX12_fails 120 L S g = zPush mX12_fails 121 (.int (nI 0)) L S g := ez_iconst kcX12_fails dX12_fails_120 (by decide) rfl L S g
theorem eX12_fails_121 (L : pmL) (S : List Value) (g : pmH) : pmV mX12_fails 121 L S g = yV mX12_fails 124 2 mX12_passOn 12 8 L S g := (ez_virtual kcX12_fails dX12_fails_121 ml_12_177 rfl L S g).trans (zCallV_y rfl rfl (by decide) L S g)
theorem eX12_fails_124 (L : pmL) (S : List Value) (g : pmH) : pmV mX12_fails 124 L S g = zPop mX12_fails 125 L S g := ez_pop kcX12_fails dX12_fails_124 rfl L S g
theorem eX12_fails_125 (L : pmL) (S : List Value) (g : pmH) : pmV mX12_fails 125 L S g = zInc mX12_fails 128 10 (nI 1) L S g := ez_iinc kcX12_fails dX12_fails_125 (by decide) rfl L S g
theorem eX12_fails_128 (L : pmL) (S : List Value) (g : pmH) : pmV mX12_fails 128 L S g = zNx mX12_fails 98 L S g := ez_goto kcX12_fails dX12_fails_128 (by decide) L S g
theorem eX12_fails_131 (L : pmL) (S : List Value) (g : pmH) : pmV mX12_fails 131 L S g = zLdI mX12_fails 133 7 L S g := ez_iload kcX12_fails dX12_fails_131 rfl L S g
theorem eX12_fails_133 (L : pmL) (S : List Value) (g : pmH) : pmV mX12_fails 133 L S g = zLdI mX12_fails 135 9 L S g := ez_iload kcX12_fails dX12_fails_133 rfl L S g
theorem eX12_fails_135 (L : pmL) (S : List Value) (g : pmH) : pmV mX12_fails 135 L S g = zAdd mX12_fails 136 L S g := ez_iadd kcX12_fails dX12_fails_135 rfl L S g
theorem eX12_fails_136 (L : pmL) (S : List Value) (g : pmH) : pmV mX12_fails 136 L S g = zStI mX12_fails 138 7 L S g := ez_istore kcX12_fails dX12_fails_136 rfl L S g
theorem eX12_fails_138 (L : pmL) (S : List Value) (g : pmH) : pmV mX12_fails 138 L S g = zLdI mX12_fails 140 6 L S g := ez_iload kcX12_fails dX12_fails_138 rfl L S g
theorem eX12_fails_140 (L : pmL) (S : List Value) (g : pmH) : pmV mX12_fails 140 L S g = zLdA mX12_fails 141 0 L S g := ez_aload_n kcX12_fails dX12_fails_140 rfl rfl L S g
theorem eX12_fails_141 (L : pmL) (S : List Value) (g : pmH) : pmV mX12_fails 141 L S g = zGet mX12_fails 144 12 9 L S g := ez_getfield kcX12_fails dX12_fails_141 fl_12_28 rfl L S g
theorem eX12_fails_144 (L : pmL) (S : List Value) (g : pmH) : pmV mX12_fails 144 L S g = zPush mX12_fails 146 (.int (nI 36)) L S g := ez_bipush kcX12_fails dX12_fails_144 (by decide) rfl L S g
theorem eX12_fails_146 (L : pmL) (S : List Value) (g : pmH) : pmV mX12_fails 146 L S g = zLdI mX12_fails 147 1 L S g := ez_iload_n kcX12_fails dX12_fails_146 rfl rfl L S g
theorem eX12_fails_147 (L : pmL) (S : List Value) (g : pmH) : pmV mX12_fails 147 L S g = zAdd mX12_fails 148 L S g := ez_iadd kcX12_fails dX12_fails_147 rfl L S g
theorem eX12_fails_148 (L : pmL) (S : List Value) (g : pmH) : pmV mX12_fails 148 L S g = zIald mX12_fails 149 L S g := ez_iaload kcX12_fails dX12_fails_148 rfl L S g
theorem eX12_fails_149 (L : pmL) (S : List Value) (g : pmH) : pmV mX12_fails 149 L S g = zPush mX12_fails 150 (.int (nI 2)) L S g := ez_iconst kcX12_fails dX12_fails_149 (by decide) rfl L S g
theorem eX12_fails_150 (L : pmL) (S : List Value) (g : pmH) : pmV mX12_fails 150 L S g = zBne mX12_fails 153 171 L S g := ez_icmp_ne kcX12_fails dX12_fails_150 (by decide) rfl L S g
theorem eX12_fails_153 (L : pmL) (S : List Value) (g : pmH) : pmV mX12_fails 153 L S g = zLdA mX12_fails 154 0 L S g := ez_aload_n kcX12_fails dX12_fails_153 rfl rfl L S g
theorem eX12_fails_154 (L : pmL) (S : List Value) (g : pmH) : pmV mX12_fails 154 L S g = zGet mX12_fails 157 12 9 L S g := ez_getfield kcX12_fails dX12_fails_154 fl_12_28 rfl L S g
theorem eX12_fails_157 (L : pmL) (S : List Value) (g : pmH) : pmV mX12_fails 157 L S g = zPush mX12_fails 159 (.int (nI 46)) L S g := ez_bipush kcX12_fails dX12_fails_157 (by decide) rfl L S g
theorem eX12_fails_159 (L : pmL) (S : List Value) (g : pmH) : pmV mX12_fails 159 L S g = zLdI mX12_fails 160 1 L S g := ez_iload_n kcX12_fails dX12_fails_159 rfl rfl L S g
theorem eX12_fails_160 (L : pmL) (S : List Value) (g : pmH) : pmV mX12_fails 160 L S g = zAdd mX12_fails 161 L S g := ez_iadd kcX12_fails dX12_fails_160 rfl L S g
theorem eX12_fails_161 (L : pmL) (S : List Value) (g : pmH) : pmV mX12_fails 161 L S g = zIald mX12_fails 162 L S g := ez_iaload kcX12_fails dX12_fails_161 rfl L S g
theorem eX12_fails_162 (L : pmL) (S : List Value) (g : pmH) : pmV mX12_fails 162 L S g = zLdI mX12_fails 163 2 L S g := ez_iload_n kcX12_fails dX12_fails_162 rfl rfl L S g
theorem eX12_fails_163 (L : pmL) (S : List Value) (g : pmH) : pmV mX12_fails 163 L S g = zBne mX12_fails 166 171 L S g := ez_icmp_ne kcX12_fails dX12_fails_163 (by decide) rfl L S g
theorem eX12_fails_166 (L : pmL) (S : List Value) (g : pmH) : pmV mX12_fails 166 L S g = zLdI mX12_fails 168 9 L S g := ez_iload kcX12_fails dX12_fails_166 rfl L S g
theorem eX12_fails_168 (L : pmL) (S : List Value) (g : pmH) : pmV mX12_fails 168 L S g = zNx mX12_fails 172 L S g := ez_goto kcX12_fails dX12_fails_168 (by decide) L S g
theorem eX12_fails_171 (L : pmL) (S : List Value) (g : pmH) : pmV mX12_fails 171 L S g = zPush mX12_fails 172 (.int (nI 0)) L S g := ez_iconst kcX12_fails dX12_fails_171 (by decide) rfl L S g
theorem eX12_fails_172 (L : pmL) (S : List Value) (g : pmH) : pmV mX12_fails 172 L S g = zAdd mX12_fails 173 L S g := ez_iadd kcX12_fails dX12_fails_172 rfl L S g
theorem eX12_fails_173 (L : pmL) (S : List Value) (g : pmH) : pmV mX12_fails 173 L S g = zStI mX12_fails 175 6 L S g := ez_istore kcX12_fails dX12_fails_173 rfl L S g
theorem eX12_fails_175 (L : pmL) (S : List Value) (g : pmH) : pmV mX12_fails 175 L S g = zInc mX12_fails 178 8 (nI 1) L S g := ez_iinc kcX12_fails dX12_fails_175 (by decide) rfl L S g
theorem eX12_fails_178 (L : pmL) (S : List Value) (g : pmH) : pmV mX12_fails 178 L S g = zNx mX12_fails 55 L S g := ez_goto kcX12_fails dX12_fails_178 (by decide) L S g
theorem eX12_fails_181 (L : pmL) (S : List Value) (g : pmH) : pmV mX12_fails 181 L S g = zLdI mX12_fails 183 6 L S g := ez_iload kcX12_fails dX12_fails_181 rfl L S g
theorem eX12_fails_183 (L : pmL) (S : List Value) (g : pmH) : pmV mX12_fails 183 L S g = zLdI mX12_fails 185 7 L S g := ez_iload kcX12_fails dX12_fails_183 rfl L S g
theorem eX12_fails_185 (L : pmL) (S : List Value) (g : pmH) : pmV mX12_fails 185 L S g = yS mX12_fails 188 2 mX12_common 5 L S g := (ez_static kcX12_fails dX12_fails_185 ml_12_239 (by decide) rfl L S g).trans (zCall_y rfl (by decide) L S g)
theorem eX12_fails_188 (L : pmL) (S : List Value) (g : pmH) : pmV mX12_fails 188 L S g = zStI mX12_fails 190 8 L S g := ez_istore kcX12_fails dX12_fails_188 rfl L S g
theorem eX12_fails_190 (L : pmL) (S : List Value) (g : pmH) : pmV mX12_fails 190 L S g = zLdI mX12_fails 192 5 L S g := ez_iload kcX12_fails dX12_fails_190 rfl L S g
theorem eX12_fails_192 (L : pmL) (S : List Value) (g : pmH) : pmV mX12_fails 192 L S g = zCeq mX12_fails 195 203 L S g := ez_if_eq kcX12_fails dX12_fails_192 (by decide) rfl L S g
theorem eX12_fails_195 (L : pmL) (S : List Value) (g : pmH) : pmV mX12_fails 195 L S g = zLdI mX12_fails 197 6 L S g := ez_iload kcX12_fails dX12_fails_195 rfl L S g
theorem eX12_fails_197 (L : pmL) (S : List Value) (g : pmH) : pmV mX12_fails 197 L S g = zLdI mX12_fails 199 8 L S g := ez_iload kcX12_fails dX12_fails_197 rfl L S g
theorem eX12_fails_199 (L : pmL) (S : List Value) (g : pmH) : pmV mX12_fails 199 L S g = zDiv mX12_fails 200 L S g := ez_idiv kcX12_fails dX12_fails_199 rfl L S g
theorem eX12_fails_200 (L : pmL) (S : List Value) (g : pmH) : pmV mX12_fails 200 L S g = zNx mX12_fails 208 L S g := ez_goto kcX12_fails dX12_fails_200 (by decide) L S g
theorem eX12_fails_203 (L : pmL) (S : List Value) (g : pmH) : pmV mX12_fails 203 L S g = zLdI mX12_fails 205 7 L S g := ez_iload kcX12_fails dX12_fails_203 rfl L S g
theorem eX12_fails_205 (L : pmL) (S : List Value) (g : pmH) : pmV mX12_fails 205 L S g = zLdI mX12_fails 207 8 L S g := ez_iload kcX12_fails dX12_fails_205 rfl L S g
theorem eX12_fails_207 (L : pmL) (S : List Value) (g : pmH) : pmV mX12_fails 207 L S g = zDiv mX12_fails 208 L S g := ez_idiv kcX12_fails dX12_fails_207 rfl L S g
theorem eX12_fails_208 (L : pmL) (S : List Value) (g : pmH) : pmV mX12_fails 208 L S g = zIret mX12_fails S g := ez_ireturn kcX12_fails dX12_fails_208 L S g
theorem eX12_seed_0 (L : pmL) (S : List Value) (g : pmH) : pmV mX12_seed 0 L S g = zLdA mX12_seed 1 0 L S g := ez_aload_n kcX12_seed dX12_seed_0 rfl rfl L S g
theorem eX12_seed_1 (L : pmL) (S : List Value) (g : pmH) : pmV mX12_seed 1 L S g = zGet mX12_seed 4 12 30 L S g := ez_getfield kcX12_seed dX12_seed_1 fl_12_257 rfl L S g
theorem eX12_seed_4 (L : pmL) (S : List Value) (g : pmH) : pmV mX12_seed 4 L S g = zStJ mX12_seed 5 3 L S g := ez_lstore_n kcX12_seed dX12_seed_4 rfl rfl L S g
theorem eX12_seed_5 (L : pmL) (S : List Value) (g : pmH) : pmV mX12_seed 5 L S g = zLdA mX12_seed 6 0 L S g := ez_aload_n kcX12_seed dX12_seed_5 rfl rfl L S g
theorem eX12_seed_6 (L : pmL) (S : List Value) (g : pmH) : pmV mX12_seed 6 L S g = zLdJ mX12_seed 7 1 L S g := ez_lload_n kcX12_seed dX12_seed_6 rfl rfl L S g
theorem eX12_seed_7 (L : pmL) (S : List Value) (g : pmH) : pmV mX12_seed 7 L S g = zPut mX12_seed 10 12 30 L S g := ez_putfield kcX12_seed dX12_seed_7 fl_12_257 rfl L S g
theorem eX12_seed_10 (L : pmL) (S : List Value) (g : pmH) : pmV mX12_seed 10 L S g = zLdJ mX12_seed 11 3 L S g := ez_lload_n kcX12_seed dX12_seed_10 rfl rfl L S g
theorem eX12_seed_11 (L : pmL) (S : List Value) (g : pmH) : pmV mX12_seed 11 L S g = zLret S g := ez_lreturn kcX12_seed dX12_seed_11 rfl L S g
theorem eX12_years_0 (L : pmL) (S : List Value) (g : pmH) : pmV mX12_years 0 L S g = zLdI mX12_years 1 1 L S g := ez_iload_n kcX12_years dX12_years_0 rfl rfl L S g
theorem eX12_years_1 (L : pmL) (S : List Value) (g : pmH) : pmV mX12_years 1 L S g = zI2l mX12_years 2 L S g := ez_i2l kcX12_years dX12_years_1 rfl L S g
theorem eX12_years_2 (L : pmL) (S : List Value) (g : pmH) : pmV mX12_years 2 L S g = zPush mX12_years 3 (.long (lN 1)) L S g := ez_lconst kcX12_years dX12_years_2 rfl rfl L S g
theorem eX12_years_3 (L : pmL) (S : List Value) (g : pmH) : pmV mX12_years 3 L S g = zPush mX12_years 6 (.long (lN 30)) L S g := ez_ldc2_w kcX12_years dX12_years_3 jl_12_261 rfl L S g
theorem eX12_years_6 (L : pmL) (S : List Value) (g : pmH) : pmV mX12_years 6 L S g = yS mX12_years 9 3 mX12_in 6 L S g := (ez_static kcX12_years dX12_years_6 ml_12_71 (by decide) rfl L S g).trans (zCall_y rfl (by decide) L S g)
theorem eX12_years_9 (L : pmL) (S : List Value) (g : pmH) : pmV mX12_years 9 L S g = zCne mX12_years 12 15 L S g := ez_if_ne kcX12_years dX12_years_9 (by decide) rfl L S g
theorem eX12_years_12 (L : pmL) (S : List Value) (g : pmH) : pmV mX12_years 12 L S g = zPush mX12_years 14 (.int (-2)) L S g := ez_bipush kcX12_years dX12_years_12 (by decide) rfl L S g
theorem eX12_years_14 (L : pmL) (S : List Value) (g : pmH) : pmV mX12_years 14 L S g = zIret mX12_years S g := ez_ireturn kcX12_years dX12_years_14 L S g
theorem eX12_years_15 (L : pmL) (S : List Value) (g : pmH) : pmV mX12_years 15 L S g = zLdA mX12_years 16 0 L S g := ez_aload_n kcX12_years dX12_years_15 rfl rfl L S g
theorem eX12_years_16 (L : pmL) (S : List Value) (g : pmH) : pmV mX12_years 16 L S g = yV mX12_years 19 0 mX12_layTrial 12 2 L S g := (ez_virtual kcX12_years dX12_years_16 ml_12_186 rfl L S g).trans (zCallV_y rfl rfl (by decide) L S g)
theorem eX12_years_19 (L : pmL) (S : List Value) (g : pmH) : pmV mX12_years 19 L S g = zPush mX12_years 20 (.int (nI 0)) L S g := ez_iconst kcX12_years dX12_years_19 (by decide) rfl L S g
theorem eX12_years_20 (L : pmL) (S : List Value) (g : pmH) : pmV mX12_years 20 L S g = zStI mX12_years 21 2 L S g := ez_istore_n kcX12_years dX12_years_20 rfl rfl L S g
theorem eX12_years_21 (L : pmL) (S : List Value) (g : pmH) : pmV mX12_years 21 L S g = zPush mX12_years 22 (.int (nI 0)) L S g := ez_iconst kcX12_years dX12_years_21 (by decide) rfl L S g
theorem eX12_years_22 (L : pmL) (S : List Value) (g : pmH) : pmV mX12_years 22 L S g = zStI mX12_years 23 3 L S g := ez_istore_n kcX12_years dX12_years_22 rfl rfl L S g
theorem eX12_years_23 (L : pmL) (S : List Value) (g : pmH) : pmV mX12_years 23 L S g = zLdI mX12_years 24 3 L S g := ez_iload_n kcX12_years dX12_years_23 rfl rfl L S g
theorem eX12_years_24 (L : pmL) (S : List Value) (g : pmH) : pmV mX12_years 24 L S g = zLdI mX12_years 25 1 L S g := ez_iload_n kcX12_years dX12_years_24 rfl rfl L S g
theorem eX12_years_25 (L : pmL) (S : List Value) (g : pmH) : pmV mX12_years 25 L S g = zBge mX12_years 28 139 L S g := ez_icmp_ge kcX12_years dX12_years_25 (by decide) rfl L S g
theorem eX12_years_28 (L : pmL) (S : List Value) (g : pmH) : pmV mX12_years 28 L S g = zLdA mX12_years 29 0 L S g := ez_aload_n kcX12_years dX12_years_28 rfl rfl L S g
theorem eX12_years_29 (L : pmL) (S : List Value) (g : pmH) : pmV mX12_years 29 L S g = zLdA mX12_years 30 0 L S g := ez_aload_n kcX12_years dX12_years_29 rfl rfl L S g
theorem eX12_years_30 (L : pmL) (S : List Value) (g : pmH) : pmV mX12_years 30 L S g = zGet mX12_years 33 12 30 L S g := ez_getfield kcX12_years dX12_years_30 fl_12_257 rfl L S g
theorem eX12_years_33 (L : pmL) (S : List Value) (g : pmH) : pmV mX12_years 33 L S g = zPush mX12_years 36 (.long (lN 6364136223846793005)) L S g := ez_ldc2_w kcX12_years dX12_years_33 jl_12_263 rfl L S g
theorem eX12_years_36 (L : pmL) (S : List Value) (g : pmH) : pmV mX12_years 36 L S g = zJMul mX12_years 37 L S g := ez_lmul kcX12_years dX12_years_36 rfl L S g
theorem eX12_years_37 (L : pmL) (S : List Value) (g : pmH) : pmV mX12_years 37 L S g = zPush mX12_years 40 (.long (lN 1442695040888963407)) L S g := ez_ldc2_w kcX12_years dX12_years_37 jl_12_265 rfl L S g
theorem eX12_years_40 (L : pmL) (S : List Value) (g : pmH) : pmV mX12_years 40 L S g = zJAdd mX12_years 41 L S g := ez_ladd kcX12_years dX12_years_40 rfl L S g
theorem eX12_years_41 (L : pmL) (S : List Value) (g : pmH) : pmV mX12_years 41 L S g = zPut mX12_years 44 12 30 L S g := ez_putfield kcX12_years dX12_years_41 fl_12_257 rfl L S g
theorem eX12_years_44 (L : pmL) (S : List Value) (g : pmH) : pmV mX12_years 44 L S g = zLdA mX12_years 45 0 L S g := ez_aload_n kcX12_years dX12_years_44 rfl rfl L S g
theorem eX12_years_45 (L : pmL) (S : List Value) (g : pmH) : pmV mX12_years 45 L S g = zGet mX12_years 48 12 30 L S g := ez_getfield kcX12_years dX12_years_45 fl_12_257 rfl L S g
theorem eX12_years_48 (L : pmL) (S : List Value) (g : pmH) : pmV mX12_years 48 L S g = zPush mX12_years 50 (.int (nI 33)) L S g := ez_bipush kcX12_years dX12_years_48 (by decide) rfl L S g
theorem eX12_years_50 (L : pmL) (S : List Value) (g : pmH) : pmV mX12_years 50 L S g = zJUshr mX12_years 51 L S g := ez_lushr kcX12_years dX12_years_50 rfl L S g
theorem eX12_years_51 (L : pmL) (S : List Value) (g : pmH) : pmV mX12_years 51 L S g = zPush mX12_years 54 (.long (lN 24)) L S g := ez_ldc2_w kcX12_years dX12_years_51 jl_12_267 rfl L S g
theorem eX12_years_54 (L : pmL) (S : List Value) (g : pmH) : pmV mX12_years 54 L S g = zJRem mX12_years 55 L S g := ez_lrem kcX12_years dX12_years_54 rfl L S g
theorem eX12_years_55 (L : pmL) (S : List Value) (g : pmH) : pmV mX12_years 55 L S g = zL2i mX12_years 56 L S g := ez_l2i kcX12_years dX12_years_55 rfl L S g
theorem eX12_years_56 (L : pmL) (S : List Value) (g : pmH) : pmV mX12_years 56 L S g = zStI mX12_years 58 4 L S g := ez_istore kcX12_years dX12_years_56 rfl L S g
theorem eX12_years_58 (L : pmL) (S : List Value) (g : pmH) : pmV mX12_years 58 L S g = zLdI mX12_years 60 4 L S g := ez_iload kcX12_years dX12_years_58 rfl L S g
theorem eX12_years_60 (L : pmL) (S : List Value) (g : pmH) : pmV mX12_years 60 L S g = zPush mX12_years 62 (.int (nI 12)) L S g := ez_bipush kcX12_years dX12_years_60 (by decide) rfl L S g
theorem eX12_years_62 (L : pmL) (S : List Value) (g : pmH) : pmV mX12_years 62 L S g = zBle mX12_years 65 75 L S g := ez_icmp_le kcX12_years dX12_years_62 (by decide) rfl L S g
theorem eX12_years_65 (L : pmL) (S : List Value) (g : pmH) : pmV mX12_years 65 L S g = zLdA mX12_years 66 0 L S g := ez_aload_n kcX12_years dX12_years_65 rfl rfl L S g
theorem eX12_years_66 (L : pmL) (S : List Value) (g : pmH) : pmV mX12_years 66 L S g = zPush mX12_years 67 (.int (nI 1)) L S g := ez_iconst kcX12_years dX12_years_66 (by decide) rfl L S g
theorem eX12_years_67 (L : pmL) (S : List Value) (g : pmH) : pmV mX12_years 67 L S g = zPush mX12_years 68 (.int (nI 1)) L S g := ez_iconst kcX12_years dX12_years_67 (by decide) rfl L S g
theorem eX12_years_68 (L : pmL) (S : List Value) (g : pmH) : pmV mX12_years 68 L S g = yV mX12_years 71 2 mX12_passOn 12 8 L S g := (ez_virtual kcX12_years dX12_years_68 ml_12_177 rfl L S g).trans (zCallV_y rfl rfl (by decide) L S g)
theorem eX12_years_71 (L : pmL) (S : List Value) (g : pmH) : pmV mX12_years 71 L S g = zPop mX12_years 72 L S g := ez_pop kcX12_years dX12_years_71 rfl L S g
theorem eX12_years_72 (L : pmL) (S : List Value) (g : pmH) : pmV mX12_years 72 L S g = zNx mX12_years 122 L S g := ez_goto kcX12_years dX12_years_72 (by decide) L S g
theorem eX12_years_75 (L : pmL) (S : List Value) (g : pmH) : pmV mX12_years 75 L S g = zLdI mX12_years 77 4 L S g := ez_iload kcX12_years dX12_years_75 rfl L S g
theorem eX12_years_77 (L : pmL) (S : List Value) (g : pmH) : pmV mX12_years 77 L S g = zPush mX12_years 79 (.int (nI 9)) L S g := ez_bipush kcX12_years dX12_years_77 (by decide) rfl L S g
theorem eX12_years_79 (L : pmL) (S : List Value) (g : pmH) : pmV mX12_years 79 L S g = zBle mX12_years 82 101 L S g := ez_icmp_le kcX12_years dX12_years_79 (by decide) rfl L S g
theorem eX12_years_82 (L : pmL) (S : List Value) (g : pmH) : pmV mX12_years 82 L S g = zLdA mX12_years 83 0 L S g := ez_aload_n kcX12_years dX12_years_82 rfl rfl L S g
theorem eX12_years_83 (L : pmL) (S : List Value) (g : pmH) : pmV mX12_years 83 L S g = zPush mX12_years 84 (.int (nI 3)) L S g := ez_iconst kcX12_years dX12_years_83 (by decide) rfl L S g
theorem eX12_years_84 (L : pmL) (S : List Value) (g : pmH) : pmV mX12_years 84 L S g = zLdI mX12_years 86 4 L S g := ez_iload kcX12_years dX12_years_84 rfl L S g
theorem eX12_years_86 (L : pmL) (S : List Value) (g : pmH) : pmV mX12_years 86 L S g = zPush mX12_years 88 (.int (nI 10)) L S g := ez_bipush kcX12_years dX12_years_86 (by decide) rfl L S g
theorem eX12_years_88 (L : pmL) (S : List Value) (g : pmH) : pmV mX12_years 88 L S g = zSub mX12_years 89 L S g := ez_isub kcX12_years dX12_years_88 rfl L S g
theorem eX12_years_89 (L : pmL) (S : List Value) (g : pmH) : pmV mX12_years 89 L S g = zLdI mX12_years 91 4 L S g := ez_iload kcX12_years dX12_years_89 rfl L S g
theorem eX12_years_91 (L : pmL) (S : List Value) (g : pmH) : pmV mX12_years 91 L S g = zPush mX12_years 93 (.int (nI 9)) L S g := ez_bipush kcX12_years dX12_years_91 (by decide) rfl L S g
theorem eX12_years_93 (L : pmL) (S : List Value) (g : pmH) : pmV mX12_years 93 L S g = zSub mX12_years 94 L S g := ez_isub kcX12_years dX12_years_93 rfl L S g
theorem eX12_years_94 (L : pmL) (S : List Value) (g : pmH) : pmV mX12_years 94 L S g = yV mX12_years 97 3 mX12_tryThing 12 7 L S g := (ez_virtual kcX12_years dX12_years_94 ml_12_215 rfl L S g).trans (zCallV_y rfl rfl (by decide) L S g)
theorem eX12_years_97 (L : pmL) (S : List Value) (g : pmH) : pmV mX12_years 97 L S g = zPop mX12_years 98 L S g := ez_pop kcX12_years dX12_years_97 rfl L S g
theorem eX12_years_98 (L : pmL) (S : List Value) (g : pmH) : pmV mX12_years 98 L S g = zNx mX12_years 122 L S g := ez_goto kcX12_years dX12_years_98 (by decide) L S g
theorem eX12_years_101 (L : pmL) (S : List Value) (g : pmH) : pmV mX12_years 101 L S g = zLdA mX12_years 102 0 L S g := ez_aload_n kcX12_years dX12_years_101 rfl rfl L S g
theorem eX12_years_102 (L : pmL) (S : List Value) (g : pmH) : pmV mX12_years 102 L S g = zLdI mX12_years 104 4 L S g := ez_iload kcX12_years dX12_years_102 rfl L S g
theorem eX12_years_104 (L : pmL) (S : List Value) (g : pmH) : pmV mX12_years 104 L S g = zPush mX12_years 105 (.int (nI 5)) L S g := ez_iconst kcX12_years dX12_years_104 (by decide) rfl L S g
theorem eX12_years_105 (L : pmL) (S : List Value) (g : pmH) : pmV mX12_years 105 L S g = zBge mX12_years 108 112 L S g := ez_icmp_ge kcX12_years dX12_years_105 (by decide) rfl L S g
theorem eX12_years_108 (L : pmL) (S : List Value) (g : pmH) : pmV mX12_years 108 L S g = zPush mX12_years 109 (.int (nI 1)) L S g := ez_iconst kcX12_years dX12_years_108 (by decide) rfl L S g
theorem eX12_years_109 (L : pmL) (S : List Value) (g : pmH) : pmV mX12_years 109 L S g = zNx mX12_years 113 L S g := ez_goto kcX12_years dX12_years_109 (by decide) L S g
theorem eX12_years_112 (L : pmL) (S : List Value) (g : pmH) : pmV mX12_years 112 L S g = zPush mX12_years 113 (.int (nI 2)) L S g := ez_iconst kcX12_years dX12_years_112 (by decide) rfl L S g
theorem eX12_years_113 (L : pmL) (S : List Value) (g : pmH) : pmV mX12_years 113 L S g = zPush mX12_years 114 (.int (nI 0)) L S g := ez_iconst kcX12_years dX12_years_113 (by decide) rfl L S g
theorem eX12_years_114 (L : pmL) (S : List Value) (g : pmH) : pmV mX12_years 114 L S g = zLdI mX12_years 116 4 L S g := ez_iload kcX12_years dX12_years_114 rfl L S g
theorem eX12_years_116 (L : pmL) (S : List Value) (g : pmH) : pmV mX12_years 116 L S g = zPush mX12_years 117 (.int (nI 5)) L S g := ez_iconst kcX12_years dX12_years_116 (by decide) rfl L S g
theorem eX12_years_117 (L : pmL) (S : List Value) (g : pmH) : pmV mX12_years 117 L S g = zRem mX12_years 118 L S g := ez_irem kcX12_years dX12_years_117 rfl L S g
theorem eX12_years_118 (L : pmL) (S : List Value) (g : pmH) : pmV mX12_years 118 L S g = yV mX12_years 121 3 mX12_tryThing 12 7 L S g := (ez_virtual kcX12_years dX12_years_118 ml_12_215 rfl L S g).trans (zCallV_y rfl rfl (by decide) L S g)
theorem eX12_years_121 (L : pmL) (S : List Value) (g : pmH) : pmV mX12_years 121 L S g = zPop mX12_years 122 L S g := ez_pop kcX12_years dX12_years_121 rfl L S g
theorem eX12_years_122 (L : pmL) (S : List Value) (g : pmH) : pmV mX12_years 122 L S g = zLdI mX12_years 123 2 L S g := ez_iload_n kcX12_years dX12_years_122 rfl rfl L S g
theorem eX12_years_123 (L : pmL) (S : List Value) (g : pmH) : pmV mX12_years 123 L S g = zLdA mX12_years 124 0 L S g := ez_aload_n kcX12_years dX12_years_123 rfl rfl L S g
theorem eX12_years_124 (L : pmL) (S : List Value) (g : pmH) : pmV mX12_years 124 L S g = zPush mX12_years 125 (.int (nI 1)) L S g := ez_iconst kcX12_years dX12_years_124 (by decide) rfl L S g
theorem eX12_years_125 (L : pmL) (S : List Value) (g : pmH) : pmV mX12_years 125 L S g = yV mX12_years 128 1 mX12_glad 12 5 L S g := (ez_virtual kcX12_years dX12_years_125 ml_12_156 rfl L S g).trans (zCallV_y rfl rfl (by decide) L S g)
theorem eX12_years_128 (L : pmL) (S : List Value) (g : pmH) : pmV mX12_years 128 L S g = yS mX12_years 131 1 mX12_ones 3 L S g := (ez_static kcX12_years dX12_years_128 ml_12_174 (by decide) rfl L S g).trans (zCall_y rfl (by decide) L S g)
theorem eX12_years_131 (L : pmL) (S : List Value) (g : pmH) : pmV mX12_years 131 L S g = zAdd mX12_years 132 L S g := ez_iadd kcX12_years dX12_years_131 rfl L S g
theorem eX12_years_132 (L : pmL) (S : List Value) (g : pmH) : pmV mX12_years 132 L S g = zStI mX12_years 133 2 L S g := ez_istore_n kcX12_years dX12_years_132 rfl rfl L S g
theorem eX12_years_133 (L : pmL) (S : List Value) (g : pmH) : pmV mX12_years 133 L S g = zInc mX12_years 136 3 (nI 1) L S g := ez_iinc kcX12_years dX12_years_133 (by decide) rfl L S g
theorem eX12_years_136 (L : pmL) (S : List Value) (g : pmH) : pmV mX12_years 136 L S g = zNx mX12_years 23 L S g := ez_goto kcX12_years dX12_years_136 (by decide) L S g
theorem eX12_years_139 (L : pmL) (S : List Value) (g : pmH) : pmV mX12_years 139 L S g = zLdI mX12_years 140 2 L S g := ez_iload_n kcX12_years dX12_years_139 rfl rfl L S g
theorem eX12_years_140 (L : pmL) (S : List Value) (g : pmH) : pmV mX12_years 140 L S g = zIret mX12_years S g := ez_ireturn kcX12_years dX12_years_140 L S g
theorem eX12_keep_0 (L : pmL) (S : List Value) (g : pmH) : pmV mX12_keep 0 L S g = zLdI mX12_keep 1 1 L S g := ez_iload_n kcX12_keep dX12_keep_0 rfl rfl L S g
theorem eX12_keep_1 (L : pmL) (S : List Value) (g : pmH) : pmV mX12_keep 1 L S g = zI2l mX12_keep 2 L S g := ez_i2l kcX12_keep dX12_keep_1 rfl L S g
theorem eX12_keep_2 (L : pmL) (S : List Value) (g : pmH) : pmV mX12_keep 2 L S g = zPush mX12_keep 3 (.long (lN 0)) L S g := ez_lconst kcX12_keep dX12_keep_2 rfl rfl L S g
theorem eX12_keep_3 (L : pmL) (S : List Value) (g : pmH) : pmV mX12_keep 3 L S g = zPush mX12_keep 4 (.long (lN 1)) L S g := ez_lconst kcX12_keep dX12_keep_3 rfl rfl L S g
theorem eX12_keep_4 (L : pmL) (S : List Value) (g : pmH) : pmV mX12_keep 4 L S g = yS mX12_keep 7 3 mX12_in 6 L S g := (ez_static kcX12_keep dX12_keep_4 ml_12_71 (by decide) rfl L S g).trans (zCall_y rfl (by decide) L S g)
theorem eX12_keep_7 (L : pmL) (S : List Value) (g : pmH) : pmV mX12_keep 7 L S g = zCne mX12_keep 10 12 L S g := ez_if_ne kcX12_keep dX12_keep_7 (by decide) rfl L S g
theorem eX12_keep_10 (L : pmL) (S : List Value) (g : pmH) : pmV mX12_keep 10 L S g = zPush mX12_keep 11 (.int (-1)) L S g := ez_iconst kcX12_keep dX12_keep_10 (by decide) rfl L S g
theorem eX12_keep_11 (L : pmL) (S : List Value) (g : pmH) : pmV mX12_keep 11 L S g = zIret mX12_keep S g := ez_ireturn kcX12_keep dX12_keep_11 L S g
theorem eX12_keep_12 (L : pmL) (S : List Value) (g : pmH) : pmV mX12_keep 12 L S g = zLdA mX12_keep 13 0 L S g := ez_aload_n kcX12_keep dX12_keep_12 rfl rfl L S g
theorem eX12_keep_13 (L : pmL) (S : List Value) (g : pmH) : pmV mX12_keep 13 L S g = zGet mX12_keep 16 12 31 L S g := ez_getfield kcX12_keep dX12_keep_13 fl_12_62 rfl L S g
theorem eX12_keep_16 (L : pmL) (S : List Value) (g : pmH) : pmV mX12_keep 16 L S g = zLdI mX12_keep 17 1 L S g := ez_iload_n kcX12_keep dX12_keep_16 rfl rfl L S g
theorem eX12_keep_17 (L : pmL) (S : List Value) (g : pmH) : pmV mX12_keep 17 L S g = zPush mX12_keep 18 (.int (nI 1)) L S g := ez_iconst kcX12_keep dX12_keep_17 (by decide) rfl L S g
theorem eX12_keep_18 (L : pmL) (S : List Value) (g : pmH) : pmV mX12_keep 18 L S g = zBast mX12_keep 19 L S g := ez_bastore kcX12_keep dX12_keep_18 rfl L S g
theorem eX12_keep_19 (L : pmL) (S : List Value) (g : pmH) : pmV mX12_keep 19 L S g = zPush mX12_keep 20 (.int (nI 0)) L S g := ez_iconst kcX12_keep dX12_keep_19 (by decide) rfl L S g
theorem eX12_keep_20 (L : pmL) (S : List Value) (g : pmH) : pmV mX12_keep 20 L S g = zStI mX12_keep 21 2 L S g := ez_istore_n kcX12_keep dX12_keep_20 rfl rfl L S g
theorem eX12_keep_21 (L : pmL) (S : List Value) (g : pmH) : pmV mX12_keep 21 L S g = zLdI mX12_keep 22 2 L S g := ez_iload_n kcX12_keep dX12_keep_21 rfl rfl L S g
theorem eX12_keep_22 (L : pmL) (S : List Value) (g : pmH) : pmV mX12_keep 22 L S g = zPush mX12_keep 24 (.int (nI 31)) L S g := ez_bipush kcX12_keep dX12_keep_22 (by decide) rfl L S g
theorem eX12_keep_24 (L : pmL) (S : List Value) (g : pmH) : pmV mX12_keep 24 L S g = zBge mX12_keep 27 50 L S g := ez_icmp_ge kcX12_keep dX12_keep_24 (by decide) rfl L S g
theorem eX12_keep_27 (L : pmL) (S : List Value) (g : pmH) : pmV mX12_keep 27 L S g = zLdA mX12_keep 28 0 L S g := ez_aload_n kcX12_keep dX12_keep_27 rfl rfl L S g
theorem eX12_keep_28 (L : pmL) (S : List Value) (g : pmH) : pmV mX12_keep 28 L S g = zGet mX12_keep 31 12 32 L S g := ez_getfield kcX12_keep dX12_keep_28 fl_12_66 rfl L S g
theorem eX12_keep_31 (L : pmL) (S : List Value) (g : pmH) : pmV mX12_keep 31 L S g = zPush mX12_keep 33 (.int (nI 31)) L S g := ez_bipush kcX12_keep dX12_keep_31 (by decide) rfl L S g
theorem eX12_keep_33 (L : pmL) (S : List Value) (g : pmH) : pmV mX12_keep 33 L S g = zLdI mX12_keep 34 1 L S g := ez_iload_n kcX12_keep dX12_keep_33 rfl rfl L S g
theorem eX12_keep_34 (L : pmL) (S : List Value) (g : pmH) : pmV mX12_keep 34 L S g = zMul mX12_keep 35 L S g := ez_imul kcX12_keep dX12_keep_34 rfl L S g
theorem eX12_keep_35 (L : pmL) (S : List Value) (g : pmH) : pmV mX12_keep 35 L S g = zLdI mX12_keep 36 2 L S g := ez_iload_n kcX12_keep dX12_keep_35 rfl rfl L S g
theorem eX12_keep_36 (L : pmL) (S : List Value) (g : pmH) : pmV mX12_keep 36 L S g = zAdd mX12_keep 37 L S g := ez_iadd kcX12_keep dX12_keep_36 rfl L S g
theorem eX12_keep_37 (L : pmL) (S : List Value) (g : pmH) : pmV mX12_keep 37 L S g = zLdA mX12_keep 38 0 L S g := ez_aload_n kcX12_keep dX12_keep_37 rfl rfl L S g
theorem eX12_keep_38 (L : pmL) (S : List Value) (g : pmH) : pmV mX12_keep 38 L S g = zGet mX12_keep 41 12 9 L S g := ez_getfield kcX12_keep dX12_keep_38 fl_12_28 rfl L S g
theorem eX12_keep_41 (L : pmL) (S : List Value) (g : pmH) : pmV mX12_keep 41 L S g = zLdI mX12_keep 42 2 L S g := ez_iload_n kcX12_keep dX12_keep_41 rfl rfl L S g
theorem eX12_keep_42 (L : pmL) (S : List Value) (g : pmH) : pmV mX12_keep 42 L S g = zIald mX12_keep 43 L S g := ez_iaload kcX12_keep dX12_keep_42 rfl L S g
theorem eX12_keep_43 (L : pmL) (S : List Value) (g : pmH) : pmV mX12_keep 43 L S g = zIast mX12_keep 44 L S g := ez_iastore kcX12_keep dX12_keep_43 rfl L S g
theorem eX12_keep_44 (L : pmL) (S : List Value) (g : pmH) : pmV mX12_keep 44 L S g = zInc mX12_keep 47 2 (nI 1) L S g := ez_iinc kcX12_keep dX12_keep_44 (by decide) rfl L S g
theorem eX12_keep_47 (L : pmL) (S : List Value) (g : pmH) : pmV mX12_keep 47 L S g = zNx mX12_keep 21 L S g := ez_goto kcX12_keep dX12_keep_47 (by decide) L S g
theorem eX12_keep_50 (L : pmL) (S : List Value) (g : pmH) : pmV mX12_keep 50 L S g = zLdA mX12_keep 51 0 L S g := ez_aload_n kcX12_keep dX12_keep_50 rfl rfl L S g
theorem eX12_keep_51 (L : pmL) (S : List Value) (g : pmH) : pmV mX12_keep 51 L S g = zGet mX12_keep 54 12 9 L S g := ez_getfield kcX12_keep dX12_keep_51 fl_12_28 rfl L S g
theorem eX12_keep_54 (L : pmL) (S : List Value) (g : pmH) : pmV mX12_keep 54 L S g = zPush mX12_keep 56 (.int (nI 30)) L S g := ez_bipush kcX12_keep dX12_keep_54 (by decide) rfl L S g
theorem eX12_keep_56 (L : pmL) (S : List Value) (g : pmH) : pmV mX12_keep 56 L S g = zIald mX12_keep 57 L S g := ez_iaload kcX12_keep dX12_keep_56 rfl L S g
theorem eX12_keep_57 (L : pmL) (S : List Value) (g : pmH) : pmV mX12_keep 57 L S g = zIret mX12_keep S g := ez_ireturn kcX12_keep dX12_keep_57 L S g
theorem eX12_again_0 (L : pmL) (S : List Value) (g : pmH) : pmV mX12_again 0 L S g = zLdI mX12_again 1 1 L S g := ez_iload_n kcX12_again dX12_again_0 rfl rfl L S g
theorem eX12_again_1 (L : pmL) (S : List Value) (g : pmH) : pmV mX12_again 1 L S g = zI2l mX12_again 2 L S g := ez_i2l kcX12_again dX12_again_1 rfl L S g
theorem eX12_again_2 (L : pmL) (S : List Value) (g : pmH) : pmV mX12_again 2 L S g = zPush mX12_again 3 (.long (lN 0)) L S g := ez_lconst kcX12_again dX12_again_2 rfl rfl L S g
theorem eX12_again_3 (L : pmL) (S : List Value) (g : pmH) : pmV mX12_again 3 L S g = zPush mX12_again 4 (.long (lN 1)) L S g := ez_lconst kcX12_again dX12_again_3 rfl rfl L S g
theorem eX12_again_4 (L : pmL) (S : List Value) (g : pmH) : pmV mX12_again 4 L S g = yS mX12_again 7 3 mX12_in 6 L S g := (ez_static kcX12_again dX12_again_4 ml_12_71 (by decide) rfl L S g).trans (zCall_y rfl (by decide) L S g)
theorem eX12_again_7 (L : pmL) (S : List Value) (g : pmH) : pmV mX12_again 7 L S g = zCne mX12_again 10 12 L S g := ez_if_ne kcX12_again dX12_again_7 (by decide) rfl L S g
theorem eX12_again_10 (L : pmL) (S : List Value) (g : pmH) : pmV mX12_again 10 L S g = zPush mX12_again 11 (.int (-1)) L S g := ez_iconst kcX12_again dX12_again_10 (by decide) rfl L S g
theorem eX12_again_11 (L : pmL) (S : List Value) (g : pmH) : pmV mX12_again 11 L S g = zIret mX12_again S g := ez_ireturn kcX12_again dX12_again_11 L S g
theorem eX12_again_12 (L : pmL) (S : List Value) (g : pmH) : pmV mX12_again 12 L S g = zLdA mX12_again 13 0 L S g := ez_aload_n kcX12_again dX12_again_12 rfl rfl L S g
theorem eX12_again_13 (L : pmL) (S : List Value) (g : pmH) : pmV mX12_again 13 L S g = zGet mX12_again 16 12 31 L S g := ez_getfield kcX12_again dX12_again_13 fl_12_62 rfl L S g
theorem eX12_again_16 (L : pmL) (S : List Value) (g : pmH) : pmV mX12_again 16 L S g = zLdI mX12_again 17 1 L S g := ez_iload_n kcX12_again dX12_again_16 rfl rfl L S g
theorem eX12_again_17 (L : pmL) (S : List Value) (g : pmH) : pmV mX12_again 17 L S g = zBald mX12_again 18 L S g := ez_baload kcX12_again dX12_again_17 rfl L S g
theorem eX12_again_18 (L : pmL) (S : List Value) (g : pmH) : pmV mX12_again 18 L S g = zCne mX12_again 21 24 L S g := ez_if_ne kcX12_again dX12_again_18 (by decide) rfl L S g
theorem eX12_again_21 (L : pmL) (S : List Value) (g : pmH) : pmV mX12_again 21 L S g = zPush mX12_again 23 (.int (-3)) L S g := ez_bipush kcX12_again dX12_again_21 (by decide) rfl L S g
theorem eX12_again_23 (L : pmL) (S : List Value) (g : pmH) : pmV mX12_again 23 L S g = zIret mX12_again S g := ez_ireturn kcX12_again dX12_again_23 L S g
theorem eX12_again_24 (L : pmL) (S : List Value) (g : pmH) : pmV mX12_again 24 L S g = zPush mX12_again 25 (.int (nI 0)) L S g := ez_iconst kcX12_again dX12_again_24 (by decide) rfl L S g
theorem eX12_again_25 (L : pmL) (S : List Value) (g : pmH) : pmV mX12_again 25 L S g = zStI mX12_again 26 2 L S g := ez_istore_n kcX12_again dX12_again_25 rfl rfl L S g
theorem eX12_again_26 (L : pmL) (S : List Value) (g : pmH) : pmV mX12_again 26 L S g = zLdI mX12_again 27 2 L S g := ez_iload_n kcX12_again dX12_again_26 rfl rfl L S g
theorem eX12_again_27 (L : pmL) (S : List Value) (g : pmH) : pmV mX12_again 27 L S g = zPush mX12_again 29 (.int (nI 31)) L S g := ez_bipush kcX12_again dX12_again_27 (by decide) rfl L S g
theorem eX12_again_29 (L : pmL) (S : List Value) (g : pmH) : pmV mX12_again 29 L S g = zBge mX12_again 32 55 L S g := ez_icmp_ge kcX12_again dX12_again_29 (by decide) rfl L S g
theorem eX12_again_32 (L : pmL) (S : List Value) (g : pmH) : pmV mX12_again 32 L S g = zLdA mX12_again 33 0 L S g := ez_aload_n kcX12_again dX12_again_32 rfl rfl L S g
theorem eX12_again_33 (L : pmL) (S : List Value) (g : pmH) : pmV mX12_again 33 L S g = zGet mX12_again 36 12 9 L S g := ez_getfield kcX12_again dX12_again_33 fl_12_28 rfl L S g
theorem eX12_again_36 (L : pmL) (S : List Value) (g : pmH) : pmV mX12_again 36 L S g = zLdI mX12_again 37 2 L S g := ez_iload_n kcX12_again dX12_again_36 rfl rfl L S g
theorem eX12_again_37 (L : pmL) (S : List Value) (g : pmH) : pmV mX12_again 37 L S g = zLdA mX12_again 38 0 L S g := ez_aload_n kcX12_again dX12_again_37 rfl rfl L S g
theorem eX12_again_38 (L : pmL) (S : List Value) (g : pmH) : pmV mX12_again 38 L S g = zGet mX12_again 41 12 32 L S g := ez_getfield kcX12_again dX12_again_38 fl_12_66 rfl L S g
theorem eX12_again_41 (L : pmL) (S : List Value) (g : pmH) : pmV mX12_again 41 L S g = zPush mX12_again 43 (.int (nI 31)) L S g := ez_bipush kcX12_again dX12_again_41 (by decide) rfl L S g
theorem eX12_again_43 (L : pmL) (S : List Value) (g : pmH) : pmV mX12_again 43 L S g = zLdI mX12_again 44 1 L S g := ez_iload_n kcX12_again dX12_again_43 rfl rfl L S g
theorem eX12_again_44 (L : pmL) (S : List Value) (g : pmH) : pmV mX12_again 44 L S g = zMul mX12_again 45 L S g := ez_imul kcX12_again dX12_again_44 rfl L S g
theorem eX12_again_45 (L : pmL) (S : List Value) (g : pmH) : pmV mX12_again 45 L S g = zLdI mX12_again 46 2 L S g := ez_iload_n kcX12_again dX12_again_45 rfl rfl L S g
theorem eX12_again_46 (L : pmL) (S : List Value) (g : pmH) : pmV mX12_again 46 L S g = zAdd mX12_again 47 L S g := ez_iadd kcX12_again dX12_again_46 rfl L S g
theorem eX12_again_47 (L : pmL) (S : List Value) (g : pmH) : pmV mX12_again 47 L S g = zIald mX12_again 48 L S g := ez_iaload kcX12_again dX12_again_47 rfl L S g
theorem eX12_again_48 (L : pmL) (S : List Value) (g : pmH) : pmV mX12_again 48 L S g = zIast mX12_again 49 L S g := ez_iastore kcX12_again dX12_again_48 rfl L S g
theorem eX12_again_49 (L : pmL) (S : List Value) (g : pmH) : pmV mX12_again 49 L S g = zInc mX12_again 52 2 (nI 1) L S g := ez_iinc kcX12_again dX12_again_49 (by decide) rfl L S g
theorem eX12_again_52 (L : pmL) (S : List Value) (g : pmH) : pmV mX12_again 52 L S g = zNx mX12_again 26 L S g := ez_goto kcX12_again dX12_again_52 (by decide) L S g
theorem eX12_again_55 (L : pmL) (S : List Value) (g : pmH) : pmV mX12_again 55 L S g = zLdA mX12_again 56 0 L S g := ez_aload_n kcX12_again dX12_again_55 rfl rfl L S g
theorem eX12_again_56 (L : pmL) (S : List Value) (g : pmH) : pmV mX12_again 56 L S g = zPush mX12_again 57 (.int (nI 0)) L S g := ez_iconst kcX12_again dX12_again_56 (by decide) rfl L S g
theorem eX12_again_57 (L : pmL) (S : List Value) (g : pmH) : pmV mX12_again 57 L S g = zPut mX12_again 60 12 22 L S g := ez_putfield kcX12_again dX12_again_57 fl_12_126 rfl L S g
theorem eX12_again_60 (L : pmL) (S : List Value) (g : pmH) : pmV mX12_again 60 L S g = zLdA mX12_again 61 0 L S g := ez_aload_n kcX12_again dX12_again_60 rfl rfl L S g
theorem eX12_again_61 (L : pmL) (S : List Value) (g : pmH) : pmV mX12_again 61 L S g = zGet mX12_again 64 12 9 L S g := ez_getfield kcX12_again dX12_again_61 fl_12_28 rfl L S g
theorem eX12_again_64 (L : pmL) (S : List Value) (g : pmH) : pmV mX12_again 64 L S g = zPush mX12_again 66 (.int (nI 30)) L S g := ez_bipush kcX12_again dX12_again_64 (by decide) rfl L S g
theorem eX12_again_66 (L : pmL) (S : List Value) (g : pmH) : pmV mX12_again 66 L S g = zIald mX12_again 67 L S g := ez_iaload kcX12_again dX12_again_66 rfl L S g
theorem eX12_again_67 (L : pmL) (S : List Value) (g : pmH) : pmV mX12_again 67 L S g = zIret mX12_again S g := ez_ireturn kcX12_again dX12_again_67 L S g
theorem eX12_count_0 (L : pmL) (S : List Value) (g : pmH) : pmV mX12_count 0 L S g = zLdI mX12_count 1 1 L S g := ez_iload_n kcX12_count dX12_count_0 rfl rfl L S g
theorem eX12_count_1 (L : pmL) (S : List Value) (g : pmH) : pmV mX12_count 1 L S g = zTab mX12_count 1 143 0 13 #[71, 76, 81, 86, 91, 99, 111, 111, 111, 111, 121, 127, 133, 138] L S g := ez_tab kcX12_count dX12_count_1 L S g
theorem eX12_count_72 (L : pmL) (S : List Value) (g : pmH) : pmV mX12_count 72 L S g = zLdA mX12_count 73 0 L S g := ez_aload_n kcX12_count dX12_count_72 rfl rfl L S g
theorem eX12_count_73 (L : pmL) (S : List Value) (g : pmH) : pmV mX12_count 73 L S g = zGet mX12_count 76 12 18 L S g := ez_getfield kcX12_count dX12_count_73 fl_12_75 rfl L S g
theorem eX12_count_76 (L : pmL) (S : List Value) (g : pmH) : pmV mX12_count 76 L S g = zIret mX12_count S g := ez_ireturn kcX12_count dX12_count_76 L S g
theorem eX12_count_77 (L : pmL) (S : List Value) (g : pmH) : pmV mX12_count 77 L S g = zLdA mX12_count 78 0 L S g := ez_aload_n kcX12_count dX12_count_77 rfl rfl L S g
theorem eX12_count_78 (L : pmL) (S : List Value) (g : pmH) : pmV mX12_count 78 L S g = zGet mX12_count 81 12 0 L S g := ez_getfield kcX12_count dX12_count_78 fl_12_117 rfl L S g
theorem eX12_count_81 (L : pmL) (S : List Value) (g : pmH) : pmV mX12_count 81 L S g = zIret mX12_count S g := ez_ireturn kcX12_count dX12_count_81 L S g
theorem eX12_count_82 (L : pmL) (S : List Value) (g : pmH) : pmV mX12_count 82 L S g = zLdA mX12_count 83 0 L S g := ez_aload_n kcX12_count dX12_count_82 rfl rfl L S g
theorem eX12_count_83 (L : pmL) (S : List Value) (g : pmH) : pmV mX12_count 83 L S g = zGet mX12_count 86 12 1 L S g := ez_getfield kcX12_count dX12_count_83 fl_12_120 rfl L S g
theorem eX12_count_86 (L : pmL) (S : List Value) (g : pmH) : pmV mX12_count 86 L S g = zIret mX12_count S g := ez_ireturn kcX12_count dX12_count_86 L S g
theorem eX12_count_87 (L : pmL) (S : List Value) (g : pmH) : pmV mX12_count 87 L S g = zLdA mX12_count 88 0 L S g := ez_aload_n kcX12_count dX12_count_87 rfl rfl L S g
theorem eX12_count_88 (L : pmL) (S : List Value) (g : pmH) : pmV mX12_count 88 L S g = zGet mX12_count 91 12 2 L S g := ez_getfield kcX12_count dX12_count_88 fl_12_123 rfl L S g
theorem eX12_count_91 (L : pmL) (S : List Value) (g : pmH) : pmV mX12_count 91 L S g = zIret mX12_count S g := ez_ireturn kcX12_count dX12_count_91 L S g
theorem eX12_count_92 (L : pmL) (S : List Value) (g : pmH) : pmV mX12_count 92 L S g = zLdA mX12_count 93 0 L S g := ez_aload_n kcX12_count dX12_count_92 rfl rfl L S g
theorem eX12_count_93 (L : pmL) (S : List Value) (g : pmH) : pmV mX12_count 93 L S g = zGet mX12_count 96 12 9 L S g := ez_getfield kcX12_count dX12_count_93 fl_12_28 rfl L S g
theorem eX12_count_96 (L : pmL) (S : List Value) (g : pmH) : pmV mX12_count 96 L S g = zPush mX12_count 98 (.int (nI 30)) L S g := ez_bipush kcX12_count dX12_count_96 (by decide) rfl L S g
theorem eX12_count_98 (L : pmL) (S : List Value) (g : pmH) : pmV mX12_count 98 L S g = zIald mX12_count 99 L S g := ez_iaload kcX12_count dX12_count_98 rfl L S g
theorem eX12_count_99 (L : pmL) (S : List Value) (g : pmH) : pmV mX12_count 99 L S g = zIret mX12_count S g := ez_ireturn kcX12_count dX12_count_99 L S g
theorem eX12_count_100 (L : pmL) (S : List Value) (g : pmH) : pmV mX12_count 100 L S g = zLdA mX12_count 101 0 L S g := ez_aload_n kcX12_count dX12_count_100 rfl rfl L S g
theorem eX12_count_101 (L : pmL) (S : List Value) (g : pmH) : pmV mX12_count 101 L S g = zLdA mX12_count 102 0 L S g := ez_aload_n kcX12_count dX12_count_101 rfl rfl L S g
theorem eX12_count_102 (L : pmL) (S : List Value) (g : pmH) : pmV mX12_count 102 L S g = zGet mX12_count 105 12 9 L S g := ez_getfield kcX12_count dX12_count_102 fl_12_28 rfl L S g
theorem eX12_count_105 (L : pmL) (S : List Value) (g : pmH) : pmV mX12_count 105 L S g = zPush mX12_count 107 (.int (nI 30)) L S g := ez_bipush kcX12_count dX12_count_105 (by decide) rfl L S g
theorem eX12_count_107 (L : pmL) (S : List Value) (g : pmH) : pmV mX12_count 107 L S g = zIald mX12_count 108 L S g := ez_iaload kcX12_count dX12_count_107 rfl L S g
theorem eX12_count_108 (L : pmL) (S : List Value) (g : pmH) : pmV mX12_count 108 L S g = yV mX12_count 111 1 mX12_windOf 12 2 L S g := (ez_virtual kcX12_count dX12_count_108 ml_12_137 rfl L S g).trans (zCallV_y rfl rfl (by decide) L S g)
theorem eX12_count_111 (L : pmL) (S : List Value) (g : pmH) : pmV mX12_count 111 L S g = zIret mX12_count S g := ez_ireturn kcX12_count dX12_count_111 L S g
theorem eX12_count_112 (L : pmL) (S : List Value) (g : pmH) : pmV mX12_count 112 L S g = zLdA mX12_count 113 0 L S g := ez_aload_n kcX12_count dX12_count_112 rfl rfl L S g
theorem eX12_count_113 (L : pmL) (S : List Value) (g : pmH) : pmV mX12_count 113 L S g = zPush mX12_count 114 (.int (nI 0)) L S g := ez_iconst kcX12_count dX12_count_113 (by decide) rfl L S g
theorem eX12_count_114 (L : pmL) (S : List Value) (g : pmH) : pmV mX12_count 114 L S g = zLdI mX12_count 115 1 L S g := ez_iload_n kcX12_count dX12_count_114 rfl rfl L S g
theorem eX12_count_115 (L : pmL) (S : List Value) (g : pmH) : pmV mX12_count 115 L S g = zPush mX12_count 117 (.int (nI 6)) L S g := ez_bipush kcX12_count dX12_count_115 (by decide) rfl L S g
theorem eX12_count_117 (L : pmL) (S : List Value) (g : pmH) : pmV mX12_count 117 L S g = zSub mX12_count 118 L S g := ez_isub kcX12_count dX12_count_117 rfl L S g
theorem eX12_count_118 (L : pmL) (S : List Value) (g : pmH) : pmV mX12_count 118 L S g = yV mX12_count 121 2 mX12_whoIs 12 5 L S g := (ez_virtual kcX12_count dX12_count_118 ml_12_171 rfl L S g).trans (zCallV_y rfl rfl (by decide) L S g)
theorem eX12_count_121 (L : pmL) (S : List Value) (g : pmH) : pmV mX12_count 121 L S g = zIret mX12_count S g := ez_ireturn kcX12_count dX12_count_121 L S g
theorem eX12_count_122 (L : pmL) (S : List Value) (g : pmH) : pmV mX12_count 122 L S g = zLdA mX12_count 123 0 L S g := ez_aload_n kcX12_count dX12_count_122 rfl rfl L S g
theorem eX12_count_123 (L : pmL) (S : List Value) (g : pmH) : pmV mX12_count 123 L S g = zPush mX12_count 124 (.int (nI 0)) L S g := ez_iconst kcX12_count dX12_count_123 (by decide) rfl L S g
theorem eX12_count_124 (L : pmL) (S : List Value) (g : pmH) : pmV mX12_count 124 L S g = yV mX12_count 127 1 mX12_answered 12 4 L S g := (ez_virtual kcX12_count dX12_count_124 ml_12_269 rfl L S g).trans (zCallV_y rfl rfl (by decide) L S g)
theorem eX12_count_127 (L : pmL) (S : List Value) (g : pmH) : pmV mX12_count 127 L S g = zIret mX12_count S g := ez_ireturn kcX12_count dX12_count_127 L S g
theorem eX12_count_128 (L : pmL) (S : List Value) (g : pmH) : pmV mX12_count 128 L S g = zLdA mX12_count 129 0 L S g := ez_aload_n kcX12_count dX12_count_128 rfl rfl L S g
theorem eX12_count_129 (L : pmL) (S : List Value) (g : pmH) : pmV mX12_count 129 L S g = zPush mX12_count 130 (.int (nI 0)) L S g := ez_iconst kcX12_count dX12_count_129 (by decide) rfl L S g
theorem eX12_count_130 (L : pmL) (S : List Value) (g : pmH) : pmV mX12_count 130 L S g = yV mX12_count 133 1 mX12_glad 12 5 L S g := (ez_virtual kcX12_count dX12_count_130 ml_12_156 rfl L S g).trans (zCallV_y rfl rfl (by decide) L S g)
theorem eX12_count_133 (L : pmL) (S : List Value) (g : pmH) : pmV mX12_count 133 L S g = zIret mX12_count S g := ez_ireturn kcX12_count dX12_count_133 L S g
theorem eX12_count_134 (L : pmL) (S : List Value) (g : pmH) : pmV mX12_count 134 L S g = zLdA mX12_count 135 0 L S g := ez_aload_n kcX12_count dX12_count_134 rfl rfl L S g
theorem eX12_count_135 (L : pmL) (S : List Value) (g : pmH) : pmV mX12_count 135 L S g = zGet mX12_count 138 12 22 L S g := ez_getfield kcX12_count dX12_count_135 fl_12_126 rfl L S g
theorem eX12_count_138 (L : pmL) (S : List Value) (g : pmH) : pmV mX12_count 138 L S g = zIret mX12_count S g := ez_ireturn kcX12_count dX12_count_138 L S g
theorem eX12_count_139 (L : pmL) (S : List Value) (g : pmH) : pmV mX12_count 139 L S g = zLdA mX12_count 140 0 L S g := ez_aload_n kcX12_count dX12_count_139 rfl rfl L S g
theorem eX12_count_140 (L : pmL) (S : List Value) (g : pmH) : pmV mX12_count 140 L S g = zGet mX12_count 143 12 27 L S g := ez_getfield kcX12_count dX12_count_140 fl_12_224 rfl L S g
theorem eX12_count_143 (L : pmL) (S : List Value) (g : pmH) : pmV mX12_count 143 L S g = zIret mX12_count S g := ez_ireturn kcX12_count dX12_count_143 L S g
theorem eX12_count_144 (L : pmL) (S : List Value) (g : pmH) : pmV mX12_count 144 L S g = zPush mX12_count 146 (.int (-2)) L S g := ez_bipush kcX12_count dX12_count_144 (by decide) rfl L S g
theorem eX12_count_146 (L : pmL) (S : List Value) (g : pmH) : pmV mX12_count 146 L S g = zIret mX12_count S g := ez_ireturn kcX12_count dX12_count_146 L S g
theorem eJ6_bitCount_0f7a4_0 (L : pmL) (S : List Value) (g : pmH) : pmV mJ6_bitCount_0f7a4 0 L S g = zLdI mJ6_bitCount_0f7a4 1 0 L S g := ez_iload_n kcJ6_bitCount_0f7a4 dJ6_bitCount_0f7a4_0 rfl rfl L S g
theorem eJ6_bitCount_0f7a4_1 (L : pmL) (S : List Value) (g : pmH) : pmV mJ6_bitCount_0f7a4 1 L S g = zLdI mJ6_bitCount_0f7a4 2 0 L S g := ez_iload_n kcJ6_bitCount_0f7a4 dJ6_bitCount_0f7a4_1 rfl rfl L S g
theorem eJ6_bitCount_0f7a4_2 (L : pmL) (S : List Value) (g : pmH) : pmV mJ6_bitCount_0f7a4 2 L S g = zPush mJ6_bitCount_0f7a4 3 (.int (nI 1)) L S g := ez_iconst kcJ6_bitCount_0f7a4 dJ6_bitCount_0f7a4_2 (by decide) rfl L S g
theorem eJ6_bitCount_0f7a4_3 (L : pmL) (S : List Value) (g : pmH) : pmV mJ6_bitCount_0f7a4 3 L S g = zUshr mJ6_bitCount_0f7a4 4 L S g := ez_iushr kcJ6_bitCount_0f7a4 dJ6_bitCount_0f7a4_3 rfl L S g
theorem eJ6_bitCount_0f7a4_4 (L : pmL) (S : List Value) (g : pmH) : pmV mJ6_bitCount_0f7a4 4 L S g = zPush mJ6_bitCount_0f7a4 7 (.int (nI 1431655765)) L S g := ez_ldc_w kcJ6_bitCount_0f7a4 dJ6_bitCount_0f7a4_4 il_13_265 rfl L S g
theorem eJ6_bitCount_0f7a4_7 (L : pmL) (S : List Value) (g : pmH) : pmV mJ6_bitCount_0f7a4 7 L S g = zAnd mJ6_bitCount_0f7a4 8 L S g := ez_iand kcJ6_bitCount_0f7a4 dJ6_bitCount_0f7a4_7 rfl L S g
theorem eJ6_bitCount_0f7a4_8 (L : pmL) (S : List Value) (g : pmH) : pmV mJ6_bitCount_0f7a4 8 L S g = zSub mJ6_bitCount_0f7a4 9 L S g := ez_isub kcJ6_bitCount_0f7a4 dJ6_bitCount_0f7a4_8 rfl L S g
theorem eJ6_bitCount_0f7a4_9 (L : pmL) (S : List Value) (g : pmH) : pmV mJ6_bitCount_0f7a4 9 L S g = zStI mJ6_bitCount_0f7a4 10 0 L S g := ez_istore_n kcJ6_bitCount_0f7a4 dJ6_bitCount_0f7a4_9 rfl rfl L S g
theorem eJ6_bitCount_0f7a4_10 (L : pmL) (S : List Value) (g : pmH) : pmV mJ6_bitCount_0f7a4 10 L S g = zLdI mJ6_bitCount_0f7a4 11 0 L S g := ez_iload_n kcJ6_bitCount_0f7a4 dJ6_bitCount_0f7a4_10 rfl rfl L S g
theorem eJ6_bitCount_0f7a4_11 (L : pmL) (S : List Value) (g : pmH) : pmV mJ6_bitCount_0f7a4 11 L S g = zPush mJ6_bitCount_0f7a4 14 (.int (nI 858993459)) L S g := ez_ldc_w kcJ6_bitCount_0f7a4 dJ6_bitCount_0f7a4_11 il_13_266 rfl L S g
theorem eJ6_bitCount_0f7a4_14 (L : pmL) (S : List Value) (g : pmH) : pmV mJ6_bitCount_0f7a4 14 L S g = zAnd mJ6_bitCount_0f7a4 15 L S g := ez_iand kcJ6_bitCount_0f7a4 dJ6_bitCount_0f7a4_14 rfl L S g
theorem eJ6_bitCount_0f7a4_15 (L : pmL) (S : List Value) (g : pmH) : pmV mJ6_bitCount_0f7a4 15 L S g = zLdI mJ6_bitCount_0f7a4 16 0 L S g := ez_iload_n kcJ6_bitCount_0f7a4 dJ6_bitCount_0f7a4_15 rfl rfl L S g
theorem eJ6_bitCount_0f7a4_16 (L : pmL) (S : List Value) (g : pmH) : pmV mJ6_bitCount_0f7a4 16 L S g = zPush mJ6_bitCount_0f7a4 17 (.int (nI 2)) L S g := ez_iconst kcJ6_bitCount_0f7a4 dJ6_bitCount_0f7a4_16 (by decide) rfl L S g
theorem eJ6_bitCount_0f7a4_17 (L : pmL) (S : List Value) (g : pmH) : pmV mJ6_bitCount_0f7a4 17 L S g = zUshr mJ6_bitCount_0f7a4 18 L S g := ez_iushr kcJ6_bitCount_0f7a4 dJ6_bitCount_0f7a4_17 rfl L S g
theorem eJ6_bitCount_0f7a4_18 (L : pmL) (S : List Value) (g : pmH) : pmV mJ6_bitCount_0f7a4 18 L S g = zPush mJ6_bitCount_0f7a4 21 (.int (nI 858993459)) L S g := ez_ldc_w kcJ6_bitCount_0f7a4 dJ6_bitCount_0f7a4_18 il_13_266 rfl L S g
theorem eJ6_bitCount_0f7a4_21 (L : pmL) (S : List Value) (g : pmH) : pmV mJ6_bitCount_0f7a4 21 L S g = zAnd mJ6_bitCount_0f7a4 22 L S g := ez_iand kcJ6_bitCount_0f7a4 dJ6_bitCount_0f7a4_21 rfl L S g
theorem eJ6_bitCount_0f7a4_22 (L : pmL) (S : List Value) (g : pmH) : pmV mJ6_bitCount_0f7a4 22 L S g = zAdd mJ6_bitCount_0f7a4 23 L S g := ez_iadd kcJ6_bitCount_0f7a4 dJ6_bitCount_0f7a4_22 rfl L S g
theorem eJ6_bitCount_0f7a4_23 (L : pmL) (S : List Value) (g : pmH) : pmV mJ6_bitCount_0f7a4 23 L S g = zStI mJ6_bitCount_0f7a4 24 0 L S g := ez_istore_n kcJ6_bitCount_0f7a4 dJ6_bitCount_0f7a4_23 rfl rfl L S g
theorem eJ6_bitCount_0f7a4_24 (L : pmL) (S : List Value) (g : pmH) : pmV mJ6_bitCount_0f7a4 24 L S g = zLdI mJ6_bitCount_0f7a4 25 0 L S g := ez_iload_n kcJ6_bitCount_0f7a4 dJ6_bitCount_0f7a4_24 rfl rfl L S g
theorem eJ6_bitCount_0f7a4_25 (L : pmL) (S : List Value) (g : pmH) : pmV mJ6_bitCount_0f7a4 25 L S g = zLdI mJ6_bitCount_0f7a4 26 0 L S g := ez_iload_n kcJ6_bitCount_0f7a4 dJ6_bitCount_0f7a4_25 rfl rfl L S g
theorem eJ6_bitCount_0f7a4_26 (L : pmL) (S : List Value) (g : pmH) : pmV mJ6_bitCount_0f7a4 26 L S g = zPush mJ6_bitCount_0f7a4 27 (.int (nI 4)) L S g := ez_iconst kcJ6_bitCount_0f7a4 dJ6_bitCount_0f7a4_26 (by decide) rfl L S g
theorem eJ6_bitCount_0f7a4_27 (L : pmL) (S : List Value) (g : pmH) : pmV mJ6_bitCount_0f7a4 27 L S g = zUshr mJ6_bitCount_0f7a4 28 L S g := ez_iushr kcJ6_bitCount_0f7a4 dJ6_bitCount_0f7a4_27 rfl L S g
theorem eJ6_bitCount_0f7a4_28 (L : pmL) (S : List Value) (g : pmH) : pmV mJ6_bitCount_0f7a4 28 L S g = zAdd mJ6_bitCount_0f7a4 29 L S g := ez_iadd kcJ6_bitCount_0f7a4 dJ6_bitCount_0f7a4_28 rfl L S g
theorem eJ6_bitCount_0f7a4_29 (L : pmL) (S : List Value) (g : pmH) : pmV mJ6_bitCount_0f7a4 29 L S g = zPush mJ6_bitCount_0f7a4 32 (.int (nI 252645135)) L S g := ez_ldc_w kcJ6_bitCount_0f7a4 dJ6_bitCount_0f7a4_29 il_13_267 rfl L S g
theorem eJ6_bitCount_0f7a4_32 (L : pmL) (S : List Value) (g : pmH) : pmV mJ6_bitCount_0f7a4 32 L S g = zAnd mJ6_bitCount_0f7a4 33 L S g := ez_iand kcJ6_bitCount_0f7a4 dJ6_bitCount_0f7a4_32 rfl L S g
theorem eJ6_bitCount_0f7a4_33 (L : pmL) (S : List Value) (g : pmH) : pmV mJ6_bitCount_0f7a4 33 L S g = zStI mJ6_bitCount_0f7a4 34 0 L S g := ez_istore_n kcJ6_bitCount_0f7a4 dJ6_bitCount_0f7a4_33 rfl rfl L S g
theorem eJ6_bitCount_0f7a4_34 (L : pmL) (S : List Value) (g : pmH) : pmV mJ6_bitCount_0f7a4 34 L S g = zLdI mJ6_bitCount_0f7a4 35 0 L S g := ez_iload_n kcJ6_bitCount_0f7a4 dJ6_bitCount_0f7a4_34 rfl rfl L S g
theorem eJ6_bitCount_0f7a4_35 (L : pmL) (S : List Value) (g : pmH) : pmV mJ6_bitCount_0f7a4 35 L S g = zLdI mJ6_bitCount_0f7a4 36 0 L S g := ez_iload_n kcJ6_bitCount_0f7a4 dJ6_bitCount_0f7a4_35 rfl rfl L S g
theorem eJ6_bitCount_0f7a4_36 (L : pmL) (S : List Value) (g : pmH) : pmV mJ6_bitCount_0f7a4 36 L S g = zPush mJ6_bitCount_0f7a4 38 (.int (nI 8)) L S g := ez_bipush kcJ6_bitCount_0f7a4 dJ6_bitCount_0f7a4_36 (by decide) rfl L S g
theorem eJ6_bitCount_0f7a4_38 (L : pmL) (S : List Value) (g : pmH) : pmV mJ6_bitCount_0f7a4 38 L S g = zUshr mJ6_bitCount_0f7a4 39 L S g := ez_iushr kcJ6_bitCount_0f7a4 dJ6_bitCount_0f7a4_38 rfl L S g
theorem eJ6_bitCount_0f7a4_39 (L : pmL) (S : List Value) (g : pmH) : pmV mJ6_bitCount_0f7a4 39 L S g = zAdd mJ6_bitCount_0f7a4 40 L S g := ez_iadd kcJ6_bitCount_0f7a4 dJ6_bitCount_0f7a4_39 rfl L S g
theorem eJ6_bitCount_0f7a4_40 (L : pmL) (S : List Value) (g : pmH) : pmV mJ6_bitCount_0f7a4 40 L S g = zStI mJ6_bitCount_0f7a4 41 0 L S g := ez_istore_n kcJ6_bitCount_0f7a4 dJ6_bitCount_0f7a4_40 rfl rfl L S g
theorem eJ6_bitCount_0f7a4_41 (L : pmL) (S : List Value) (g : pmH) : pmV mJ6_bitCount_0f7a4 41 L S g = zLdI mJ6_bitCount_0f7a4 42 0 L S g := ez_iload_n kcJ6_bitCount_0f7a4 dJ6_bitCount_0f7a4_41 rfl rfl L S g
theorem eJ6_bitCount_0f7a4_42 (L : pmL) (S : List Value) (g : pmH) : pmV mJ6_bitCount_0f7a4 42 L S g = zLdI mJ6_bitCount_0f7a4 43 0 L S g := ez_iload_n kcJ6_bitCount_0f7a4 dJ6_bitCount_0f7a4_42 rfl rfl L S g
theorem eJ6_bitCount_0f7a4_43 (L : pmL) (S : List Value) (g : pmH) : pmV mJ6_bitCount_0f7a4 43 L S g = zPush mJ6_bitCount_0f7a4 45 (.int (nI 16)) L S g := ez_bipush kcJ6_bitCount_0f7a4 dJ6_bitCount_0f7a4_43 (by decide) rfl L S g
theorem eJ6_bitCount_0f7a4_45 (L : pmL) (S : List Value) (g : pmH) : pmV mJ6_bitCount_0f7a4 45 L S g = zUshr mJ6_bitCount_0f7a4 46 L S g := ez_iushr kcJ6_bitCount_0f7a4 dJ6_bitCount_0f7a4_45 rfl L S g
theorem eJ6_bitCount_0f7a4_46 (L : pmL) (S : List Value) (g : pmH) : pmV mJ6_bitCount_0f7a4 46 L S g = zAdd mJ6_bitCount_0f7a4 47 L S g := ez_iadd kcJ6_bitCount_0f7a4 dJ6_bitCount_0f7a4_46 rfl L S g
theorem eJ6_bitCount_0f7a4_47 (L : pmL) (S : List Value) (g : pmH) : pmV mJ6_bitCount_0f7a4 47 L S g = zStI mJ6_bitCount_0f7a4 48 0 L S g := ez_istore_n kcJ6_bitCount_0f7a4 dJ6_bitCount_0f7a4_47 rfl rfl L S g
theorem eJ6_bitCount_0f7a4_48 (L : pmL) (S : List Value) (g : pmH) : pmV mJ6_bitCount_0f7a4 48 L S g = zLdI mJ6_bitCount_0f7a4 49 0 L S g := ez_iload_n kcJ6_bitCount_0f7a4 dJ6_bitCount_0f7a4_48 rfl rfl L S g
theorem eJ6_bitCount_0f7a4_49 (L : pmL) (S : List Value) (g : pmH) : pmV mJ6_bitCount_0f7a4 49 L S g = zPush mJ6_bitCount_0f7a4 51 (.int (nI 63)) L S g := ez_bipush kcJ6_bitCount_0f7a4 dJ6_bitCount_0f7a4_49 (by decide) rfl L S g
theorem eJ6_bitCount_0f7a4_51 (L : pmL) (S : List Value) (g : pmH) : pmV mJ6_bitCount_0f7a4 51 L S g = zAnd mJ6_bitCount_0f7a4 52 L S g := ez_iand kcJ6_bitCount_0f7a4 dJ6_bitCount_0f7a4_51 rfl L S g
theorem eJ6_bitCount_0f7a4_52 (L : pmL) (S : List Value) (g : pmH) : pmV mJ6_bitCount_0f7a4 52 L S g = zIret mJ6_bitCount_0f7a4 S g := ez_ireturn kcJ6_bitCount_0f7a4 dJ6_bitCount_0f7a4_52 L S g
theorem eJ9_floorMod_7cf53_0 (L : pmL) (S : List Value) (g : pmH) : pmV mJ9_floorMod_7cf53 0 L S g = zLdI mJ9_floorMod_7cf53 1 0 L S g := ez_iload_n kcJ9_floorMod_7cf53 dJ9_floorMod_7cf53_0 rfl rfl L S g
theorem eJ9_floorMod_7cf53_1 (L : pmL) (S : List Value) (g : pmH) : pmV mJ9_floorMod_7cf53 1 L S g = zLdI mJ9_floorMod_7cf53 2 1 L S g := ez_iload_n kcJ9_floorMod_7cf53 dJ9_floorMod_7cf53_1 rfl rfl L S g
theorem eJ9_floorMod_7cf53_2 (L : pmL) (S : List Value) (g : pmH) : pmV mJ9_floorMod_7cf53 2 L S g = zRem mJ9_floorMod_7cf53 3 L S g := ez_irem kcJ9_floorMod_7cf53 dJ9_floorMod_7cf53_2 rfl L S g
theorem eJ9_floorMod_7cf53_3 (L : pmL) (S : List Value) (g : pmH) : pmV mJ9_floorMod_7cf53 3 L S g = zStI mJ9_floorMod_7cf53 4 2 L S g := ez_istore_n kcJ9_floorMod_7cf53 dJ9_floorMod_7cf53_3 rfl rfl L S g
theorem eJ9_floorMod_7cf53_4 (L : pmL) (S : List Value) (g : pmH) : pmV mJ9_floorMod_7cf53 4 L S g = zLdI mJ9_floorMod_7cf53 5 0 L S g := ez_iload_n kcJ9_floorMod_7cf53 dJ9_floorMod_7cf53_4 rfl rfl L S g
theorem eJ9_floorMod_7cf53_5 (L : pmL) (S : List Value) (g : pmH) : pmV mJ9_floorMod_7cf53 5 L S g = zLdI mJ9_floorMod_7cf53 6 1 L S g := ez_iload_n kcJ9_floorMod_7cf53 dJ9_floorMod_7cf53_5 rfl rfl L S g
theorem eJ9_floorMod_7cf53_6 (L : pmL) (S : List Value) (g : pmH) : pmV mJ9_floorMod_7cf53 6 L S g = zXor mJ9_floorMod_7cf53 7 L S g := ez_ixor kcJ9_floorMod_7cf53 dJ9_floorMod_7cf53_6 rfl L S g
theorem eJ9_floorMod_7cf53_7 (L : pmL) (S : List Value) (g : pmH) : pmV mJ9_floorMod_7cf53 7 L S g = zCge mJ9_floorMod_7cf53 10 18 L S g := ez_if_ge kcJ9_floorMod_7cf53 dJ9_floorMod_7cf53_7 (by decide) rfl L S g
theorem eJ9_floorMod_7cf53_10 (L : pmL) (S : List Value) (g : pmH) : pmV mJ9_floorMod_7cf53 10 L S g = zLdI mJ9_floorMod_7cf53 11 2 L S g := ez_iload_n kcJ9_floorMod_7cf53 dJ9_floorMod_7cf53_10 rfl rfl L S g
theorem eJ9_floorMod_7cf53_11 (L : pmL) (S : List Value) (g : pmH) : pmV mJ9_floorMod_7cf53 11 L S g = zCeq mJ9_floorMod_7cf53 14 18 L S g := ez_if_eq kcJ9_floorMod_7cf53 dJ9_floorMod_7cf53_11 (by decide) rfl L S g
theorem eJ9_floorMod_7cf53_14 (L : pmL) (S : List Value) (g : pmH) : pmV mJ9_floorMod_7cf53 14 L S g = zLdI mJ9_floorMod_7cf53 15 2 L S g := ez_iload_n kcJ9_floorMod_7cf53 dJ9_floorMod_7cf53_14 rfl rfl L S g
theorem eJ9_floorMod_7cf53_15 (L : pmL) (S : List Value) (g : pmH) : pmV mJ9_floorMod_7cf53 15 L S g = zLdI mJ9_floorMod_7cf53 16 1 L S g := ez_iload_n kcJ9_floorMod_7cf53 dJ9_floorMod_7cf53_15 rfl rfl L S g
theorem eJ9_floorMod_7cf53_16 (L : pmL) (S : List Value) (g : pmH) : pmV mJ9_floorMod_7cf53 16 L S g = zAdd mJ9_floorMod_7cf53 17 L S g := ez_iadd kcJ9_floorMod_7cf53 dJ9_floorMod_7cf53_16 rfl L S g
theorem eJ9_floorMod_7cf53_17 (L : pmL) (S : List Value) (g : pmH) : pmV mJ9_floorMod_7cf53 17 L S g = zIret mJ9_floorMod_7cf53 S g := ez_ireturn kcJ9_floorMod_7cf53 dJ9_floorMod_7cf53_17 L S g
theorem eJ9_floorMod_7cf53_18 (L : pmL) (S : List Value) (g : pmH) : pmV mJ9_floorMod_7cf53 18 L S g = zLdI mJ9_floorMod_7cf53 19 2 L S g := ez_iload_n kcJ9_floorMod_7cf53 dJ9_floorMod_7cf53_18 rfl rfl L S g
theorem eJ9_floorMod_7cf53_19 (L : pmL) (S : List Value) (g : pmH) : pmV mJ9_floorMod_7cf53 19 L S g = zIret mJ9_floorMod_7cf53 S g := ez_ireturn kcJ9_floorMod_7cf53 dJ9_floorMod_7cf53_19 L S g
theorem eJ9_abs_0f7a4_0 (L : pmL) (S : List Value) (g : pmH) : pmV mJ9_abs_0f7a4 0 L S g = zLdI mJ9_abs_0f7a4 1 0 L S g := ez_iload_n kcJ9_abs_0f7a4 dJ9_abs_0f7a4_0 rfl rfl L S g
theorem eJ9_abs_0f7a4_1 (L : pmL) (S : List Value) (g : pmH) : pmV mJ9_abs_0f7a4 1 L S g = zCge mJ9_abs_0f7a4 4 9 L S g := ez_if_ge kcJ9_abs_0f7a4 dJ9_abs_0f7a4_1 (by decide) rfl L S g
theorem eJ9_abs_0f7a4_4 (L : pmL) (S : List Value) (g : pmH) : pmV mJ9_abs_0f7a4 4 L S g = zLdI mJ9_abs_0f7a4 5 0 L S g := ez_iload_n kcJ9_abs_0f7a4 dJ9_abs_0f7a4_4 rfl rfl L S g
theorem eJ9_abs_0f7a4_5 (L : pmL) (S : List Value) (g : pmH) : pmV mJ9_abs_0f7a4 5 L S g = zNeg mJ9_abs_0f7a4 6 L S g := ez_ineg kcJ9_abs_0f7a4 dJ9_abs_0f7a4_5 rfl L S g
theorem eJ9_abs_0f7a4_6 (L : pmL) (S : List Value) (g : pmH) : pmV mJ9_abs_0f7a4 6 L S g = zNx mJ9_abs_0f7a4 10 L S g := ez_goto kcJ9_abs_0f7a4 dJ9_abs_0f7a4_6 (by decide) L S g
theorem eJ9_abs_0f7a4_9 (L : pmL) (S : List Value) (g : pmH) : pmV mJ9_abs_0f7a4 9 L S g = zLdI mJ9_abs_0f7a4 10 0 L S g := ez_iload_n kcJ9_abs_0f7a4 dJ9_abs_0f7a4_9 rfl rfl L S g
theorem eJ9_abs_0f7a4_10 (L : pmL) (S : List Value) (g : pmH) : pmV mJ9_abs_0f7a4 10 L S g = zIret mJ9_abs_0f7a4 S g := ez_ireturn kcJ9_abs_0f7a4 dJ9_abs_0f7a4_10 L S g
theorem eL_law_0 (L : pmL) (S : List Value) (g : pmH) : pmV mL_law 0 L S g = zNew mL_law 3 11 L S g := ez_new kcL_law dL_law_0 cl_15_7 (by decide) rfl L S g
theorem eL_law_3 (L : pmL) (S : List Value) (g : pmH) : pmV mL_law 3 L S g = zDup mL_law 4 L S g := ez_dup kcL_law dL_law_3 rfl L S g
theorem eL_law_4 (L : pmL) (S : List Value) (g : pmH) : pmV mL_law 4 L S g = yV mL_law 7 0 mX11_init 11 2 L S g := (ez_special kcL_law dL_law_4 nl_15_9 ml_15_9 (by decide) rfl L S g).trans (zCallV_y rfl rfl (by decide) L S g)
theorem eL_law_7 (L : pmL) (S : List Value) (g : pmH) : pmV mL_law 7 L S g = zStA mL_law 8 1 L S g := ez_astore_n kcL_law dL_law_7 rfl rfl L S g
theorem eL_law_8 (L : pmL) (S : List Value) (g : pmH) : pmV mL_law 8 L S g = zNew mL_law 11 12 L S g := ez_new kcL_law dL_law_8 cl_15_10 (by decide) rfl L S g
theorem eL_law_11 (L : pmL) (S : List Value) (g : pmH) : pmV mL_law 11 L S g = zDup mL_law 12 L S g := ez_dup kcL_law dL_law_11 rfl L S g
theorem eL_law_12 (L : pmL) (S : List Value) (g : pmH) : pmV mL_law 12 L S g = yV mL_law 15 0 mX12_init 12 1 L S g := (ez_special kcL_law dL_law_12 nl_15_12 ml_15_12 (by decide) rfl L S g).trans (zCallV_y rfl rfl (by decide) L S g)
theorem eL_law_15 (L : pmL) (S : List Value) (g : pmH) : pmV mL_law 15 L S g = zStA mL_law 16 2 L S g := ez_astore_n kcL_law dL_law_15 rfl rfl L S g
theorem eL_law_16 (L : pmL) (S : List Value) (g : pmH) : pmV mL_law 16 L S g = zPush mL_law 17 (.int (nI 0)) L S g := ez_iconst kcL_law dL_law_16 (by decide) rfl L S g
theorem eL_law_17 (L : pmL) (S : List Value) (g : pmH) : pmV mL_law 17 L S g = zStI mL_law 18 3 L S g := ez_istore_n kcL_law dL_law_17 rfl rfl L S g
theorem eL_law_18 (L : pmL) (S : List Value) (g : pmH) : pmV mL_law 18 L S g = zLdI mL_law 19 3 L S g := ez_iload_n kcL_law dL_law_18 rfl rfl L S g
theorem eL_law_19 (L : pmL) (S : List Value) (g : pmH) : pmV mL_law 19 L S g = zLdA mL_law 20 0 L S g := ez_aload_n kcL_law dL_law_19 rfl rfl L S g
theorem eL_law_20 (L : pmL) (S : List Value) (g : pmH) : pmV mL_law 20 L S g = zLen mL_law 21 L S g := ez_arraylength kcL_law dL_law_20 rfl L S g
theorem eL_law_21 (L : pmL) (S : List Value) (g : pmH) : pmV mL_law 21 L S g = zPush mL_law 23 (.int (nI 6)) L S g := ez_bipush kcL_law dL_law_21 (by decide) rfl L S g
theorem eL_law_23 (L : pmL) (S : List Value) (g : pmH) : pmV mL_law 23 L S g = zSub mL_law 24 L S g := ez_isub kcL_law dL_law_23 rfl L S g
theorem eL_law_24 (L : pmL) (S : List Value) (g : pmH) : pmV mL_law 24 L S g = zBgt mL_law 27 956 L S g := ez_icmp_gt kcL_law dL_law_24 (by decide) rfl L S g
theorem eL_law_27 (L : pmL) (S : List Value) (g : pmH) : pmV mL_law 27 L S g = zLdA mL_law 28 0 L S g := ez_aload_n kcL_law dL_law_27 rfl rfl L S g
theorem eL_law_28 (L : pmL) (S : List Value) (g : pmH) : pmV mL_law 28 L S g = zLdI mL_law 29 3 L S g := ez_iload_n kcL_law dL_law_28 rfl rfl L S g
theorem eL_law_29 (L : pmL) (S : List Value) (g : pmH) : pmV mL_law 29 L S g = zIald mL_law 30 L S g := ez_iaload kcL_law dL_law_29 rfl L S g
theorem eL_law_30 (L : pmL) (S : List Value) (g : pmH) : pmV mL_law 30 L S g = zPush mL_law 32 (.int (nI 31)) L S g := ez_bipush kcL_law dL_law_30 (by decide) rfl L S g
theorem eL_law_32 (L : pmL) (S : List Value) (g : pmH) : pmV mL_law 32 L S g = zAnd mL_law 33 L S g := ez_iand kcL_law dL_law_32 rfl L S g
theorem eL_law_33 (L : pmL) (S : List Value) (g : pmH) : pmV mL_law 33 L S g = zTab mL_law 33 917 0 26 #[123, 146, 159, 172, 185, 218, 251, 274, 287, 310, 343, 356, 399, 422, 445, 468, 531, 564, 577, 600, 649, 692, 771, 825, 848, 871, 894] L S g := ez_tab kcL_law dL_law_33 L S g
theorem eL_law_156 (L : pmL) (S : List Value) (g : pmH) : pmV mL_law 156 L S g = zLdA mL_law 157 1 L S g := ez_aload_n kcL_law dL_law_156 rfl rfl L S g
theorem eL_law_157 (L : pmL) (S : List Value) (g : pmH) : pmV mL_law 157 L S g = zLdA mL_law 158 0 L S g := ez_aload_n kcL_law dL_law_157 rfl rfl L S g
theorem eL_law_158 (L : pmL) (S : List Value) (g : pmH) : pmV mL_law 158 L S g = zLdI mL_law 159 3 L S g := ez_iload_n kcL_law dL_law_158 rfl rfl L S g
theorem eL_law_159 (L : pmL) (S : List Value) (g : pmH) : pmV mL_law 159 L S g = zPush mL_law 160 (.int (nI 1)) L S g := ez_iconst kcL_law dL_law_159 (by decide) rfl L S g
theorem eL_law_160 (L : pmL) (S : List Value) (g : pmH) : pmV mL_law 160 L S g = zAdd mL_law 161 L S g := ez_iadd kcL_law dL_law_160 rfl L S g
theorem eL_law_161 (L : pmL) (S : List Value) (g : pmH) : pmV mL_law 161 L S g = zIald mL_law 162 L S g := ez_iaload kcL_law dL_law_161 rfl L S g
theorem eL_law_162 (L : pmL) (S : List Value) (g : pmH) : pmV mL_law 162 L S g = yV mL_law 165 1 mX11_write 11 2 L S g := (ez_virtual kcL_law dL_law_162 ml_15_13 rfl L S g).trans (zCallV_y rfl rfl (by decide) L S g)
theorem eL_law_165 (L : pmL) (S : List Value) (g : pmH) : pmV mL_law 165 L S g = zLdA mL_law 166 2 L S g := ez_aload_n kcL_law dL_law_165 rfl rfl L S g
theorem eL_law_166 (L : pmL) (S : List Value) (g : pmH) : pmV mL_law 166 L S g = zLdA mL_law 167 0 L S g := ez_aload_n kcL_law dL_law_166 rfl rfl L S g
theorem eL_law_167 (L : pmL) (S : List Value) (g : pmH) : pmV mL_law 167 L S g = zLdI mL_law 168 3 L S g := ez_iload_n kcL_law dL_law_167 rfl rfl L S g
theorem eL_law_168 (L : pmL) (S : List Value) (g : pmH) : pmV mL_law 168 L S g = zPush mL_law 169 (.int (nI 1)) L S g := ez_iconst kcL_law dL_law_168 (by decide) rfl L S g
theorem eL_law_169 (L : pmL) (S : List Value) (g : pmH) : pmV mL_law 169 L S g = zAdd mL_law 170 L S g := ez_iadd kcL_law dL_law_169 rfl L S g
theorem eL_law_170 (L : pmL) (S : List Value) (g : pmH) : pmV mL_law 170 L S g = zIald mL_law 171 L S g := ez_iaload kcL_law dL_law_170 rfl L S g
theorem eL_law_171 (L : pmL) (S : List Value) (g : pmH) : pmV mL_law 171 L S g = yV mL_law 174 1 mX12_write 12 2 L S g := (ez_virtual kcL_law dL_law_171 ml_15_17 rfl L S g).trans (zCallV_y rfl rfl (by decide) L S g)
theorem eL_law_174 (L : pmL) (S : List Value) (g : pmH) : pmV mL_law 174 L S g = zBeq mL_law 177 950 L S g := ez_icmp_eq kcL_law dL_law_174 (by decide) rfl L S g
theorem eL_law_177 (L : pmL) (S : List Value) (g : pmH) : pmV mL_law 177 L S g = zPush mL_law 178 (.int (nI 0)) L S g := ez_iconst kcL_law dL_law_177 (by decide) rfl L S g
theorem eL_law_178 (L : pmL) (S : List Value) (g : pmH) : pmV mL_law 178 L S g = zIret mL_law S g := ez_ireturn kcL_law dL_law_178 L S g
theorem eL_law_179 (L : pmL) (S : List Value) (g : pmH) : pmV mL_law 179 L S g = zLdA mL_law 180 1 L S g := ez_aload_n kcL_law dL_law_179 rfl rfl L S g
theorem eL_law_180 (L : pmL) (S : List Value) (g : pmH) : pmV mL_law 180 L S g = yV mL_law 183 0 mX11_wipe 11 2 L S g := (ez_virtual kcL_law dL_law_180 ml_15_18 rfl L S g).trans (zCallV_y rfl rfl (by decide) L S g)
theorem eL_law_183 (L : pmL) (S : List Value) (g : pmH) : pmV mL_law 183 L S g = zLdA mL_law 184 2 L S g := ez_aload_n kcL_law dL_law_183 rfl rfl L S g
theorem eL_law_184 (L : pmL) (S : List Value) (g : pmH) : pmV mL_law 184 L S g = yV mL_law 187 0 mX12_wipe 12 2 L S g := (ez_virtual kcL_law dL_law_184 ml_15_22 rfl L S g).trans (zCallV_y rfl rfl (by decide) L S g)
theorem eL_law_187 (L : pmL) (S : List Value) (g : pmH) : pmV mL_law 187 L S g = zBeq mL_law 190 950 L S g := ez_icmp_eq kcL_law dL_law_187 (by decide) rfl L S g
theorem eL_law_190 (L : pmL) (S : List Value) (g : pmH) : pmV mL_law 190 L S g = zPush mL_law 191 (.int (nI 0)) L S g := ez_iconst kcL_law dL_law_190 (by decide) rfl L S g
theorem eL_law_191 (L : pmL) (S : List Value) (g : pmH) : pmV mL_law 191 L S g = zIret mL_law S g := ez_ireturn kcL_law dL_law_191 L S g
theorem eL_law_192 (L : pmL) (S : List Value) (g : pmH) : pmV mL_law 192 L S g = zLdA mL_law 193 1 L S g := ez_aload_n kcL_law dL_law_192 rfl rfl L S g
theorem eL_law_193 (L : pmL) (S : List Value) (g : pmH) : pmV mL_law 193 L S g = yV mL_law 196 0 mX11_fault 11 1 L S g := (ez_virtual kcL_law dL_law_193 ml_15_23 rfl L S g).trans (zCallV_y rfl rfl (by decide) L S g)
theorem eL_law_196 (L : pmL) (S : List Value) (g : pmH) : pmV mL_law 196 L S g = zLdA mL_law 197 2 L S g := ez_aload_n kcL_law dL_law_196 rfl rfl L S g
theorem eL_law_197 (L : pmL) (S : List Value) (g : pmH) : pmV mL_law 197 L S g = yV mL_law 200 0 mX12_fault 12 1 L S g := (ez_virtual kcL_law dL_law_197 ml_15_26 rfl L S g).trans (zCallV_y rfl rfl (by decide) L S g)
theorem eL_law_200 (L : pmL) (S : List Value) (g : pmH) : pmV mL_law 200 L S g = zBeq mL_law 203 950 L S g := ez_icmp_eq kcL_law dL_law_200 (by decide) rfl L S g
theorem eL_law_203 (L : pmL) (S : List Value) (g : pmH) : pmV mL_law 203 L S g = zPush mL_law 204 (.int (nI 0)) L S g := ez_iconst kcL_law dL_law_203 (by decide) rfl L S g
theorem eL_law_204 (L : pmL) (S : List Value) (g : pmH) : pmV mL_law 204 L S g = zIret mL_law S g := ez_ireturn kcL_law dL_law_204 L S g
theorem eL_law_205 (L : pmL) (S : List Value) (g : pmH) : pmV mL_law 205 L S g = zLdA mL_law 206 1 L S g := ez_aload_n kcL_law dL_law_205 rfl rfl L S g
theorem eL_law_206 (L : pmL) (S : List Value) (g : pmH) : pmV mL_law 206 L S g = yV mL_law 209 0 mX11_city 11 2 L S g := (ez_virtual kcL_law dL_law_206 ml_15_27 rfl L S g).trans (zCallV_y rfl rfl (by decide) L S g)
theorem eL_law_209 (L : pmL) (S : List Value) (g : pmH) : pmV mL_law 209 L S g = zLdA mL_law 210 2 L S g := ez_aload_n kcL_law dL_law_209 rfl rfl L S g
theorem eL_law_210 (L : pmL) (S : List Value) (g : pmH) : pmV mL_law 210 L S g = yV mL_law 213 0 mX12_city 12 2 L S g := (ez_virtual kcL_law dL_law_210 ml_15_30 rfl L S g).trans (zCallV_y rfl rfl (by decide) L S g)
theorem eL_law_213 (L : pmL) (S : List Value) (g : pmH) : pmV mL_law 213 L S g = zBeq mL_law 216 950 L S g := ez_icmp_eq kcL_law dL_law_213 (by decide) rfl L S g
theorem eL_law_216 (L : pmL) (S : List Value) (g : pmH) : pmV mL_law 216 L S g = zPush mL_law 217 (.int (nI 0)) L S g := ez_iconst kcL_law dL_law_216 (by decide) rfl L S g
theorem eL_law_217 (L : pmL) (S : List Value) (g : pmH) : pmV mL_law 217 L S g = zIret mL_law S g := ez_ireturn kcL_law dL_law_217 L S g
theorem eL_law_218 (L : pmL) (S : List Value) (g : pmH) : pmV mL_law 218 L S g = zLdA mL_law 219 1 L S g := ez_aload_n kcL_law dL_law_218 rfl rfl L S g
theorem eL_law_219 (L : pmL) (S : List Value) (g : pmH) : pmV mL_law 219 L S g = zLdA mL_law 220 0 L S g := ez_aload_n kcL_law dL_law_219 rfl rfl L S g
theorem eL_law_220 (L : pmL) (S : List Value) (g : pmH) : pmV mL_law 220 L S g = zLdI mL_law 221 3 L S g := ez_iload_n kcL_law dL_law_220 rfl rfl L S g
theorem eL_law_221 (L : pmL) (S : List Value) (g : pmH) : pmV mL_law 221 L S g = zPush mL_law 222 (.int (nI 1)) L S g := ez_iconst kcL_law dL_law_221 (by decide) rfl L S g
theorem eL_law_222 (L : pmL) (S : List Value) (g : pmH) : pmV mL_law 222 L S g = zAdd mL_law 223 L S g := ez_iadd kcL_law dL_law_222 rfl L S g
theorem eL_law_223 (L : pmL) (S : List Value) (g : pmH) : pmV mL_law 223 L S g = zIald mL_law 224 L S g := ez_iaload kcL_law dL_law_223 rfl L S g
theorem eL_law_224 (L : pmL) (S : List Value) (g : pmH) : pmV mL_law 224 L S g = zLdA mL_law 225 0 L S g := ez_aload_n kcL_law dL_law_224 rfl rfl L S g
theorem eL_law_225 (L : pmL) (S : List Value) (g : pmH) : pmV mL_law 225 L S g = zLdI mL_law 226 3 L S g := ez_iload_n kcL_law dL_law_225 rfl rfl L S g
theorem eL_law_226 (L : pmL) (S : List Value) (g : pmH) : pmV mL_law 226 L S g = zPush mL_law 227 (.int (nI 2)) L S g := ez_iconst kcL_law dL_law_226 (by decide) rfl L S g
theorem eL_law_227 (L : pmL) (S : List Value) (g : pmH) : pmV mL_law 227 L S g = zAdd mL_law 228 L S g := ez_iadd kcL_law dL_law_227 rfl L S g
theorem eL_law_228 (L : pmL) (S : List Value) (g : pmH) : pmV mL_law 228 L S g = zIald mL_law 229 L S g := ez_iaload kcL_law dL_law_228 rfl L S g
theorem eL_law_229 (L : pmL) (S : List Value) (g : pmH) : pmV mL_law 229 L S g = yV mL_law 232 2 mX11_balloon 11 4 L S g := (ez_virtual kcL_law dL_law_229 ml_15_31 rfl L S g).trans (zCallV_y rfl rfl (by decide) L S g)
theorem eL_law_232 (L : pmL) (S : List Value) (g : pmH) : pmV mL_law 232 L S g = zLdA mL_law 233 2 L S g := ez_aload_n kcL_law dL_law_232 rfl rfl L S g
theorem eL_law_233 (L : pmL) (S : List Value) (g : pmH) : pmV mL_law 233 L S g = zLdA mL_law 234 0 L S g := ez_aload_n kcL_law dL_law_233 rfl rfl L S g
theorem eL_law_234 (L : pmL) (S : List Value) (g : pmH) : pmV mL_law 234 L S g = zLdI mL_law 235 3 L S g := ez_iload_n kcL_law dL_law_234 rfl rfl L S g
theorem eL_law_235 (L : pmL) (S : List Value) (g : pmH) : pmV mL_law 235 L S g = zPush mL_law 236 (.int (nI 1)) L S g := ez_iconst kcL_law dL_law_235 (by decide) rfl L S g
theorem eL_law_236 (L : pmL) (S : List Value) (g : pmH) : pmV mL_law 236 L S g = zAdd mL_law 237 L S g := ez_iadd kcL_law dL_law_236 rfl L S g
theorem eL_law_237 (L : pmL) (S : List Value) (g : pmH) : pmV mL_law 237 L S g = zIald mL_law 238 L S g := ez_iaload kcL_law dL_law_237 rfl L S g
theorem eL_law_238 (L : pmL) (S : List Value) (g : pmH) : pmV mL_law 238 L S g = zLdA mL_law 239 0 L S g := ez_aload_n kcL_law dL_law_238 rfl rfl L S g
theorem eL_law_239 (L : pmL) (S : List Value) (g : pmH) : pmV mL_law 239 L S g = zLdI mL_law 240 3 L S g := ez_iload_n kcL_law dL_law_239 rfl rfl L S g
theorem eL_law_240 (L : pmL) (S : List Value) (g : pmH) : pmV mL_law 240 L S g = zPush mL_law 241 (.int (nI 2)) L S g := ez_iconst kcL_law dL_law_240 (by decide) rfl L S g
theorem eL_law_241 (L : pmL) (S : List Value) (g : pmH) : pmV mL_law 241 L S g = zAdd mL_law 242 L S g := ez_iadd kcL_law dL_law_241 rfl L S g
theorem eL_law_242 (L : pmL) (S : List Value) (g : pmH) : pmV mL_law 242 L S g = zIald mL_law 243 L S g := ez_iaload kcL_law dL_law_242 rfl L S g
theorem eL_law_243 (L : pmL) (S : List Value) (g : pmH) : pmV mL_law 243 L S g = yV mL_law 246 2 mX12_balloon 12 3 L S g := (ez_virtual kcL_law dL_law_243 ml_15_35 rfl L S g).trans (zCallV_y rfl rfl (by decide) L S g)
theorem eL_law_246 (L : pmL) (S : List Value) (g : pmH) : pmV mL_law 246 L S g = zBeq mL_law 249 950 L S g := ez_icmp_eq kcL_law dL_law_246 (by decide) rfl L S g
theorem eL_law_249 (L : pmL) (S : List Value) (g : pmH) : pmV mL_law 249 L S g = zPush mL_law 250 (.int (nI 0)) L S g := ez_iconst kcL_law dL_law_249 (by decide) rfl L S g
theorem eL_law_250 (L : pmL) (S : List Value) (g : pmH) : pmV mL_law 250 L S g = zIret mL_law S g := ez_ireturn kcL_law dL_law_250 L S g
theorem eL_law_251 (L : pmL) (S : List Value) (g : pmH) : pmV mL_law 251 L S g = zLdA mL_law 252 1 L S g := ez_aload_n kcL_law dL_law_251 rfl rfl L S g
theorem eL_law_252 (L : pmL) (S : List Value) (g : pmH) : pmV mL_law 252 L S g = zLdA mL_law 253 0 L S g := ez_aload_n kcL_law dL_law_252 rfl rfl L S g
theorem eL_law_253 (L : pmL) (S : List Value) (g : pmH) : pmV mL_law 253 L S g = zLdI mL_law 254 3 L S g := ez_iload_n kcL_law dL_law_253 rfl rfl L S g
theorem eL_law_254 (L : pmL) (S : List Value) (g : pmH) : pmV mL_law 254 L S g = zPush mL_law 255 (.int (nI 1)) L S g := ez_iconst kcL_law dL_law_254 (by decide) rfl L S g
theorem eL_law_255 (L : pmL) (S : List Value) (g : pmH) : pmV mL_law 255 L S g = zAdd mL_law 256 L S g := ez_iadd kcL_law dL_law_255 rfl L S g
theorem eL_law_256 (L : pmL) (S : List Value) (g : pmH) : pmV mL_law 256 L S g = zIald mL_law 257 L S g := ez_iaload kcL_law dL_law_256 rfl L S g
theorem eL_law_257 (L : pmL) (S : List Value) (g : pmH) : pmV mL_law 257 L S g = zLdA mL_law 258 0 L S g := ez_aload_n kcL_law dL_law_257 rfl rfl L S g
theorem eL_law_258 (L : pmL) (S : List Value) (g : pmH) : pmV mL_law 258 L S g = zLdI mL_law 259 3 L S g := ez_iload_n kcL_law dL_law_258 rfl rfl L S g
theorem eL_law_259 (L : pmL) (S : List Value) (g : pmH) : pmV mL_law 259 L S g = zPush mL_law 260 (.int (nI 2)) L S g := ez_iconst kcL_law dL_law_259 (by decide) rfl L S g
theorem eL_law_260 (L : pmL) (S : List Value) (g : pmH) : pmV mL_law 260 L S g = zAdd mL_law 261 L S g := ez_iadd kcL_law dL_law_260 rfl L S g
theorem eL_law_261 (L : pmL) (S : List Value) (g : pmH) : pmV mL_law 261 L S g = zIald mL_law 262 L S g := ez_iaload kcL_law dL_law_261 rfl L S g
theorem eL_law_262 (L : pmL) (S : List Value) (g : pmH) : pmV mL_law 262 L S g = yV mL_law 265 2 mX11_hedge 11 3 L S g := (ez_virtual kcL_law dL_law_262 ml_15_36 rfl L S g).trans (zCallV_y rfl rfl (by decide) L S g)
theorem eL_law_265 (L : pmL) (S : List Value) (g : pmH) : pmV mL_law 265 L S g = zLdA mL_law 266 2 L S g := ez_aload_n kcL_law dL_law_265 rfl rfl L S g
theorem eL_law_266 (L : pmL) (S : List Value) (g : pmH) : pmV mL_law 266 L S g = zLdA mL_law 267 0 L S g := ez_aload_n kcL_law dL_law_266 rfl rfl L S g
theorem eL_law_267 (L : pmL) (S : List Value) (g : pmH) : pmV mL_law 267 L S g = zLdI mL_law 268 3 L S g := ez_iload_n kcL_law dL_law_267 rfl rfl L S g
theorem eL_law_268 (L : pmL) (S : List Value) (g : pmH) : pmV mL_law 268 L S g = zPush mL_law 269 (.int (nI 1)) L S g := ez_iconst kcL_law dL_law_268 (by decide) rfl L S g
theorem eL_law_269 (L : pmL) (S : List Value) (g : pmH) : pmV mL_law 269 L S g = zAdd mL_law 270 L S g := ez_iadd kcL_law dL_law_269 rfl L S g
theorem eL_law_270 (L : pmL) (S : List Value) (g : pmH) : pmV mL_law 270 L S g = zIald mL_law 271 L S g := ez_iaload kcL_law dL_law_270 rfl L S g
theorem eL_law_271 (L : pmL) (S : List Value) (g : pmH) : pmV mL_law 271 L S g = zLdA mL_law 272 0 L S g := ez_aload_n kcL_law dL_law_271 rfl rfl L S g
theorem eL_law_272 (L : pmL) (S : List Value) (g : pmH) : pmV mL_law 272 L S g = zLdI mL_law 273 3 L S g := ez_iload_n kcL_law dL_law_272 rfl rfl L S g
theorem eL_law_273 (L : pmL) (S : List Value) (g : pmH) : pmV mL_law 273 L S g = zPush mL_law 274 (.int (nI 2)) L S g := ez_iconst kcL_law dL_law_273 (by decide) rfl L S g
theorem eL_law_274 (L : pmL) (S : List Value) (g : pmH) : pmV mL_law 274 L S g = zAdd mL_law 275 L S g := ez_iadd kcL_law dL_law_274 rfl L S g
theorem eL_law_275 (L : pmL) (S : List Value) (g : pmH) : pmV mL_law 275 L S g = zIald mL_law 276 L S g := ez_iaload kcL_law dL_law_275 rfl L S g
theorem eL_law_276 (L : pmL) (S : List Value) (g : pmH) : pmV mL_law 276 L S g = yV mL_law 279 2 mX12_hedge 12 3 L S g := (ez_virtual kcL_law dL_law_276 ml_15_39 rfl L S g).trans (zCallV_y rfl rfl (by decide) L S g)
theorem eL_law_279 (L : pmL) (S : List Value) (g : pmH) : pmV mL_law 279 L S g = zBeq mL_law 282 950 L S g := ez_icmp_eq kcL_law dL_law_279 (by decide) rfl L S g
theorem eL_law_282 (L : pmL) (S : List Value) (g : pmH) : pmV mL_law 282 L S g = zPush mL_law 283 (.int (nI 0)) L S g := ez_iconst kcL_law dL_law_282 (by decide) rfl L S g
theorem eL_law_283 (L : pmL) (S : List Value) (g : pmH) : pmV mL_law 283 L S g = zIret mL_law S g := ez_ireturn kcL_law dL_law_283 L S g
theorem eL_law_284 (L : pmL) (S : List Value) (g : pmH) : pmV mL_law 284 L S g = zLdA mL_law 285 1 L S g := ez_aload_n kcL_law dL_law_284 rfl rfl L S g
theorem eL_law_285 (L : pmL) (S : List Value) (g : pmH) : pmV mL_law 285 L S g = zLdA mL_law 286 0 L S g := ez_aload_n kcL_law dL_law_285 rfl rfl L S g
theorem eL_law_286 (L : pmL) (S : List Value) (g : pmH) : pmV mL_law 286 L S g = zLdI mL_law 287 3 L S g := ez_iload_n kcL_law dL_law_286 rfl rfl L S g
theorem eL_law_287 (L : pmL) (S : List Value) (g : pmH) : pmV mL_law 287 L S g = zPush mL_law 288 (.int (nI 1)) L S g := ez_iconst kcL_law dL_law_287 (by decide) rfl L S g
theorem eL_law_288 (L : pmL) (S : List Value) (g : pmH) : pmV mL_law 288 L S g = zAdd mL_law 289 L S g := ez_iadd kcL_law dL_law_288 rfl L S g
theorem eL_law_289 (L : pmL) (S : List Value) (g : pmH) : pmV mL_law 289 L S g = zIald mL_law 290 L S g := ez_iaload kcL_law dL_law_289 rfl L S g
theorem eL_law_290 (L : pmL) (S : List Value) (g : pmH) : pmV mL_law 290 L S g = yV mL_law 293 1 mX11_let 11 2 L S g := (ez_virtual kcL_law dL_law_290 ml_15_40 rfl L S g).trans (zCallV_y rfl rfl (by decide) L S g)
theorem eL_law_293 (L : pmL) (S : List Value) (g : pmH) : pmV mL_law 293 L S g = zLdA mL_law 294 2 L S g := ez_aload_n kcL_law dL_law_293 rfl rfl L S g
theorem eL_law_294 (L : pmL) (S : List Value) (g : pmH) : pmV mL_law 294 L S g = zLdA mL_law 295 0 L S g := ez_aload_n kcL_law dL_law_294 rfl rfl L S g
theorem eL_law_295 (L : pmL) (S : List Value) (g : pmH) : pmV mL_law 295 L S g = zLdI mL_law 296 3 L S g := ez_iload_n kcL_law dL_law_295 rfl rfl L S g
theorem eL_law_296 (L : pmL) (S : List Value) (g : pmH) : pmV mL_law 296 L S g = zPush mL_law 297 (.int (nI 1)) L S g := ez_iconst kcL_law dL_law_296 (by decide) rfl L S g
theorem eL_law_297 (L : pmL) (S : List Value) (g : pmH) : pmV mL_law 297 L S g = zAdd mL_law 298 L S g := ez_iadd kcL_law dL_law_297 rfl L S g
theorem eL_law_298 (L : pmL) (S : List Value) (g : pmH) : pmV mL_law 298 L S g = zIald mL_law 299 L S g := ez_iaload kcL_law dL_law_298 rfl L S g
theorem eL_law_299 (L : pmL) (S : List Value) (g : pmH) : pmV mL_law 299 L S g = yV mL_law 302 1 mX12_let 12 2 L S g := (ez_virtual kcL_law dL_law_299 ml_15_43 rfl L S g).trans (zCallV_y rfl rfl (by decide) L S g)
theorem eL_law_302 (L : pmL) (S : List Value) (g : pmH) : pmV mL_law 302 L S g = zBeq mL_law 305 950 L S g := ez_icmp_eq kcL_law dL_law_302 (by decide) rfl L S g
theorem eL_law_305 (L : pmL) (S : List Value) (g : pmH) : pmV mL_law 305 L S g = zPush mL_law 306 (.int (nI 0)) L S g := ez_iconst kcL_law dL_law_305 (by decide) rfl L S g
theorem eL_law_306 (L : pmL) (S : List Value) (g : pmH) : pmV mL_law 306 L S g = zIret mL_law S g := ez_ireturn kcL_law dL_law_306 L S g
theorem eL_law_307 (L : pmL) (S : List Value) (g : pmH) : pmV mL_law 307 L S g = zLdA mL_law 308 1 L S g := ez_aload_n kcL_law dL_law_307 rfl rfl L S g
theorem eL_law_308 (L : pmL) (S : List Value) (g : pmH) : pmV mL_law 308 L S g = yV mL_law 311 0 mX11_hour 11 1 L S g := (ez_virtual kcL_law dL_law_308 ml_15_44 rfl L S g).trans (zCallV_y rfl rfl (by decide) L S g)
theorem eL_law_311 (L : pmL) (S : List Value) (g : pmH) : pmV mL_law 311 L S g = zLdA mL_law 312 2 L S g := ez_aload_n kcL_law dL_law_311 rfl rfl L S g
theorem eL_law_312 (L : pmL) (S : List Value) (g : pmH) : pmV mL_law 312 L S g = yV mL_law 315 0 mX12_hour 12 1 L S g := (ez_virtual kcL_law dL_law_312 ml_15_47 rfl L S g).trans (zCallV_y rfl rfl (by decide) L S g)
theorem eL_law_315 (L : pmL) (S : List Value) (g : pmH) : pmV mL_law 315 L S g = zBeq mL_law 318 950 L S g := ez_icmp_eq kcL_law dL_law_315 (by decide) rfl L S g
theorem eL_law_318 (L : pmL) (S : List Value) (g : pmH) : pmV mL_law 318 L S g = zPush mL_law 319 (.int (nI 0)) L S g := ez_iconst kcL_law dL_law_318 (by decide) rfl L S g
theorem eL_law_319 (L : pmL) (S : List Value) (g : pmH) : pmV mL_law 319 L S g = zIret mL_law S g := ez_ireturn kcL_law dL_law_319 L S g
theorem eL_law_320 (L : pmL) (S : List Value) (g : pmH) : pmV mL_law 320 L S g = zLdA mL_law 321 1 L S g := ez_aload_n kcL_law dL_law_320 rfl rfl L S g
theorem eL_law_321 (L : pmL) (S : List Value) (g : pmH) : pmV mL_law 321 L S g = zLdA mL_law 322 0 L S g := ez_aload_n kcL_law dL_law_321 rfl rfl L S g
theorem eL_law_322 (L : pmL) (S : List Value) (g : pmH) : pmV mL_law 322 L S g = zLdI mL_law 323 3 L S g := ez_iload_n kcL_law dL_law_322 rfl rfl L S g
theorem eL_law_323 (L : pmL) (S : List Value) (g : pmH) : pmV mL_law 323 L S g = zPush mL_law 324 (.int (nI 1)) L S g := ez_iconst kcL_law dL_law_323 (by decide) rfl L S g
theorem eL_law_324 (L : pmL) (S : List Value) (g : pmH) : pmV mL_law 324 L S g = zAdd mL_law 325 L S g := ez_iadd kcL_law dL_law_324 rfl L S g
theorem eL_law_325 (L : pmL) (S : List Value) (g : pmH) : pmV mL_law 325 L S g = zIald mL_law 326 L S g := ez_iaload kcL_law dL_law_325 rfl L S g
theorem eL_law_326 (L : pmL) (S : List Value) (g : pmH) : pmV mL_law 326 L S g = yV mL_law 329 1 mX11_free 11 3 L S g := (ez_virtual kcL_law dL_law_326 ml_15_48 rfl L S g).trans (zCallV_y rfl rfl (by decide) L S g)
theorem eL_law_329 (L : pmL) (S : List Value) (g : pmH) : pmV mL_law 329 L S g = zLdA mL_law 330 2 L S g := ez_aload_n kcL_law dL_law_329 rfl rfl L S g
theorem eL_law_330 (L : pmL) (S : List Value) (g : pmH) : pmV mL_law 330 L S g = zLdA mL_law 331 0 L S g := ez_aload_n kcL_law dL_law_330 rfl rfl L S g
theorem eL_law_331 (L : pmL) (S : List Value) (g : pmH) : pmV mL_law 331 L S g = zLdI mL_law 332 3 L S g := ez_iload_n kcL_law dL_law_331 rfl rfl L S g
theorem eL_law_332 (L : pmL) (S : List Value) (g : pmH) : pmV mL_law 332 L S g = zPush mL_law 333 (.int (nI 1)) L S g := ez_iconst kcL_law dL_law_332 (by decide) rfl L S g
theorem eL_law_333 (L : pmL) (S : List Value) (g : pmH) : pmV mL_law 333 L S g = zAdd mL_law 334 L S g := ez_iadd kcL_law dL_law_333 rfl L S g
theorem eL_law_334 (L : pmL) (S : List Value) (g : pmH) : pmV mL_law 334 L S g = zIald mL_law 335 L S g := ez_iaload kcL_law dL_law_334 rfl L S g
theorem eL_law_335 (L : pmL) (S : List Value) (g : pmH) : pmV mL_law 335 L S g = yV mL_law 338 1 mX12_free 12 2 L S g := (ez_virtual kcL_law dL_law_335 ml_15_51 rfl L S g).trans (zCallV_y rfl rfl (by decide) L S g)
theorem eL_law_338 (L : pmL) (S : List Value) (g : pmH) : pmV mL_law 338 L S g = zBeq mL_law 341 950 L S g := ez_icmp_eq kcL_law dL_law_338 (by decide) rfl L S g
theorem eL_law_341 (L : pmL) (S : List Value) (g : pmH) : pmV mL_law 341 L S g = zPush mL_law 342 (.int (nI 0)) L S g := ez_iconst kcL_law dL_law_341 (by decide) rfl L S g
theorem eL_law_342 (L : pmL) (S : List Value) (g : pmH) : pmV mL_law 342 L S g = zIret mL_law S g := ez_ireturn kcL_law dL_law_342 L S g
theorem eL_law_343 (L : pmL) (S : List Value) (g : pmH) : pmV mL_law 343 L S g = zLdA mL_law 344 1 L S g := ez_aload_n kcL_law dL_law_343 rfl rfl L S g
theorem eL_law_344 (L : pmL) (S : List Value) (g : pmH) : pmV mL_law 344 L S g = zLdA mL_law 345 0 L S g := ez_aload_n kcL_law dL_law_344 rfl rfl L S g
theorem eL_law_345 (L : pmL) (S : List Value) (g : pmH) : pmV mL_law 345 L S g = zLdI mL_law 346 3 L S g := ez_iload_n kcL_law dL_law_345 rfl rfl L S g
theorem eL_law_346 (L : pmL) (S : List Value) (g : pmH) : pmV mL_law 346 L S g = zPush mL_law 347 (.int (nI 1)) L S g := ez_iconst kcL_law dL_law_346 (by decide) rfl L S g
theorem eL_law_347 (L : pmL) (S : List Value) (g : pmH) : pmV mL_law 347 L S g = zAdd mL_law 348 L S g := ez_iadd kcL_law dL_law_347 rfl L S g
theorem eL_law_348 (L : pmL) (S : List Value) (g : pmH) : pmV mL_law 348 L S g = zIald mL_law 349 L S g := ez_iaload kcL_law dL_law_348 rfl L S g
theorem eL_law_349 (L : pmL) (S : List Value) (g : pmH) : pmV mL_law 349 L S g = zLdA mL_law 350 0 L S g := ez_aload_n kcL_law dL_law_349 rfl rfl L S g
theorem eL_law_350 (L : pmL) (S : List Value) (g : pmH) : pmV mL_law 350 L S g = zLdI mL_law 351 3 L S g := ez_iload_n kcL_law dL_law_350 rfl rfl L S g
theorem eL_law_351 (L : pmL) (S : List Value) (g : pmH) : pmV mL_law 351 L S g = zPush mL_law 352 (.int (nI 2)) L S g := ez_iconst kcL_law dL_law_351 (by decide) rfl L S g
theorem eL_law_352 (L : pmL) (S : List Value) (g : pmH) : pmV mL_law 352 L S g = zAdd mL_law 353 L S g := ez_iadd kcL_law dL_law_352 rfl L S g
theorem eL_law_353 (L : pmL) (S : List Value) (g : pmH) : pmV mL_law 353 L S g = zIald mL_law 354 L S g := ez_iaload kcL_law dL_law_353 rfl L S g
theorem eL_law_354 (L : pmL) (S : List Value) (g : pmH) : pmV mL_law 354 L S g = yV mL_law 357 2 mX11_right 11 3 L S g := (ez_virtual kcL_law dL_law_354 ml_15_52 rfl L S g).trans (zCallV_y rfl rfl (by decide) L S g)
theorem eL_law_357 (L : pmL) (S : List Value) (g : pmH) : pmV mL_law 357 L S g = zLdA mL_law 358 2 L S g := ez_aload_n kcL_law dL_law_357 rfl rfl L S g
theorem eL_law_358 (L : pmL) (S : List Value) (g : pmH) : pmV mL_law 358 L S g = zLdA mL_law 359 0 L S g := ez_aload_n kcL_law dL_law_358 rfl rfl L S g
theorem eL_law_359 (L : pmL) (S : List Value) (g : pmH) : pmV mL_law 359 L S g = zLdI mL_law 360 3 L S g := ez_iload_n kcL_law dL_law_359 rfl rfl L S g
theorem eL_law_360 (L : pmL) (S : List Value) (g : pmH) : pmV mL_law 360 L S g = zPush mL_law 361 (.int (nI 1)) L S g := ez_iconst kcL_law dL_law_360 (by decide) rfl L S g
theorem eL_law_361 (L : pmL) (S : List Value) (g : pmH) : pmV mL_law 361 L S g = zAdd mL_law 362 L S g := ez_iadd kcL_law dL_law_361 rfl L S g
theorem eL_law_362 (L : pmL) (S : List Value) (g : pmH) : pmV mL_law 362 L S g = zIald mL_law 363 L S g := ez_iaload kcL_law dL_law_362 rfl L S g
theorem eL_law_363 (L : pmL) (S : List Value) (g : pmH) : pmV mL_law 363 L S g = zLdA mL_law 364 0 L S g := ez_aload_n kcL_law dL_law_363 rfl rfl L S g
theorem eL_law_364 (L : pmL) (S : List Value) (g : pmH) : pmV mL_law 364 L S g = zLdI mL_law 365 3 L S g := ez_iload_n kcL_law dL_law_364 rfl rfl L S g
theorem eL_law_365 (L : pmL) (S : List Value) (g : pmH) : pmV mL_law 365 L S g = zPush mL_law 366 (.int (nI 2)) L S g := ez_iconst kcL_law dL_law_365 (by decide) rfl L S g
theorem eL_law_366 (L : pmL) (S : List Value) (g : pmH) : pmV mL_law 366 L S g = zAdd mL_law 367 L S g := ez_iadd kcL_law dL_law_366 rfl L S g
theorem eL_law_367 (L : pmL) (S : List Value) (g : pmH) : pmV mL_law 367 L S g = zIald mL_law 368 L S g := ez_iaload kcL_law dL_law_367 rfl L S g
theorem eL_law_368 (L : pmL) (S : List Value) (g : pmH) : pmV mL_law 368 L S g = yV mL_law 371 2 mX12_right 12 3 L S g := (ez_virtual kcL_law dL_law_368 ml_15_55 rfl L S g).trans (zCallV_y rfl rfl (by decide) L S g)
theorem eL_law_371 (L : pmL) (S : List Value) (g : pmH) : pmV mL_law 371 L S g = zBeq mL_law 374 950 L S g := ez_icmp_eq kcL_law dL_law_371 (by decide) rfl L S g
theorem eL_law_374 (L : pmL) (S : List Value) (g : pmH) : pmV mL_law 374 L S g = zPush mL_law 375 (.int (nI 0)) L S g := ez_iconst kcL_law dL_law_374 (by decide) rfl L S g
theorem eL_law_375 (L : pmL) (S : List Value) (g : pmH) : pmV mL_law 375 L S g = zIret mL_law S g := ez_ireturn kcL_law dL_law_375 L S g
theorem eL_law_376 (L : pmL) (S : List Value) (g : pmH) : pmV mL_law 376 L S g = zLdA mL_law 377 1 L S g := ez_aload_n kcL_law dL_law_376 rfl rfl L S g
theorem eL_law_377 (L : pmL) (S : List Value) (g : pmH) : pmV mL_law 377 L S g = yV mL_law 380 0 mX11_undo 11 1 L S g := (ez_virtual kcL_law dL_law_377 ml_15_56 rfl L S g).trans (zCallV_y rfl rfl (by decide) L S g)
theorem eL_law_380 (L : pmL) (S : List Value) (g : pmH) : pmV mL_law 380 L S g = zLdA mL_law 381 2 L S g := ez_aload_n kcL_law dL_law_380 rfl rfl L S g
theorem eL_law_381 (L : pmL) (S : List Value) (g : pmH) : pmV mL_law 381 L S g = yV mL_law 384 0 mX12_undo 12 2 L S g := (ez_virtual kcL_law dL_law_381 ml_15_59 rfl L S g).trans (zCallV_y rfl rfl (by decide) L S g)
theorem eL_law_384 (L : pmL) (S : List Value) (g : pmH) : pmV mL_law 384 L S g = zBeq mL_law 387 950 L S g := ez_icmp_eq kcL_law dL_law_384 (by decide) rfl L S g
theorem eL_law_387 (L : pmL) (S : List Value) (g : pmH) : pmV mL_law 387 L S g = zPush mL_law 388 (.int (nI 0)) L S g := ez_iconst kcL_law dL_law_387 (by decide) rfl L S g
theorem eL_law_388 (L : pmL) (S : List Value) (g : pmH) : pmV mL_law 388 L S g = zIret mL_law S g := ez_ireturn kcL_law dL_law_388 L S g
theorem eL_law_389 (L : pmL) (S : List Value) (g : pmH) : pmV mL_law 389 L S g = zLdA mL_law 390 1 L S g := ez_aload_n kcL_law dL_law_389 rfl rfl L S g
theorem eL_law_390 (L : pmL) (S : List Value) (g : pmH) : pmV mL_law 390 L S g = zLdA mL_law 391 0 L S g := ez_aload_n kcL_law dL_law_390 rfl rfl L S g
theorem eL_law_391 (L : pmL) (S : List Value) (g : pmH) : pmV mL_law 391 L S g = zLdI mL_law 392 3 L S g := ez_iload_n kcL_law dL_law_391 rfl rfl L S g
theorem eL_law_392 (L : pmL) (S : List Value) (g : pmH) : pmV mL_law 392 L S g = zPush mL_law 393 (.int (nI 1)) L S g := ez_iconst kcL_law dL_law_392 (by decide) rfl L S g
theorem eL_law_393 (L : pmL) (S : List Value) (g : pmH) : pmV mL_law 393 L S g = zAdd mL_law 394 L S g := ez_iadd kcL_law dL_law_393 rfl L S g
theorem eL_law_394 (L : pmL) (S : List Value) (g : pmH) : pmV mL_law 394 L S g = zIald mL_law 395 L S g := ez_iaload kcL_law dL_law_394 rfl L S g
theorem eL_law_395 (L : pmL) (S : List Value) (g : pmH) : pmV mL_law 395 L S g = zLdA mL_law 396 0 L S g := ez_aload_n kcL_law dL_law_395 rfl rfl L S g
theorem eL_law_396 (L : pmL) (S : List Value) (g : pmH) : pmV mL_law 396 L S g = zLdI mL_law 397 3 L S g := ez_iload_n kcL_law dL_law_396 rfl rfl L S g
theorem eL_law_397 (L : pmL) (S : List Value) (g : pmH) : pmV mL_law 397 L S g = zPush mL_law 398 (.int (nI 2)) L S g := ez_iconst kcL_law dL_law_397 (by decide) rfl L S g
theorem eL_law_398 (L : pmL) (S : List Value) (g : pmH) : pmV mL_law 398 L S g = zAdd mL_law 399 L S g := ez_iadd kcL_law dL_law_398 rfl L S g
theorem eL_law_399 (L : pmL) (S : List Value) (g : pmH) : pmV mL_law 399 L S g = zIald mL_law 400 L S g := ez_iaload kcL_law dL_law_399 rfl L S g
theorem eL_law_400 (L : pmL) (S : List Value) (g : pmH) : pmV mL_law 400 L S g = zLdA mL_law 401 0 L S g := ez_aload_n kcL_law dL_law_400 rfl rfl L S g
theorem eL_law_401 (L : pmL) (S : List Value) (g : pmH) : pmV mL_law 401 L S g = zLdI mL_law 402 3 L S g := ez_iload_n kcL_law dL_law_401 rfl rfl L S g
theorem eL_law_402 (L : pmL) (S : List Value) (g : pmH) : pmV mL_law 402 L S g = zPush mL_law 403 (.int (nI 3)) L S g := ez_iconst kcL_law dL_law_402 (by decide) rfl L S g
theorem eL_law_403 (L : pmL) (S : List Value) (g : pmH) : pmV mL_law 403 L S g = zAdd mL_law 404 L S g := ez_iadd kcL_law dL_law_403 rfl L S g
theorem eL_law_404 (L : pmL) (S : List Value) (g : pmH) : pmV mL_law 404 L S g = zIald mL_law 405 L S g := ez_iaload kcL_law dL_law_404 rfl L S g
theorem eL_law_405 (L : pmL) (S : List Value) (g : pmH) : pmV mL_law 405 L S g = yV mL_law 408 3 mX11_later 11 5 L S g := (ez_virtual kcL_law dL_law_405 ml_15_60 rfl L S g).trans (zCallV_y rfl rfl (by decide) L S g)
theorem eL_law_408 (L : pmL) (S : List Value) (g : pmH) : pmV mL_law 408 L S g = zLdA mL_law 409 2 L S g := ez_aload_n kcL_law dL_law_408 rfl rfl L S g
theorem eL_law_409 (L : pmL) (S : List Value) (g : pmH) : pmV mL_law 409 L S g = zLdA mL_law 410 0 L S g := ez_aload_n kcL_law dL_law_409 rfl rfl L S g
theorem eL_law_410 (L : pmL) (S : List Value) (g : pmH) : pmV mL_law 410 L S g = zLdI mL_law 411 3 L S g := ez_iload_n kcL_law dL_law_410 rfl rfl L S g
theorem eL_law_411 (L : pmL) (S : List Value) (g : pmH) : pmV mL_law 411 L S g = zPush mL_law 412 (.int (nI 1)) L S g := ez_iconst kcL_law dL_law_411 (by decide) rfl L S g
theorem eL_law_412 (L : pmL) (S : List Value) (g : pmH) : pmV mL_law 412 L S g = zAdd mL_law 413 L S g := ez_iadd kcL_law dL_law_412 rfl L S g
theorem eL_law_413 (L : pmL) (S : List Value) (g : pmH) : pmV mL_law 413 L S g = zIald mL_law 414 L S g := ez_iaload kcL_law dL_law_413 rfl L S g
theorem eL_law_414 (L : pmL) (S : List Value) (g : pmH) : pmV mL_law 414 L S g = zLdA mL_law 415 0 L S g := ez_aload_n kcL_law dL_law_414 rfl rfl L S g
theorem eL_law_415 (L : pmL) (S : List Value) (g : pmH) : pmV mL_law 415 L S g = zLdI mL_law 416 3 L S g := ez_iload_n kcL_law dL_law_415 rfl rfl L S g
theorem eL_law_416 (L : pmL) (S : List Value) (g : pmH) : pmV mL_law 416 L S g = zPush mL_law 417 (.int (nI 2)) L S g := ez_iconst kcL_law dL_law_416 (by decide) rfl L S g
theorem eL_law_417 (L : pmL) (S : List Value) (g : pmH) : pmV mL_law 417 L S g = zAdd mL_law 418 L S g := ez_iadd kcL_law dL_law_417 rfl L S g
theorem eL_law_418 (L : pmL) (S : List Value) (g : pmH) : pmV mL_law 418 L S g = zIald mL_law 419 L S g := ez_iaload kcL_law dL_law_418 rfl L S g
theorem eL_law_419 (L : pmL) (S : List Value) (g : pmH) : pmV mL_law 419 L S g = zLdA mL_law 420 0 L S g := ez_aload_n kcL_law dL_law_419 rfl rfl L S g
theorem eL_law_420 (L : pmL) (S : List Value) (g : pmH) : pmV mL_law 420 L S g = zLdI mL_law 421 3 L S g := ez_iload_n kcL_law dL_law_420 rfl rfl L S g
theorem eL_law_421 (L : pmL) (S : List Value) (g : pmH) : pmV mL_law 421 L S g = zPush mL_law 422 (.int (nI 3)) L S g := ez_iconst kcL_law dL_law_421 (by decide) rfl L S g
theorem eL_law_422 (L : pmL) (S : List Value) (g : pmH) : pmV mL_law 422 L S g = zAdd mL_law 423 L S g := ez_iadd kcL_law dL_law_422 rfl L S g
theorem eL_law_423 (L : pmL) (S : List Value) (g : pmH) : pmV mL_law 423 L S g = zIald mL_law 424 L S g := ez_iaload kcL_law dL_law_423 rfl L S g
theorem eL_law_424 (L : pmL) (S : List Value) (g : pmH) : pmV mL_law 424 L S g = yV mL_law 427 3 mX12_later 12 4 L S g := (ez_virtual kcL_law dL_law_424 ml_15_64 rfl L S g).trans (zCallV_y rfl rfl (by decide) L S g)
theorem eL_law_427 (L : pmL) (S : List Value) (g : pmH) : pmV mL_law 427 L S g = zBeq mL_law 430 950 L S g := ez_icmp_eq kcL_law dL_law_427 (by decide) rfl L S g
theorem eL_law_430 (L : pmL) (S : List Value) (g : pmH) : pmV mL_law 430 L S g = zPush mL_law 431 (.int (nI 0)) L S g := ez_iconst kcL_law dL_law_430 (by decide) rfl L S g
theorem eL_law_431 (L : pmL) (S : List Value) (g : pmH) : pmV mL_law 431 L S g = zIret mL_law S g := ez_ireturn kcL_law dL_law_431 L S g
theorem eL_law_432 (L : pmL) (S : List Value) (g : pmH) : pmV mL_law 432 L S g = zLdA mL_law 433 1 L S g := ez_aload_n kcL_law dL_law_432 rfl rfl L S g
theorem eL_law_433 (L : pmL) (S : List Value) (g : pmH) : pmV mL_law 433 L S g = zLdA mL_law 434 0 L S g := ez_aload_n kcL_law dL_law_433 rfl rfl L S g
theorem eL_law_434 (L : pmL) (S : List Value) (g : pmH) : pmV mL_law 434 L S g = zLdI mL_law 435 3 L S g := ez_iload_n kcL_law dL_law_434 rfl rfl L S g
theorem eL_law_435 (L : pmL) (S : List Value) (g : pmH) : pmV mL_law 435 L S g = zPush mL_law 436 (.int (nI 1)) L S g := ez_iconst kcL_law dL_law_435 (by decide) rfl L S g
theorem eL_law_436 (L : pmL) (S : List Value) (g : pmH) : pmV mL_law 436 L S g = zAdd mL_law 437 L S g := ez_iadd kcL_law dL_law_436 rfl L S g
theorem eL_law_437 (L : pmL) (S : List Value) (g : pmH) : pmV mL_law 437 L S g = zIald mL_law 438 L S g := ez_iaload kcL_law dL_law_437 rfl L S g
theorem eL_law_438 (L : pmL) (S : List Value) (g : pmH) : pmV mL_law 438 L S g = yV mL_law 441 1 mX11_comes 11 2 L S g := (ez_virtual kcL_law dL_law_438 ml_15_65 rfl L S g).trans (zCallV_y rfl rfl (by decide) L S g)
theorem eL_law_441 (L : pmL) (S : List Value) (g : pmH) : pmV mL_law 441 L S g = zLdA mL_law 442 2 L S g := ez_aload_n kcL_law dL_law_441 rfl rfl L S g
theorem eL_law_442 (L : pmL) (S : List Value) (g : pmH) : pmV mL_law 442 L S g = zLdA mL_law 443 0 L S g := ez_aload_n kcL_law dL_law_442 rfl rfl L S g
theorem eL_law_443 (L : pmL) (S : List Value) (g : pmH) : pmV mL_law 443 L S g = zLdI mL_law 444 3 L S g := ez_iload_n kcL_law dL_law_443 rfl rfl L S g
theorem eL_law_444 (L : pmL) (S : List Value) (g : pmH) : pmV mL_law 444 L S g = zPush mL_law 445 (.int (nI 1)) L S g := ez_iconst kcL_law dL_law_444 (by decide) rfl L S g
theorem eL_law_445 (L : pmL) (S : List Value) (g : pmH) : pmV mL_law 445 L S g = zAdd mL_law 446 L S g := ez_iadd kcL_law dL_law_445 rfl L S g
theorem eL_law_446 (L : pmL) (S : List Value) (g : pmH) : pmV mL_law 446 L S g = zIald mL_law 447 L S g := ez_iaload kcL_law dL_law_446 rfl L S g
theorem eL_law_447 (L : pmL) (S : List Value) (g : pmH) : pmV mL_law 447 L S g = yV mL_law 450 1 mX12_comes 12 3 L S g := (ez_virtual kcL_law dL_law_447 ml_15_68 rfl L S g).trans (zCallV_y rfl rfl (by decide) L S g)
theorem eL_law_450 (L : pmL) (S : List Value) (g : pmH) : pmV mL_law 450 L S g = zBeq mL_law 453 950 L S g := ez_icmp_eq kcL_law dL_law_450 (by decide) rfl L S g
theorem eL_law_453 (L : pmL) (S : List Value) (g : pmH) : pmV mL_law 453 L S g = zPush mL_law 454 (.int (nI 0)) L S g := ez_iconst kcL_law dL_law_453 (by decide) rfl L S g
theorem eL_law_454 (L : pmL) (S : List Value) (g : pmH) : pmV mL_law 454 L S g = zIret mL_law S g := ez_ireturn kcL_law dL_law_454 L S g
theorem eL_law_455 (L : pmL) (S : List Value) (g : pmH) : pmV mL_law 455 L S g = zLdA mL_law 456 1 L S g := ez_aload_n kcL_law dL_law_455 rfl rfl L S g
theorem eL_law_456 (L : pmL) (S : List Value) (g : pmH) : pmV mL_law 456 L S g = zLdA mL_law 457 0 L S g := ez_aload_n kcL_law dL_law_456 rfl rfl L S g
theorem eL_law_457 (L : pmL) (S : List Value) (g : pmH) : pmV mL_law 457 L S g = zLdI mL_law 458 3 L S g := ez_iload_n kcL_law dL_law_457 rfl rfl L S g
theorem eL_law_458 (L : pmL) (S : List Value) (g : pmH) : pmV mL_law 458 L S g = zPush mL_law 459 (.int (nI 1)) L S g := ez_iconst kcL_law dL_law_458 (by decide) rfl L S g
theorem eL_law_459 (L : pmL) (S : List Value) (g : pmH) : pmV mL_law 459 L S g = zAdd mL_law 460 L S g := ez_iadd kcL_law dL_law_459 rfl L S g
theorem eL_law_460 (L : pmL) (S : List Value) (g : pmH) : pmV mL_law 460 L S g = zIald mL_law 461 L S g := ez_iaload kcL_law dL_law_460 rfl L S g
theorem eL_law_461 (L : pmL) (S : List Value) (g : pmH) : pmV mL_law 461 L S g = yV mL_law 464 1 mX11_best 11 2 L S g := (ez_virtual kcL_law dL_law_461 ml_15_69 rfl L S g).trans (zCallV_y rfl rfl (by decide) L S g)
theorem eL_law_464 (L : pmL) (S : List Value) (g : pmH) : pmV mL_law 464 L S g = zLdA mL_law 465 2 L S g := ez_aload_n kcL_law dL_law_464 rfl rfl L S g
theorem eL_law_465 (L : pmL) (S : List Value) (g : pmH) : pmV mL_law 465 L S g = zLdA mL_law 466 0 L S g := ez_aload_n kcL_law dL_law_465 rfl rfl L S g
theorem eL_law_466 (L : pmL) (S : List Value) (g : pmH) : pmV mL_law 466 L S g = zLdI mL_law 467 3 L S g := ez_iload_n kcL_law dL_law_466 rfl rfl L S g
theorem eL_law_467 (L : pmL) (S : List Value) (g : pmH) : pmV mL_law 467 L S g = zPush mL_law 468 (.int (nI 1)) L S g := ez_iconst kcL_law dL_law_467 (by decide) rfl L S g
theorem eL_law_468 (L : pmL) (S : List Value) (g : pmH) : pmV mL_law 468 L S g = zAdd mL_law 469 L S g := ez_iadd kcL_law dL_law_468 rfl L S g
theorem eL_law_469 (L : pmL) (S : List Value) (g : pmH) : pmV mL_law 469 L S g = zIald mL_law 470 L S g := ez_iaload kcL_law dL_law_469 rfl L S g
theorem eL_law_470 (L : pmL) (S : List Value) (g : pmH) : pmV mL_law 470 L S g = yV mL_law 473 1 mX12_best 12 3 L S g := (ez_virtual kcL_law dL_law_470 ml_15_72 rfl L S g).trans (zCallV_y rfl rfl (by decide) L S g)
theorem eL_law_473 (L : pmL) (S : List Value) (g : pmH) : pmV mL_law 473 L S g = zBeq mL_law 476 950 L S g := ez_icmp_eq kcL_law dL_law_473 (by decide) rfl L S g
theorem eL_law_476 (L : pmL) (S : List Value) (g : pmH) : pmV mL_law 476 L S g = zPush mL_law 477 (.int (nI 0)) L S g := ez_iconst kcL_law dL_law_476 (by decide) rfl L S g
theorem eL_law_477 (L : pmL) (S : List Value) (g : pmH) : pmV mL_law 477 L S g = zIret mL_law S g := ez_ireturn kcL_law dL_law_477 L S g
theorem eL_law_478 (L : pmL) (S : List Value) (g : pmH) : pmV mL_law 478 L S g = zLdA mL_law 479 1 L S g := ez_aload_n kcL_law dL_law_478 rfl rfl L S g
theorem eL_law_479 (L : pmL) (S : List Value) (g : pmH) : pmV mL_law 479 L S g = zLdA mL_law 480 0 L S g := ez_aload_n kcL_law dL_law_479 rfl rfl L S g
theorem eL_law_480 (L : pmL) (S : List Value) (g : pmH) : pmV mL_law 480 L S g = zLdI mL_law 481 3 L S g := ez_iload_n kcL_law dL_law_480 rfl rfl L S g
theorem eL_law_481 (L : pmL) (S : List Value) (g : pmH) : pmV mL_law 481 L S g = zPush mL_law 482 (.int (nI 1)) L S g := ez_iconst kcL_law dL_law_481 (by decide) rfl L S g
theorem eL_law_482 (L : pmL) (S : List Value) (g : pmH) : pmV mL_law 482 L S g = zAdd mL_law 483 L S g := ez_iadd kcL_law dL_law_482 rfl L S g
theorem eL_law_483 (L : pmL) (S : List Value) (g : pmH) : pmV mL_law 483 L S g = zIald mL_law 484 L S g := ez_iaload kcL_law dL_law_483 rfl L S g
theorem eL_law_484 (L : pmL) (S : List Value) (g : pmH) : pmV mL_law 484 L S g = yV mL_law 487 1 mX11_most 11 2 L S g := (ez_virtual kcL_law dL_law_484 ml_15_73 rfl L S g).trans (zCallV_y rfl rfl (by decide) L S g)
theorem eL_law_487 (L : pmL) (S : List Value) (g : pmH) : pmV mL_law 487 L S g = zLdA mL_law 488 2 L S g := ez_aload_n kcL_law dL_law_487 rfl rfl L S g
theorem eL_law_488 (L : pmL) (S : List Value) (g : pmH) : pmV mL_law 488 L S g = zLdA mL_law 489 0 L S g := ez_aload_n kcL_law dL_law_488 rfl rfl L S g
theorem eL_law_489 (L : pmL) (S : List Value) (g : pmH) : pmV mL_law 489 L S g = zLdI mL_law 490 3 L S g := ez_iload_n kcL_law dL_law_489 rfl rfl L S g
theorem eL_law_490 (L : pmL) (S : List Value) (g : pmH) : pmV mL_law 490 L S g = zPush mL_law 491 (.int (nI 1)) L S g := ez_iconst kcL_law dL_law_490 (by decide) rfl L S g
theorem eL_law_491 (L : pmL) (S : List Value) (g : pmH) : pmV mL_law 491 L S g = zAdd mL_law 492 L S g := ez_iadd kcL_law dL_law_491 rfl L S g
theorem eL_law_492 (L : pmL) (S : List Value) (g : pmH) : pmV mL_law 492 L S g = zIald mL_law 493 L S g := ez_iaload kcL_law dL_law_492 rfl L S g
theorem eL_law_493 (L : pmL) (S : List Value) (g : pmH) : pmV mL_law 493 L S g = yV mL_law 496 1 mX12_most 12 7 L S g := (ez_virtual kcL_law dL_law_493 ml_15_76 rfl L S g).trans (zCallV_y rfl rfl (by decide) L S g)
theorem eL_law_496 (L : pmL) (S : List Value) (g : pmH) : pmV mL_law 496 L S g = zBeq mL_law 499 950 L S g := ez_icmp_eq kcL_law dL_law_496 (by decide) rfl L S g
theorem eL_law_499 (L : pmL) (S : List Value) (g : pmH) : pmV mL_law 499 L S g = zPush mL_law 500 (.int (nI 0)) L S g := ez_iconst kcL_law dL_law_499 (by decide) rfl L S g
theorem eL_law_500 (L : pmL) (S : List Value) (g : pmH) : pmV mL_law 500 L S g = zIret mL_law S g := ez_ireturn kcL_law dL_law_500 L S g
theorem eL_law_501 (L : pmL) (S : List Value) (g : pmH) : pmV mL_law 501 L S g = zLdA mL_law 502 1 L S g := ez_aload_n kcL_law dL_law_501 rfl rfl L S g
theorem eL_law_502 (L : pmL) (S : List Value) (g : pmH) : pmV mL_law 502 L S g = zLdA mL_law 503 0 L S g := ez_aload_n kcL_law dL_law_502 rfl rfl L S g
theorem eL_law_503 (L : pmL) (S : List Value) (g : pmH) : pmV mL_law 503 L S g = zLdI mL_law 504 3 L S g := ez_iload_n kcL_law dL_law_503 rfl rfl L S g
theorem eL_law_504 (L : pmL) (S : List Value) (g : pmH) : pmV mL_law 504 L S g = zPush mL_law 505 (.int (nI 1)) L S g := ez_iconst kcL_law dL_law_504 (by decide) rfl L S g
theorem eL_law_505 (L : pmL) (S : List Value) (g : pmH) : pmV mL_law 505 L S g = zAdd mL_law 506 L S g := ez_iadd kcL_law dL_law_505 rfl L S g
theorem eL_law_506 (L : pmL) (S : List Value) (g : pmH) : pmV mL_law 506 L S g = zIald mL_law 507 L S g := ez_iaload kcL_law dL_law_506 rfl L S g
theorem eL_law_507 (L : pmL) (S : List Value) (g : pmH) : pmV mL_law 507 L S g = zLdA mL_law 508 0 L S g := ez_aload_n kcL_law dL_law_507 rfl rfl L S g
theorem eL_law_508 (L : pmL) (S : List Value) (g : pmH) : pmV mL_law 508 L S g = zLdI mL_law 509 3 L S g := ez_iload_n kcL_law dL_law_508 rfl rfl L S g
theorem eL_law_509 (L : pmL) (S : List Value) (g : pmH) : pmV mL_law 509 L S g = zPush mL_law 510 (.int (nI 2)) L S g := ez_iconst kcL_law dL_law_509 (by decide) rfl L S g
theorem eL_law_510 (L : pmL) (S : List Value) (g : pmH) : pmV mL_law 510 L S g = zAdd mL_law 511 L S g := ez_iadd kcL_law dL_law_510 rfl L S g
theorem eL_law_511 (L : pmL) (S : List Value) (g : pmH) : pmV mL_law 511 L S g = zIald mL_law 512 L S g := ez_iaload kcL_law dL_law_511 rfl L S g
theorem eL_law_512 (L : pmL) (S : List Value) (g : pmH) : pmV mL_law 512 L S g = zI2l mL_law 513 L S g := ez_i2l kcL_law dL_law_512 rfl L S g
theorem eL_law_513 (L : pmL) (S : List Value) (g : pmH) : pmV mL_law 513 L S g = zPush mL_law 515 (.int (nI 32)) L S g := ez_bipush kcL_law dL_law_513 (by decide) rfl L S g
theorem eL_law_515 (L : pmL) (S : List Value) (g : pmH) : pmV mL_law 515 L S g = zJShl mL_law 516 L S g := ez_lshl kcL_law dL_law_515 rfl L S g
theorem eL_law_516 (L : pmL) (S : List Value) (g : pmH) : pmV mL_law 516 L S g = zLdA mL_law 517 0 L S g := ez_aload_n kcL_law dL_law_516 rfl rfl L S g
theorem eL_law_517 (L : pmL) (S : List Value) (g : pmH) : pmV mL_law 517 L S g = zLdI mL_law 518 3 L S g := ez_iload_n kcL_law dL_law_517 rfl rfl L S g
theorem eL_law_518 (L : pmL) (S : List Value) (g : pmH) : pmV mL_law 518 L S g = zPush mL_law 519 (.int (nI 3)) L S g := ez_iconst kcL_law dL_law_518 (by decide) rfl L S g
theorem eL_law_519 (L : pmL) (S : List Value) (g : pmH) : pmV mL_law 519 L S g = zAdd mL_law 520 L S g := ez_iadd kcL_law dL_law_519 rfl L S g
theorem eL_law_520 (L : pmL) (S : List Value) (g : pmH) : pmV mL_law 520 L S g = zIald mL_law 521 L S g := ez_iaload kcL_law dL_law_520 rfl L S g
theorem eL_law_521 (L : pmL) (S : List Value) (g : pmH) : pmV mL_law 521 L S g = zI2l mL_law 522 L S g := ez_i2l kcL_law dL_law_521 rfl L S g
theorem eL_law_522 (L : pmL) (S : List Value) (g : pmH) : pmV mL_law 522 L S g = zPush mL_law 525 (.long (lN 4294967295)) L S g := ez_ldc2_w kcL_law dL_law_522 jl_15_77 rfl L S g
theorem eL_law_525 (L : pmL) (S : List Value) (g : pmH) : pmV mL_law 525 L S g = zJAnd mL_law 526 L S g := ez_land kcL_law dL_law_525 rfl L S g
theorem eL_law_526 (L : pmL) (S : List Value) (g : pmH) : pmV mL_law 526 L S g = zJOr mL_law 527 L S g := ez_lor kcL_law dL_law_526 rfl L S g
theorem eL_law_527 (L : pmL) (S : List Value) (g : pmH) : pmV mL_law 527 L S g = yV mL_law 530 2 mX11_judge 11 4 L S g := (ez_virtual kcL_law dL_law_527 ml_15_79 rfl L S g).trans (zCallV_y rfl rfl (by decide) L S g)
theorem eL_law_530 (L : pmL) (S : List Value) (g : pmH) : pmV mL_law 530 L S g = zLdA mL_law 531 2 L S g := ez_aload_n kcL_law dL_law_530 rfl rfl L S g
theorem eL_law_531 (L : pmL) (S : List Value) (g : pmH) : pmV mL_law 531 L S g = zLdA mL_law 532 0 L S g := ez_aload_n kcL_law dL_law_531 rfl rfl L S g
theorem eL_law_532 (L : pmL) (S : List Value) (g : pmH) : pmV mL_law 532 L S g = zLdI mL_law 533 3 L S g := ez_iload_n kcL_law dL_law_532 rfl rfl L S g
theorem eL_law_533 (L : pmL) (S : List Value) (g : pmH) : pmV mL_law 533 L S g = zPush mL_law 534 (.int (nI 1)) L S g := ez_iconst kcL_law dL_law_533 (by decide) rfl L S g
theorem eL_law_534 (L : pmL) (S : List Value) (g : pmH) : pmV mL_law 534 L S g = zAdd mL_law 535 L S g := ez_iadd kcL_law dL_law_534 rfl L S g
theorem eL_law_535 (L : pmL) (S : List Value) (g : pmH) : pmV mL_law 535 L S g = zIald mL_law 536 L S g := ez_iaload kcL_law dL_law_535 rfl L S g
theorem eL_law_536 (L : pmL) (S : List Value) (g : pmH) : pmV mL_law 536 L S g = zLdA mL_law 537 0 L S g := ez_aload_n kcL_law dL_law_536 rfl rfl L S g
theorem eL_law_537 (L : pmL) (S : List Value) (g : pmH) : pmV mL_law 537 L S g = zLdI mL_law 538 3 L S g := ez_iload_n kcL_law dL_law_537 rfl rfl L S g
theorem eL_law_538 (L : pmL) (S : List Value) (g : pmH) : pmV mL_law 538 L S g = zPush mL_law 539 (.int (nI 2)) L S g := ez_iconst kcL_law dL_law_538 (by decide) rfl L S g
theorem eL_law_539 (L : pmL) (S : List Value) (g : pmH) : pmV mL_law 539 L S g = zAdd mL_law 540 L S g := ez_iadd kcL_law dL_law_539 rfl L S g
theorem eL_law_540 (L : pmL) (S : List Value) (g : pmH) : pmV mL_law 540 L S g = zIald mL_law 541 L S g := ez_iaload kcL_law dL_law_540 rfl L S g
theorem eL_law_541 (L : pmL) (S : List Value) (g : pmH) : pmV mL_law 541 L S g = zI2l mL_law 542 L S g := ez_i2l kcL_law dL_law_541 rfl L S g
theorem eL_law_542 (L : pmL) (S : List Value) (g : pmH) : pmV mL_law 542 L S g = zPush mL_law 544 (.int (nI 32)) L S g := ez_bipush kcL_law dL_law_542 (by decide) rfl L S g
theorem eL_law_544 (L : pmL) (S : List Value) (g : pmH) : pmV mL_law 544 L S g = zJShl mL_law 545 L S g := ez_lshl kcL_law dL_law_544 rfl L S g
theorem eL_law_545 (L : pmL) (S : List Value) (g : pmH) : pmV mL_law 545 L S g = zLdA mL_law 546 0 L S g := ez_aload_n kcL_law dL_law_545 rfl rfl L S g
theorem eL_law_546 (L : pmL) (S : List Value) (g : pmH) : pmV mL_law 546 L S g = zLdI mL_law 547 3 L S g := ez_iload_n kcL_law dL_law_546 rfl rfl L S g
theorem eL_law_547 (L : pmL) (S : List Value) (g : pmH) : pmV mL_law 547 L S g = zPush mL_law 548 (.int (nI 3)) L S g := ez_iconst kcL_law dL_law_547 (by decide) rfl L S g
theorem eL_law_548 (L : pmL) (S : List Value) (g : pmH) : pmV mL_law 548 L S g = zAdd mL_law 549 L S g := ez_iadd kcL_law dL_law_548 rfl L S g
theorem eL_law_549 (L : pmL) (S : List Value) (g : pmH) : pmV mL_law 549 L S g = zIald mL_law 550 L S g := ez_iaload kcL_law dL_law_549 rfl L S g
theorem eL_law_550 (L : pmL) (S : List Value) (g : pmH) : pmV mL_law 550 L S g = zI2l mL_law 551 L S g := ez_i2l kcL_law dL_law_550 rfl L S g
theorem eL_law_551 (L : pmL) (S : List Value) (g : pmH) : pmV mL_law 551 L S g = zPush mL_law 554 (.long (lN 4294967295)) L S g := ez_ldc2_w kcL_law dL_law_551 jl_15_77 rfl L S g
theorem eL_law_554 (L : pmL) (S : List Value) (g : pmH) : pmV mL_law 554 L S g = zJAnd mL_law 555 L S g := ez_land kcL_law dL_law_554 rfl L S g
theorem eL_law_555 (L : pmL) (S : List Value) (g : pmH) : pmV mL_law 555 L S g = zJOr mL_law 556 L S g := ez_lor kcL_law dL_law_555 rfl L S g
theorem eL_law_556 (L : pmL) (S : List Value) (g : pmH) : pmV mL_law 556 L S g = yV mL_law 559 2 mX12_judge 12 6 L S g := (ez_virtual kcL_law dL_law_556 ml_15_83 rfl L S g).trans (zCallV_y rfl rfl (by decide) L S g)
theorem eL_law_559 (L : pmL) (S : List Value) (g : pmH) : pmV mL_law 559 L S g = zBeq mL_law 562 950 L S g := ez_icmp_eq kcL_law dL_law_559 (by decide) rfl L S g
theorem eL_law_562 (L : pmL) (S : List Value) (g : pmH) : pmV mL_law 562 L S g = zPush mL_law 563 (.int (nI 0)) L S g := ez_iconst kcL_law dL_law_562 (by decide) rfl L S g
theorem eL_law_563 (L : pmL) (S : List Value) (g : pmH) : pmV mL_law 563 L S g = zIret mL_law S g := ez_ireturn kcL_law dL_law_563 L S g
theorem eL_law_564 (L : pmL) (S : List Value) (g : pmH) : pmV mL_law 564 L S g = zLdA mL_law 565 1 L S g := ez_aload_n kcL_law dL_law_564 rfl rfl L S g
theorem eL_law_565 (L : pmL) (S : List Value) (g : pmH) : pmV mL_law 565 L S g = zLdA mL_law 566 0 L S g := ez_aload_n kcL_law dL_law_565 rfl rfl L S g
theorem eL_law_566 (L : pmL) (S : List Value) (g : pmH) : pmV mL_law 566 L S g = zLdI mL_law 567 3 L S g := ez_iload_n kcL_law dL_law_566 rfl rfl L S g
theorem eL_law_567 (L : pmL) (S : List Value) (g : pmH) : pmV mL_law 567 L S g = zPush mL_law 568 (.int (nI 1)) L S g := ez_iconst kcL_law dL_law_567 (by decide) rfl L S g
theorem eL_law_568 (L : pmL) (S : List Value) (g : pmH) : pmV mL_law 568 L S g = zAdd mL_law 569 L S g := ez_iadd kcL_law dL_law_568 rfl L S g
theorem eL_law_569 (L : pmL) (S : List Value) (g : pmH) : pmV mL_law 569 L S g = zIald mL_law 570 L S g := ez_iaload kcL_law dL_law_569 rfl L S g
theorem eL_law_570 (L : pmL) (S : List Value) (g : pmH) : pmV mL_law 570 L S g = zLdA mL_law 571 0 L S g := ez_aload_n kcL_law dL_law_570 rfl rfl L S g
theorem eL_law_571 (L : pmL) (S : List Value) (g : pmH) : pmV mL_law 571 L S g = zLdI mL_law 572 3 L S g := ez_iload_n kcL_law dL_law_571 rfl rfl L S g
theorem eL_law_572 (L : pmL) (S : List Value) (g : pmH) : pmV mL_law 572 L S g = zPush mL_law 573 (.int (nI 2)) L S g := ez_iconst kcL_law dL_law_572 (by decide) rfl L S g
theorem eL_law_573 (L : pmL) (S : List Value) (g : pmH) : pmV mL_law 573 L S g = zAdd mL_law 574 L S g := ez_iadd kcL_law dL_law_573 rfl L S g
theorem eL_law_574 (L : pmL) (S : List Value) (g : pmH) : pmV mL_law 574 L S g = zIald mL_law 575 L S g := ez_iaload kcL_law dL_law_574 rfl L S g
theorem eL_law_575 (L : pmL) (S : List Value) (g : pmH) : pmV mL_law 575 L S g = yV mL_law 578 2 mX11_find 11 3 L S g := (ez_virtual kcL_law dL_law_575 ml_15_84 rfl L S g).trans (zCallV_y rfl rfl (by decide) L S g)
theorem eL_law_578 (L : pmL) (S : List Value) (g : pmH) : pmV mL_law 578 L S g = zLdA mL_law 579 2 L S g := ez_aload_n kcL_law dL_law_578 rfl rfl L S g
theorem eL_law_579 (L : pmL) (S : List Value) (g : pmH) : pmV mL_law 579 L S g = zLdA mL_law 580 0 L S g := ez_aload_n kcL_law dL_law_579 rfl rfl L S g
theorem eL_law_580 (L : pmL) (S : List Value) (g : pmH) : pmV mL_law 580 L S g = zLdI mL_law 581 3 L S g := ez_iload_n kcL_law dL_law_580 rfl rfl L S g
theorem eL_law_581 (L : pmL) (S : List Value) (g : pmH) : pmV mL_law 581 L S g = zPush mL_law 582 (.int (nI 1)) L S g := ez_iconst kcL_law dL_law_581 (by decide) rfl L S g
theorem eL_law_582 (L : pmL) (S : List Value) (g : pmH) : pmV mL_law 582 L S g = zAdd mL_law 583 L S g := ez_iadd kcL_law dL_law_582 rfl L S g
theorem eL_law_583 (L : pmL) (S : List Value) (g : pmH) : pmV mL_law 583 L S g = zIald mL_law 584 L S g := ez_iaload kcL_law dL_law_583 rfl L S g
theorem eL_law_584 (L : pmL) (S : List Value) (g : pmH) : pmV mL_law 584 L S g = zLdA mL_law 585 0 L S g := ez_aload_n kcL_law dL_law_584 rfl rfl L S g
theorem eL_law_585 (L : pmL) (S : List Value) (g : pmH) : pmV mL_law 585 L S g = zLdI mL_law 586 3 L S g := ez_iload_n kcL_law dL_law_585 rfl rfl L S g
theorem eL_law_586 (L : pmL) (S : List Value) (g : pmH) : pmV mL_law 586 L S g = zPush mL_law 587 (.int (nI 2)) L S g := ez_iconst kcL_law dL_law_586 (by decide) rfl L S g
theorem eL_law_587 (L : pmL) (S : List Value) (g : pmH) : pmV mL_law 587 L S g = zAdd mL_law 588 L S g := ez_iadd kcL_law dL_law_587 rfl L S g
theorem eL_law_588 (L : pmL) (S : List Value) (g : pmH) : pmV mL_law 588 L S g = zIald mL_law 589 L S g := ez_iaload kcL_law dL_law_588 rfl L S g
theorem eL_law_589 (L : pmL) (S : List Value) (g : pmH) : pmV mL_law 589 L S g = yV mL_law 592 2 mX12_find 12 3 L S g := (ez_virtual kcL_law dL_law_589 ml_15_87 rfl L S g).trans (zCallV_y rfl rfl (by decide) L S g)
theorem eL_law_592 (L : pmL) (S : List Value) (g : pmH) : pmV mL_law 592 L S g = zBeq mL_law 595 950 L S g := ez_icmp_eq kcL_law dL_law_592 (by decide) rfl L S g
theorem eL_law_595 (L : pmL) (S : List Value) (g : pmH) : pmV mL_law 595 L S g = zPush mL_law 596 (.int (nI 0)) L S g := ez_iconst kcL_law dL_law_595 (by decide) rfl L S g
theorem eL_law_596 (L : pmL) (S : List Value) (g : pmH) : pmV mL_law 596 L S g = zIret mL_law S g := ez_ireturn kcL_law dL_law_596 L S g
theorem eL_law_597 (L : pmL) (S : List Value) (g : pmH) : pmV mL_law 597 L S g = zLdA mL_law 598 1 L S g := ez_aload_n kcL_law dL_law_597 rfl rfl L S g
theorem eL_law_598 (L : pmL) (S : List Value) (g : pmH) : pmV mL_law 598 L S g = yV mL_law 601 0 mX11_lose 11 2 L S g := (ez_virtual kcL_law dL_law_598 ml_15_88 rfl L S g).trans (zCallV_y rfl rfl (by decide) L S g)
theorem eL_law_601 (L : pmL) (S : List Value) (g : pmH) : pmV mL_law 601 L S g = zLdA mL_law 602 2 L S g := ez_aload_n kcL_law dL_law_601 rfl rfl L S g
theorem eL_law_602 (L : pmL) (S : List Value) (g : pmH) : pmV mL_law 602 L S g = yV mL_law 605 0 mX12_lose 12 2 L S g := (ez_virtual kcL_law dL_law_602 ml_15_91 rfl L S g).trans (zCallV_y rfl rfl (by decide) L S g)
theorem eL_law_605 (L : pmL) (S : List Value) (g : pmH) : pmV mL_law 605 L S g = zBeq mL_law 608 950 L S g := ez_icmp_eq kcL_law dL_law_605 (by decide) rfl L S g
theorem eL_law_608 (L : pmL) (S : List Value) (g : pmH) : pmV mL_law 608 L S g = zPush mL_law 609 (.int (nI 0)) L S g := ez_iconst kcL_law dL_law_608 (by decide) rfl L S g
theorem eL_law_609 (L : pmL) (S : List Value) (g : pmH) : pmV mL_law 609 L S g = zIret mL_law S g := ez_ireturn kcL_law dL_law_609 L S g
theorem eL_law_610 (L : pmL) (S : List Value) (g : pmH) : pmV mL_law 610 L S g = zLdA mL_law 611 1 L S g := ez_aload_n kcL_law dL_law_610 rfl rfl L S g
theorem eL_law_611 (L : pmL) (S : List Value) (g : pmH) : pmV mL_law 611 L S g = zLdA mL_law 612 0 L S g := ez_aload_n kcL_law dL_law_611 rfl rfl L S g
theorem eL_law_612 (L : pmL) (S : List Value) (g : pmH) : pmV mL_law 612 L S g = zLdI mL_law 613 3 L S g := ez_iload_n kcL_law dL_law_612 rfl rfl L S g
theorem eL_law_613 (L : pmL) (S : List Value) (g : pmH) : pmV mL_law 613 L S g = zPush mL_law 614 (.int (nI 1)) L S g := ez_iconst kcL_law dL_law_613 (by decide) rfl L S g
theorem eL_law_614 (L : pmL) (S : List Value) (g : pmH) : pmV mL_law 614 L S g = zAdd mL_law 615 L S g := ez_iadd kcL_law dL_law_614 rfl L S g
theorem eL_law_615 (L : pmL) (S : List Value) (g : pmH) : pmV mL_law 615 L S g = zIald mL_law 616 L S g := ez_iaload kcL_law dL_law_615 rfl L S g
theorem eL_law_616 (L : pmL) (S : List Value) (g : pmH) : pmV mL_law 616 L S g = yV mL_law 619 1 mX11_began 11 2 L S g := (ez_virtual kcL_law dL_law_616 ml_15_92 rfl L S g).trans (zCallV_y rfl rfl (by decide) L S g)
theorem eL_law_619 (L : pmL) (S : List Value) (g : pmH) : pmV mL_law 619 L S g = zLdA mL_law 620 2 L S g := ez_aload_n kcL_law dL_law_619 rfl rfl L S g
theorem eL_law_620 (L : pmL) (S : List Value) (g : pmH) : pmV mL_law 620 L S g = zLdA mL_law 621 0 L S g := ez_aload_n kcL_law dL_law_620 rfl rfl L S g
theorem eL_law_621 (L : pmL) (S : List Value) (g : pmH) : pmV mL_law 621 L S g = zLdI mL_law 622 3 L S g := ez_iload_n kcL_law dL_law_621 rfl rfl L S g
theorem eL_law_622 (L : pmL) (S : List Value) (g : pmH) : pmV mL_law 622 L S g = zPush mL_law 623 (.int (nI 1)) L S g := ez_iconst kcL_law dL_law_622 (by decide) rfl L S g
theorem eL_law_623 (L : pmL) (S : List Value) (g : pmH) : pmV mL_law 623 L S g = zAdd mL_law 624 L S g := ez_iadd kcL_law dL_law_623 rfl L S g
theorem eL_law_624 (L : pmL) (S : List Value) (g : pmH) : pmV mL_law 624 L S g = zIald mL_law 625 L S g := ez_iaload kcL_law dL_law_624 rfl L S g
theorem eL_law_625 (L : pmL) (S : List Value) (g : pmH) : pmV mL_law 625 L S g = yV mL_law 628 1 mX12_began 12 6 L S g := (ez_virtual kcL_law dL_law_625 ml_15_95 rfl L S g).trans (zCallV_y rfl rfl (by decide) L S g)
theorem eL_law_628 (L : pmL) (S : List Value) (g : pmH) : pmV mL_law 628 L S g = zBeq mL_law 631 950 L S g := ez_icmp_eq kcL_law dL_law_628 (by decide) rfl L S g
theorem eL_law_631 (L : pmL) (S : List Value) (g : pmH) : pmV mL_law 631 L S g = zPush mL_law 632 (.int (nI 0)) L S g := ez_iconst kcL_law dL_law_631 (by decide) rfl L S g
theorem eL_law_632 (L : pmL) (S : List Value) (g : pmH) : pmV mL_law 632 L S g = zIret mL_law S g := ez_ireturn kcL_law dL_law_632 L S g
theorem eL_law_633 (L : pmL) (S : List Value) (g : pmH) : pmV mL_law 633 L S g = zLdA mL_law 634 1 L S g := ez_aload_n kcL_law dL_law_633 rfl rfl L S g
theorem eL_law_634 (L : pmL) (S : List Value) (g : pmH) : pmV mL_law 634 L S g = zLdA mL_law 635 0 L S g := ez_aload_n kcL_law dL_law_634 rfl rfl L S g
theorem eL_law_635 (L : pmL) (S : List Value) (g : pmH) : pmV mL_law 635 L S g = zLdI mL_law 636 3 L S g := ez_iload_n kcL_law dL_law_635 rfl rfl L S g
theorem eL_law_636 (L : pmL) (S : List Value) (g : pmH) : pmV mL_law 636 L S g = zPush mL_law 637 (.int (nI 1)) L S g := ez_iconst kcL_law dL_law_636 (by decide) rfl L S g
theorem eL_law_637 (L : pmL) (S : List Value) (g : pmH) : pmV mL_law 637 L S g = zAdd mL_law 638 L S g := ez_iadd kcL_law dL_law_637 rfl L S g
theorem eL_law_638 (L : pmL) (S : List Value) (g : pmH) : pmV mL_law 638 L S g = zIald mL_law 639 L S g := ez_iaload kcL_law dL_law_638 rfl L S g
theorem eL_law_639 (L : pmL) (S : List Value) (g : pmH) : pmV mL_law 639 L S g = zLdA mL_law 640 0 L S g := ez_aload_n kcL_law dL_law_639 rfl rfl L S g
theorem eL_law_640 (L : pmL) (S : List Value) (g : pmH) : pmV mL_law 640 L S g = zLdI mL_law 641 3 L S g := ez_iload_n kcL_law dL_law_640 rfl rfl L S g
theorem eL_law_641 (L : pmL) (S : List Value) (g : pmH) : pmV mL_law 641 L S g = zPush mL_law 642 (.int (nI 2)) L S g := ez_iconst kcL_law dL_law_641 (by decide) rfl L S g
theorem eL_law_642 (L : pmL) (S : List Value) (g : pmH) : pmV mL_law 642 L S g = zAdd mL_law 643 L S g := ez_iadd kcL_law dL_law_642 rfl L S g
theorem eL_law_643 (L : pmL) (S : List Value) (g : pmH) : pmV mL_law 643 L S g = zIald mL_law 644 L S g := ez_iaload kcL_law dL_law_643 rfl L S g
theorem eL_law_644 (L : pmL) (S : List Value) (g : pmH) : pmV mL_law 644 L S g = zCeq mL_law 647 651 L S g := ez_if_eq kcL_law dL_law_644 (by decide) rfl L S g
theorem eL_law_647 (L : pmL) (S : List Value) (g : pmH) : pmV mL_law 647 L S g = zPush mL_law 648 (.int (nI 1)) L S g := ez_iconst kcL_law dL_law_647 (by decide) rfl L S g
theorem eL_law_648 (L : pmL) (S : List Value) (g : pmH) : pmV mL_law 648 L S g = zNx mL_law 652 L S g := ez_goto kcL_law dL_law_648 (by decide) L S g
theorem eL_law_651 (L : pmL) (S : List Value) (g : pmH) : pmV mL_law 651 L S g = zPush mL_law 652 (.int (nI 0)) L S g := ez_iconst kcL_law dL_law_651 (by decide) rfl L S g
theorem eL_law_652 (L : pmL) (S : List Value) (g : pmH) : pmV mL_law 652 L S g = yV mL_law 655 2 mX11_share 11 4 L S g := (ez_virtual kcL_law dL_law_652 ml_15_96 rfl L S g).trans (zCallV_y rfl rfl (by decide) L S g)
theorem eL_law_655 (L : pmL) (S : List Value) (g : pmH) : pmV mL_law 655 L S g = zLdA mL_law 656 2 L S g := ez_aload_n kcL_law dL_law_655 rfl rfl L S g
theorem eL_law_656 (L : pmL) (S : List Value) (g : pmH) : pmV mL_law 656 L S g = zLdA mL_law 657 0 L S g := ez_aload_n kcL_law dL_law_656 rfl rfl L S g
theorem eL_law_657 (L : pmL) (S : List Value) (g : pmH) : pmV mL_law 657 L S g = zLdI mL_law 658 3 L S g := ez_iload_n kcL_law dL_law_657 rfl rfl L S g
theorem eL_law_658 (L : pmL) (S : List Value) (g : pmH) : pmV mL_law 658 L S g = zPush mL_law 659 (.int (nI 1)) L S g := ez_iconst kcL_law dL_law_658 (by decide) rfl L S g
theorem eL_law_659 (L : pmL) (S : List Value) (g : pmH) : pmV mL_law 659 L S g = zAdd mL_law 660 L S g := ez_iadd kcL_law dL_law_659 rfl L S g
theorem eL_law_660 (L : pmL) (S : List Value) (g : pmH) : pmV mL_law 660 L S g = zIald mL_law 661 L S g := ez_iaload kcL_law dL_law_660 rfl L S g
theorem eL_law_661 (L : pmL) (S : List Value) (g : pmH) : pmV mL_law 661 L S g = zLdA mL_law 662 0 L S g := ez_aload_n kcL_law dL_law_661 rfl rfl L S g
theorem eL_law_662 (L : pmL) (S : List Value) (g : pmH) : pmV mL_law 662 L S g = zLdI mL_law 663 3 L S g := ez_iload_n kcL_law dL_law_662 rfl rfl L S g
theorem eL_law_663 (L : pmL) (S : List Value) (g : pmH) : pmV mL_law 663 L S g = zPush mL_law 664 (.int (nI 2)) L S g := ez_iconst kcL_law dL_law_663 (by decide) rfl L S g
theorem eL_law_664 (L : pmL) (S : List Value) (g : pmH) : pmV mL_law 664 L S g = zAdd mL_law 665 L S g := ez_iadd kcL_law dL_law_664 rfl L S g
theorem eL_law_665 (L : pmL) (S : List Value) (g : pmH) : pmV mL_law 665 L S g = zIald mL_law 666 L S g := ez_iaload kcL_law dL_law_665 rfl L S g
theorem eL_law_666 (L : pmL) (S : List Value) (g : pmH) : pmV mL_law 666 L S g = zCeq mL_law 669 673 L S g := ez_if_eq kcL_law dL_law_666 (by decide) rfl L S g
theorem eL_law_669 (L : pmL) (S : List Value) (g : pmH) : pmV mL_law 669 L S g = zPush mL_law 670 (.int (nI 1)) L S g := ez_iconst kcL_law dL_law_669 (by decide) rfl L S g
theorem eL_law_670 (L : pmL) (S : List Value) (g : pmH) : pmV mL_law 670 L S g = zNx mL_law 674 L S g := ez_goto kcL_law dL_law_670 (by decide) L S g
theorem eL_law_673 (L : pmL) (S : List Value) (g : pmH) : pmV mL_law 673 L S g = zPush mL_law 674 (.int (nI 0)) L S g := ez_iconst kcL_law dL_law_673 (by decide) rfl L S g
theorem eL_law_674 (L : pmL) (S : List Value) (g : pmH) : pmV mL_law 674 L S g = yV mL_law 677 2 mX12_share 12 6 L S g := (ez_virtual kcL_law dL_law_674 ml_15_100 rfl L S g).trans (zCallV_y rfl rfl (by decide) L S g)
theorem eL_law_677 (L : pmL) (S : List Value) (g : pmH) : pmV mL_law 677 L S g = zBeq mL_law 680 950 L S g := ez_icmp_eq kcL_law dL_law_677 (by decide) rfl L S g
theorem eL_law_680 (L : pmL) (S : List Value) (g : pmH) : pmV mL_law 680 L S g = zPush mL_law 681 (.int (nI 0)) L S g := ez_iconst kcL_law dL_law_680 (by decide) rfl L S g
theorem eL_law_681 (L : pmL) (S : List Value) (g : pmH) : pmV mL_law 681 L S g = zIret mL_law S g := ez_ireturn kcL_law dL_law_681 L S g
theorem eL_law_682 (L : pmL) (S : List Value) (g : pmH) : pmV mL_law 682 L S g = zLdA mL_law 683 1 L S g := ez_aload_n kcL_law dL_law_682 rfl rfl L S g
theorem eL_law_683 (L : pmL) (S : List Value) (g : pmH) : pmV mL_law 683 L S g = zLdA mL_law 684 0 L S g := ez_aload_n kcL_law dL_law_683 rfl rfl L S g
theorem eL_law_684 (L : pmL) (S : List Value) (g : pmH) : pmV mL_law 684 L S g = zLdI mL_law 685 3 L S g := ez_iload_n kcL_law dL_law_684 rfl rfl L S g
theorem eL_law_685 (L : pmL) (S : List Value) (g : pmH) : pmV mL_law 685 L S g = zPush mL_law 686 (.int (nI 1)) L S g := ez_iconst kcL_law dL_law_685 (by decide) rfl L S g
theorem eL_law_686 (L : pmL) (S : List Value) (g : pmH) : pmV mL_law 686 L S g = zAdd mL_law 687 L S g := ez_iadd kcL_law dL_law_686 rfl L S g
theorem eL_law_687 (L : pmL) (S : List Value) (g : pmH) : pmV mL_law 687 L S g = zIald mL_law 688 L S g := ez_iaload kcL_law dL_law_687 rfl L S g
theorem eL_law_688 (L : pmL) (S : List Value) (g : pmH) : pmV mL_law 688 L S g = zLdA mL_law 689 0 L S g := ez_aload_n kcL_law dL_law_688 rfl rfl L S g
theorem eL_law_689 (L : pmL) (S : List Value) (g : pmH) : pmV mL_law 689 L S g = zLdI mL_law 690 3 L S g := ez_iload_n kcL_law dL_law_689 rfl rfl L S g
theorem eL_law_690 (L : pmL) (S : List Value) (g : pmH) : pmV mL_law 690 L S g = zPush mL_law 691 (.int (nI 2)) L S g := ez_iconst kcL_law dL_law_690 (by decide) rfl L S g
theorem eL_law_691 (L : pmL) (S : List Value) (g : pmH) : pmV mL_law 691 L S g = zAdd mL_law 692 L S g := ez_iadd kcL_law dL_law_691 rfl L S g
theorem eL_law_692 (L : pmL) (S : List Value) (g : pmH) : pmV mL_law 692 L S g = zIald mL_law 693 L S g := ez_iaload kcL_law dL_law_692 rfl L S g
theorem eL_law_693 (L : pmL) (S : List Value) (g : pmH) : pmV mL_law 693 L S g = zLdA mL_law 694 0 L S g := ez_aload_n kcL_law dL_law_693 rfl rfl L S g
theorem eL_law_694 (L : pmL) (S : List Value) (g : pmH) : pmV mL_law 694 L S g = zLdI mL_law 695 3 L S g := ez_iload_n kcL_law dL_law_694 rfl rfl L S g
theorem eL_law_695 (L : pmL) (S : List Value) (g : pmH) : pmV mL_law 695 L S g = zPush mL_law 696 (.int (nI 3)) L S g := ez_iconst kcL_law dL_law_695 (by decide) rfl L S g
theorem eL_law_696 (L : pmL) (S : List Value) (g : pmH) : pmV mL_law 696 L S g = zAdd mL_law 697 L S g := ez_iadd kcL_law dL_law_696 rfl L S g
theorem eL_law_697 (L : pmL) (S : List Value) (g : pmH) : pmV mL_law 697 L S g = zIald mL_law 698 L S g := ez_iaload kcL_law dL_law_697 rfl L S g
theorem eL_law_698 (L : pmL) (S : List Value) (g : pmH) : pmV mL_law 698 L S g = yV mL_law 701 3 mX11_rests 11 4 L S g := (ez_virtual kcL_law dL_law_698 ml_15_101 rfl L S g).trans (zCallV_y rfl rfl (by decide) L S g)
theorem eL_law_701 (L : pmL) (S : List Value) (g : pmH) : pmV mL_law 701 L S g = zLdA mL_law 702 2 L S g := ez_aload_n kcL_law dL_law_701 rfl rfl L S g
theorem eL_law_702 (L : pmL) (S : List Value) (g : pmH) : pmV mL_law 702 L S g = zLdA mL_law 703 0 L S g := ez_aload_n kcL_law dL_law_702 rfl rfl L S g
theorem eL_law_703 (L : pmL) (S : List Value) (g : pmH) : pmV mL_law 703 L S g = zLdI mL_law 704 3 L S g := ez_iload_n kcL_law dL_law_703 rfl rfl L S g
theorem eL_law_704 (L : pmL) (S : List Value) (g : pmH) : pmV mL_law 704 L S g = zPush mL_law 705 (.int (nI 1)) L S g := ez_iconst kcL_law dL_law_704 (by decide) rfl L S g
theorem eL_law_705 (L : pmL) (S : List Value) (g : pmH) : pmV mL_law 705 L S g = zAdd mL_law 706 L S g := ez_iadd kcL_law dL_law_705 rfl L S g
theorem eL_law_706 (L : pmL) (S : List Value) (g : pmH) : pmV mL_law 706 L S g = zIald mL_law 707 L S g := ez_iaload kcL_law dL_law_706 rfl L S g
theorem eL_law_707 (L : pmL) (S : List Value) (g : pmH) : pmV mL_law 707 L S g = zLdA mL_law 708 0 L S g := ez_aload_n kcL_law dL_law_707 rfl rfl L S g
theorem eL_law_708 (L : pmL) (S : List Value) (g : pmH) : pmV mL_law 708 L S g = zLdI mL_law 709 3 L S g := ez_iload_n kcL_law dL_law_708 rfl rfl L S g
theorem eL_law_709 (L : pmL) (S : List Value) (g : pmH) : pmV mL_law 709 L S g = zPush mL_law 710 (.int (nI 2)) L S g := ez_iconst kcL_law dL_law_709 (by decide) rfl L S g
theorem eL_law_710 (L : pmL) (S : List Value) (g : pmH) : pmV mL_law 710 L S g = zAdd mL_law 711 L S g := ez_iadd kcL_law dL_law_710 rfl L S g
theorem eL_law_711 (L : pmL) (S : List Value) (g : pmH) : pmV mL_law 711 L S g = zIald mL_law 712 L S g := ez_iaload kcL_law dL_law_711 rfl L S g
theorem eL_law_712 (L : pmL) (S : List Value) (g : pmH) : pmV mL_law 712 L S g = zLdA mL_law 713 0 L S g := ez_aload_n kcL_law dL_law_712 rfl rfl L S g
theorem eL_law_713 (L : pmL) (S : List Value) (g : pmH) : pmV mL_law 713 L S g = zLdI mL_law 714 3 L S g := ez_iload_n kcL_law dL_law_713 rfl rfl L S g
theorem eL_law_714 (L : pmL) (S : List Value) (g : pmH) : pmV mL_law 714 L S g = zPush mL_law 715 (.int (nI 3)) L S g := ez_iconst kcL_law dL_law_714 (by decide) rfl L S g
theorem eL_law_715 (L : pmL) (S : List Value) (g : pmH) : pmV mL_law 715 L S g = zAdd mL_law 716 L S g := ez_iadd kcL_law dL_law_715 rfl L S g
theorem eL_law_716 (L : pmL) (S : List Value) (g : pmH) : pmV mL_law 716 L S g = zIald mL_law 717 L S g := ez_iaload kcL_law dL_law_716 rfl L S g
theorem eL_law_717 (L : pmL) (S : List Value) (g : pmH) : pmV mL_law 717 L S g = yV mL_law 720 3 mX12_rests 12 7 L S g := (ez_virtual kcL_law dL_law_717 ml_15_104 rfl L S g).trans (zCallV_y rfl rfl (by decide) L S g)
theorem eL_law_720 (L : pmL) (S : List Value) (g : pmH) : pmV mL_law 720 L S g = zBeq mL_law 723 950 L S g := ez_icmp_eq kcL_law dL_law_720 (by decide) rfl L S g
theorem eL_law_723 (L : pmL) (S : List Value) (g : pmH) : pmV mL_law 723 L S g = zPush mL_law 724 (.int (nI 0)) L S g := ez_iconst kcL_law dL_law_723 (by decide) rfl L S g
theorem eL_law_724 (L : pmL) (S : List Value) (g : pmH) : pmV mL_law 724 L S g = zIret mL_law S g := ez_ireturn kcL_law dL_law_724 L S g
theorem eL_law_725 (L : pmL) (S : List Value) (g : pmH) : pmV mL_law 725 L S g = zLdA mL_law 726 1 L S g := ez_aload_n kcL_law dL_law_725 rfl rfl L S g
theorem eL_law_726 (L : pmL) (S : List Value) (g : pmH) : pmV mL_law 726 L S g = zLdA mL_law 727 0 L S g := ez_aload_n kcL_law dL_law_726 rfl rfl L S g
theorem eL_law_727 (L : pmL) (S : List Value) (g : pmH) : pmV mL_law 727 L S g = zLdI mL_law 728 3 L S g := ez_iload_n kcL_law dL_law_727 rfl rfl L S g
theorem eL_law_728 (L : pmL) (S : List Value) (g : pmH) : pmV mL_law 728 L S g = zPush mL_law 729 (.int (nI 1)) L S g := ez_iconst kcL_law dL_law_728 (by decide) rfl L S g
theorem eL_law_729 (L : pmL) (S : List Value) (g : pmH) : pmV mL_law 729 L S g = zAdd mL_law 730 L S g := ez_iadd kcL_law dL_law_729 rfl L S g
theorem eL_law_730 (L : pmL) (S : List Value) (g : pmH) : pmV mL_law 730 L S g = zIald mL_law 731 L S g := ez_iaload kcL_law dL_law_730 rfl L S g
theorem eL_law_731 (L : pmL) (S : List Value) (g : pmH) : pmV mL_law 731 L S g = zLdA mL_law 732 0 L S g := ez_aload_n kcL_law dL_law_731 rfl rfl L S g
theorem eL_law_732 (L : pmL) (S : List Value) (g : pmH) : pmV mL_law 732 L S g = zLdI mL_law 733 3 L S g := ez_iload_n kcL_law dL_law_732 rfl rfl L S g
theorem eL_law_733 (L : pmL) (S : List Value) (g : pmH) : pmV mL_law 733 L S g = zPush mL_law 734 (.int (nI 2)) L S g := ez_iconst kcL_law dL_law_733 (by decide) rfl L S g
theorem eL_law_734 (L : pmL) (S : List Value) (g : pmH) : pmV mL_law 734 L S g = zAdd mL_law 735 L S g := ez_iadd kcL_law dL_law_734 rfl L S g
theorem eL_law_735 (L : pmL) (S : List Value) (g : pmH) : pmV mL_law 735 L S g = zIald mL_law 736 L S g := ez_iaload kcL_law dL_law_735 rfl L S g
theorem eL_law_736 (L : pmL) (S : List Value) (g : pmH) : pmV mL_law 736 L S g = zLdA mL_law 737 0 L S g := ez_aload_n kcL_law dL_law_736 rfl rfl L S g
theorem eL_law_737 (L : pmL) (S : List Value) (g : pmH) : pmV mL_law 737 L S g = zLdI mL_law 738 3 L S g := ez_iload_n kcL_law dL_law_737 rfl rfl L S g
theorem eL_law_738 (L : pmL) (S : List Value) (g : pmH) : pmV mL_law 738 L S g = zPush mL_law 739 (.int (nI 3)) L S g := ez_iconst kcL_law dL_law_738 (by decide) rfl L S g
theorem eL_law_739 (L : pmL) (S : List Value) (g : pmH) : pmV mL_law 739 L S g = zAdd mL_law 740 L S g := ez_iadd kcL_law dL_law_739 rfl L S g
theorem eL_law_740 (L : pmL) (S : List Value) (g : pmH) : pmV mL_law 740 L S g = zIald mL_law 741 L S g := ez_iaload kcL_law dL_law_740 rfl L S g
theorem eL_law_741 (L : pmL) (S : List Value) (g : pmH) : pmV mL_law 741 L S g = zLdA mL_law 742 0 L S g := ez_aload_n kcL_law dL_law_741 rfl rfl L S g
theorem eL_law_742 (L : pmL) (S : List Value) (g : pmH) : pmV mL_law 742 L S g = zLdI mL_law 743 3 L S g := ez_iload_n kcL_law dL_law_742 rfl rfl L S g
theorem eL_law_743 (L : pmL) (S : List Value) (g : pmH) : pmV mL_law 743 L S g = zPush mL_law 744 (.int (nI 4)) L S g := ez_iconst kcL_law dL_law_743 (by decide) rfl L S g
theorem eL_law_744 (L : pmL) (S : List Value) (g : pmH) : pmV mL_law 744 L S g = zAdd mL_law 745 L S g := ez_iadd kcL_law dL_law_744 rfl L S g
theorem eL_law_745 (L : pmL) (S : List Value) (g : pmH) : pmV mL_law 745 L S g = zIald mL_law 746 L S g := ez_iaload kcL_law dL_law_745 rfl L S g
theorem eL_law_746 (L : pmL) (S : List Value) (g : pmH) : pmV mL_law 746 L S g = zLdA mL_law 747 0 L S g := ez_aload_n kcL_law dL_law_746 rfl rfl L S g
theorem eL_law_747 (L : pmL) (S : List Value) (g : pmH) : pmV mL_law 747 L S g = zLdI mL_law 748 3 L S g := ez_iload_n kcL_law dL_law_747 rfl rfl L S g
theorem eL_law_748 (L : pmL) (S : List Value) (g : pmH) : pmV mL_law 748 L S g = zPush mL_law 749 (.int (nI 5)) L S g := ez_iconst kcL_law dL_law_748 (by decide) rfl L S g
theorem eL_law_749 (L : pmL) (S : List Value) (g : pmH) : pmV mL_law 749 L S g = zAdd mL_law 750 L S g := ez_iadd kcL_law dL_law_749 rfl L S g
theorem eL_law_750 (L : pmL) (S : List Value) (g : pmH) : pmV mL_law 750 L S g = zIald mL_law 751 L S g := ez_iaload kcL_law dL_law_750 rfl L S g
theorem eL_law_751 (L : pmL) (S : List Value) (g : pmH) : pmV mL_law 751 L S g = zCeq mL_law 754 758 L S g := ez_if_eq kcL_law dL_law_751 (by decide) rfl L S g
theorem eL_law_754 (L : pmL) (S : List Value) (g : pmH) : pmV mL_law 754 L S g = zPush mL_law 755 (.int (nI 1)) L S g := ez_iconst kcL_law dL_law_754 (by decide) rfl L S g
theorem eL_law_755 (L : pmL) (S : List Value) (g : pmH) : pmV mL_law 755 L S g = zNx mL_law 759 L S g := ez_goto kcL_law dL_law_755 (by decide) L S g
theorem eL_law_758 (L : pmL) (S : List Value) (g : pmH) : pmV mL_law 758 L S g = zPush mL_law 759 (.int (nI 0)) L S g := ez_iconst kcL_law dL_law_758 (by decide) rfl L S g
theorem eL_law_759 (L : pmL) (S : List Value) (g : pmH) : pmV mL_law 759 L S g = yV mL_law 762 5 mX11_fails 11 7 L S g := (ez_virtual kcL_law dL_law_759 ml_15_105 rfl L S g).trans (zCallV_y rfl rfl (by decide) L S g)
theorem eL_law_762 (L : pmL) (S : List Value) (g : pmH) : pmV mL_law 762 L S g = zLdA mL_law 763 2 L S g := ez_aload_n kcL_law dL_law_762 rfl rfl L S g
theorem eL_law_763 (L : pmL) (S : List Value) (g : pmH) : pmV mL_law 763 L S g = zLdA mL_law 764 0 L S g := ez_aload_n kcL_law dL_law_763 rfl rfl L S g
theorem eL_law_764 (L : pmL) (S : List Value) (g : pmH) : pmV mL_law 764 L S g = zLdI mL_law 765 3 L S g := ez_iload_n kcL_law dL_law_764 rfl rfl L S g
theorem eL_law_765 (L : pmL) (S : List Value) (g : pmH) : pmV mL_law 765 L S g = zPush mL_law 766 (.int (nI 1)) L S g := ez_iconst kcL_law dL_law_765 (by decide) rfl L S g
theorem eL_law_766 (L : pmL) (S : List Value) (g : pmH) : pmV mL_law 766 L S g = zAdd mL_law 767 L S g := ez_iadd kcL_law dL_law_766 rfl L S g
theorem eL_law_767 (L : pmL) (S : List Value) (g : pmH) : pmV mL_law 767 L S g = zIald mL_law 768 L S g := ez_iaload kcL_law dL_law_767 rfl L S g
theorem eL_law_768 (L : pmL) (S : List Value) (g : pmH) : pmV mL_law 768 L S g = zLdA mL_law 769 0 L S g := ez_aload_n kcL_law dL_law_768 rfl rfl L S g
theorem eL_law_769 (L : pmL) (S : List Value) (g : pmH) : pmV mL_law 769 L S g = zLdI mL_law 770 3 L S g := ez_iload_n kcL_law dL_law_769 rfl rfl L S g
theorem eL_law_770 (L : pmL) (S : List Value) (g : pmH) : pmV mL_law 770 L S g = zPush mL_law 771 (.int (nI 2)) L S g := ez_iconst kcL_law dL_law_770 (by decide) rfl L S g
theorem eL_law_771 (L : pmL) (S : List Value) (g : pmH) : pmV mL_law 771 L S g = zAdd mL_law 772 L S g := ez_iadd kcL_law dL_law_771 rfl L S g
theorem eL_law_772 (L : pmL) (S : List Value) (g : pmH) : pmV mL_law 772 L S g = zIald mL_law 773 L S g := ez_iaload kcL_law dL_law_772 rfl L S g
theorem eL_law_773 (L : pmL) (S : List Value) (g : pmH) : pmV mL_law 773 L S g = zLdA mL_law 774 0 L S g := ez_aload_n kcL_law dL_law_773 rfl rfl L S g
theorem eL_law_774 (L : pmL) (S : List Value) (g : pmH) : pmV mL_law 774 L S g = zLdI mL_law 775 3 L S g := ez_iload_n kcL_law dL_law_774 rfl rfl L S g
theorem eL_law_775 (L : pmL) (S : List Value) (g : pmH) : pmV mL_law 775 L S g = zPush mL_law 776 (.int (nI 3)) L S g := ez_iconst kcL_law dL_law_775 (by decide) rfl L S g
theorem eL_law_776 (L : pmL) (S : List Value) (g : pmH) : pmV mL_law 776 L S g = zAdd mL_law 777 L S g := ez_iadd kcL_law dL_law_776 rfl L S g
theorem eL_law_777 (L : pmL) (S : List Value) (g : pmH) : pmV mL_law 777 L S g = zIald mL_law 778 L S g := ez_iaload kcL_law dL_law_777 rfl L S g
theorem eL_law_778 (L : pmL) (S : List Value) (g : pmH) : pmV mL_law 778 L S g = zLdA mL_law 779 0 L S g := ez_aload_n kcL_law dL_law_778 rfl rfl L S g
theorem eL_law_779 (L : pmL) (S : List Value) (g : pmH) : pmV mL_law 779 L S g = zLdI mL_law 780 3 L S g := ez_iload_n kcL_law dL_law_779 rfl rfl L S g
theorem eL_law_780 (L : pmL) (S : List Value) (g : pmH) : pmV mL_law 780 L S g = zPush mL_law 781 (.int (nI 4)) L S g := ez_iconst kcL_law dL_law_780 (by decide) rfl L S g
theorem eL_law_781 (L : pmL) (S : List Value) (g : pmH) : pmV mL_law 781 L S g = zAdd mL_law 782 L S g := ez_iadd kcL_law dL_law_781 rfl L S g
theorem eL_law_782 (L : pmL) (S : List Value) (g : pmH) : pmV mL_law 782 L S g = zIald mL_law 783 L S g := ez_iaload kcL_law dL_law_782 rfl L S g
theorem eL_law_783 (L : pmL) (S : List Value) (g : pmH) : pmV mL_law 783 L S g = zLdA mL_law 784 0 L S g := ez_aload_n kcL_law dL_law_783 rfl rfl L S g
theorem eL_law_784 (L : pmL) (S : List Value) (g : pmH) : pmV mL_law 784 L S g = zLdI mL_law 785 3 L S g := ez_iload_n kcL_law dL_law_784 rfl rfl L S g
theorem eL_law_785 (L : pmL) (S : List Value) (g : pmH) : pmV mL_law 785 L S g = zPush mL_law 786 (.int (nI 5)) L S g := ez_iconst kcL_law dL_law_785 (by decide) rfl L S g
theorem eL_law_786 (L : pmL) (S : List Value) (g : pmH) : pmV mL_law 786 L S g = zAdd mL_law 787 L S g := ez_iadd kcL_law dL_law_786 rfl L S g
theorem eL_law_787 (L : pmL) (S : List Value) (g : pmH) : pmV mL_law 787 L S g = zIald mL_law 788 L S g := ez_iaload kcL_law dL_law_787 rfl L S g
theorem eL_law_788 (L : pmL) (S : List Value) (g : pmH) : pmV mL_law 788 L S g = zCeq mL_law 791 795 L S g := ez_if_eq kcL_law dL_law_788 (by decide) rfl L S g
theorem eL_law_791 (L : pmL) (S : List Value) (g : pmH) : pmV mL_law 791 L S g = zPush mL_law 792 (.int (nI 1)) L S g := ez_iconst kcL_law dL_law_791 (by decide) rfl L S g
theorem eL_law_792 (L : pmL) (S : List Value) (g : pmH) : pmV mL_law 792 L S g = zNx mL_law 796 L S g := ez_goto kcL_law dL_law_792 (by decide) L S g
theorem eL_law_795 (L : pmL) (S : List Value) (g : pmH) : pmV mL_law 795 L S g = zPush mL_law 796 (.int (nI 0)) L S g := ez_iconst kcL_law dL_law_795 (by decide) rfl L S g
theorem eL_law_796 (L : pmL) (S : List Value) (g : pmH) : pmV mL_law 796 L S g = yV mL_law 799 5 mX12_fails 12 11 L S g := (ez_virtual kcL_law dL_law_796 ml_15_109 rfl L S g).trans (zCallV_y rfl rfl (by decide) L S g)
theorem eL_law_799 (L : pmL) (S : List Value) (g : pmH) : pmV mL_law 799 L S g = zBeq mL_law 802 950 L S g := ez_icmp_eq kcL_law dL_law_799 (by decide) rfl L S g
theorem eL_law_802 (L : pmL) (S : List Value) (g : pmH) : pmV mL_law 802 L S g = zPush mL_law 803 (.int (nI 0)) L S g := ez_iconst kcL_law dL_law_802 (by decide) rfl L S g
theorem eL_law_803 (L : pmL) (S : List Value) (g : pmH) : pmV mL_law 803 L S g = zIret mL_law S g := ez_ireturn kcL_law dL_law_803 L S g
theorem eL_law_804 (L : pmL) (S : List Value) (g : pmH) : pmV mL_law 804 L S g = zLdA mL_law 805 1 L S g := ez_aload_n kcL_law dL_law_804 rfl rfl L S g
theorem eL_law_805 (L : pmL) (S : List Value) (g : pmH) : pmV mL_law 805 L S g = zLdA mL_law 806 0 L S g := ez_aload_n kcL_law dL_law_805 rfl rfl L S g
theorem eL_law_806 (L : pmL) (S : List Value) (g : pmH) : pmV mL_law 806 L S g = zLdI mL_law 807 3 L S g := ez_iload_n kcL_law dL_law_806 rfl rfl L S g
theorem eL_law_807 (L : pmL) (S : List Value) (g : pmH) : pmV mL_law 807 L S g = zPush mL_law 808 (.int (nI 1)) L S g := ez_iconst kcL_law dL_law_807 (by decide) rfl L S g
theorem eL_law_808 (L : pmL) (S : List Value) (g : pmH) : pmV mL_law 808 L S g = zAdd mL_law 809 L S g := ez_iadd kcL_law dL_law_808 rfl L S g
theorem eL_law_809 (L : pmL) (S : List Value) (g : pmH) : pmV mL_law 809 L S g = zIald mL_law 810 L S g := ez_iaload kcL_law dL_law_809 rfl L S g
theorem eL_law_810 (L : pmL) (S : List Value) (g : pmH) : pmV mL_law 810 L S g = zI2l mL_law 811 L S g := ez_i2l kcL_law dL_law_810 rfl L S g
theorem eL_law_811 (L : pmL) (S : List Value) (g : pmH) : pmV mL_law 811 L S g = zPush mL_law 813 (.int (nI 32)) L S g := ez_bipush kcL_law dL_law_811 (by decide) rfl L S g
theorem eL_law_813 (L : pmL) (S : List Value) (g : pmH) : pmV mL_law 813 L S g = zJShl mL_law 814 L S g := ez_lshl kcL_law dL_law_813 rfl L S g
theorem eL_law_814 (L : pmL) (S : List Value) (g : pmH) : pmV mL_law 814 L S g = zLdA mL_law 815 0 L S g := ez_aload_n kcL_law dL_law_814 rfl rfl L S g
theorem eL_law_815 (L : pmL) (S : List Value) (g : pmH) : pmV mL_law 815 L S g = zLdI mL_law 816 3 L S g := ez_iload_n kcL_law dL_law_815 rfl rfl L S g
theorem eL_law_816 (L : pmL) (S : List Value) (g : pmH) : pmV mL_law 816 L S g = zPush mL_law 817 (.int (nI 2)) L S g := ez_iconst kcL_law dL_law_816 (by decide) rfl L S g
theorem eL_law_817 (L : pmL) (S : List Value) (g : pmH) : pmV mL_law 817 L S g = zAdd mL_law 818 L S g := ez_iadd kcL_law dL_law_817 rfl L S g
theorem eL_law_818 (L : pmL) (S : List Value) (g : pmH) : pmV mL_law 818 L S g = zIald mL_law 819 L S g := ez_iaload kcL_law dL_law_818 rfl L S g
theorem eL_law_819 (L : pmL) (S : List Value) (g : pmH) : pmV mL_law 819 L S g = zI2l mL_law 820 L S g := ez_i2l kcL_law dL_law_819 rfl L S g
theorem eL_law_820 (L : pmL) (S : List Value) (g : pmH) : pmV mL_law 820 L S g = zPush mL_law 823 (.long (lN 4294967295)) L S g := ez_ldc2_w kcL_law dL_law_820 jl_15_77 rfl L S g
theorem eL_law_823 (L : pmL) (S : List Value) (g : pmH) : pmV mL_law 823 L S g = zJAnd mL_law 824 L S g := ez_land kcL_law dL_law_823 rfl L S g
theorem eL_law_824 (L : pmL) (S : List Value) (g : pmH) : pmV mL_law 824 L S g = zJOr mL_law 825 L S g := ez_lor kcL_law dL_law_824 rfl L S g
theorem eL_law_825 (L : pmL) (S : List Value) (g : pmH) : pmV mL_law 825 L S g = yV mL_law 828 1 mX11_seed 11 5 L S g := (ez_virtual kcL_law dL_law_825 ml_15_110 rfl L S g).trans (zCallV_y rfl rfl (by decide) L S g)
theorem eL_law_828 (L : pmL) (S : List Value) (g : pmH) : pmV mL_law 828 L S g = zLdA mL_law 829 2 L S g := ez_aload_n kcL_law dL_law_828 rfl rfl L S g
theorem eL_law_829 (L : pmL) (S : List Value) (g : pmH) : pmV mL_law 829 L S g = zLdA mL_law 830 0 L S g := ez_aload_n kcL_law dL_law_829 rfl rfl L S g
theorem eL_law_830 (L : pmL) (S : List Value) (g : pmH) : pmV mL_law 830 L S g = zLdI mL_law 831 3 L S g := ez_iload_n kcL_law dL_law_830 rfl rfl L S g
theorem eL_law_831 (L : pmL) (S : List Value) (g : pmH) : pmV mL_law 831 L S g = zPush mL_law 832 (.int (nI 1)) L S g := ez_iconst kcL_law dL_law_831 (by decide) rfl L S g
theorem eL_law_832 (L : pmL) (S : List Value) (g : pmH) : pmV mL_law 832 L S g = zAdd mL_law 833 L S g := ez_iadd kcL_law dL_law_832 rfl L S g
theorem eL_law_833 (L : pmL) (S : List Value) (g : pmH) : pmV mL_law 833 L S g = zIald mL_law 834 L S g := ez_iaload kcL_law dL_law_833 rfl L S g
theorem eL_law_834 (L : pmL) (S : List Value) (g : pmH) : pmV mL_law 834 L S g = zI2l mL_law 835 L S g := ez_i2l kcL_law dL_law_834 rfl L S g
theorem eL_law_835 (L : pmL) (S : List Value) (g : pmH) : pmV mL_law 835 L S g = zPush mL_law 837 (.int (nI 32)) L S g := ez_bipush kcL_law dL_law_835 (by decide) rfl L S g
theorem eL_law_837 (L : pmL) (S : List Value) (g : pmH) : pmV mL_law 837 L S g = zJShl mL_law 838 L S g := ez_lshl kcL_law dL_law_837 rfl L S g
theorem eL_law_838 (L : pmL) (S : List Value) (g : pmH) : pmV mL_law 838 L S g = zLdA mL_law 839 0 L S g := ez_aload_n kcL_law dL_law_838 rfl rfl L S g
theorem eL_law_839 (L : pmL) (S : List Value) (g : pmH) : pmV mL_law 839 L S g = zLdI mL_law 840 3 L S g := ez_iload_n kcL_law dL_law_839 rfl rfl L S g
theorem eL_law_840 (L : pmL) (S : List Value) (g : pmH) : pmV mL_law 840 L S g = zPush mL_law 841 (.int (nI 2)) L S g := ez_iconst kcL_law dL_law_840 (by decide) rfl L S g
theorem eL_law_841 (L : pmL) (S : List Value) (g : pmH) : pmV mL_law 841 L S g = zAdd mL_law 842 L S g := ez_iadd kcL_law dL_law_841 rfl L S g
theorem eL_law_842 (L : pmL) (S : List Value) (g : pmH) : pmV mL_law 842 L S g = zIald mL_law 843 L S g := ez_iaload kcL_law dL_law_842 rfl L S g
theorem eL_law_843 (L : pmL) (S : List Value) (g : pmH) : pmV mL_law 843 L S g = zI2l mL_law 844 L S g := ez_i2l kcL_law dL_law_843 rfl L S g
theorem eL_law_844 (L : pmL) (S : List Value) (g : pmH) : pmV mL_law 844 L S g = zPush mL_law 847 (.long (lN 4294967295)) L S g := ez_ldc2_w kcL_law dL_law_844 jl_15_77 rfl L S g
theorem eL_law_847 (L : pmL) (S : List Value) (g : pmH) : pmV mL_law 847 L S g = zJAnd mL_law 848 L S g := ez_land kcL_law dL_law_847 rfl L S g
theorem eL_law_848 (L : pmL) (S : List Value) (g : pmH) : pmV mL_law 848 L S g = zJOr mL_law 849 L S g := ez_lor kcL_law dL_law_848 rfl L S g
theorem eL_law_849 (L : pmL) (S : List Value) (g : pmH) : pmV mL_law 849 L S g = yV mL_law 852 1 mX12_seed 12 5 L S g := (ez_virtual kcL_law dL_law_849 ml_15_114 rfl L S g).trans (zCallV_y rfl rfl (by decide) L S g)
theorem eL_law_852 (L : pmL) (S : List Value) (g : pmH) : pmV mL_law 852 L S g = zLcmp mL_law 853 L S g := ez_lcmp kcL_law dL_law_852 rfl L S g
theorem eL_law_853 (L : pmL) (S : List Value) (g : pmH) : pmV mL_law 853 L S g = zCeq mL_law 856 950 L S g := ez_if_eq kcL_law dL_law_853 (by decide) rfl L S g
theorem eL_law_856 (L : pmL) (S : List Value) (g : pmH) : pmV mL_law 856 L S g = zPush mL_law 857 (.int (nI 0)) L S g := ez_iconst kcL_law dL_law_856 (by decide) rfl L S g
theorem eL_law_857 (L : pmL) (S : List Value) (g : pmH) : pmV mL_law 857 L S g = zIret mL_law S g := ez_ireturn kcL_law dL_law_857 L S g
theorem eL_law_858 (L : pmL) (S : List Value) (g : pmH) : pmV mL_law 858 L S g = zLdA mL_law 859 1 L S g := ez_aload_n kcL_law dL_law_858 rfl rfl L S g
theorem eL_law_859 (L : pmL) (S : List Value) (g : pmH) : pmV mL_law 859 L S g = zLdA mL_law 860 0 L S g := ez_aload_n kcL_law dL_law_859 rfl rfl L S g
theorem eL_law_860 (L : pmL) (S : List Value) (g : pmH) : pmV mL_law 860 L S g = zLdI mL_law 861 3 L S g := ez_iload_n kcL_law dL_law_860 rfl rfl L S g
theorem eL_law_861 (L : pmL) (S : List Value) (g : pmH) : pmV mL_law 861 L S g = zPush mL_law 862 (.int (nI 1)) L S g := ez_iconst kcL_law dL_law_861 (by decide) rfl L S g
theorem eL_law_862 (L : pmL) (S : List Value) (g : pmH) : pmV mL_law 862 L S g = zAdd mL_law 863 L S g := ez_iadd kcL_law dL_law_862 rfl L S g
theorem eL_law_863 (L : pmL) (S : List Value) (g : pmH) : pmV mL_law 863 L S g = zIald mL_law 864 L S g := ez_iaload kcL_law dL_law_863 rfl L S g
theorem eL_law_864 (L : pmL) (S : List Value) (g : pmH) : pmV mL_law 864 L S g = yV mL_law 867 1 mX11_years 11 2 L S g := (ez_virtual kcL_law dL_law_864 ml_15_115 rfl L S g).trans (zCallV_y rfl rfl (by decide) L S g)
theorem eL_law_867 (L : pmL) (S : List Value) (g : pmH) : pmV mL_law 867 L S g = zLdA mL_law 868 2 L S g := ez_aload_n kcL_law dL_law_867 rfl rfl L S g
theorem eL_law_868 (L : pmL) (S : List Value) (g : pmH) : pmV mL_law 868 L S g = zLdA mL_law 869 0 L S g := ez_aload_n kcL_law dL_law_868 rfl rfl L S g
theorem eL_law_869 (L : pmL) (S : List Value) (g : pmH) : pmV mL_law 869 L S g = zLdI mL_law 870 3 L S g := ez_iload_n kcL_law dL_law_869 rfl rfl L S g
theorem eL_law_870 (L : pmL) (S : List Value) (g : pmH) : pmV mL_law 870 L S g = zPush mL_law 871 (.int (nI 1)) L S g := ez_iconst kcL_law dL_law_870 (by decide) rfl L S g
theorem eL_law_871 (L : pmL) (S : List Value) (g : pmH) : pmV mL_law 871 L S g = zAdd mL_law 872 L S g := ez_iadd kcL_law dL_law_871 rfl L S g
theorem eL_law_872 (L : pmL) (S : List Value) (g : pmH) : pmV mL_law 872 L S g = zIald mL_law 873 L S g := ez_iaload kcL_law dL_law_872 rfl L S g
theorem eL_law_873 (L : pmL) (S : List Value) (g : pmH) : pmV mL_law 873 L S g = yV mL_law 876 1 mX12_years 12 5 L S g := (ez_virtual kcL_law dL_law_873 ml_15_118 rfl L S g).trans (zCallV_y rfl rfl (by decide) L S g)
theorem eL_law_876 (L : pmL) (S : List Value) (g : pmH) : pmV mL_law 876 L S g = zBeq mL_law 879 950 L S g := ez_icmp_eq kcL_law dL_law_876 (by decide) rfl L S g
theorem eL_law_879 (L : pmL) (S : List Value) (g : pmH) : pmV mL_law 879 L S g = zPush mL_law 880 (.int (nI 0)) L S g := ez_iconst kcL_law dL_law_879 (by decide) rfl L S g
theorem eL_law_880 (L : pmL) (S : List Value) (g : pmH) : pmV mL_law 880 L S g = zIret mL_law S g := ez_ireturn kcL_law dL_law_880 L S g
theorem eL_law_881 (L : pmL) (S : List Value) (g : pmH) : pmV mL_law 881 L S g = zLdA mL_law 882 1 L S g := ez_aload_n kcL_law dL_law_881 rfl rfl L S g
theorem eL_law_882 (L : pmL) (S : List Value) (g : pmH) : pmV mL_law 882 L S g = zLdA mL_law 883 0 L S g := ez_aload_n kcL_law dL_law_882 rfl rfl L S g
theorem eL_law_883 (L : pmL) (S : List Value) (g : pmH) : pmV mL_law 883 L S g = zLdI mL_law 884 3 L S g := ez_iload_n kcL_law dL_law_883 rfl rfl L S g
theorem eL_law_884 (L : pmL) (S : List Value) (g : pmH) : pmV mL_law 884 L S g = zPush mL_law 885 (.int (nI 1)) L S g := ez_iconst kcL_law dL_law_884 (by decide) rfl L S g
theorem eL_law_885 (L : pmL) (S : List Value) (g : pmH) : pmV mL_law 885 L S g = zAdd mL_law 886 L S g := ez_iadd kcL_law dL_law_885 rfl L S g
theorem eL_law_886 (L : pmL) (S : List Value) (g : pmH) : pmV mL_law 886 L S g = zIald mL_law 887 L S g := ez_iaload kcL_law dL_law_886 rfl L S g
theorem eL_law_887 (L : pmL) (S : List Value) (g : pmH) : pmV mL_law 887 L S g = yV mL_law 890 1 mX11_keep 11 2 L S g := (ez_virtual kcL_law dL_law_887 ml_15_119 rfl L S g).trans (zCallV_y rfl rfl (by decide) L S g)
theorem eL_law_890 (L : pmL) (S : List Value) (g : pmH) : pmV mL_law 890 L S g = zLdA mL_law 891 2 L S g := ez_aload_n kcL_law dL_law_890 rfl rfl L S g
theorem eL_law_891 (L : pmL) (S : List Value) (g : pmH) : pmV mL_law 891 L S g = zLdA mL_law 892 0 L S g := ez_aload_n kcL_law dL_law_891 rfl rfl L S g
theorem eL_law_892 (L : pmL) (S : List Value) (g : pmH) : pmV mL_law 892 L S g = zLdI mL_law 893 3 L S g := ez_iload_n kcL_law dL_law_892 rfl rfl L S g
theorem eL_law_893 (L : pmL) (S : List Value) (g : pmH) : pmV mL_law 893 L S g = zPush mL_law 894 (.int (nI 1)) L S g := ez_iconst kcL_law dL_law_893 (by decide) rfl L S g
theorem eL_law_894 (L : pmL) (S : List Value) (g : pmH) : pmV mL_law 894 L S g = zAdd mL_law 895 L S g := ez_iadd kcL_law dL_law_894 rfl L S g
theorem eL_law_895 (L : pmL) (S : List Value) (g : pmH) : pmV mL_law 895 L S g = zIald mL_law 896 L S g := ez_iaload kcL_law dL_law_895 rfl L S g
theorem eL_law_896 (L : pmL) (S : List Value) (g : pmH) : pmV mL_law 896 L S g = yV mL_law 899 1 mX12_keep 12 3 L S g := (ez_virtual kcL_law dL_law_896 ml_15_122 rfl L S g).trans (zCallV_y rfl rfl (by decide) L S g)
theorem eL_law_899 (L : pmL) (S : List Value) (g : pmH) : pmV mL_law 899 L S g = zBeq mL_law 902 950 L S g := ez_icmp_eq kcL_law dL_law_899 (by decide) rfl L S g
theorem eL_law_902 (L : pmL) (S : List Value) (g : pmH) : pmV mL_law 902 L S g = zPush mL_law 903 (.int (nI 0)) L S g := ez_iconst kcL_law dL_law_902 (by decide) rfl L S g
theorem eL_law_903 (L : pmL) (S : List Value) (g : pmH) : pmV mL_law 903 L S g = zIret mL_law S g := ez_ireturn kcL_law dL_law_903 L S g
theorem eL_law_904 (L : pmL) (S : List Value) (g : pmH) : pmV mL_law 904 L S g = zLdA mL_law 905 1 L S g := ez_aload_n kcL_law dL_law_904 rfl rfl L S g
theorem eL_law_905 (L : pmL) (S : List Value) (g : pmH) : pmV mL_law 905 L S g = zLdA mL_law 906 0 L S g := ez_aload_n kcL_law dL_law_905 rfl rfl L S g
theorem eL_law_906 (L : pmL) (S : List Value) (g : pmH) : pmV mL_law 906 L S g = zLdI mL_law 907 3 L S g := ez_iload_n kcL_law dL_law_906 rfl rfl L S g
theorem eL_law_907 (L : pmL) (S : List Value) (g : pmH) : pmV mL_law 907 L S g = zPush mL_law 908 (.int (nI 1)) L S g := ez_iconst kcL_law dL_law_907 (by decide) rfl L S g
theorem eL_law_908 (L : pmL) (S : List Value) (g : pmH) : pmV mL_law 908 L S g = zAdd mL_law 909 L S g := ez_iadd kcL_law dL_law_908 rfl L S g
theorem eL_law_909 (L : pmL) (S : List Value) (g : pmH) : pmV mL_law 909 L S g = zIald mL_law 910 L S g := ez_iaload kcL_law dL_law_909 rfl L S g
theorem eL_law_910 (L : pmL) (S : List Value) (g : pmH) : pmV mL_law 910 L S g = yV mL_law 913 1 mX11_again 11 2 L S g := (ez_virtual kcL_law dL_law_910 ml_15_123 rfl L S g).trans (zCallV_y rfl rfl (by decide) L S g)
theorem eL_law_913 (L : pmL) (S : List Value) (g : pmH) : pmV mL_law 913 L S g = zLdA mL_law 914 2 L S g := ez_aload_n kcL_law dL_law_913 rfl rfl L S g
theorem eL_law_914 (L : pmL) (S : List Value) (g : pmH) : pmV mL_law 914 L S g = zLdA mL_law 915 0 L S g := ez_aload_n kcL_law dL_law_914 rfl rfl L S g
theorem eL_law_915 (L : pmL) (S : List Value) (g : pmH) : pmV mL_law 915 L S g = zLdI mL_law 916 3 L S g := ez_iload_n kcL_law dL_law_915 rfl rfl L S g
theorem eL_law_916 (L : pmL) (S : List Value) (g : pmH) : pmV mL_law 916 L S g = zPush mL_law 917 (.int (nI 1)) L S g := ez_iconst kcL_law dL_law_916 (by decide) rfl L S g
theorem eL_law_917 (L : pmL) (S : List Value) (g : pmH) : pmV mL_law 917 L S g = zAdd mL_law 918 L S g := ez_iadd kcL_law dL_law_917 rfl L S g
theorem eL_law_918 (L : pmL) (S : List Value) (g : pmH) : pmV mL_law 918 L S g = zIald mL_law 919 L S g := ez_iaload kcL_law dL_law_918 rfl L S g
theorem eL_law_919 (L : pmL) (S : List Value) (g : pmH) : pmV mL_law 919 L S g = yV mL_law 922 1 mX12_again 12 3 L S g := (ez_virtual kcL_law dL_law_919 ml_15_126 rfl L S g).trans (zCallV_y rfl rfl (by decide) L S g)
theorem eL_law_922 (L : pmL) (S : List Value) (g : pmH) : pmV mL_law 922 L S g = zBeq mL_law 925 950 L S g := ez_icmp_eq kcL_law dL_law_922 (by decide) rfl L S g
theorem eL_law_925 (L : pmL) (S : List Value) (g : pmH) : pmV mL_law 925 L S g = zPush mL_law 926 (.int (nI 0)) L S g := ez_iconst kcL_law dL_law_925 (by decide) rfl L S g
theorem eL_law_926 (L : pmL) (S : List Value) (g : pmH) : pmV mL_law 926 L S g = zIret mL_law S g := ez_ireturn kcL_law dL_law_926 L S g
theorem eL_law_927 (L : pmL) (S : List Value) (g : pmH) : pmV mL_law 927 L S g = zLdA mL_law 928 1 L S g := ez_aload_n kcL_law dL_law_927 rfl rfl L S g
theorem eL_law_928 (L : pmL) (S : List Value) (g : pmH) : pmV mL_law 928 L S g = zLdA mL_law 929 0 L S g := ez_aload_n kcL_law dL_law_928 rfl rfl L S g
theorem eL_law_929 (L : pmL) (S : List Value) (g : pmH) : pmV mL_law 929 L S g = zLdI mL_law 930 3 L S g := ez_iload_n kcL_law dL_law_929 rfl rfl L S g
theorem eL_law_930 (L : pmL) (S : List Value) (g : pmH) : pmV mL_law 930 L S g = zPush mL_law 931 (.int (nI 1)) L S g := ez_iconst kcL_law dL_law_930 (by decide) rfl L S g
theorem eL_law_931 (L : pmL) (S : List Value) (g : pmH) : pmV mL_law 931 L S g = zAdd mL_law 932 L S g := ez_iadd kcL_law dL_law_931 rfl L S g
theorem eL_law_932 (L : pmL) (S : List Value) (g : pmH) : pmV mL_law 932 L S g = zIald mL_law 933 L S g := ez_iaload kcL_law dL_law_932 rfl L S g
theorem eL_law_933 (L : pmL) (S : List Value) (g : pmH) : pmV mL_law 933 L S g = yV mL_law 936 1 mX11_count 11 2 L S g := (ez_virtual kcL_law dL_law_933 ml_15_127 rfl L S g).trans (zCallV_y rfl rfl (by decide) L S g)
theorem eL_law_936 (L : pmL) (S : List Value) (g : pmH) : pmV mL_law 936 L S g = zLdA mL_law 937 2 L S g := ez_aload_n kcL_law dL_law_936 rfl rfl L S g
theorem eL_law_937 (L : pmL) (S : List Value) (g : pmH) : pmV mL_law 937 L S g = zLdA mL_law 938 0 L S g := ez_aload_n kcL_law dL_law_937 rfl rfl L S g
theorem eL_law_938 (L : pmL) (S : List Value) (g : pmH) : pmV mL_law 938 L S g = zLdI mL_law 939 3 L S g := ez_iload_n kcL_law dL_law_938 rfl rfl L S g
theorem eL_law_939 (L : pmL) (S : List Value) (g : pmH) : pmV mL_law 939 L S g = zPush mL_law 940 (.int (nI 1)) L S g := ez_iconst kcL_law dL_law_939 (by decide) rfl L S g
theorem eL_law_940 (L : pmL) (S : List Value) (g : pmH) : pmV mL_law 940 L S g = zAdd mL_law 941 L S g := ez_iadd kcL_law dL_law_940 rfl L S g
theorem eL_law_941 (L : pmL) (S : List Value) (g : pmH) : pmV mL_law 941 L S g = zIald mL_law 942 L S g := ez_iaload kcL_law dL_law_941 rfl L S g
theorem eL_law_942 (L : pmL) (S : List Value) (g : pmH) : pmV mL_law 942 L S g = yV mL_law 945 1 mX12_count 12 2 L S g := (ez_virtual kcL_law dL_law_942 ml_15_130 rfl L S g).trans (zCallV_y rfl rfl (by decide) L S g)
theorem eL_law_945 (L : pmL) (S : List Value) (g : pmH) : pmV mL_law 945 L S g = zBeq mL_law 948 950 L S g := ez_icmp_eq kcL_law dL_law_945 (by decide) rfl L S g
theorem eL_law_948 (L : pmL) (S : List Value) (g : pmH) : pmV mL_law 948 L S g = zPush mL_law 949 (.int (nI 0)) L S g := ez_iconst kcL_law dL_law_948 (by decide) rfl L S g
theorem eL_law_949 (L : pmL) (S : List Value) (g : pmH) : pmV mL_law 949 L S g = zIret mL_law S g := ez_ireturn kcL_law dL_law_949 L S g
theorem eL_law_950 (L : pmL) (S : List Value) (g : pmH) : pmV mL_law 950 L S g = zInc mL_law 953 3 (nI 6) L S g := ez_iinc kcL_law dL_law_950 (by decide) rfl L S g
theorem eL_law_953 (L : pmL) (S : List Value) (g : pmH) : pmV mL_law 953 L S g = zNx mL_law 18 L S g := ez_goto kcL_law dL_law_953 (by decide) L S g
theorem eL_law_956 (L : pmL) (S : List Value) (g : pmH) : pmV mL_law 956 L S g = zPush mL_law 957 (.int (nI 1)) L S g := ez_iconst kcL_law dL_law_956 (by decide) rfl L S g
theorem eL_law_957 (L : pmL) (S : List Value) (g : pmH) : pmV mL_law 957 L S g = zIret mL_law S g := ez_ireturn kcL_law dL_law_957 L S g
