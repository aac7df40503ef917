theorem eX0_init_0 (L : pmL) (S : List Value) (g : pmH) : pmV mX0_init 0 L S g = zLdA mX0_init 1 0 L S g := ez_aload_n kcX0_init dX0_init_0 rfl rfl L S g
theorem eX0_init_1 (L : pmL) (S : List Value) (g : pmH) : pmV mX0_init 1 L S g = zObj mX0_init 4 L S g := ez_objinit kcX0_init dX0_init_1 ol_0_3 rfl L S g
theorem eX0_init_4 (L : pmL) (S : List Value) (g : pmH) : pmV mX0_init 4 L S g = zLdA mX0_init 5 0 L S g := ez_aload_n kcX0_init dX0_init_4 rfl rfl L S g
theorem eX0_init_5 (L : pmL) (S : List Value) (g : pmH) : pmV mX0_init 5 L S g = zPush mX0_init 7 (.int (nI 14)) L S g := ez_bipush kcX0_init dX0_init_5 (by decide) rfl L S g
theorem eX0_init_7 (L : pmL) (S : List Value) (g : pmH) : pmV mX0_init 7 L S g = zNewQ mX0_init 10 2 L S g := ez_anewarray kcX0_init dX0_init_7 cl_0_9 (by decide) rfl L S g
theorem eX0_init_10 (L : pmL) (S : List Value) (g : pmH) : pmV mX0_init 10 L S g = zPut mX0_init 13 0 0 L S g := ez_putfield kcX0_init dX0_init_10 fl_0_11 rfl L S g
theorem eX0_init_13 (L : pmL) (S : List Value) (g : pmH) : pmV mX0_init 13 L S g = zPush mX0_init 14 (.int (nI 0)) L S g := ez_iconst kcX0_init dX0_init_13 (by decide) rfl L S g
theorem eX0_init_14 (L : pmL) (S : List Value) (g : pmH) : pmV mX0_init 14 L S g = zStI mX0_init 15 2 L S g := ez_istore_n kcX0_init dX0_init_14 rfl rfl L S g
theorem eX0_init_15 (L : pmL) (S : List Value) (g : pmH) : pmV mX0_init 15 L S g = zLdI mX0_init 16 2 L S g := ez_iload_n kcX0_init dX0_init_15 rfl rfl L S g
theorem eX0_init_16 (L : pmL) (S : List Value) (g : pmH) : pmV mX0_init 16 L S g = zPush mX0_init 18 (.int (nI 14)) L S g := ez_bipush kcX0_init dX0_init_16 (by decide) rfl L S g
theorem eX0_init_18 (L : pmL) (S : List Value) (g : pmH) : pmV mX0_init 18 L S g = zBge mX0_init 21 41 L S g := ez_icmp_ge kcX0_init dX0_init_18 (by decide) rfl L S g
theorem eX0_init_21 (L : pmL) (S : List Value) (g : pmH) : pmV mX0_init 21 L S g = zLdA mX0_init 22 0 L S g := ez_aload_n kcX0_init dX0_init_21 rfl rfl L S g
theorem eX0_init_22 (L : pmL) (S : List Value) (g : pmH) : pmV mX0_init 22 L S g = zGet mX0_init 25 0 0 L S g := ez_getfield kcX0_init dX0_init_22 fl_0_11 rfl L S g
theorem eX0_init_25 (L : pmL) (S : List Value) (g : pmH) : pmV mX0_init 25 L S g = zLdI mX0_init 26 2 L S g := ez_iload_n kcX0_init dX0_init_25 rfl rfl L S g
theorem eX0_init_26 (L : pmL) (S : List Value) (g : pmH) : pmV mX0_init 26 L S g = zNew mX0_init 29 10 L S g := ez_new kcX0_init dX0_init_26 cl_0_9 (by decide) rfl L S g
theorem eX0_init_29 (L : pmL) (S : List Value) (g : pmH) : pmV mX0_init 29 L S g = zDup mX0_init 30 L S g := ez_dup kcX0_init dX0_init_29 rfl L S g
theorem eX0_init_30 (L : pmL) (S : List Value) (g : pmH) : pmV mX0_init 30 L S g = zLdA mX0_init 31 1 L S g := ez_aload_n kcX0_init dX0_init_30 rfl rfl L S g
theorem eX0_init_31 (L : pmL) (S : List Value) (g : pmH) : pmV mX0_init 31 L S g = yV mX0_init 34 1 mX10_init 10 3 L S g := (ez_special kcX0_init dX0_init_31 nl_0_17 ml_0_17 (by decide) rfl L S g).trans (zCallV_y rfl rfl (by decide) L S g)
theorem eX0_init_34 (L : pmL) (S : List Value) (g : pmH) : pmV mX0_init 34 L S g = zAast mX0_init 35 L S g := ez_aastore kcX0_init dX0_init_34 rfl L S g
theorem eX0_init_35 (L : pmL) (S : List Value) (g : pmH) : pmV mX0_init 35 L S g = zInc mX0_init 38 2 (nI 1) L S g := ez_iinc kcX0_init dX0_init_35 (by decide) rfl L S g
theorem eX0_init_38 (L : pmL) (S : List Value) (g : pmH) : pmV mX0_init 38 L S g = zNx mX0_init 15 L S g := ez_goto kcX0_init dX0_init_38 (by decide) L S g
theorem eX0_init_41 (L : pmL) (S : List Value) (g : pmH) : pmV mX0_init 41 L S g = zVret S g := ez_return kcX0_init dX0_init_41 rfl L S g
theorem eX0_forget_0 (L : pmL) (S : List Value) (g : pmH) : pmV mX0_forget 0 L S g = zLdA mX0_forget 1 0 L S g := ez_aload_n kcX0_forget dX0_forget_0 rfl rfl L S g
theorem eX0_forget_1 (L : pmL) (S : List Value) (g : pmH) : pmV mX0_forget 1 L S g = zPush mX0_forget 2 (.int (nI 0)) L S g := ez_iconst kcX0_forget dX0_forget_1 (by decide) rfl L S g
theorem eX0_forget_2 (L : pmL) (S : List Value) (g : pmH) : pmV mX0_forget 2 L S g = zPut mX0_forget 5 0 1 L S g := ez_putfield kcX0_forget dX0_forget_2 fl_0_20 rfl L S g
theorem eX0_forget_5 (L : pmL) (S : List Value) (g : pmH) : pmV mX0_forget 5 L S g = zLdA mX0_forget 6 0 L S g := ez_aload_n kcX0_forget dX0_forget_5 rfl rfl L S g
theorem eX0_forget_6 (L : pmL) (S : List Value) (g : pmH) : pmV mX0_forget 6 L S g = zPush mX0_forget 7 (.int (nI 0)) L S g := ez_iconst kcX0_forget dX0_forget_6 (by decide) rfl L S g
theorem eX0_forget_7 (L : pmL) (S : List Value) (g : pmH) : pmV mX0_forget 7 L S g = zPut mX0_forget 10 0 2 L S g := ez_putfield kcX0_forget dX0_forget_7 fl_0_24 rfl L S g
theorem eX0_forget_10 (L : pmL) (S : List Value) (g : pmH) : pmV mX0_forget 10 L S g = zVret S g := ez_return kcX0_forget dX0_forget_10 rfl L S g
theorem eX0_remember_0 (L : pmL) (S : List Value) (g : pmH) : pmV mX0_remember 0 L S g = zLdA mX0_remember 1 0 L S g := ez_aload_n kcX0_remember dX0_remember_0 rfl rfl L S g
theorem eX0_remember_1 (L : pmL) (S : List Value) (g : pmH) : pmV mX0_remember 1 L S g = zGet mX0_remember 4 0 2 L S g := ez_getfield kcX0_remember dX0_remember_1 fl_0_24 rfl L S g
theorem eX0_remember_4 (L : pmL) (S : List Value) (g : pmH) : pmV mX0_remember 4 L S g = zPush mX0_remember 6 (.int (nI 14)) L S g := ez_bipush kcX0_remember dX0_remember_4 (by decide) rfl L S g
theorem eX0_remember_6 (L : pmL) (S : List Value) (g : pmH) : pmV mX0_remember 6 L S g = zBne mX0_remember 9 32 L S g := ez_icmp_ne kcX0_remember dX0_remember_6 (by decide) rfl L S g
theorem eX0_remember_9 (L : pmL) (S : List Value) (g : pmH) : pmV mX0_remember 9 L S g = zLdA mX0_remember 10 0 L S g := ez_aload_n kcX0_remember dX0_remember_9 rfl rfl L S g
theorem eX0_remember_10 (L : pmL) (S : List Value) (g : pmH) : pmV mX0_remember 10 L S g = zLdA mX0_remember 11 0 L S g := ez_aload_n kcX0_remember dX0_remember_10 rfl rfl L S g
theorem eX0_remember_11 (L : pmL) (S : List Value) (g : pmH) : pmV mX0_remember 11 L S g = zGet mX0_remember 14 0 1 L S g := ez_getfield kcX0_remember dX0_remember_11 fl_0_20 rfl L S g
theorem eX0_remember_14 (L : pmL) (S : List Value) (g : pmH) : pmV mX0_remember 14 L S g = zPush mX0_remember 15 (.int (nI 1)) L S g := ez_iconst kcX0_remember dX0_remember_14 (by decide) rfl L S g
theorem eX0_remember_15 (L : pmL) (S : List Value) (g : pmH) : pmV mX0_remember 15 L S g = zAdd mX0_remember 16 L S g := ez_iadd kcX0_remember dX0_remember_15 rfl L S g
theorem eX0_remember_16 (L : pmL) (S : List Value) (g : pmH) : pmV mX0_remember 16 L S g = zPush mX0_remember 18 (.int (nI 14)) L S g := ez_bipush kcX0_remember dX0_remember_16 (by decide) rfl L S g
theorem eX0_remember_18 (L : pmL) (S : List Value) (g : pmH) : pmV mX0_remember 18 L S g = zRem mX0_remember 19 L S g := ez_irem kcX0_remember dX0_remember_18 rfl L S g
theorem eX0_remember_19 (L : pmL) (S : List Value) (g : pmH) : pmV mX0_remember 19 L S g = zPut mX0_remember 22 0 1 L S g := ez_putfield kcX0_remember dX0_remember_19 fl_0_20 rfl L S g
theorem eX0_remember_22 (L : pmL) (S : List Value) (g : pmH) : pmV mX0_remember 22 L S g = zLdA mX0_remember 23 0 L S g := ez_aload_n kcX0_remember dX0_remember_22 rfl rfl L S g
theorem eX0_remember_23 (L : pmL) (S : List Value) (g : pmH) : pmV mX0_remember 23 L S g = zDup mX0_remember 24 L S g := ez_dup kcX0_remember dX0_remember_23 rfl L S g
theorem eX0_remember_24 (L : pmL) (S : List Value) (g : pmH) : pmV mX0_remember 24 L S g = zGet mX0_remember 27 0 2 L S g := ez_getfield kcX0_remember dX0_remember_24 fl_0_24 rfl L S g
theorem eX0_remember_27 (L : pmL) (S : List Value) (g : pmH) : pmV mX0_remember 27 L S g = zPush mX0_remember 28 (.int (nI 1)) L S g := ez_iconst kcX0_remember dX0_remember_27 (by decide) rfl L S g
theorem eX0_remember_28 (L : pmL) (S : List Value) (g : pmH) : pmV mX0_remember 28 L S g = zSub mX0_remember 29 L S g := ez_isub kcX0_remember dX0_remember_28 rfl L S g
theorem eX0_remember_29 (L : pmL) (S : List Value) (g : pmH) : pmV mX0_remember 29 L S g = zPut mX0_remember 32 0 2 L S g := ez_putfield kcX0_remember dX0_remember_29 fl_0_24 rfl L S g
theorem eX0_remember_32 (L : pmL) (S : List Value) (g : pmH) : pmV mX0_remember 32 L S g = zLdA mX0_remember 33 0 L S g := ez_aload_n kcX0_remember dX0_remember_32 rfl rfl L S g
theorem eX0_remember_33 (L : pmL) (S : List Value) (g : pmH) : pmV mX0_remember 33 L S g = zGet mX0_remember 36 0 0 L S g := ez_getfield kcX0_remember dX0_remember_33 fl_0_11 rfl L S g
theorem eX0_remember_36 (L : pmL) (S : List Value) (g : pmH) : pmV mX0_remember 36 L S g = zLdA mX0_remember 37 0 L S g := ez_aload_n kcX0_remember dX0_remember_36 rfl rfl L S g
theorem eX0_remember_37 (L : pmL) (S : List Value) (g : pmH) : pmV mX0_remember 37 L S g = zGet mX0_remember 40 0 1 L S g := ez_getfield kcX0_remember dX0_remember_37 fl_0_20 rfl L S g
theorem eX0_remember_40 (L : pmL) (S : List Value) (g : pmH) : pmV mX0_remember 40 L S g = zLdA mX0_remember 41 0 L S g := ez_aload_n kcX0_remember dX0_remember_40 rfl rfl L S g
theorem eX0_remember_41 (L : pmL) (S : List Value) (g : pmH) : pmV mX0_remember 41 L S g = zGet mX0_remember 44 0 2 L S g := ez_getfield kcX0_remember dX0_remember_41 fl_0_24 rfl L S g
theorem eX0_remember_44 (L : pmL) (S : List Value) (g : pmH) : pmV mX0_remember 44 L S g = zAdd mX0_remember 45 L S g := ez_iadd kcX0_remember dX0_remember_44 rfl L S g
theorem eX0_remember_45 (L : pmL) (S : List Value) (g : pmH) : pmV mX0_remember 45 L S g = zPush mX0_remember 47 (.int (nI 14)) L S g := ez_bipush kcX0_remember dX0_remember_45 (by decide) rfl L S g
theorem eX0_remember_47 (L : pmL) (S : List Value) (g : pmH) : pmV mX0_remember 47 L S g = zRem mX0_remember 48 L S g := ez_irem kcX0_remember dX0_remember_47 rfl L S g
theorem eX0_remember_48 (L : pmL) (S : List Value) (g : pmH) : pmV mX0_remember 48 L S g = zAald mX0_remember 49 L S g := ez_aaload kcX0_remember dX0_remember_48 rfl L S g
theorem eX0_remember_49 (L : pmL) (S : List Value) (g : pmH) : pmV mX0_remember 49 L S g = zLdA mX0_remember 50 1 L S g := ez_aload_n kcX0_remember dX0_remember_49 rfl rfl L S g
theorem eX0_remember_50 (L : pmL) (S : List Value) (g : pmH) : pmV mX0_remember 50 L S g = yV mX0_remember 53 1 mX10_takeFrom 10 3 L S g := (ez_virtual kcX0_remember dX0_remember_50 ml_0_27 rfl L S g).trans (zCallV_y rfl rfl (by decide) L S g)
theorem eX0_remember_53 (L : pmL) (S : List Value) (g : pmH) : pmV mX0_remember 53 L S g = zLdA mX0_remember 54 0 L S g := ez_aload_n kcX0_remember dX0_remember_53 rfl rfl L S g
theorem eX0_remember_54 (L : pmL) (S : List Value) (g : pmH) : pmV mX0_remember 54 L S g = zDup mX0_remember 55 L S g := ez_dup kcX0_remember dX0_remember_54 rfl L S g
theorem eX0_remember_55 (L : pmL) (S : List Value) (g : pmH) : pmV mX0_remember 55 L S g = zGet mX0_remember 58 0 2 L S g := ez_getfield kcX0_remember dX0_remember_55 fl_0_24 rfl L S g
theorem eX0_remember_58 (L : pmL) (S : List Value) (g : pmH) : pmV mX0_remember 58 L S g = zPush mX0_remember 59 (.int (nI 1)) L S g := ez_iconst kcX0_remember dX0_remember_58 (by decide) rfl L S g
theorem eX0_remember_59 (L : pmL) (S : List Value) (g : pmH) : pmV mX0_remember 59 L S g = zAdd mX0_remember 60 L S g := ez_iadd kcX0_remember dX0_remember_59 rfl L S g
theorem eX0_remember_60 (L : pmL) (S : List Value) (g : pmH) : pmV mX0_remember 60 L S g = zPut mX0_remember 63 0 2 L S g := ez_putfield kcX0_remember dX0_remember_60 fl_0_24 rfl L S g
theorem eX0_remember_63 (L : pmL) (S : List Value) (g : pmH) : pmV mX0_remember 63 L S g = zVret S g := ez_return kcX0_remember dX0_remember_63 rfl L S g
theorem eX0_takeBack_0 (L : pmL) (S : List Value) (g : pmH) : pmV mX0_takeBack 0 L S g = zLdA mX0_takeBack 1 0 L S g := ez_aload_n kcX0_takeBack dX0_takeBack_0 rfl rfl L S g
theorem eX0_takeBack_1 (L : pmL) (S : List Value) (g : pmH) : pmV mX0_takeBack 1 L S g = zGet mX0_takeBack 4 0 2 L S g := ez_getfield kcX0_takeBack dX0_takeBack_1 fl_0_24 rfl L S g
theorem eX0_takeBack_4 (L : pmL) (S : List Value) (g : pmH) : pmV mX0_takeBack 4 L S g = zCne mX0_takeBack 7 8 L S g := ez_if_ne kcX0_takeBack dX0_takeBack_4 (by decide) rfl L S g
theorem eX0_takeBack_7 (L : pmL) (S : List Value) (g : pmH) : pmV mX0_takeBack 7 L S g = zVret S g := ez_return kcX0_takeBack dX0_takeBack_7 rfl L S g
theorem eX0_takeBack_8 (L : pmL) (S : List Value) (g : pmH) : pmV mX0_takeBack 8 L S g = zLdA mX0_takeBack 9 0 L S g := ez_aload_n kcX0_takeBack dX0_takeBack_8 rfl rfl L S g
theorem eX0_takeBack_9 (L : pmL) (S : List Value) (g : pmH) : pmV mX0_takeBack 9 L S g = zDup mX0_takeBack 10 L S g := ez_dup kcX0_takeBack dX0_takeBack_9 rfl L S g
theorem eX0_takeBack_10 (L : pmL) (S : List Value) (g : pmH) : pmV mX0_takeBack 10 L S g = zGet mX0_takeBack 13 0 2 L S g := ez_getfield kcX0_takeBack dX0_takeBack_10 fl_0_24 rfl L S g
theorem eX0_takeBack_13 (L : pmL) (S : List Value) (g : pmH) : pmV mX0_takeBack 13 L S g = zPush mX0_takeBack 14 (.int (nI 1)) L S g := ez_iconst kcX0_takeBack dX0_takeBack_13 (by decide) rfl L S g
theorem eX0_takeBack_14 (L : pmL) (S : List Value) (g : pmH) : pmV mX0_takeBack 14 L S g = zSub mX0_takeBack 15 L S g := ez_isub kcX0_takeBack dX0_takeBack_14 rfl L S g
theorem eX0_takeBack_15 (L : pmL) (S : List Value) (g : pmH) : pmV mX0_takeBack 15 L S g = zPut mX0_takeBack 18 0 2 L S g := ez_putfield kcX0_takeBack dX0_takeBack_15 fl_0_24 rfl L S g
theorem eX0_takeBack_18 (L : pmL) (S : List Value) (g : pmH) : pmV mX0_takeBack 18 L S g = zLdA mX0_takeBack 19 1 L S g := ez_aload_n kcX0_takeBack dX0_takeBack_18 rfl rfl L S g
theorem eX0_takeBack_19 (L : pmL) (S : List Value) (g : pmH) : pmV mX0_takeBack 19 L S g = zLdA mX0_takeBack 20 0 L S g := ez_aload_n kcX0_takeBack dX0_takeBack_19 rfl rfl L S g
theorem eX0_takeBack_20 (L : pmL) (S : List Value) (g : pmH) : pmV mX0_takeBack 20 L S g = zGet mX0_takeBack 23 0 0 L S g := ez_getfield kcX0_takeBack dX0_takeBack_20 fl_0_11 rfl L S g
theorem eX0_takeBack_23 (L : pmL) (S : List Value) (g : pmH) : pmV mX0_takeBack 23 L S g = zLdA mX0_takeBack 24 0 L S g := ez_aload_n kcX0_takeBack dX0_takeBack_23 rfl rfl L S g
theorem eX0_takeBack_24 (L : pmL) (S : List Value) (g : pmH) : pmV mX0_takeBack 24 L S g = zGet mX0_takeBack 27 0 1 L S g := ez_getfield kcX0_takeBack dX0_takeBack_24 fl_0_20 rfl L S g
theorem eX0_takeBack_27 (L : pmL) (S : List Value) (g : pmH) : pmV mX0_takeBack 27 L S g = zLdA mX0_takeBack 28 0 L S g := ez_aload_n kcX0_takeBack dX0_takeBack_27 rfl rfl L S g
theorem eX0_takeBack_28 (L : pmL) (S : List Value) (g : pmH) : pmV mX0_takeBack 28 L S g = zGet mX0_takeBack 31 0 2 L S g := ez_getfield kcX0_takeBack dX0_takeBack_28 fl_0_24 rfl L S g
theorem eX0_takeBack_31 (L : pmL) (S : List Value) (g : pmH) : pmV mX0_takeBack 31 L S g = zAdd mX0_takeBack 32 L S g := ez_iadd kcX0_takeBack dX0_takeBack_31 rfl L S g
theorem eX0_takeBack_32 (L : pmL) (S : List Value) (g : pmH) : pmV mX0_takeBack 32 L S g = zPush mX0_takeBack 34 (.int (nI 14)) L S g := ez_bipush kcX0_takeBack dX0_takeBack_32 (by decide) rfl L S g
theorem eX0_takeBack_34 (L : pmL) (S : List Value) (g : pmH) : pmV mX0_takeBack 34 L S g = zRem mX0_takeBack 35 L S g := ez_irem kcX0_takeBack dX0_takeBack_34 rfl L S g
theorem eX0_takeBack_35 (L : pmL) (S : List Value) (g : pmH) : pmV mX0_takeBack 35 L S g = zAald mX0_takeBack 36 L S g := ez_aaload kcX0_takeBack dX0_takeBack_35 rfl L S g
theorem eX0_takeBack_36 (L : pmL) (S : List Value) (g : pmH) : pmV mX0_takeBack 36 L S g = yV mX0_takeBack 39 1 mX10_takeFrom 10 3 L S g := (ez_virtual kcX0_takeBack dX0_takeBack_36 ml_0_27 rfl L S g).trans (zCallV_y rfl rfl (by decide) L S g)
theorem eX0_takeBack_39 (L : pmL) (S : List Value) (g : pmH) : pmV mX0_takeBack 39 L S g = zVret S g := ez_return kcX0_takeBack dX0_takeBack_39 rfl L S g
theorem eX1_init_0 (L : pmL) (S : List Value) (g : pmH) : pmV mX1_init 0 L S g = zLdA mX1_init 1 0 L S g := ez_aload_n kcX1_init dX1_init_0 rfl rfl L S g
theorem eX1_init_1 (L : pmL) (S : List Value) (g : pmH) : pmV mX1_init 1 L S g = zObj mX1_init 4 L S g := ez_objinit kcX1_init dX1_init_1 ol_1_3 rfl L S g
theorem eX1_init_4 (L : pmL) (S : List Value) (g : pmH) : pmV mX1_init 4 L S g = zLdA mX1_init 5 0 L S g := ez_aload_n kcX1_init dX1_init_4 rfl rfl L S g
theorem eX1_init_5 (L : pmL) (S : List Value) (g : pmH) : pmV mX1_init 5 L S g = zPush mX1_init 7 (.int (-9)) L S g := ez_bipush kcX1_init dX1_init_5 (by decide) rfl L S g
theorem eX1_init_7 (L : pmL) (S : List Value) (g : pmH) : pmV mX1_init 7 L S g = zPut mX1_init 10 1 3 L S g := ez_putfield kcX1_init dX1_init_7 fl_1_9 rfl L S g
theorem eX1_init_10 (L : pmL) (S : List Value) (g : pmH) : pmV mX1_init 10 L S g = zVret S g := ez_return kcX1_init dX1_init_10 rfl L S g
theorem eX1_holdAt_0 (L : pmL) (S : List Value) (g : pmH) : pmV mX1_holdAt 0 L S g = zLdA mX1_holdAt 1 0 L S g := ez_aload_n kcX1_holdAt dX1_holdAt_0 rfl rfl L S g
theorem eX1_holdAt_1 (L : pmL) (S : List Value) (g : pmH) : pmV mX1_holdAt 1 L S g = zLdI mX1_holdAt 2 2 L S g := ez_iload_n kcX1_holdAt dX1_holdAt_1 rfl rfl L S g
theorem eX1_holdAt_2 (L : pmL) (S : List Value) (g : pmH) : pmV mX1_holdAt 2 L S g = zPut mX1_holdAt 5 1 0 L S g := ez_putfield kcX1_holdAt dX1_holdAt_2 fl_1_15 rfl L S g
theorem eX1_holdAt_5 (L : pmL) (S : List Value) (g : pmH) : pmV mX1_holdAt 5 L S g = zLdA mX1_holdAt 6 0 L S g := ez_aload_n kcX1_holdAt dX1_holdAt_5 rfl rfl L S g
theorem eX1_holdAt_6 (L : pmL) (S : List Value) (g : pmH) : pmV mX1_holdAt 6 L S g = zLdI mX1_holdAt 7 1 L S g := ez_iload_n kcX1_holdAt dX1_holdAt_6 rfl rfl L S g
theorem eX1_holdAt_7 (L : pmL) (S : List Value) (g : pmH) : pmV mX1_holdAt 7 L S g = zPut mX1_holdAt 10 1 1 L S g := ez_putfield kcX1_holdAt dX1_holdAt_7 fl_1_18 rfl L S g
theorem eX1_holdAt_10 (L : pmL) (S : List Value) (g : pmH) : pmV mX1_holdAt 10 L S g = zLdA mX1_holdAt 11 0 L S g := ez_aload_n kcX1_holdAt dX1_holdAt_10 rfl rfl L S g
theorem eX1_holdAt_11 (L : pmL) (S : List Value) (g : pmH) : pmV mX1_holdAt 11 L S g = zPush mX1_holdAt 12 (.int (nI 0)) L S g := ez_iconst kcX1_holdAt dX1_holdAt_11 (by decide) rfl L S g
theorem eX1_holdAt_12 (L : pmL) (S : List Value) (g : pmH) : pmV mX1_holdAt 12 L S g = zPut mX1_holdAt 15 1 2 L S g := ez_putfield kcX1_holdAt dX1_holdAt_12 fl_1_21 rfl L S g
theorem eX1_holdAt_15 (L : pmL) (S : List Value) (g : pmH) : pmV mX1_holdAt 15 L S g = zLdA mX1_holdAt 16 0 L S g := ez_aload_n kcX1_holdAt dX1_holdAt_15 rfl rfl L S g
theorem eX1_holdAt_16 (L : pmL) (S : List Value) (g : pmH) : pmV mX1_holdAt 16 L S g = zPush mX1_holdAt 18 (.int (-9)) L S g := ez_bipush kcX1_holdAt dX1_holdAt_16 (by decide) rfl L S g
theorem eX1_holdAt_18 (L : pmL) (S : List Value) (g : pmH) : pmV mX1_holdAt 18 L S g = zPut mX1_holdAt 21 1 3 L S g := ez_putfield kcX1_holdAt dX1_holdAt_18 fl_1_9 rfl L S g
theorem eX1_holdAt_21 (L : pmL) (S : List Value) (g : pmH) : pmV mX1_holdAt 21 L S g = zLdA mX1_holdAt 22 0 L S g := ez_aload_n kcX1_holdAt dX1_holdAt_21 rfl rfl L S g
theorem eX1_holdAt_22 (L : pmL) (S : List Value) (g : pmH) : pmV mX1_holdAt 22 L S g = zPush mX1_holdAt 23 (.int (nI 0)) L S g := ez_iconst kcX1_holdAt dX1_holdAt_22 (by decide) rfl L S g
theorem eX1_holdAt_23 (L : pmL) (S : List Value) (g : pmH) : pmV mX1_holdAt 23 L S g = zPut mX1_holdAt 26 1 4 L S g := ez_putfield kcX1_holdAt dX1_holdAt_23 fl_1_24 rfl L S g
theorem eX1_holdAt_26 (L : pmL) (S : List Value) (g : pmH) : pmV mX1_holdAt 26 L S g = zLdA mX1_holdAt 27 0 L S g := ez_aload_n kcX1_holdAt dX1_holdAt_26 rfl rfl L S g
theorem eX1_holdAt_27 (L : pmL) (S : List Value) (g : pmH) : pmV mX1_holdAt 27 L S g = zPush mX1_holdAt 28 (.int (nI 0)) L S g := ez_iconst kcX1_holdAt dX1_holdAt_27 (by decide) rfl L S g
theorem eX1_holdAt_28 (L : pmL) (S : List Value) (g : pmH) : pmV mX1_holdAt 28 L S g = zPut mX1_holdAt 31 1 5 L S g := ez_putfield kcX1_holdAt dX1_holdAt_28 fl_1_27 rfl L S g
theorem eX1_holdAt_31 (L : pmL) (S : List Value) (g : pmH) : pmV mX1_holdAt 31 L S g = zLdA mX1_holdAt 32 0 L S g := ez_aload_n kcX1_holdAt dX1_holdAt_31 rfl rfl L S g
theorem eX1_holdAt_32 (L : pmL) (S : List Value) (g : pmH) : pmV mX1_holdAt 32 L S g = zLdI mX1_holdAt 33 3 L S g := ez_iload_n kcX1_holdAt dX1_holdAt_32 rfl rfl L S g
theorem eX1_holdAt_33 (L : pmL) (S : List Value) (g : pmH) : pmV mX1_holdAt 33 L S g = zPut mX1_holdAt 36 1 6 L S g := ez_putfield kcX1_holdAt dX1_holdAt_33 fl_1_30 rfl L S g
theorem eX1_holdAt_36 (L : pmL) (S : List Value) (g : pmH) : pmV mX1_holdAt 36 L S g = zVret S g := ez_return kcX1_holdAt dX1_holdAt_36 rfl L S g
theorem eX1_takeFrom_0 (L : pmL) (S : List Value) (g : pmH) : pmV mX1_takeFrom 0 L S g = zLdA mX1_takeFrom 1 0 L S g := ez_aload_n kcX1_takeFrom dX1_takeFrom_0 rfl rfl L S g
theorem eX1_takeFrom_1 (L : pmL) (S : List Value) (g : pmH) : pmV mX1_takeFrom 1 L S g = zLdA mX1_takeFrom 2 1 L S g := ez_aload_n kcX1_takeFrom dX1_takeFrom_1 rfl rfl L S g
theorem eX1_takeFrom_2 (L : pmL) (S : List Value) (g : pmH) : pmV mX1_takeFrom 2 L S g = zGet mX1_takeFrom 5 1 0 L S g := ez_getfield kcX1_takeFrom dX1_takeFrom_2 fl_1_15 rfl L S g
theorem eX1_takeFrom_5 (L : pmL) (S : List Value) (g : pmH) : pmV mX1_takeFrom 5 L S g = zPut mX1_takeFrom 8 1 0 L S g := ez_putfield kcX1_takeFrom dX1_takeFrom_5 fl_1_15 rfl L S g
theorem eX1_takeFrom_8 (L : pmL) (S : List Value) (g : pmH) : pmV mX1_takeFrom 8 L S g = zLdA mX1_takeFrom 9 0 L S g := ez_aload_n kcX1_takeFrom dX1_takeFrom_8 rfl rfl L S g
theorem eX1_takeFrom_9 (L : pmL) (S : List Value) (g : pmH) : pmV mX1_takeFrom 9 L S g = zLdA mX1_takeFrom 10 1 L S g := ez_aload_n kcX1_takeFrom dX1_takeFrom_9 rfl rfl L S g
theorem eX1_takeFrom_10 (L : pmL) (S : List Value) (g : pmH) : pmV mX1_takeFrom 10 L S g = zGet mX1_takeFrom 13 1 1 L S g := ez_getfield kcX1_takeFrom dX1_takeFrom_10 fl_1_18 rfl L S g
theorem eX1_takeFrom_13 (L : pmL) (S : List Value) (g : pmH) : pmV mX1_takeFrom 13 L S g = zPut mX1_takeFrom 16 1 1 L S g := ez_putfield kcX1_takeFrom dX1_takeFrom_13 fl_1_18 rfl L S g
theorem eX1_takeFrom_16 (L : pmL) (S : List Value) (g : pmH) : pmV mX1_takeFrom 16 L S g = zLdA mX1_takeFrom 17 0 L S g := ez_aload_n kcX1_takeFrom dX1_takeFrom_16 rfl rfl L S g
theorem eX1_takeFrom_17 (L : pmL) (S : List Value) (g : pmH) : pmV mX1_takeFrom 17 L S g = zLdA mX1_takeFrom 18 1 L S g := ez_aload_n kcX1_takeFrom dX1_takeFrom_17 rfl rfl L S g
theorem eX1_takeFrom_18 (L : pmL) (S : List Value) (g : pmH) : pmV mX1_takeFrom 18 L S g = zGet mX1_takeFrom 21 1 2 L S g := ez_getfield kcX1_takeFrom dX1_takeFrom_18 fl_1_21 rfl L S g
theorem eX1_takeFrom_21 (L : pmL) (S : List Value) (g : pmH) : pmV mX1_takeFrom 21 L S g = zPut mX1_takeFrom 24 1 2 L S g := ez_putfield kcX1_takeFrom dX1_takeFrom_21 fl_1_21 rfl L S g
theorem eX1_takeFrom_24 (L : pmL) (S : List Value) (g : pmH) : pmV mX1_takeFrom 24 L S g = zLdA mX1_takeFrom 25 0 L S g := ez_aload_n kcX1_takeFrom dX1_takeFrom_24 rfl rfl L S g
theorem eX1_takeFrom_25 (L : pmL) (S : List Value) (g : pmH) : pmV mX1_takeFrom 25 L S g = zLdA mX1_takeFrom 26 1 L S g := ez_aload_n kcX1_takeFrom dX1_takeFrom_25 rfl rfl L S g
theorem eX1_takeFrom_26 (L : pmL) (S : List Value) (g : pmH) : pmV mX1_takeFrom 26 L S g = zGet mX1_takeFrom 29 1 3 L S g := ez_getfield kcX1_takeFrom dX1_takeFrom_26 fl_1_9 rfl L S g
theorem eX1_takeFrom_29 (L : pmL) (S : List Value) (g : pmH) : pmV mX1_takeFrom 29 L S g = zPut mX1_takeFrom 32 1 3 L S g := ez_putfield kcX1_takeFrom dX1_takeFrom_29 fl_1_9 rfl L S g
theorem eX1_takeFrom_32 (L : pmL) (S : List Value) (g : pmH) : pmV mX1_takeFrom 32 L S g = zLdA mX1_takeFrom 33 0 L S g := ez_aload_n kcX1_takeFrom dX1_takeFrom_32 rfl rfl L S g
theorem eX1_takeFrom_33 (L : pmL) (S : List Value) (g : pmH) : pmV mX1_takeFrom 33 L S g = zLdA mX1_takeFrom 34 1 L S g := ez_aload_n kcX1_takeFrom dX1_takeFrom_33 rfl rfl L S g
theorem eX1_takeFrom_34 (L : pmL) (S : List Value) (g : pmH) : pmV mX1_takeFrom 34 L S g = zGet mX1_takeFrom 37 1 4 L S g := ez_getfield kcX1_takeFrom dX1_takeFrom_34 fl_1_24 rfl L S g
theorem eX1_takeFrom_37 (L : pmL) (S : List Value) (g : pmH) : pmV mX1_takeFrom 37 L S g = zPut mX1_takeFrom 40 1 4 L S g := ez_putfield kcX1_takeFrom dX1_takeFrom_37 fl_1_24 rfl L S g
theorem eX1_takeFrom_40 (L : pmL) (S : List Value) (g : pmH) : pmV mX1_takeFrom 40 L S g = zLdA mX1_takeFrom 41 0 L S g := ez_aload_n kcX1_takeFrom dX1_takeFrom_40 rfl rfl L S g
theorem eX1_takeFrom_41 (L : pmL) (S : List Value) (g : pmH) : pmV mX1_takeFrom 41 L S g = zLdA mX1_takeFrom 42 1 L S g := ez_aload_n kcX1_takeFrom dX1_takeFrom_41 rfl rfl L S g
theorem eX1_takeFrom_42 (L : pmL) (S : List Value) (g : pmH) : pmV mX1_takeFrom 42 L S g = zGet mX1_takeFrom 45 1 5 L S g := ez_getfield kcX1_takeFrom dX1_takeFrom_42 fl_1_27 rfl L S g
theorem eX1_takeFrom_45 (L : pmL) (S : List Value) (g : pmH) : pmV mX1_takeFrom 45 L S g = zPut mX1_takeFrom 48 1 5 L S g := ez_putfield kcX1_takeFrom dX1_takeFrom_45 fl_1_27 rfl L S g
theorem eX1_takeFrom_48 (L : pmL) (S : List Value) (g : pmH) : pmV mX1_takeFrom 48 L S g = zLdA mX1_takeFrom 49 0 L S g := ez_aload_n kcX1_takeFrom dX1_takeFrom_48 rfl rfl L S g
theorem eX1_takeFrom_49 (L : pmL) (S : List Value) (g : pmH) : pmV mX1_takeFrom 49 L S g = zLdA mX1_takeFrom 50 1 L S g := ez_aload_n kcX1_takeFrom dX1_takeFrom_49 rfl rfl L S g
theorem eX1_takeFrom_50 (L : pmL) (S : List Value) (g : pmH) : pmV mX1_takeFrom 50 L S g = zGet mX1_takeFrom 53 1 6 L S g := ez_getfield kcX1_takeFrom dX1_takeFrom_50 fl_1_30 rfl L S g
theorem eX1_takeFrom_53 (L : pmL) (S : List Value) (g : pmH) : pmV mX1_takeFrom 53 L S g = zPut mX1_takeFrom 56 1 6 L S g := ez_putfield kcX1_takeFrom dX1_takeFrom_53 fl_1_30 rfl L S g
theorem eX1_takeFrom_56 (L : pmL) (S : List Value) (g : pmH) : pmV mX1_takeFrom 56 L S g = zVret S g := ez_return kcX1_takeFrom dX1_takeFrom_56 rfl L S g
theorem eX1_goBy_0 (L : pmL) (S : List Value) (g : pmH) : pmV mX1_goBy 0 L S g = zLdA mX1_goBy 1 0 L S g := ez_aload_n kcX1_goBy dX1_goBy_0 rfl rfl L S g
theorem eX1_goBy_1 (L : pmL) (S : List Value) (g : pmH) : pmV mX1_goBy 1 L S g = zGet mX1_goBy 4 1 2 L S g := ez_getfield kcX1_goBy dX1_goBy_1 fl_1_21 rfl L S g
theorem eX1_goBy_4 (L : pmL) (S : List Value) (g : pmH) : pmV mX1_goBy 4 L S g = zPush mX1_goBy 5 (.int (nI 1)) L S g := ez_iconst kcX1_goBy dX1_goBy_4 (by decide) rfl L S g
theorem eX1_goBy_5 (L : pmL) (S : List Value) (g : pmH) : pmV mX1_goBy 5 L S g = zBne mX1_goBy 8 22 L S g := ez_icmp_ne kcX1_goBy dX1_goBy_5 (by decide) rfl L S g
theorem eX1_goBy_8 (L : pmL) (S : List Value) (g : pmH) : pmV mX1_goBy 8 L S g = zLdA mX1_goBy 9 0 L S g := ez_aload_n kcX1_goBy dX1_goBy_8 rfl rfl L S g
theorem eX1_goBy_9 (L : pmL) (S : List Value) (g : pmH) : pmV mX1_goBy 9 L S g = zGet mX1_goBy 12 1 0 L S g := ez_getfield kcX1_goBy dX1_goBy_9 fl_1_15 rfl L S g
theorem eX1_goBy_12 (L : pmL) (S : List Value) (g : pmH) : pmV mX1_goBy 12 L S g = zPush mX1_goBy 13 (.int (nI 2)) L S g := ez_iconst kcX1_goBy dX1_goBy_12 (by decide) rfl L S g
theorem eX1_goBy_13 (L : pmL) (S : List Value) (g : pmH) : pmV mX1_goBy 13 L S g = zBne mX1_goBy 16 23 L S g := ez_icmp_ne kcX1_goBy dX1_goBy_13 (by decide) rfl L S g
theorem eX1_goBy_16 (L : pmL) (S : List Value) (g : pmH) : pmV mX1_goBy 16 L S g = zLdI mX1_goBy 17 2 L S g := ez_iload_n kcX1_goBy dX1_goBy_16 rfl rfl L S g
theorem eX1_goBy_17 (L : pmL) (S : List Value) (g : pmH) : pmV mX1_goBy 17 L S g = zPush mX1_goBy 18 (.int (nI 1)) L S g := ez_iconst kcX1_goBy dX1_goBy_17 (by decide) rfl L S g
theorem eX1_goBy_18 (L : pmL) (S : List Value) (g : pmH) : pmV mX1_goBy 18 L S g = zAnd mX1_goBy 19 L S g := ez_iand kcX1_goBy dX1_goBy_18 rfl L S g
theorem eX1_goBy_19 (L : pmL) (S : List Value) (g : pmH) : pmV mX1_goBy 19 L S g = zCeq mX1_goBy 22 23 L S g := ez_if_eq kcX1_goBy dX1_goBy_19 (by decide) rfl L S g
theorem eX1_goBy_22 (L : pmL) (S : List Value) (g : pmH) : pmV mX1_goBy 22 L S g = zVret S g := ez_return kcX1_goBy dX1_goBy_22 rfl L S g
theorem eX1_goBy_23 (L : pmL) (S : List Value) (g : pmH) : pmV mX1_goBy 23 L S g = zLdA mX1_goBy 24 0 L S g := ez_aload_n kcX1_goBy dX1_goBy_23 rfl rfl L S g
theorem eX1_goBy_24 (L : pmL) (S : List Value) (g : pmH) : pmV mX1_goBy 24 L S g = zGet mX1_goBy 27 1 0 L S g := ez_getfield kcX1_goBy dX1_goBy_24 fl_1_15 rfl L S g
theorem eX1_goBy_27 (L : pmL) (S : List Value) (g : pmH) : pmV mX1_goBy 27 L S g = zPush mX1_goBy 28 (.int (nI 1)) L S g := ez_iconst kcX1_goBy dX1_goBy_27 (by decide) rfl L S g
theorem eX1_goBy_28 (L : pmL) (S : List Value) (g : pmH) : pmV mX1_goBy 28 L S g = zBne mX1_goBy 31 43 L S g := ez_icmp_ne kcX1_goBy dX1_goBy_28 (by decide) rfl L S g
theorem eX1_goBy_31 (L : pmL) (S : List Value) (g : pmH) : pmV mX1_goBy 31 L S g = zLdA mX1_goBy 32 0 L S g := ez_aload_n kcX1_goBy dX1_goBy_31 rfl rfl L S g
theorem eX1_goBy_32 (L : pmL) (S : List Value) (g : pmH) : pmV mX1_goBy 32 L S g = zGet mX1_goBy 35 1 5 L S g := ez_getfield kcX1_goBy dX1_goBy_32 fl_1_27 rfl L S g
theorem eX1_goBy_35 (L : pmL) (S : List Value) (g : pmH) : pmV mX1_goBy 35 L S g = zCne mX1_goBy 38 43 L S g := ez_if_ne kcX1_goBy dX1_goBy_35 (by decide) rfl L S g
theorem eX1_goBy_38 (L : pmL) (S : List Value) (g : pmH) : pmV mX1_goBy 38 L S g = zLdA mX1_goBy 39 0 L S g := ez_aload_n kcX1_goBy dX1_goBy_38 rfl rfl L S g
theorem eX1_goBy_39 (L : pmL) (S : List Value) (g : pmH) : pmV mX1_goBy 39 L S g = zLdI mX1_goBy 40 1 L S g := ez_iload_n kcX1_goBy dX1_goBy_39 rfl rfl L S g
theorem eX1_goBy_40 (L : pmL) (S : List Value) (g : pmH) : pmV mX1_goBy 40 L S g = zPut mX1_goBy 43 1 5 L S g := ez_putfield kcX1_goBy dX1_goBy_40 fl_1_27 rfl L S g
theorem eX1_goBy_43 (L : pmL) (S : List Value) (g : pmH) : pmV mX1_goBy 43 L S g = zLdA mX1_goBy 44 0 L S g := ez_aload_n kcX1_goBy dX1_goBy_43 rfl rfl L S g
theorem eX1_goBy_44 (L : pmL) (S : List Value) (g : pmH) : pmV mX1_goBy 44 L S g = zGet mX1_goBy 47 1 0 L S g := ez_getfield kcX1_goBy dX1_goBy_44 fl_1_15 rfl L S g
theorem eX1_goBy_47 (L : pmL) (S : List Value) (g : pmH) : pmV mX1_goBy 47 L S g = zPush mX1_goBy 48 (.int (nI 1)) L S g := ez_iconst kcX1_goBy dX1_goBy_47 (by decide) rfl L S g
theorem eX1_goBy_48 (L : pmL) (S : List Value) (g : pmH) : pmV mX1_goBy 48 L S g = zBne mX1_goBy 51 58 L S g := ez_icmp_ne kcX1_goBy dX1_goBy_48 (by decide) rfl L S g
theorem eX1_goBy_51 (L : pmL) (S : List Value) (g : pmH) : pmV mX1_goBy 51 L S g = zLdA mX1_goBy 52 0 L S g := ez_aload_n kcX1_goBy dX1_goBy_51 rfl rfl L S g
theorem eX1_goBy_52 (L : pmL) (S : List Value) (g : pmH) : pmV mX1_goBy 52 L S g = zGet mX1_goBy 55 1 5 L S g := ez_getfield kcX1_goBy dX1_goBy_52 fl_1_27 rfl L S g
theorem eX1_goBy_55 (L : pmL) (S : List Value) (g : pmH) : pmV mX1_goBy 55 L S g = zNx mX1_goBy 59 L S g := ez_goto kcX1_goBy dX1_goBy_55 (by decide) L S g
theorem eX1_goBy_58 (L : pmL) (S : List Value) (g : pmH) : pmV mX1_goBy 58 L S g = zLdI mX1_goBy 59 1 L S g := ez_iload_n kcX1_goBy dX1_goBy_58 rfl rfl L S g
theorem eX1_goBy_59 (L : pmL) (S : List Value) (g : pmH) : pmV mX1_goBy 59 L S g = zStI mX1_goBy 60 3 L S g := ez_istore_n kcX1_goBy dX1_goBy_59 rfl rfl L S g
theorem eX1_goBy_60 (L : pmL) (S : List Value) (g : pmH) : pmV mX1_goBy 60 L S g = zLdA mX1_goBy 61 0 L S g := ez_aload_n kcX1_goBy dX1_goBy_60 rfl rfl L S g
theorem eX1_goBy_61 (L : pmL) (S : List Value) (g : pmH) : pmV mX1_goBy 61 L S g = zLdI mX1_goBy 62 3 L S g := ez_iload_n kcX1_goBy dX1_goBy_61 rfl rfl L S g
theorem eX1_goBy_62 (L : pmL) (S : List Value) (g : pmH) : pmV mX1_goBy 62 L S g = yV mX1_goBy 65 1 mX1_goOneCell 1 3 L S g := (ez_virtual kcX1_goBy dX1_goBy_62 ml_1_33 rfl L S g).trans (zCallV_y rfl rfl (by decide) L S g)
theorem eX1_goBy_65 (L : pmL) (S : List Value) (g : pmH) : pmV mX1_goBy 65 L S g = zLdA mX1_goBy 66 0 L S g := ez_aload_n kcX1_goBy dX1_goBy_65 rfl rfl L S g
theorem eX1_goBy_66 (L : pmL) (S : List Value) (g : pmH) : pmV mX1_goBy 66 L S g = zGet mX1_goBy 69 1 0 L S g := ez_getfield kcX1_goBy dX1_goBy_66 fl_1_15 rfl L S g
theorem eX1_goBy_69 (L : pmL) (S : List Value) (g : pmH) : pmV mX1_goBy 69 L S g = zPush mX1_goBy 70 (.int (nI 3)) L S g := ez_iconst kcX1_goBy dX1_goBy_69 (by decide) rfl L S g
theorem eX1_goBy_70 (L : pmL) (S : List Value) (g : pmH) : pmV mX1_goBy 70 L S g = zBne mX1_goBy 73 86 L S g := ez_icmp_ne kcX1_goBy dX1_goBy_70 (by decide) rfl L S g
theorem eX1_goBy_73 (L : pmL) (S : List Value) (g : pmH) : pmV mX1_goBy 73 L S g = zLdA mX1_goBy 74 0 L S g := ez_aload_n kcX1_goBy dX1_goBy_73 rfl rfl L S g
theorem eX1_goBy_74 (L : pmL) (S : List Value) (g : pmH) : pmV mX1_goBy 74 L S g = zGet mX1_goBy 77 1 2 L S g := ez_getfield kcX1_goBy dX1_goBy_74 fl_1_21 rfl L S g
theorem eX1_goBy_77 (L : pmL) (S : List Value) (g : pmH) : pmV mX1_goBy 77 L S g = zPush mX1_goBy 78 (.int (nI 1)) L S g := ez_iconst kcX1_goBy dX1_goBy_77 (by decide) rfl L S g
theorem eX1_goBy_78 (L : pmL) (S : List Value) (g : pmH) : pmV mX1_goBy 78 L S g = zBne mX1_goBy 81 86 L S g := ez_icmp_ne kcX1_goBy dX1_goBy_78 (by decide) rfl L S g
theorem eX1_goBy_81 (L : pmL) (S : List Value) (g : pmH) : pmV mX1_goBy 81 L S g = zLdA mX1_goBy 82 0 L S g := ez_aload_n kcX1_goBy dX1_goBy_81 rfl rfl L S g
theorem eX1_goBy_82 (L : pmL) (S : List Value) (g : pmH) : pmV mX1_goBy 82 L S g = zLdI mX1_goBy 83 3 L S g := ez_iload_n kcX1_goBy dX1_goBy_82 rfl rfl L S g
theorem eX1_goBy_83 (L : pmL) (S : List Value) (g : pmH) : pmV mX1_goBy 83 L S g = yV mX1_goBy 86 1 mX1_goOneCell 1 3 L S g := (ez_virtual kcX1_goBy dX1_goBy_83 ml_1_33 rfl L S g).trans (zCallV_y rfl rfl (by decide) L S g)
theorem eX1_goBy_86 (L : pmL) (S : List Value) (g : pmH) : pmV mX1_goBy 86 L S g = zVret S g := ez_return kcX1_goBy dX1_goBy_86 rfl L S g
theorem eX1_goOneCell_0 (L : pmL) (S : List Value) (g : pmH) : pmV mX1_goOneCell 0 L S g = zLdA mX1_goOneCell 1 0 L S g := ez_aload_n kcX1_goOneCell dX1_goOneCell_0 rfl rfl L S g
theorem eX1_goOneCell_1 (L : pmL) (S : List Value) (g : pmH) : pmV mX1_goOneCell 1 L S g = zGet mX1_goOneCell 4 1 1 L S g := ez_getfield kcX1_goOneCell dX1_goOneCell_1 fl_1_18 rfl L S g
theorem eX1_goOneCell_4 (L : pmL) (S : List Value) (g : pmH) : pmV mX1_goOneCell 4 L S g = zPush mX1_goOneCell 5 (.int (nI 5)) L S g := ez_iconst kcX1_goOneCell dX1_goOneCell_4 (by decide) rfl L S g
theorem eX1_goOneCell_5 (L : pmL) (S : List Value) (g : pmH) : pmV mX1_goOneCell 5 L S g = zRem mX1_goOneCell 6 L S g := ez_irem kcX1_goOneCell dX1_goOneCell_5 rfl L S g
theorem eX1_goOneCell_6 (L : pmL) (S : List Value) (g : pmH) : pmV mX1_goOneCell 6 L S g = zStI mX1_goOneCell 7 2 L S g := ez_istore_n kcX1_goOneCell dX1_goOneCell_6 rfl rfl L S g
theorem eX1_goOneCell_7 (L : pmL) (S : List Value) (g : pmH) : pmV mX1_goOneCell 7 L S g = zLdI mX1_goOneCell 8 1 L S g := ez_iload_n kcX1_goOneCell dX1_goOneCell_7 rfl rfl L S g
theorem eX1_goOneCell_8 (L : pmL) (S : List Value) (g : pmH) : pmV mX1_goOneCell 8 L S g = zPush mX1_goOneCell 9 (.int (nI 1)) L S g := ez_iconst kcX1_goOneCell dX1_goOneCell_8 (by decide) rfl L S g
theorem eX1_goOneCell_9 (L : pmL) (S : List Value) (g : pmH) : pmV mX1_goOneCell 9 L S g = zBne mX1_goOneCell 12 30 L S g := ez_icmp_ne kcX1_goOneCell dX1_goOneCell_9 (by decide) rfl L S g
theorem eX1_goOneCell_12 (L : pmL) (S : List Value) (g : pmH) : pmV mX1_goOneCell 12 L S g = zLdI mX1_goOneCell 13 2 L S g := ez_iload_n kcX1_goOneCell dX1_goOneCell_12 rfl rfl L S g
theorem eX1_goOneCell_13 (L : pmL) (S : List Value) (g : pmH) : pmV mX1_goOneCell 13 L S g = zPush mX1_goOneCell 14 (.int (nI 4)) L S g := ez_iconst kcX1_goOneCell dX1_goOneCell_13 (by decide) rfl L S g
theorem eX1_goOneCell_14 (L : pmL) (S : List Value) (g : pmH) : pmV mX1_goOneCell 14 L S g = zBge mX1_goOneCell 17 30 L S g := ez_icmp_ge kcX1_goOneCell dX1_goOneCell_14 (by decide) rfl L S g
theorem eX1_goOneCell_17 (L : pmL) (S : List Value) (g : pmH) : pmV mX1_goOneCell 17 L S g = zLdA mX1_goOneCell 18 0 L S g := ez_aload_n kcX1_goOneCell dX1_goOneCell_17 rfl rfl L S g
theorem eX1_goOneCell_18 (L : pmL) (S : List Value) (g : pmH) : pmV mX1_goOneCell 18 L S g = zDup mX1_goOneCell 19 L S g := ez_dup kcX1_goOneCell dX1_goOneCell_18 rfl L S g
theorem eX1_goOneCell_19 (L : pmL) (S : List Value) (g : pmH) : pmV mX1_goOneCell 19 L S g = zGet mX1_goOneCell 22 1 1 L S g := ez_getfield kcX1_goOneCell dX1_goOneCell_19 fl_1_18 rfl L S g
theorem eX1_goOneCell_22 (L : pmL) (S : List Value) (g : pmH) : pmV mX1_goOneCell 22 L S g = zPush mX1_goOneCell 23 (.int (nI 1)) L S g := ez_iconst kcX1_goOneCell dX1_goOneCell_22 (by decide) rfl L S g
theorem eX1_goOneCell_23 (L : pmL) (S : List Value) (g : pmH) : pmV mX1_goOneCell 23 L S g = zAdd mX1_goOneCell 24 L S g := ez_iadd kcX1_goOneCell dX1_goOneCell_23 rfl L S g
theorem eX1_goOneCell_24 (L : pmL) (S : List Value) (g : pmH) : pmV mX1_goOneCell 24 L S g = zPut mX1_goOneCell 27 1 1 L S g := ez_putfield kcX1_goOneCell dX1_goOneCell_24 fl_1_18 rfl L S g
theorem eX1_goOneCell_27 (L : pmL) (S : List Value) (g : pmH) : pmV mX1_goOneCell 27 L S g = zNx mX1_goOneCell 114 L S g := ez_goto kcX1_goOneCell dX1_goOneCell_27 (by decide) L S g
theorem eX1_goOneCell_30 (L : pmL) (S : List Value) (g : pmH) : pmV mX1_goOneCell 30 L S g = zLdI mX1_goOneCell 31 1 L S g := ez_iload_n kcX1_goOneCell dX1_goOneCell_30 rfl rfl L S g
theorem eX1_goOneCell_31 (L : pmL) (S : List Value) (g : pmH) : pmV mX1_goOneCell 31 L S g = zPush mX1_goOneCell 32 (.int (nI 2)) L S g := ez_iconst kcX1_goOneCell dX1_goOneCell_31 (by decide) rfl L S g
theorem eX1_goOneCell_32 (L : pmL) (S : List Value) (g : pmH) : pmV mX1_goOneCell 32 L S g = zBne mX1_goOneCell 35 52 L S g := ez_icmp_ne kcX1_goOneCell dX1_goOneCell_32 (by decide) rfl L S g
theorem eX1_goOneCell_35 (L : pmL) (S : List Value) (g : pmH) : pmV mX1_goOneCell 35 L S g = zLdI mX1_goOneCell 36 2 L S g := ez_iload_n kcX1_goOneCell dX1_goOneCell_35 rfl rfl L S g
theorem eX1_goOneCell_36 (L : pmL) (S : List Value) (g : pmH) : pmV mX1_goOneCell 36 L S g = zCle mX1_goOneCell 39 52 L S g := ez_if_le kcX1_goOneCell dX1_goOneCell_36 (by decide) rfl L S g
theorem eX1_goOneCell_39 (L : pmL) (S : List Value) (g : pmH) : pmV mX1_goOneCell 39 L S g = zLdA mX1_goOneCell 40 0 L S g := ez_aload_n kcX1_goOneCell dX1_goOneCell_39 rfl rfl L S g
theorem eX1_goOneCell_40 (L : pmL) (S : List Value) (g : pmH) : pmV mX1_goOneCell 40 L S g = zDup mX1_goOneCell 41 L S g := ez_dup kcX1_goOneCell dX1_goOneCell_40 rfl L S g
theorem eX1_goOneCell_41 (L : pmL) (S : List Value) (g : pmH) : pmV mX1_goOneCell 41 L S g = zGet mX1_goOneCell 44 1 1 L S g := ez_getfield kcX1_goOneCell dX1_goOneCell_41 fl_1_18 rfl L S g
theorem eX1_goOneCell_44 (L : pmL) (S : List Value) (g : pmH) : pmV mX1_goOneCell 44 L S g = zPush mX1_goOneCell 45 (.int (nI 1)) L S g := ez_iconst kcX1_goOneCell dX1_goOneCell_44 (by decide) rfl L S g
theorem eX1_goOneCell_45 (L : pmL) (S : List Value) (g : pmH) : pmV mX1_goOneCell 45 L S g = zSub mX1_goOneCell 46 L S g := ez_isub kcX1_goOneCell dX1_goOneCell_45 rfl L S g
theorem eX1_goOneCell_46 (L : pmL) (S : List Value) (g : pmH) : pmV mX1_goOneCell 46 L S g = zPut mX1_goOneCell 49 1 1 L S g := ez_putfield kcX1_goOneCell dX1_goOneCell_46 fl_1_18 rfl L S g
theorem eX1_goOneCell_49 (L : pmL) (S : List Value) (g : pmH) : pmV mX1_goOneCell 49 L S g = zNx mX1_goOneCell 114 L S g := ez_goto kcX1_goOneCell dX1_goOneCell_49 (by decide) L S g
theorem eX1_goOneCell_52 (L : pmL) (S : List Value) (g : pmH) : pmV mX1_goOneCell 52 L S g = zLdI mX1_goOneCell 53 1 L S g := ez_iload_n kcX1_goOneCell dX1_goOneCell_52 rfl rfl L S g
theorem eX1_goOneCell_53 (L : pmL) (S : List Value) (g : pmH) : pmV mX1_goOneCell 53 L S g = zPush mX1_goOneCell 54 (.int (nI 3)) L S g := ez_iconst kcX1_goOneCell dX1_goOneCell_53 (by decide) rfl L S g
theorem eX1_goOneCell_54 (L : pmL) (S : List Value) (g : pmH) : pmV mX1_goOneCell 54 L S g = zBne mX1_goOneCell 57 78 L S g := ez_icmp_ne kcX1_goOneCell dX1_goOneCell_54 (by decide) rfl L S g
theorem eX1_goOneCell_57 (L : pmL) (S : List Value) (g : pmH) : pmV mX1_goOneCell 57 L S g = zLdA mX1_goOneCell 58 0 L S g := ez_aload_n kcX1_goOneCell dX1_goOneCell_57 rfl rfl L S g
theorem eX1_goOneCell_58 (L : pmL) (S : List Value) (g : pmH) : pmV mX1_goOneCell 58 L S g = zGet mX1_goOneCell 61 1 1 L S g := ez_getfield kcX1_goOneCell dX1_goOneCell_58 fl_1_18 rfl L S g
theorem eX1_goOneCell_61 (L : pmL) (S : List Value) (g : pmH) : pmV mX1_goOneCell 61 L S g = zPush mX1_goOneCell 62 (.int (nI 5)) L S g := ez_iconst kcX1_goOneCell dX1_goOneCell_61 (by decide) rfl L S g
theorem eX1_goOneCell_62 (L : pmL) (S : List Value) (g : pmH) : pmV mX1_goOneCell 62 L S g = zBlt mX1_goOneCell 65 78 L S g := ez_icmp_lt kcX1_goOneCell dX1_goOneCell_62 (by decide) rfl L S g
theorem eX1_goOneCell_65 (L : pmL) (S : List Value) (g : pmH) : pmV mX1_goOneCell 65 L S g = zLdA mX1_goOneCell 66 0 L S g := ez_aload_n kcX1_goOneCell dX1_goOneCell_65 rfl rfl L S g
theorem eX1_goOneCell_66 (L : pmL) (S : List Value) (g : pmH) : pmV mX1_goOneCell 66 L S g = zDup mX1_goOneCell 67 L S g := ez_dup kcX1_goOneCell dX1_goOneCell_66 rfl L S g
theorem eX1_goOneCell_67 (L : pmL) (S : List Value) (g : pmH) : pmV mX1_goOneCell 67 L S g = zGet mX1_goOneCell 70 1 1 L S g := ez_getfield kcX1_goOneCell dX1_goOneCell_67 fl_1_18 rfl L S g
theorem eX1_goOneCell_70 (L : pmL) (S : List Value) (g : pmH) : pmV mX1_goOneCell 70 L S g = zPush mX1_goOneCell 71 (.int (nI 5)) L S g := ez_iconst kcX1_goOneCell dX1_goOneCell_70 (by decide) rfl L S g
theorem eX1_goOneCell_71 (L : pmL) (S : List Value) (g : pmH) : pmV mX1_goOneCell 71 L S g = zSub mX1_goOneCell 72 L S g := ez_isub kcX1_goOneCell dX1_goOneCell_71 rfl L S g
theorem eX1_goOneCell_72 (L : pmL) (S : List Value) (g : pmH) : pmV mX1_goOneCell 72 L S g = zPut mX1_goOneCell 75 1 1 L S g := ez_putfield kcX1_goOneCell dX1_goOneCell_72 fl_1_18 rfl L S g
theorem eX1_goOneCell_75 (L : pmL) (S : List Value) (g : pmH) : pmV mX1_goOneCell 75 L S g = zNx mX1_goOneCell 114 L S g := ez_goto kcX1_goOneCell dX1_goOneCell_75 (by decide) L S g
theorem eX1_goOneCell_78 (L : pmL) (S : List Value) (g : pmH) : pmV mX1_goOneCell 78 L S g = zLdI mX1_goOneCell 79 1 L S g := ez_iload_n kcX1_goOneCell dX1_goOneCell_78 rfl rfl L S g
theorem eX1_goOneCell_79 (L : pmL) (S : List Value) (g : pmH) : pmV mX1_goOneCell 79 L S g = zPush mX1_goOneCell 80 (.int (nI 4)) L S g := ez_iconst kcX1_goOneCell dX1_goOneCell_79 (by decide) rfl L S g
theorem eX1_goOneCell_80 (L : pmL) (S : List Value) (g : pmH) : pmV mX1_goOneCell 80 L S g = zBne mX1_goOneCell 83 105 L S g := ez_icmp_ne kcX1_goOneCell dX1_goOneCell_80 (by decide) rfl L S g
theorem eX1_goOneCell_83 (L : pmL) (S : List Value) (g : pmH) : pmV mX1_goOneCell 83 L S g = zLdA mX1_goOneCell 84 0 L S g := ez_aload_n kcX1_goOneCell dX1_goOneCell_83 rfl rfl L S g
theorem eX1_goOneCell_84 (L : pmL) (S : List Value) (g : pmH) : pmV mX1_goOneCell 84 L S g = zGet mX1_goOneCell 87 1 1 L S g := ez_getfield kcX1_goOneCell dX1_goOneCell_84 fl_1_18 rfl L S g
theorem eX1_goOneCell_87 (L : pmL) (S : List Value) (g : pmH) : pmV mX1_goOneCell 87 L S g = zPush mX1_goOneCell 89 (.int (nI 15)) L S g := ez_bipush kcX1_goOneCell dX1_goOneCell_87 (by decide) rfl L S g
theorem eX1_goOneCell_89 (L : pmL) (S : List Value) (g : pmH) : pmV mX1_goOneCell 89 L S g = zBge mX1_goOneCell 92 105 L S g := ez_icmp_ge kcX1_goOneCell dX1_goOneCell_89 (by decide) rfl L S g
theorem eX1_goOneCell_92 (L : pmL) (S : List Value) (g : pmH) : pmV mX1_goOneCell 92 L S g = zLdA mX1_goOneCell 93 0 L S g := ez_aload_n kcX1_goOneCell dX1_goOneCell_92 rfl rfl L S g
theorem eX1_goOneCell_93 (L : pmL) (S : List Value) (g : pmH) : pmV mX1_goOneCell 93 L S g = zDup mX1_goOneCell 94 L S g := ez_dup kcX1_goOneCell dX1_goOneCell_93 rfl L S g
theorem eX1_goOneCell_94 (L : pmL) (S : List Value) (g : pmH) : pmV mX1_goOneCell 94 L S g = zGet mX1_goOneCell 97 1 1 L S g := ez_getfield kcX1_goOneCell dX1_goOneCell_94 fl_1_18 rfl L S g
theorem eX1_goOneCell_97 (L : pmL) (S : List Value) (g : pmH) : pmV mX1_goOneCell 97 L S g = zPush mX1_goOneCell 98 (.int (nI 5)) L S g := ez_iconst kcX1_goOneCell dX1_goOneCell_97 (by decide) rfl L S g
theorem eX1_goOneCell_98 (L : pmL) (S : List Value) (g : pmH) : pmV mX1_goOneCell 98 L S g = zAdd mX1_goOneCell 99 L S g := ez_iadd kcX1_goOneCell dX1_goOneCell_98 rfl L S g
theorem eX1_goOneCell_99 (L : pmL) (S : List Value) (g : pmH) : pmV mX1_goOneCell 99 L S g = zPut mX1_goOneCell 102 1 1 L S g := ez_putfield kcX1_goOneCell dX1_goOneCell_99 fl_1_18 rfl L S g
theorem eX1_goOneCell_102 (L : pmL) (S : List Value) (g : pmH) : pmV mX1_goOneCell 102 L S g = zNx mX1_goOneCell 114 L S g := ez_goto kcX1_goOneCell dX1_goOneCell_102 (by decide) L S g
theorem eX1_goOneCell_105 (L : pmL) (S : List Value) (g : pmH) : pmV mX1_goOneCell 105 L S g = zLdI mX1_goOneCell 106 1 L S g := ez_iload_n kcX1_goOneCell dX1_goOneCell_105 rfl rfl L S g
theorem eX1_goOneCell_106 (L : pmL) (S : List Value) (g : pmH) : pmV mX1_goOneCell 106 L S g = zCeq mX1_goOneCell 109 114 L S g := ez_if_eq kcX1_goOneCell dX1_goOneCell_106 (by decide) rfl L S g
theorem eX1_goOneCell_109 (L : pmL) (S : List Value) (g : pmH) : pmV mX1_goOneCell 109 L S g = zLdA mX1_goOneCell 110 0 L S g := ez_aload_n kcX1_goOneCell dX1_goOneCell_109 rfl rfl L S g
theorem eX1_goOneCell_110 (L : pmL) (S : List Value) (g : pmH) : pmV mX1_goOneCell 110 L S g = zPush mX1_goOneCell 111 (.int (nI 3)) L S g := ez_iconst kcX1_goOneCell dX1_goOneCell_110 (by decide) rfl L S g
theorem eX1_goOneCell_111 (L : pmL) (S : List Value) (g : pmH) : pmV mX1_goOneCell 111 L S g = zPut mX1_goOneCell 114 1 2 L S g := ez_putfield kcX1_goOneCell dX1_goOneCell_111 fl_1_21 rfl L S g
theorem eX1_goOneCell_114 (L : pmL) (S : List Value) (g : pmH) : pmV mX1_goOneCell 114 L S g = zVret S g := ez_return kcX1_goOneCell dX1_goOneCell_114 rfl L S g
theorem eX1_catchIn_0 (L : pmL) (S : List Value) (g : pmH) : pmV mX1_catchIn 0 L S g = zLdA mX1_catchIn 1 0 L S g := ez_aload_n kcX1_catchIn dX1_catchIn_0 rfl rfl L S g
theorem eX1_catchIn_1 (L : pmL) (S : List Value) (g : pmH) : pmV mX1_catchIn 1 L S g = zPush mX1_catchIn 2 (.int (nI 2)) L S g := ez_iconst kcX1_catchIn dX1_catchIn_1 (by decide) rfl L S g
theorem eX1_catchIn_2 (L : pmL) (S : List Value) (g : pmH) : pmV mX1_catchIn 2 L S g = zPut mX1_catchIn 5 1 2 L S g := ez_putfield kcX1_catchIn dX1_catchIn_2 fl_1_21 rfl L S g
theorem eX1_catchIn_5 (L : pmL) (S : List Value) (g : pmH) : pmV mX1_catchIn 5 L S g = zLdA mX1_catchIn 6 0 L S g := ez_aload_n kcX1_catchIn dX1_catchIn_5 rfl rfl L S g
theorem eX1_catchIn_6 (L : pmL) (S : List Value) (g : pmH) : pmV mX1_catchIn 6 L S g = zLdI mX1_catchIn 7 1 L S g := ez_iload_n kcX1_catchIn dX1_catchIn_6 rfl rfl L S g
theorem eX1_catchIn_7 (L : pmL) (S : List Value) (g : pmH) : pmV mX1_catchIn 7 L S g = zPut mX1_catchIn 10 1 3 L S g := ez_putfield kcX1_catchIn dX1_catchIn_7 fl_1_9 rfl L S g
theorem eX1_catchIn_10 (L : pmL) (S : List Value) (g : pmH) : pmV mX1_catchIn 10 L S g = zLdA mX1_catchIn 11 0 L S g := ez_aload_n kcX1_catchIn dX1_catchIn_10 rfl rfl L S g
theorem eX1_catchIn_11 (L : pmL) (S : List Value) (g : pmH) : pmV mX1_catchIn 11 L S g = zLdI mX1_catchIn 12 2 L S g := ez_iload_n kcX1_catchIn dX1_catchIn_11 rfl rfl L S g
theorem eX1_catchIn_12 (L : pmL) (S : List Value) (g : pmH) : pmV mX1_catchIn 12 L S g = zPut mX1_catchIn 15 1 4 L S g := ez_putfield kcX1_catchIn dX1_catchIn_12 fl_1_24 rfl L S g
theorem eX1_catchIn_15 (L : pmL) (S : List Value) (g : pmH) : pmV mX1_catchIn 15 L S g = zVret S g := ez_return kcX1_catchIn dX1_catchIn_15 rfl L S g
theorem eX1_leaveHedge_0 (L : pmL) (S : List Value) (g : pmH) : pmV mX1_leaveHedge 0 L S g = zLdA mX1_leaveHedge 1 0 L S g := ez_aload_n kcX1_leaveHedge dX1_leaveHedge_0 rfl rfl L S g
theorem eX1_leaveHedge_1 (L : pmL) (S : List Value) (g : pmH) : pmV mX1_leaveHedge 1 L S g = zLdI mX1_leaveHedge 2 1 L S g := ez_iload_n kcX1_leaveHedge dX1_leaveHedge_1 rfl rfl L S g
theorem eX1_leaveHedge_2 (L : pmL) (S : List Value) (g : pmH) : pmV mX1_leaveHedge 2 L S g = zPut mX1_leaveHedge 5 1 2 L S g := ez_putfield kcX1_leaveHedge dX1_leaveHedge_2 fl_1_21 rfl L S g
theorem eX1_leaveHedge_5 (L : pmL) (S : List Value) (g : pmH) : pmV mX1_leaveHedge 5 L S g = zLdA mX1_leaveHedge 6 0 L S g := ez_aload_n kcX1_leaveHedge dX1_leaveHedge_5 rfl rfl L S g
theorem eX1_leaveHedge_6 (L : pmL) (S : List Value) (g : pmH) : pmV mX1_leaveHedge 6 L S g = zPush mX1_leaveHedge 8 (.int (-9)) L S g := ez_bipush kcX1_leaveHedge dX1_leaveHedge_6 (by decide) rfl L S g
theorem eX1_leaveHedge_8 (L : pmL) (S : List Value) (g : pmH) : pmV mX1_leaveHedge 8 L S g = zPut mX1_leaveHedge 11 1 3 L S g := ez_putfield kcX1_leaveHedge dX1_leaveHedge_8 fl_1_9 rfl L S g
theorem eX1_leaveHedge_11 (L : pmL) (S : List Value) (g : pmH) : pmV mX1_leaveHedge 11 L S g = zVret S g := ez_return kcX1_leaveHedge dX1_leaveHedge_11 rfl L S g
theorem eX2_init_0 (L : pmL) (S : List Value) (g : pmH) : pmV mX2_init 0 L S g = zLdA mX2_init 1 0 L S g := ez_aload_n kcX2_init dX2_init_0 rfl rfl L S g
theorem eX2_init_1 (L : pmL) (S : List Value) (g : pmH) : pmV mX2_init 1 L S g = zObj mX2_init 4 L S g := ez_objinit kcX2_init dX2_init_1 ol_2_3 rfl L S g
theorem eX2_init_4 (L : pmL) (S : List Value) (g : pmH) : pmV mX2_init 4 L S g = zLdA mX2_init 5 0 L S g := ez_aload_n kcX2_init dX2_init_4 rfl rfl L S g
theorem eX2_init_5 (L : pmL) (S : List Value) (g : pmH) : pmV mX2_init 5 L S g = zPush mX2_init 6 (.int (nI 4)) L S g := ez_iconst kcX2_init dX2_init_5 (by decide) rfl L S g
theorem eX2_init_6 (L : pmL) (S : List Value) (g : pmH) : pmV mX2_init 6 L S g = zNewA mX2_init 8 0 L S g := ez_newarray_int kcX2_init dX2_init_6 rfl L S g
theorem eX2_init_8 (L : pmL) (S : List Value) (g : pmH) : pmV mX2_init 8 L S g = zPut mX2_init 11 2 2 L S g := ez_putfield kcX2_init dX2_init_8 fl_2_11 rfl L S g
theorem eX2_init_11 (L : pmL) (S : List Value) (g : pmH) : pmV mX2_init 11 L S g = zLdA mX2_init 12 0 L S g := ez_aload_n kcX2_init dX2_init_11 rfl rfl L S g
theorem eX2_init_12 (L : pmL) (S : List Value) (g : pmH) : pmV mX2_init 12 L S g = zPush mX2_init 13 (.int (nI 4)) L S g := ez_iconst kcX2_init dX2_init_12 (by decide) rfl L S g
theorem eX2_init_13 (L : pmL) (S : List Value) (g : pmH) : pmV mX2_init 13 L S g = zNewA mX2_init 15 0 L S g := ez_newarray_int kcX2_init dX2_init_13 rfl L S g
theorem eX2_init_15 (L : pmL) (S : List Value) (g : pmH) : pmV mX2_init 15 L S g = zPut mX2_init 18 2 3 L S g := ez_putfield kcX2_init dX2_init_15 fl_2_15 rfl L S g
theorem eX2_init_18 (L : pmL) (S : List Value) (g : pmH) : pmV mX2_init 18 L S g = zLdA mX2_init 19 0 L S g := ez_aload_n kcX2_init dX2_init_18 rfl rfl L S g
theorem eX2_init_19 (L : pmL) (S : List Value) (g : pmH) : pmV mX2_init 19 L S g = zLdA mX2_init 20 1 L S g := ez_aload_n kcX2_init dX2_init_19 rfl rfl L S g
theorem eX2_init_20 (L : pmL) (S : List Value) (g : pmH) : pmV mX2_init 20 L S g = zPut mX2_init 23 2 0 L S g := ez_putfield kcX2_init dX2_init_20 fl_2_18 rfl L S g
theorem eX2_init_23 (L : pmL) (S : List Value) (g : pmH) : pmV mX2_init 23 L S g = zLdA mX2_init 24 0 L S g := ez_aload_n kcX2_init dX2_init_23 rfl rfl L S g
theorem eX2_init_24 (L : pmL) (S : List Value) (g : pmH) : pmV mX2_init 24 L S g = zLdA mX2_init 25 2 L S g := ez_aload_n kcX2_init dX2_init_24 rfl rfl L S g
theorem eX2_init_25 (L : pmL) (S : List Value) (g : pmH) : pmV mX2_init 25 L S g = zPut mX2_init 28 2 1 L S g := ez_putfield kcX2_init dX2_init_25 fl_2_22 rfl L S g
theorem eX2_init_28 (L : pmL) (S : List Value) (g : pmH) : pmV mX2_init 28 L S g = zVret S g := ez_return kcX2_init dX2_init_28 rfl L S g
theorem eX2_tryAllPairs_0 (L : pmL) (S : List Value) (g : pmH) : pmV mX2_tryAllPairs 0 L S g = zPush mX2_tryAllPairs 1 (.int (nI 0)) L S g := ez_iconst kcX2_tryAllPairs dX2_tryAllPairs_0 (by decide) rfl L S g
theorem eX2_tryAllPairs_1 (L : pmL) (S : List Value) (g : pmH) : pmV mX2_tryAllPairs 1 L S g = zStI mX2_tryAllPairs 2 3 L S g := ez_istore_n kcX2_tryAllPairs dX2_tryAllPairs_1 rfl rfl L S g
theorem eX2_tryAllPairs_2 (L : pmL) (S : List Value) (g : pmH) : pmV mX2_tryAllPairs 2 L S g = zLdI mX2_tryAllPairs 3 3 L S g := ez_iload_n kcX2_tryAllPairs dX2_tryAllPairs_2 rfl rfl L S g
theorem eX2_tryAllPairs_3 (L : pmL) (S : List Value) (g : pmH) : pmV mX2_tryAllPairs 3 L S g = zPush mX2_tryAllPairs 4 (.int (nI 4)) L S g := ez_iconst kcX2_tryAllPairs dX2_tryAllPairs_3 (by decide) rfl L S g
theorem eX2_tryAllPairs_4 (L : pmL) (S : List Value) (g : pmH) : pmV mX2_tryAllPairs 4 L S g = zBge mX2_tryAllPairs 7 107 L S g := ez_icmp_ge kcX2_tryAllPairs dX2_tryAllPairs_4 (by decide) rfl L S g
theorem eX2_tryAllPairs_7 (L : pmL) (S : List Value) (g : pmH) : pmV mX2_tryAllPairs 7 L S g = zLdA mX2_tryAllPairs 8 0 L S g := ez_aload_n kcX2_tryAllPairs dX2_tryAllPairs_7 rfl rfl L S g
theorem eX2_tryAllPairs_8 (L : pmL) (S : List Value) (g : pmH) : pmV mX2_tryAllPairs 8 L S g = zGet mX2_tryAllPairs 11 2 1 L S g := ez_getfield kcX2_tryAllPairs dX2_tryAllPairs_8 fl_2_22 rfl L S g
theorem eX2_tryAllPairs_11 (L : pmL) (S : List Value) (g : pmH) : pmV mX2_tryAllPairs 11 L S g = zLdA mX2_tryAllPairs 12 0 L S g := ez_aload_n kcX2_tryAllPairs dX2_tryAllPairs_11 rfl rfl L S g
theorem eX2_tryAllPairs_12 (L : pmL) (S : List Value) (g : pmH) : pmV mX2_tryAllPairs 12 L S g = zGet mX2_tryAllPairs 15 2 0 L S g := ez_getfield kcX2_tryAllPairs dX2_tryAllPairs_12 fl_2_18 rfl L S g
theorem eX2_tryAllPairs_15 (L : pmL) (S : List Value) (g : pmH) : pmV mX2_tryAllPairs 15 L S g = yV mX2_tryAllPairs 18 1 mX10_takeFrom 10 3 L S g := (ez_virtual kcX2_tryAllPairs dX2_tryAllPairs_15 ml_2_25 rfl L S g).trans (zCallV_y rfl rfl (by decide) L S g)
theorem eX2_tryAllPairs_18 (L : pmL) (S : List Value) (g : pmH) : pmV mX2_tryAllPairs 18 L S g = zLdI mX2_tryAllPairs 19 3 L S g := ez_iload_n kcX2_tryAllPairs dX2_tryAllPairs_18 rfl rfl L S g
theorem eX2_tryAllPairs_19 (L : pmL) (S : List Value) (g : pmH) : pmV mX2_tryAllPairs 19 L S g = zPush mX2_tryAllPairs 20 (.int (nI 2)) L S g := ez_iconst kcX2_tryAllPairs dX2_tryAllPairs_19 (by decide) rfl L S g
theorem eX2_tryAllPairs_20 (L : pmL) (S : List Value) (g : pmH) : pmV mX2_tryAllPairs 20 L S g = zAnd mX2_tryAllPairs 21 L S g := ez_iand kcX2_tryAllPairs dX2_tryAllPairs_20 rfl L S g
theorem eX2_tryAllPairs_21 (L : pmL) (S : List Value) (g : pmH) : pmV mX2_tryAllPairs 21 L S g = zCeq mX2_tryAllPairs 24 33 L S g := ez_if_eq kcX2_tryAllPairs dX2_tryAllPairs_21 (by decide) rfl L S g
theorem eX2_tryAllPairs_24 (L : pmL) (S : List Value) (g : pmH) : pmV mX2_tryAllPairs 24 L S g = zLdA mX2_tryAllPairs 25 0 L S g := ez_aload_n kcX2_tryAllPairs dX2_tryAllPairs_24 rfl rfl L S g
theorem eX2_tryAllPairs_25 (L : pmL) (S : List Value) (g : pmH) : pmV mX2_tryAllPairs 25 L S g = zGet mX2_tryAllPairs 28 2 1 L S g := ez_getfield kcX2_tryAllPairs dX2_tryAllPairs_25 fl_2_22 rfl L S g
theorem eX2_tryAllPairs_28 (L : pmL) (S : List Value) (g : pmH) : pmV mX2_tryAllPairs 28 L S g = zLdI mX2_tryAllPairs 29 1 L S g := ez_iload_n kcX2_tryAllPairs dX2_tryAllPairs_28 rfl rfl L S g
theorem eX2_tryAllPairs_29 (L : pmL) (S : List Value) (g : pmH) : pmV mX2_tryAllPairs 29 L S g = yV mX2_tryAllPairs 32 1 mX10_letGo 10 2 L S g := (ez_virtual kcX2_tryAllPairs dX2_tryAllPairs_29 ml_2_31 rfl L S g).trans (zCallV_y rfl rfl (by decide) L S g)
theorem eX2_tryAllPairs_32 (L : pmL) (S : List Value) (g : pmH) : pmV mX2_tryAllPairs 32 L S g = zPop mX2_tryAllPairs 33 L S g := ez_pop kcX2_tryAllPairs dX2_tryAllPairs_32 rfl L S g
theorem eX2_tryAllPairs_33 (L : pmL) (S : List Value) (g : pmH) : pmV mX2_tryAllPairs 33 L S g = zLdI mX2_tryAllPairs 34 3 L S g := ez_iload_n kcX2_tryAllPairs dX2_tryAllPairs_33 rfl rfl L S g
theorem eX2_tryAllPairs_34 (L : pmL) (S : List Value) (g : pmH) : pmV mX2_tryAllPairs 34 L S g = zPush mX2_tryAllPairs 35 (.int (nI 1)) L S g := ez_iconst kcX2_tryAllPairs dX2_tryAllPairs_34 (by decide) rfl L S g
theorem eX2_tryAllPairs_35 (L : pmL) (S : List Value) (g : pmH) : pmV mX2_tryAllPairs 35 L S g = zAnd mX2_tryAllPairs 36 L S g := ez_iand kcX2_tryAllPairs dX2_tryAllPairs_35 rfl L S g
theorem eX2_tryAllPairs_36 (L : pmL) (S : List Value) (g : pmH) : pmV mX2_tryAllPairs 36 L S g = zCeq mX2_tryAllPairs 39 48 L S g := ez_if_eq kcX2_tryAllPairs dX2_tryAllPairs_36 (by decide) rfl L S g
theorem eX2_tryAllPairs_39 (L : pmL) (S : List Value) (g : pmH) : pmV mX2_tryAllPairs 39 L S g = zLdA mX2_tryAllPairs 40 0 L S g := ez_aload_n kcX2_tryAllPairs dX2_tryAllPairs_39 rfl rfl L S g
theorem eX2_tryAllPairs_40 (L : pmL) (S : List Value) (g : pmH) : pmV mX2_tryAllPairs 40 L S g = zGet mX2_tryAllPairs 43 2 1 L S g := ez_getfield kcX2_tryAllPairs dX2_tryAllPairs_40 fl_2_22 rfl L S g
theorem eX2_tryAllPairs_43 (L : pmL) (S : List Value) (g : pmH) : pmV mX2_tryAllPairs 43 L S g = zLdI mX2_tryAllPairs 44 2 L S g := ez_iload_n kcX2_tryAllPairs dX2_tryAllPairs_43 rfl rfl L S g
theorem eX2_tryAllPairs_44 (L : pmL) (S : List Value) (g : pmH) : pmV mX2_tryAllPairs 44 L S g = yV mX2_tryAllPairs 47 1 mX10_letGo 10 2 L S g := (ez_virtual kcX2_tryAllPairs dX2_tryAllPairs_44 ml_2_31 rfl L S g).trans (zCallV_y rfl rfl (by decide) L S g)
theorem eX2_tryAllPairs_47 (L : pmL) (S : List Value) (g : pmH) : pmV mX2_tryAllPairs 47 L S g = zPop mX2_tryAllPairs 48 L S g := ez_pop kcX2_tryAllPairs dX2_tryAllPairs_47 rfl L S g
theorem eX2_tryAllPairs_48 (L : pmL) (S : List Value) (g : pmH) : pmV mX2_tryAllPairs 48 L S g = zLdA mX2_tryAllPairs 49 0 L S g := ez_aload_n kcX2_tryAllPairs dX2_tryAllPairs_48 rfl rfl L S g
theorem eX2_tryAllPairs_49 (L : pmL) (S : List Value) (g : pmH) : pmV mX2_tryAllPairs 49 L S g = zGet mX2_tryAllPairs 52 2 1 L S g := ez_getfield kcX2_tryAllPairs dX2_tryAllPairs_49 fl_2_22 rfl L S g
theorem eX2_tryAllPairs_52 (L : pmL) (S : List Value) (g : pmH) : pmV mX2_tryAllPairs 52 L S g = zPush mX2_tryAllPairs 54 (.int (nI 9)) L S g := ez_bipush kcX2_tryAllPairs dX2_tryAllPairs_52 (by decide) rfl L S g
theorem eX2_tryAllPairs_54 (L : pmL) (S : List Value) (g : pmH) : pmV mX2_tryAllPairs 54 L S g = yV mX2_tryAllPairs 57 1 mX10_passHours 10 3 L S g := (ez_virtual kcX2_tryAllPairs dX2_tryAllPairs_54 ml_2_35 rfl L S g).trans (zCallV_y rfl rfl (by decide) L S g)
theorem eX2_tryAllPairs_57 (L : pmL) (S : List Value) (g : pmH) : pmV mX2_tryAllPairs 57 L S g = zLdA mX2_tryAllPairs 58 0 L S g := ez_aload_n kcX2_tryAllPairs dX2_tryAllPairs_57 rfl rfl L S g
theorem eX2_tryAllPairs_58 (L : pmL) (S : List Value) (g : pmH) : pmV mX2_tryAllPairs 58 L S g = zLdI mX2_tryAllPairs 59 1 L S g := ez_iload_n kcX2_tryAllPairs dX2_tryAllPairs_58 rfl rfl L S g
theorem eX2_tryAllPairs_59 (L : pmL) (S : List Value) (g : pmH) : pmV mX2_tryAllPairs 59 L S g = zLdI mX2_tryAllPairs 60 2 L S g := ez_iload_n kcX2_tryAllPairs dX2_tryAllPairs_59 rfl rfl L S g
theorem eX2_tryAllPairs_60 (L : pmL) (S : List Value) (g : pmH) : pmV mX2_tryAllPairs 60 L S g = yV mX2_tryAllPairs 63 2 mX2_caughtTogether 2 3 L S g := (ez_virtual kcX2_tryAllPairs dX2_tryAllPairs_60 ml_2_39 rfl L S g).trans (zCallV_y rfl rfl (by decide) L S g)
theorem eX2_tryAllPairs_63 (L : pmL) (S : List Value) (g : pmH) : pmV mX2_tryAllPairs 63 L S g = zCeq mX2_tryAllPairs 66 70 L S g := ez_if_eq kcX2_tryAllPairs dX2_tryAllPairs_63 (by decide) rfl L S g
theorem eX2_tryAllPairs_66 (L : pmL) (S : List Value) (g : pmH) : pmV mX2_tryAllPairs 66 L S g = zPush mX2_tryAllPairs 67 (.int (nI 1)) L S g := ez_iconst kcX2_tryAllPairs dX2_tryAllPairs_66 (by decide) rfl L S g
theorem eX2_tryAllPairs_67 (L : pmL) (S : List Value) (g : pmH) : pmV mX2_tryAllPairs 67 L S g = zNx mX2_tryAllPairs 71 L S g := ez_goto kcX2_tryAllPairs dX2_tryAllPairs_67 (by decide) L S g
theorem eX2_tryAllPairs_70 (L : pmL) (S : List Value) (g : pmH) : pmV mX2_tryAllPairs 70 L S g = zPush mX2_tryAllPairs 71 (.int (nI 0)) L S g := ez_iconst kcX2_tryAllPairs dX2_tryAllPairs_70 (by decide) rfl L S g
theorem eX2_tryAllPairs_71 (L : pmL) (S : List Value) (g : pmH) : pmV mX2_tryAllPairs 71 L S g = zStI mX2_tryAllPairs 73 4 L S g := ez_istore kcX2_tryAllPairs dX2_tryAllPairs_71 rfl L S g
theorem eX2_tryAllPairs_73 (L : pmL) (S : List Value) (g : pmH) : pmV mX2_tryAllPairs 73 L S g = zLdA mX2_tryAllPairs 74 0 L S g := ez_aload_n kcX2_tryAllPairs dX2_tryAllPairs_73 rfl rfl L S g
theorem eX2_tryAllPairs_74 (L : pmL) (S : List Value) (g : pmH) : pmV mX2_tryAllPairs 74 L S g = zGet mX2_tryAllPairs 77 2 2 L S g := ez_getfield kcX2_tryAllPairs dX2_tryAllPairs_74 fl_2_11 rfl L S g
theorem eX2_tryAllPairs_77 (L : pmL) (S : List Value) (g : pmH) : pmV mX2_tryAllPairs 77 L S g = zLdI mX2_tryAllPairs 78 3 L S g := ez_iload_n kcX2_tryAllPairs dX2_tryAllPairs_77 rfl rfl L S g
theorem eX2_tryAllPairs_78 (L : pmL) (S : List Value) (g : pmH) : pmV mX2_tryAllPairs 78 L S g = zLdA mX2_tryAllPairs 79 0 L S g := ez_aload_n kcX2_tryAllPairs dX2_tryAllPairs_78 rfl rfl L S g
theorem eX2_tryAllPairs_79 (L : pmL) (S : List Value) (g : pmH) : pmV mX2_tryAllPairs 79 L S g = zLdI mX2_tryAllPairs 80 1 L S g := ez_iload_n kcX2_tryAllPairs dX2_tryAllPairs_79 rfl rfl L S g
theorem eX2_tryAllPairs_80 (L : pmL) (S : List Value) (g : pmH) : pmV mX2_tryAllPairs 80 L S g = yV mX2_tryAllPairs 83 1 mX2_ownJoy 2 2 L S g := (ez_virtual kcX2_tryAllPairs dX2_tryAllPairs_80 ml_2_43 rfl L S g).trans (zCallV_y rfl rfl (by decide) L S g)
theorem eX2_tryAllPairs_83 (L : pmL) (S : List Value) (g : pmH) : pmV mX2_tryAllPairs 83 L S g = zLdI mX2_tryAllPairs 85 4 L S g := ez_iload kcX2_tryAllPairs dX2_tryAllPairs_83 rfl L S g
theorem eX2_tryAllPairs_85 (L : pmL) (S : List Value) (g : pmH) : pmV mX2_tryAllPairs 85 L S g = zSub mX2_tryAllPairs 86 L S g := ez_isub kcX2_tryAllPairs dX2_tryAllPairs_85 rfl L S g
theorem eX2_tryAllPairs_86 (L : pmL) (S : List Value) (g : pmH) : pmV mX2_tryAllPairs 86 L S g = zIast mX2_tryAllPairs 87 L S g := ez_iastore kcX2_tryAllPairs dX2_tryAllPairs_86 rfl L S g
theorem eX2_tryAllPairs_87 (L : pmL) (S : List Value) (g : pmH) : pmV mX2_tryAllPairs 87 L S g = zLdA mX2_tryAllPairs 88 0 L S g := ez_aload_n kcX2_tryAllPairs dX2_tryAllPairs_87 rfl rfl L S g
theorem eX2_tryAllPairs_88 (L : pmL) (S : List Value) (g : pmH) : pmV mX2_tryAllPairs 88 L S g = zGet mX2_tryAllPairs 91 2 3 L S g := ez_getfield kcX2_tryAllPairs dX2_tryAllPairs_88 fl_2_15 rfl L S g
theorem eX2_tryAllPairs_91 (L : pmL) (S : List Value) (g : pmH) : pmV mX2_tryAllPairs 91 L S g = zLdI mX2_tryAllPairs 92 3 L S g := ez_iload_n kcX2_tryAllPairs dX2_tryAllPairs_91 rfl rfl L S g
theorem eX2_tryAllPairs_92 (L : pmL) (S : List Value) (g : pmH) : pmV mX2_tryAllPairs 92 L S g = zLdA mX2_tryAllPairs 93 0 L S g := ez_aload_n kcX2_tryAllPairs dX2_tryAllPairs_92 rfl rfl L S g
theorem eX2_tryAllPairs_93 (L : pmL) (S : List Value) (g : pmH) : pmV mX2_tryAllPairs 93 L S g = zLdI mX2_tryAllPairs 94 2 L S g := ez_iload_n kcX2_tryAllPairs dX2_tryAllPairs_93 rfl rfl L S g
theorem eX2_tryAllPairs_94 (L : pmL) (S : List Value) (g : pmH) : pmV mX2_tryAllPairs 94 L S g = yV mX2_tryAllPairs 97 1 mX2_ownJoy 2 2 L S g := (ez_virtual kcX2_tryAllPairs dX2_tryAllPairs_94 ml_2_43 rfl L S g).trans (zCallV_y rfl rfl (by decide) L S g)
theorem eX2_tryAllPairs_97 (L : pmL) (S : List Value) (g : pmH) : pmV mX2_tryAllPairs 97 L S g = zLdI mX2_tryAllPairs 99 4 L S g := ez_iload kcX2_tryAllPairs dX2_tryAllPairs_97 rfl L S g
theorem eX2_tryAllPairs_99 (L : pmL) (S : List Value) (g : pmH) : pmV mX2_tryAllPairs 99 L S g = zSub mX2_tryAllPairs 100 L S g := ez_isub kcX2_tryAllPairs dX2_tryAllPairs_99 rfl L S g
theorem eX2_tryAllPairs_100 (L : pmL) (S : List Value) (g : pmH) : pmV mX2_tryAllPairs 100 L S g = zIast mX2_tryAllPairs 101 L S g := ez_iastore kcX2_tryAllPairs dX2_tryAllPairs_100 rfl L S g
theorem eX2_tryAllPairs_101 (L : pmL) (S : List Value) (g : pmH) : pmV mX2_tryAllPairs 101 L S g = zInc mX2_tryAllPairs 104 3 (nI 1) L S g := ez_iinc kcX2_tryAllPairs dX2_tryAllPairs_101 (by decide) rfl L S g
theorem eX2_tryAllPairs_104 (L : pmL) (S : List Value) (g : pmH) : pmV mX2_tryAllPairs 104 L S g = zNx mX2_tryAllPairs 2 L S g := ez_goto kcX2_tryAllPairs dX2_tryAllPairs_104 (by decide) L S g
theorem eX2_tryAllPairs_107 (L : pmL) (S : List Value) (g : pmH) : pmV mX2_tryAllPairs 107 L S g = zVret S g := ez_return kcX2_tryAllPairs dX2_tryAllPairs_107 rfl L S g
theorem eX2_caughtTogether_0 (L : pmL) (S : List Value) (g : pmH) : pmV mX2_caughtTogether 0 L S g = zLdA mX2_caughtTogether 1 0 L S g := ez_aload_n kcX2_caughtTogether dX2_caughtTogether_0 rfl rfl L S g
theorem eX2_caughtTogether_1 (L : pmL) (S : List Value) (g : pmH) : pmV mX2_caughtTogether 1 L S g = zGet mX2_caughtTogether 4 2 1 L S g := ez_getfield kcX2_caughtTogether dX2_caughtTogether_1 fl_2_22 rfl L S g
theorem eX2_caughtTogether_4 (L : pmL) (S : List Value) (g : pmH) : pmV mX2_caughtTogether 4 L S g = zLdI mX2_caughtTogether 5 1 L S g := ez_iload_n kcX2_caughtTogether dX2_caughtTogether_4 rfl rfl L S g
theorem eX2_caughtTogether_5 (L : pmL) (S : List Value) (g : pmH) : pmV mX2_caughtTogether 5 L S g = zPush mX2_caughtTogether 6 (.int (nI 2)) L S g := ez_iconst kcX2_caughtTogether dX2_caughtTogether_5 (by decide) rfl L S g
theorem eX2_caughtTogether_6 (L : pmL) (S : List Value) (g : pmH) : pmV mX2_caughtTogether 6 L S g = yV mX2_caughtTogether 9 2 mX10_is 10 3 L S g := (ez_virtual kcX2_caughtTogether dX2_caughtTogether_6 ml_2_47 rfl L S g).trans (zCallV_y rfl rfl (by decide) L S g)
theorem eX2_caughtTogether_9 (L : pmL) (S : List Value) (g : pmH) : pmV mX2_caughtTogether 9 L S g = zCeq mX2_caughtTogether 12 43 L S g := ez_if_eq kcX2_caughtTogether dX2_caughtTogether_9 (by decide) rfl L S g
theorem eX2_caughtTogether_12 (L : pmL) (S : List Value) (g : pmH) : pmV mX2_caughtTogether 12 L S g = zLdA mX2_caughtTogether 13 0 L S g := ez_aload_n kcX2_caughtTogether dX2_caughtTogether_12 rfl rfl L S g
theorem eX2_caughtTogether_13 (L : pmL) (S : List Value) (g : pmH) : pmV mX2_caughtTogether 13 L S g = zGet mX2_caughtTogether 16 2 1 L S g := ez_getfield kcX2_caughtTogether dX2_caughtTogether_13 fl_2_22 rfl L S g
theorem eX2_caughtTogether_16 (L : pmL) (S : List Value) (g : pmH) : pmV mX2_caughtTogether 16 L S g = zGet mX2_caughtTogether 19 10 1 L S g := ez_getfield kcX2_caughtTogether dX2_caughtTogether_16 fl_2_50 rfl L S g
theorem eX2_caughtTogether_19 (L : pmL) (S : List Value) (g : pmH) : pmV mX2_caughtTogether 19 L S g = zLdI mX2_caughtTogether 20 1 L S g := ez_iload_n kcX2_caughtTogether dX2_caughtTogether_19 rfl rfl L S g
theorem eX2_caughtTogether_20 (L : pmL) (S : List Value) (g : pmH) : pmV mX2_caughtTogether 20 L S g = zAald mX2_caughtTogether 21 L S g := ez_aaload kcX2_caughtTogether dX2_caughtTogether_20 rfl L S g
theorem eX2_caughtTogether_21 (L : pmL) (S : List Value) (g : pmH) : pmV mX2_caughtTogether 21 L S g = zGet mX2_caughtTogether 24 1 3 L S g := ez_getfield kcX2_caughtTogether dX2_caughtTogether_21 fl_2_54 rfl L S g
theorem eX2_caughtTogether_24 (L : pmL) (S : List Value) (g : pmH) : pmV mX2_caughtTogether 24 L S g = zLdA mX2_caughtTogether 25 0 L S g := ez_aload_n kcX2_caughtTogether dX2_caughtTogether_24 rfl rfl L S g
theorem eX2_caughtTogether_25 (L : pmL) (S : List Value) (g : pmH) : pmV mX2_caughtTogether 25 L S g = zGet mX2_caughtTogether 28 2 1 L S g := ez_getfield kcX2_caughtTogether dX2_caughtTogether_25 fl_2_22 rfl L S g
theorem eX2_caughtTogether_28 (L : pmL) (S : List Value) (g : pmH) : pmV mX2_caughtTogether 28 L S g = zGet mX2_caughtTogether 31 10 1 L S g := ez_getfield kcX2_caughtTogether dX2_caughtTogether_28 fl_2_50 rfl L S g
theorem eX2_caughtTogether_31 (L : pmL) (S : List Value) (g : pmH) : pmV mX2_caughtTogether 31 L S g = zLdI mX2_caughtTogether 32 2 L S g := ez_iload_n kcX2_caughtTogether dX2_caughtTogether_31 rfl rfl L S g
theorem eX2_caughtTogether_32 (L : pmL) (S : List Value) (g : pmH) : pmV mX2_caughtTogether 32 L S g = zAald mX2_caughtTogether 33 L S g := ez_aaload kcX2_caughtTogether dX2_caughtTogether_32 rfl L S g
theorem eX2_caughtTogether_33 (L : pmL) (S : List Value) (g : pmH) : pmV mX2_caughtTogether 33 L S g = zGet mX2_caughtTogether 36 1 3 L S g := ez_getfield kcX2_caughtTogether dX2_caughtTogether_33 fl_2_54 rfl L S g
theorem eX2_caughtTogether_36 (L : pmL) (S : List Value) (g : pmH) : pmV mX2_caughtTogether 36 L S g = zBne mX2_caughtTogether 39 43 L S g := ez_icmp_ne kcX2_caughtTogether dX2_caughtTogether_36 (by decide) rfl L S g
theorem eX2_caughtTogether_39 (L : pmL) (S : List Value) (g : pmH) : pmV mX2_caughtTogether 39 L S g = zPush mX2_caughtTogether 40 (.int (nI 1)) L S g := ez_iconst kcX2_caughtTogether dX2_caughtTogether_39 (by decide) rfl L S g
theorem eX2_caughtTogether_40 (L : pmL) (S : List Value) (g : pmH) : pmV mX2_caughtTogether 40 L S g = zNx mX2_caughtTogether 44 L S g := ez_goto kcX2_caughtTogether dX2_caughtTogether_40 (by decide) L S g
theorem eX2_caughtTogether_43 (L : pmL) (S : List Value) (g : pmH) : pmV mX2_caughtTogether 43 L S g = zPush mX2_caughtTogether 44 (.int (nI 0)) L S g := ez_iconst kcX2_caughtTogether dX2_caughtTogether_43 (by decide) rfl L S g
theorem eX2_caughtTogether_44 (L : pmL) (S : List Value) (g : pmH) : pmV mX2_caughtTogether 44 L S g = zIret mX2_caughtTogether S g := ez_ireturn kcX2_caughtTogether dX2_caughtTogether_44 L S g
theorem eX2_ownJoy_0 (L : pmL) (S : List Value) (g : pmH) : pmV mX2_ownJoy 0 L S g = zLdA mX2_ownJoy 1 0 L S g := ez_aload_n kcX2_ownJoy dX2_ownJoy_0 rfl rfl L S g
theorem eX2_ownJoy_1 (L : pmL) (S : List Value) (g : pmH) : pmV mX2_ownJoy 1 L S g = zGet mX2_ownJoy 4 2 1 L S g := ez_getfield kcX2_ownJoy dX2_ownJoy_1 fl_2_22 rfl L S g
theorem eX2_ownJoy_4 (L : pmL) (S : List Value) (g : pmH) : pmV mX2_ownJoy 4 L S g = zLdI mX2_ownJoy 5 1 L S g := ez_iload_n kcX2_ownJoy dX2_ownJoy_4 rfl rfl L S g
theorem eX2_ownJoy_5 (L : pmL) (S : List Value) (g : pmH) : pmV mX2_ownJoy 5 L S g = yV mX2_ownJoy 8 1 mX10_isGlad 10 2 L S g := (ez_virtual kcX2_ownJoy dX2_ownJoy_5 ml_2_60 rfl L S g).trans (zCallV_y rfl rfl (by decide) L S g)
theorem eX2_ownJoy_8 (L : pmL) (S : List Value) (g : pmH) : pmV mX2_ownJoy 8 L S g = zCeq mX2_ownJoy 11 15 L S g := ez_if_eq kcX2_ownJoy dX2_ownJoy_8 (by decide) rfl L S g
theorem eX2_ownJoy_11 (L : pmL) (S : List Value) (g : pmH) : pmV mX2_ownJoy 11 L S g = zPush mX2_ownJoy 12 (.int (nI 3)) L S g := ez_iconst kcX2_ownJoy dX2_ownJoy_11 (by decide) rfl L S g
theorem eX2_ownJoy_12 (L : pmL) (S : List Value) (g : pmH) : pmV mX2_ownJoy 12 L S g = zNx mX2_ownJoy 16 L S g := ez_goto kcX2_ownJoy dX2_ownJoy_12 (by decide) L S g
theorem eX2_ownJoy_15 (L : pmL) (S : List Value) (g : pmH) : pmV mX2_ownJoy 15 L S g = zPush mX2_ownJoy 16 (.int (nI 0)) L S g := ez_iconst kcX2_ownJoy dX2_ownJoy_15 (by decide) rfl L S g
theorem eX2_ownJoy_16 (L : pmL) (S : List Value) (g : pmH) : pmV mX2_ownJoy 16 L S g = zLdA mX2_ownJoy 17 0 L S g := ez_aload_n kcX2_ownJoy dX2_ownJoy_16 rfl rfl L S g
theorem eX2_ownJoy_17 (L : pmL) (S : List Value) (g : pmH) : pmV mX2_ownJoy 17 L S g = zGet mX2_ownJoy 20 2 1 L S g := ez_getfield kcX2_ownJoy dX2_ownJoy_17 fl_2_22 rfl L S g
theorem eX2_ownJoy_20 (L : pmL) (S : List Value) (g : pmH) : pmV mX2_ownJoy 20 L S g = zLdI mX2_ownJoy 21 1 L S g := ez_iload_n kcX2_ownJoy dX2_ownJoy_20 rfl rfl L S g
theorem eX2_ownJoy_21 (L : pmL) (S : List Value) (g : pmH) : pmV mX2_ownJoy 21 L S g = zPush mX2_ownJoy 22 (.int (nI 0)) L S g := ez_iconst kcX2_ownJoy dX2_ownJoy_21 (by decide) rfl L S g
theorem eX2_ownJoy_22 (L : pmL) (S : List Value) (g : pmH) : pmV mX2_ownJoy 22 L S g = yV mX2_ownJoy 25 2 mX10_is 10 3 L S g := (ez_virtual kcX2_ownJoy dX2_ownJoy_22 ml_2_47 rfl L S g).trans (zCallV_y rfl rfl (by decide) L S g)
theorem eX2_ownJoy_25 (L : pmL) (S : List Value) (g : pmH) : pmV mX2_ownJoy 25 L S g = zCeq mX2_ownJoy 28 32 L S g := ez_if_eq kcX2_ownJoy dX2_ownJoy_25 (by decide) rfl L S g
theorem eX2_ownJoy_28 (L : pmL) (S : List Value) (g : pmH) : pmV mX2_ownJoy 28 L S g = zPush mX2_ownJoy 29 (.int (nI 1)) L S g := ez_iconst kcX2_ownJoy dX2_ownJoy_28 (by decide) rfl L S g
theorem eX2_ownJoy_29 (L : pmL) (S : List Value) (g : pmH) : pmV mX2_ownJoy 29 L S g = zNx mX2_ownJoy 33 L S g := ez_goto kcX2_ownJoy dX2_ownJoy_29 (by decide) L S g
theorem eX2_ownJoy_32 (L : pmL) (S : List Value) (g : pmH) : pmV mX2_ownJoy 32 L S g = zPush mX2_ownJoy 33 (.int (nI 0)) L S g := ez_iconst kcX2_ownJoy dX2_ownJoy_32 (by decide) rfl L S g
theorem eX2_ownJoy_33 (L : pmL) (S : List Value) (g : pmH) : pmV mX2_ownJoy 33 L S g = zAdd mX2_ownJoy 34 L S g := ez_iadd kcX2_ownJoy dX2_ownJoy_33 rfl L S g
theorem eX2_ownJoy_34 (L : pmL) (S : List Value) (g : pmH) : pmV mX2_ownJoy 34 L S g = zIret mX2_ownJoy S g := ez_ireturn kcX2_ownJoy dX2_ownJoy_34 L S g
theorem eX2_isAtRest_0 (L : pmL) (S : List Value) (g : pmH) : pmV mX2_isAtRest 0 L S g = zLdA mX2_isAtRest 1 0 L S g := ez_aload_n kcX2_isAtRest dX2_isAtRest_0 rfl rfl L S g
theorem eX2_isAtRest_1 (L : pmL) (S : List Value) (g : pmH) : pmV mX2_isAtRest 1 L S g = zGet mX2_isAtRest 4 2 2 L S g := ez_getfield kcX2_isAtRest dX2_isAtRest_1 fl_2_11 rfl L S g
theorem eX2_isAtRest_4 (L : pmL) (S : List Value) (g : pmH) : pmV mX2_isAtRest 4 L S g = zLdI mX2_isAtRest 5 1 L S g := ez_iload_n kcX2_isAtRest dX2_isAtRest_4 rfl rfl L S g
theorem eX2_isAtRest_5 (L : pmL) (S : List Value) (g : pmH) : pmV mX2_isAtRest 5 L S g = zPush mX2_isAtRest 6 (.int (nI 2)) L S g := ez_iconst kcX2_isAtRest dX2_isAtRest_5 (by decide) rfl L S g
theorem eX2_isAtRest_6 (L : pmL) (S : List Value) (g : pmH) : pmV mX2_isAtRest 6 L S g = zXor mX2_isAtRest 7 L S g := ez_ixor kcX2_isAtRest dX2_isAtRest_6 rfl L S g
theorem eX2_isAtRest_7 (L : pmL) (S : List Value) (g : pmH) : pmV mX2_isAtRest 7 L S g = zIald mX2_isAtRest 8 L S g := ez_iaload kcX2_isAtRest dX2_isAtRest_7 rfl L S g
theorem eX2_isAtRest_8 (L : pmL) (S : List Value) (g : pmH) : pmV mX2_isAtRest 8 L S g = zLdA mX2_isAtRest 9 0 L S g := ez_aload_n kcX2_isAtRest dX2_isAtRest_8 rfl rfl L S g
theorem eX2_isAtRest_9 (L : pmL) (S : List Value) (g : pmH) : pmV mX2_isAtRest 9 L S g = zGet mX2_isAtRest 12 2 2 L S g := ez_getfield kcX2_isAtRest dX2_isAtRest_9 fl_2_11 rfl L S g
theorem eX2_isAtRest_12 (L : pmL) (S : List Value) (g : pmH) : pmV mX2_isAtRest 12 L S g = zLdI mX2_isAtRest 13 1 L S g := ez_iload_n kcX2_isAtRest dX2_isAtRest_12 rfl rfl L S g
theorem eX2_isAtRest_13 (L : pmL) (S : List Value) (g : pmH) : pmV mX2_isAtRest 13 L S g = zIald mX2_isAtRest 14 L S g := ez_iaload kcX2_isAtRest dX2_isAtRest_13 rfl L S g
theorem eX2_isAtRest_14 (L : pmL) (S : List Value) (g : pmH) : pmV mX2_isAtRest 14 L S g = zBgt mX2_isAtRest 17 38 L S g := ez_icmp_gt kcX2_isAtRest dX2_isAtRest_14 (by decide) rfl L S g
theorem eX2_isAtRest_17 (L : pmL) (S : List Value) (g : pmH) : pmV mX2_isAtRest 17 L S g = zLdA mX2_isAtRest 18 0 L S g := ez_aload_n kcX2_isAtRest dX2_isAtRest_17 rfl rfl L S g
theorem eX2_isAtRest_18 (L : pmL) (S : List Value) (g : pmH) : pmV mX2_isAtRest 18 L S g = zGet mX2_isAtRest 21 2 3 L S g := ez_getfield kcX2_isAtRest dX2_isAtRest_18 fl_2_15 rfl L S g
theorem eX2_isAtRest_21 (L : pmL) (S : List Value) (g : pmH) : pmV mX2_isAtRest 21 L S g = zLdI mX2_isAtRest 22 1 L S g := ez_iload_n kcX2_isAtRest dX2_isAtRest_21 rfl rfl L S g
theorem eX2_isAtRest_22 (L : pmL) (S : List Value) (g : pmH) : pmV mX2_isAtRest 22 L S g = zPush mX2_isAtRest 23 (.int (nI 1)) L S g := ez_iconst kcX2_isAtRest dX2_isAtRest_22 (by decide) rfl L S g
theorem eX2_isAtRest_23 (L : pmL) (S : List Value) (g : pmH) : pmV mX2_isAtRest 23 L S g = zXor mX2_isAtRest 24 L S g := ez_ixor kcX2_isAtRest dX2_isAtRest_23 rfl L S g
theorem eX2_isAtRest_24 (L : pmL) (S : List Value) (g : pmH) : pmV mX2_isAtRest 24 L S g = zIald mX2_isAtRest 25 L S g := ez_iaload kcX2_isAtRest dX2_isAtRest_24 rfl L S g
theorem eX2_isAtRest_25 (L : pmL) (S : List Value) (g : pmH) : pmV mX2_isAtRest 25 L S g = zLdA mX2_isAtRest 26 0 L S g := ez_aload_n kcX2_isAtRest dX2_isAtRest_25 rfl rfl L S g
theorem eX2_isAtRest_26 (L : pmL) (S : List Value) (g : pmH) : pmV mX2_isAtRest 26 L S g = zGet mX2_isAtRest 29 2 3 L S g := ez_getfield kcX2_isAtRest dX2_isAtRest_26 fl_2_15 rfl L S g
theorem eX2_isAtRest_29 (L : pmL) (S : List Value) (g : pmH) : pmV mX2_isAtRest 29 L S g = zLdI mX2_isAtRest 30 1 L S g := ez_iload_n kcX2_isAtRest dX2_isAtRest_29 rfl rfl L S g
theorem eX2_isAtRest_30 (L : pmL) (S : List Value) (g : pmH) : pmV mX2_isAtRest 30 L S g = zIald mX2_isAtRest 31 L S g := ez_iaload kcX2_isAtRest dX2_isAtRest_30 rfl L S g
theorem eX2_isAtRest_31 (L : pmL) (S : List Value) (g : pmH) : pmV mX2_isAtRest 31 L S g = zBgt mX2_isAtRest 34 38 L S g := ez_icmp_gt kcX2_isAtRest dX2_isAtRest_31 (by decide) rfl L S g
theorem eX2_isAtRest_34 (L : pmL) (S : List Value) (g : pmH) : pmV mX2_isAtRest 34 L S g = zPush mX2_isAtRest 35 (.int (nI 1)) L S g := ez_iconst kcX2_isAtRest dX2_isAtRest_34 (by decide) rfl L S g
theorem eX2_isAtRest_35 (L : pmL) (S : List Value) (g : pmH) : pmV mX2_isAtRest 35 L S g = zNx mX2_isAtRest 39 L S g := ez_goto kcX2_isAtRest dX2_isAtRest_35 (by decide) L S g
theorem eX2_isAtRest_38 (L : pmL) (S : List Value) (g : pmH) : pmV mX2_isAtRest 38 L S g = zPush mX2_isAtRest 39 (.int (nI 0)) L S g := ez_iconst kcX2_isAtRest dX2_isAtRest_38 (by decide) rfl L S g
theorem eX2_isAtRest_39 (L : pmL) (S : List Value) (g : pmH) : pmV mX2_isAtRest 39 L S g = zIret mX2_isAtRest S g := ez_ireturn kcX2_isAtRest dX2_isAtRest_39 L S g
theorem eX2_howManyRest_0 (L : pmL) (S : List Value) (g : pmH) : pmV mX2_howManyRest 0 L S g = zPush mX2_howManyRest 1 (.int (nI 0)) L S g := ez_iconst kcX2_howManyRest dX2_howManyRest_0 (by decide) rfl L S g
theorem eX2_howManyRest_1 (L : pmL) (S : List Value) (g : pmH) : pmV mX2_howManyRest 1 L S g = zStI mX2_howManyRest 2 1 L S g := ez_istore_n kcX2_howManyRest dX2_howManyRest_1 rfl rfl L S g
theorem eX2_howManyRest_2 (L : pmL) (S : List Value) (g : pmH) : pmV mX2_howManyRest 2 L S g = zPush mX2_howManyRest 3 (.int (nI 0)) L S g := ez_iconst kcX2_howManyRest dX2_howManyRest_2 (by decide) rfl L S g
theorem eX2_howManyRest_3 (L : pmL) (S : List Value) (g : pmH) : pmV mX2_howManyRest 3 L S g = zStI mX2_howManyRest 4 2 L S g := ez_istore_n kcX2_howManyRest dX2_howManyRest_3 rfl rfl L S g
theorem eX2_howManyRest_4 (L : pmL) (S : List Value) (g : pmH) : pmV mX2_howManyRest 4 L S g = zLdI mX2_howManyRest 5 2 L S g := ez_iload_n kcX2_howManyRest dX2_howManyRest_4 rfl rfl L S g
theorem eX2_howManyRest_5 (L : pmL) (S : List Value) (g : pmH) : pmV mX2_howManyRest 5 L S g = zPush mX2_howManyRest 6 (.int (nI 4)) L S g := ez_iconst kcX2_howManyRest dX2_howManyRest_5 (by decide) rfl L S g
theorem eX2_howManyRest_6 (L : pmL) (S : List Value) (g : pmH) : pmV mX2_howManyRest 6 L S g = zBge mX2_howManyRest 9 26 L S g := ez_icmp_ge kcX2_howManyRest dX2_howManyRest_6 (by decide) rfl L S g
theorem eX2_howManyRest_9 (L : pmL) (S : List Value) (g : pmH) : pmV mX2_howManyRest 9 L S g = zLdA mX2_howManyRest 10 0 L S g := ez_aload_n kcX2_howManyRest dX2_howManyRest_9 rfl rfl L S g
theorem eX2_howManyRest_10 (L : pmL) (S : List Value) (g : pmH) : pmV mX2_howManyRest 10 L S g = zLdI mX2_howManyRest 11 2 L S g := ez_iload_n kcX2_howManyRest dX2_howManyRest_10 rfl rfl L S g
theorem eX2_howManyRest_11 (L : pmL) (S : List Value) (g : pmH) : pmV mX2_howManyRest 11 L S g = yV mX2_howManyRest 14 1 mX2_isAtRest 2 2 L S g := (ez_virtual kcX2_howManyRest dX2_howManyRest_11 ml_2_63 rfl L S g).trans (zCallV_y rfl rfl (by decide) L S g)
theorem eX2_howManyRest_14 (L : pmL) (S : List Value) (g : pmH) : pmV mX2_howManyRest 14 L S g = zCeq mX2_howManyRest 17 20 L S g := ez_if_eq kcX2_howManyRest dX2_howManyRest_14 (by decide) rfl L S g
theorem eX2_howManyRest_17 (L : pmL) (S : List Value) (g : pmH) : pmV mX2_howManyRest 17 L S g = zInc mX2_howManyRest 20 1 (nI 1) L S g := ez_iinc kcX2_howManyRest dX2_howManyRest_17 (by decide) rfl L S g
theorem eX2_howManyRest_20 (L : pmL) (S : List Value) (g : pmH) : pmV mX2_howManyRest 20 L S g = zInc mX2_howManyRest 23 2 (nI 1) L S g := ez_iinc kcX2_howManyRest dX2_howManyRest_20 (by decide) rfl L S g
theorem eX2_howManyRest_23 (L : pmL) (S : List Value) (g : pmH) : pmV mX2_howManyRest 23 L S g = zNx mX2_howManyRest 4 L S g := ez_goto kcX2_howManyRest dX2_howManyRest_23 (by decide) L S g
theorem eX2_howManyRest_26 (L : pmL) (S : List Value) (g : pmH) : pmV mX2_howManyRest 26 L S g = zLdI mX2_howManyRest 27 1 L S g := ez_iload_n kcX2_howManyRest dX2_howManyRest_26 rfl rfl L S g
theorem eX2_howManyRest_27 (L : pmL) (S : List Value) (g : pmH) : pmV mX2_howManyRest 27 L S g = zIret mX2_howManyRest S g := ez_ireturn kcX2_howManyRest dX2_howManyRest_27 L S g
theorem eX2_firstAtRest_0 (L : pmL) (S : List Value) (g : pmH) : pmV mX2_firstAtRest 0 L S g = zPush mX2_firstAtRest 1 (.int (nI 0)) L S g := ez_iconst kcX2_firstAtRest dX2_firstAtRest_0 (by decide) rfl L S g
theorem eX2_firstAtRest_1 (L : pmL) (S : List Value) (g : pmH) : pmV mX2_firstAtRest 1 L S g = zStI mX2_firstAtRest 2 1 L S g := ez_istore_n kcX2_firstAtRest dX2_firstAtRest_1 rfl rfl L S g
theorem eX2_firstAtRest_2 (L : pmL) (S : List Value) (g : pmH) : pmV mX2_firstAtRest 2 L S g = zLdI mX2_firstAtRest 3 1 L S g := ez_iload_n kcX2_firstAtRest dX2_firstAtRest_2 rfl rfl L S g
theorem eX2_firstAtRest_3 (L : pmL) (S : List Value) (g : pmH) : pmV mX2_firstAtRest 3 L S g = zPush mX2_firstAtRest 4 (.int (nI 4)) L S g := ez_iconst kcX2_firstAtRest dX2_firstAtRest_3 (by decide) rfl L S g
theorem eX2_firstAtRest_4 (L : pmL) (S : List Value) (g : pmH) : pmV mX2_firstAtRest 4 L S g = zBge mX2_firstAtRest 7 32 L S g := ez_icmp_ge kcX2_firstAtRest dX2_firstAtRest_4 (by decide) rfl L S g
theorem eX2_firstAtRest_7 (L : pmL) (S : List Value) (g : pmH) : pmV mX2_firstAtRest 7 L S g = zLdA mX2_firstAtRest 8 0 L S g := ez_aload_n kcX2_firstAtRest dX2_firstAtRest_7 rfl rfl L S g
theorem eX2_firstAtRest_8 (L : pmL) (S : List Value) (g : pmH) : pmV mX2_firstAtRest 8 L S g = zLdI mX2_firstAtRest 9 1 L S g := ez_iload_n kcX2_firstAtRest dX2_firstAtRest_8 rfl rfl L S g
theorem eX2_firstAtRest_9 (L : pmL) (S : List Value) (g : pmH) : pmV mX2_firstAtRest 9 L S g = yV mX2_firstAtRest 12 1 mX2_isAtRest 2 2 L S g := (ez_virtual kcX2_firstAtRest dX2_firstAtRest_9 ml_2_63 rfl L S g).trans (zCallV_y rfl rfl (by decide) L S g)
theorem eX2_firstAtRest_12 (L : pmL) (S : List Value) (g : pmH) : pmV mX2_firstAtRest 12 L S g = zCeq mX2_firstAtRest 15 26 L S g := ez_if_eq kcX2_firstAtRest dX2_firstAtRest_12 (by decide) rfl L S g
theorem eX2_firstAtRest_15 (L : pmL) (S : List Value) (g : pmH) : pmV mX2_firstAtRest 15 L S g = zPush mX2_firstAtRest 17 (.int (nI 10)) L S g := ez_bipush kcX2_firstAtRest dX2_firstAtRest_15 (by decide) rfl L S g
theorem eX2_firstAtRest_17 (L : pmL) (S : List Value) (g : pmH) : pmV mX2_firstAtRest 17 L S g = zLdI mX2_firstAtRest 18 1 L S g := ez_iload_n kcX2_firstAtRest dX2_firstAtRest_17 rfl rfl L S g
theorem eX2_firstAtRest_18 (L : pmL) (S : List Value) (g : pmH) : pmV mX2_firstAtRest 18 L S g = zPush mX2_firstAtRest 19 (.int (nI 1)) L S g := ez_iconst kcX2_firstAtRest dX2_firstAtRest_18 (by decide) rfl L S g
theorem eX2_firstAtRest_19 (L : pmL) (S : List Value) (g : pmH) : pmV mX2_firstAtRest 19 L S g = zShr mX2_firstAtRest 20 L S g := ez_ishr kcX2_firstAtRest dX2_firstAtRest_19 rfl L S g
theorem eX2_firstAtRest_20 (L : pmL) (S : List Value) (g : pmH) : pmV mX2_firstAtRest 20 L S g = zMul mX2_firstAtRest 21 L S g := ez_imul kcX2_firstAtRest dX2_firstAtRest_20 rfl L S g
theorem eX2_firstAtRest_21 (L : pmL) (S : List Value) (g : pmH) : pmV mX2_firstAtRest 21 L S g = zLdI mX2_firstAtRest 22 1 L S g := ez_iload_n kcX2_firstAtRest dX2_firstAtRest_21 rfl rfl L S g
theorem eX2_firstAtRest_22 (L : pmL) (S : List Value) (g : pmH) : pmV mX2_firstAtRest 22 L S g = zPush mX2_firstAtRest 23 (.int (nI 1)) L S g := ez_iconst kcX2_firstAtRest dX2_firstAtRest_22 (by decide) rfl L S g
theorem eX2_firstAtRest_23 (L : pmL) (S : List Value) (g : pmH) : pmV mX2_firstAtRest 23 L S g = zAnd mX2_firstAtRest 24 L S g := ez_iand kcX2_firstAtRest dX2_firstAtRest_23 rfl L S g
theorem eX2_firstAtRest_24 (L : pmL) (S : List Value) (g : pmH) : pmV mX2_firstAtRest 24 L S g = zAdd mX2_firstAtRest 25 L S g := ez_iadd kcX2_firstAtRest dX2_firstAtRest_24 rfl L S g
theorem eX2_firstAtRest_25 (L : pmL) (S : List Value) (g : pmH) : pmV mX2_firstAtRest 25 L S g = zIret mX2_firstAtRest S g := ez_ireturn kcX2_firstAtRest dX2_firstAtRest_25 L S g
theorem eX2_firstAtRest_26 (L : pmL) (S : List Value) (g : pmH) : pmV mX2_firstAtRest 26 L S g = zInc mX2_firstAtRest 29 1 (nI 1) L S g := ez_iinc kcX2_firstAtRest dX2_firstAtRest_26 (by decide) rfl L S g
theorem eX2_firstAtRest_29 (L : pmL) (S : List Value) (g : pmH) : pmV mX2_firstAtRest 29 L S g = zNx mX2_firstAtRest 2 L S g := ez_goto kcX2_firstAtRest dX2_firstAtRest_29 (by decide) L S g
theorem eX2_firstAtRest_32 (L : pmL) (S : List Value) (g : pmH) : pmV mX2_firstAtRest 32 L S g = zPush mX2_firstAtRest 34 (.int (-9)) L S g := ez_bipush kcX2_firstAtRest dX2_firstAtRest_32 (by decide) rfl L S g
theorem eX2_firstAtRest_34 (L : pmL) (S : List Value) (g : pmH) : pmV mX2_firstAtRest 34 L S g = zIret mX2_firstAtRest S g := ez_ireturn kcX2_firstAtRest dX2_firstAtRest_34 L S g
theorem eX3_init_0 (L : pmL) (S : List Value) (g : pmH) : pmV mX3_init 0 L S g = zLdA mX3_init 1 0 L S g := ez_aload_n kcX3_init dX3_init_0 rfl rfl L S g
theorem eX3_init_1 (L : pmL) (S : List Value) (g : pmH) : pmV mX3_init 1 L S g = zObj mX3_init 4 L S g := ez_objinit kcX3_init dX3_init_1 ol_3_3 rfl L S g
theorem eX3_init_4 (L : pmL) (S : List Value) (g : pmH) : pmV mX3_init 4 L S g = zLdA mX3_init 5 0 L S g := ez_aload_n kcX3_init dX3_init_4 rfl rfl L S g
theorem eX3_init_5 (L : pmL) (S : List Value) (g : pmH) : pmV mX3_init 5 L S g = zLdA mX3_init 6 1 L S g := ez_aload_n kcX3_init dX3_init_5 rfl rfl L S g
theorem eX3_init_6 (L : pmL) (S : List Value) (g : pmH) : pmV mX3_init 6 L S g = zPut mX3_init 9 3 0 L S g := ez_putfield kcX3_init dX3_init_6 fl_3_9 rfl L S g
theorem eX3_init_9 (L : pmL) (S : List Value) (g : pmH) : pmV mX3_init 9 L S g = zLdA mX3_init 10 0 L S g := ez_aload_n kcX3_init dX3_init_9 rfl rfl L S g
theorem eX3_init_10 (L : pmL) (S : List Value) (g : pmH) : pmV mX3_init 10 L S g = zLdA mX3_init 11 2 L S g := ez_aload_n kcX3_init dX3_init_10 rfl rfl L S g
theorem eX3_init_11 (L : pmL) (S : List Value) (g : pmH) : pmV mX3_init 11 L S g = zPut mX3_init 14 3 1 L S g := ez_putfield kcX3_init dX3_init_11 fl_3_15 rfl L S g
theorem eX3_init_14 (L : pmL) (S : List Value) (g : pmH) : pmV mX3_init 14 L S g = zVret S g := ez_return kcX3_init dX3_init_14 rfl L S g
theorem eX3_waysCaught_0 (L : pmL) (S : List Value) (g : pmH) : pmV mX3_waysCaught 0 L S g = zPush mX3_waysCaught 1 (.int (nI 0)) L S g := ez_iconst kcX3_waysCaught dX3_waysCaught_0 (by decide) rfl L S g
theorem eX3_waysCaught_1 (L : pmL) (S : List Value) (g : pmH) : pmV mX3_waysCaught 1 L S g = zStI mX3_waysCaught 3 5 L S g := ez_istore kcX3_waysCaught dX3_waysCaught_1 rfl L S g
theorem eX3_waysCaught_3 (L : pmL) (S : List Value) (g : pmH) : pmV mX3_waysCaught 3 L S g = zPush mX3_waysCaught 4 (.int (nI 0)) L S g := ez_iconst kcX3_waysCaught dX3_waysCaught_3 (by decide) rfl L S g
theorem eX3_waysCaught_4 (L : pmL) (S : List Value) (g : pmH) : pmV mX3_waysCaught 4 L S g = zStI mX3_waysCaught 6 6 L S g := ez_istore kcX3_waysCaught dX3_waysCaught_4 rfl L S g
theorem eX3_waysCaught_6 (L : pmL) (S : List Value) (g : pmH) : pmV mX3_waysCaught 6 L S g = zLdI mX3_waysCaught 8 6 L S g := ez_iload kcX3_waysCaught dX3_waysCaught_6 rfl L S g
theorem eX3_waysCaught_8 (L : pmL) (S : List Value) (g : pmH) : pmV mX3_waysCaught 8 L S g = zPush mX3_waysCaught 9 (.int (nI 1)) L S g := ez_iconst kcX3_waysCaught dX3_waysCaught_8 (by decide) rfl L S g
theorem eX3_waysCaught_9 (L : pmL) (S : List Value) (g : pmH) : pmV mX3_waysCaught 9 L S g = zLdI mX3_waysCaught 10 3 L S g := ez_iload_n kcX3_waysCaught dX3_waysCaught_9 rfl rfl L S g
theorem eX3_waysCaught_10 (L : pmL) (S : List Value) (g : pmH) : pmV mX3_waysCaught 10 L S g = zShl mX3_waysCaught 11 L S g := ez_ishl kcX3_waysCaught dX3_waysCaught_10 rfl L S g
theorem eX3_waysCaught_11 (L : pmL) (S : List Value) (g : pmH) : pmV mX3_waysCaught 11 L S g = zBge mX3_waysCaught 14 73 L S g := ez_icmp_ge kcX3_waysCaught dX3_waysCaught_11 (by decide) rfl L S g
theorem eX3_waysCaught_14 (L : pmL) (S : List Value) (g : pmH) : pmV mX3_waysCaught 14 L S g = zLdI mX3_waysCaught 16 6 L S g := ez_iload kcX3_waysCaught dX3_waysCaught_14 rfl L S g
theorem eX3_waysCaught_16 (L : pmL) (S : List Value) (g : pmH) : pmV mX3_waysCaught 16 L S g = yS mX3_waysCaught 19 1 mJ6_bitCount_0f7a4 1 L S g := (ez_static kcX3_waysCaught dX3_waysCaught_16 ml_3_18 (by decide) rfl L S g).trans (zCall_y rfl (by decide) L S g)
theorem eX3_waysCaught_19 (L : pmL) (S : List Value) (g : pmH) : pmV mX3_waysCaught 19 L S g = zStI mX3_waysCaught 21 7 L S g := ez_istore kcX3_waysCaught dX3_waysCaught_19 rfl L S g
theorem eX3_waysCaught_21 (L : pmL) (S : List Value) (g : pmH) : pmV mX3_waysCaught 21 L S g = zLdI mX3_waysCaught 23 4 L S g := ez_iload kcX3_waysCaught dX3_waysCaught_21 rfl L S g
theorem eX3_waysCaught_23 (L : pmL) (S : List Value) (g : pmH) : pmV mX3_waysCaught 23 L S g = zLdI mX3_waysCaught 25 7 L S g := ez_iload kcX3_waysCaught dX3_waysCaught_23 rfl L S g
theorem eX3_waysCaught_25 (L : pmL) (S : List Value) (g : pmH) : pmV mX3_waysCaught 25 L S g = yS mX3_waysCaught 28 2 mX11_power 4 L S g := (ez_static kcX3_waysCaught dX3_waysCaught_25 ml_3_24 (by decide) rfl L S g).trans (zCall_y rfl (by decide) L S g)
theorem eX3_waysCaught_28 (L : pmL) (S : List Value) (g : pmH) : pmV mX3_waysCaught 28 L S g = zPush mX3_waysCaught 30 (.int (nI 10)) L S g := ez_bipush kcX3_waysCaught dX3_waysCaught_28 (by decide) rfl L S g
theorem eX3_waysCaught_30 (L : pmL) (S : List Value) (g : pmH) : pmV mX3_waysCaught 30 L S g = zLdI mX3_waysCaught 32 4 L S g := ez_iload kcX3_waysCaught dX3_waysCaught_30 rfl L S g
theorem eX3_waysCaught_32 (L : pmL) (S : List Value) (g : pmH) : pmV mX3_waysCaught 32 L S g = zSub mX3_waysCaught 33 L S g := ez_isub kcX3_waysCaught dX3_waysCaught_32 rfl L S g
theorem eX3_waysCaught_33 (L : pmL) (S : List Value) (g : pmH) : pmV mX3_waysCaught 33 L S g = zLdI mX3_waysCaught 34 3 L S g := ez_iload_n kcX3_waysCaught dX3_waysCaught_33 rfl rfl L S g
theorem eX3_waysCaught_34 (L : pmL) (S : List Value) (g : pmH) : pmV mX3_waysCaught 34 L S g = zLdI mX3_waysCaught 36 7 L S g := ez_iload kcX3_waysCaught dX3_waysCaught_34 rfl L S g
theorem eX3_waysCaught_36 (L : pmL) (S : List Value) (g : pmH) : pmV mX3_waysCaught 36 L S g = zSub mX3_waysCaught 37 L S g := ez_isub kcX3_waysCaught dX3_waysCaught_36 rfl L S g
theorem eX3_waysCaught_37 (L : pmL) (S : List Value) (g : pmH) : pmV mX3_waysCaught 37 L S g = yS mX3_waysCaught 40 2 mX11_power 4 L S g := (ez_static kcX3_waysCaught dX3_waysCaught_37 ml_3_24 (by decide) rfl L S g).trans (zCall_y rfl (by decide) L S g)
theorem eX3_waysCaught_40 (L : pmL) (S : List Value) (g : pmH) : pmV mX3_waysCaught 40 L S g = zMul mX3_waysCaught 41 L S g := ez_imul kcX3_waysCaught dX3_waysCaught_40 rfl L S g
theorem eX3_waysCaught_41 (L : pmL) (S : List Value) (g : pmH) : pmV mX3_waysCaught 41 L S g = zStI mX3_waysCaught 43 8 L S g := ez_istore kcX3_waysCaught dX3_waysCaught_41 rfl L S g
theorem eX3_waysCaught_43 (L : pmL) (S : List Value) (g : pmH) : pmV mX3_waysCaught 43 L S g = zLdI mX3_waysCaught 45 8 L S g := ez_iload kcX3_waysCaught dX3_waysCaught_43 rfl L S g
theorem eX3_waysCaught_45 (L : pmL) (S : List Value) (g : pmH) : pmV mX3_waysCaught 45 L S g = zCle mX3_waysCaught 48 67 L S g := ez_if_le kcX3_waysCaught dX3_waysCaught_45 (by decide) rfl L S g
theorem eX3_waysCaught_48 (L : pmL) (S : List Value) (g : pmH) : pmV mX3_waysCaught 48 L S g = zLdA mX3_waysCaught 49 0 L S g := ez_aload_n kcX3_waysCaught dX3_waysCaught_48 rfl rfl L S g
theorem eX3_waysCaught_49 (L : pmL) (S : List Value) (g : pmH) : pmV mX3_waysCaught 49 L S g = zLdI mX3_waysCaught 51 6 L S g := ez_iload kcX3_waysCaught dX3_waysCaught_49 rfl L S g
theorem eX3_waysCaught_51 (L : pmL) (S : List Value) (g : pmH) : pmV mX3_waysCaught 51 L S g = zLdI mX3_waysCaught 52 3 L S g := ez_iload_n kcX3_waysCaught dX3_waysCaught_51 rfl rfl L S g
theorem eX3_waysCaught_52 (L : pmL) (S : List Value) (g : pmH) : pmV mX3_waysCaught 52 L S g = zLdI mX3_waysCaught 53 1 L S g := ez_iload_n kcX3_waysCaught dX3_waysCaught_52 rfl rfl L S g
theorem eX3_waysCaught_53 (L : pmL) (S : List Value) (g : pmH) : pmV mX3_waysCaught 53 L S g = zLdI mX3_waysCaught 54 2 L S g := ez_iload_n kcX3_waysCaught dX3_waysCaught_53 rfl rfl L S g
theorem eX3_waysCaught_54 (L : pmL) (S : List Value) (g : pmH) : pmV mX3_waysCaught 54 L S g = yV mX3_waysCaught 57 4 mX3_isCaughtIf 3 6 L S g := (ez_virtual kcX3_waysCaught dX3_waysCaught_54 ml_3_28 rfl L S g).trans (zCallV_y rfl rfl (by decide) L S g)
theorem eX3_waysCaught_57 (L : pmL) (S : List Value) (g : pmH) : pmV mX3_waysCaught 57 L S g = zCeq mX3_waysCaught 60 67 L S g := ez_if_eq kcX3_waysCaught dX3_waysCaught_57 (by decide) rfl L S g
theorem eX3_waysCaught_60 (L : pmL) (S : List Value) (g : pmH) : pmV mX3_waysCaught 60 L S g = zLdI mX3_waysCaught 62 5 L S g := ez_iload kcX3_waysCaught dX3_waysCaught_60 rfl L S g
theorem eX3_waysCaught_62 (L : pmL) (S : List Value) (g : pmH) : pmV mX3_waysCaught 62 L S g = zLdI mX3_waysCaught 64 8 L S g := ez_iload kcX3_waysCaught dX3_waysCaught_62 rfl L S g
theorem eX3_waysCaught_64 (L : pmL) (S : List Value) (g : pmH) : pmV mX3_waysCaught 64 L S g = zAdd mX3_waysCaught 65 L S g := ez_iadd kcX3_waysCaught dX3_waysCaught_64 rfl L S g
theorem eX3_waysCaught_65 (L : pmL) (S : List Value) (g : pmH) : pmV mX3_waysCaught 65 L S g = zStI mX3_waysCaught 67 5 L S g := ez_istore kcX3_waysCaught dX3_waysCaught_65 rfl L S g
theorem eX3_waysCaught_67 (L : pmL) (S : List Value) (g : pmH) : pmV mX3_waysCaught 67 L S g = zInc mX3_waysCaught 70 6 (nI 1) L S g := ez_iinc kcX3_waysCaught dX3_waysCaught_67 (by decide) rfl L S g
theorem eX3_waysCaught_70 (L : pmL) (S : List Value) (g : pmH) : pmV mX3_waysCaught 70 L S g = zNx mX3_waysCaught 6 L S g := ez_goto kcX3_waysCaught dX3_waysCaught_70 (by decide) L S g
theorem eX3_waysCaught_73 (L : pmL) (S : List Value) (g : pmH) : pmV mX3_waysCaught 73 L S g = zLdI mX3_waysCaught 75 5 L S g := ez_iload kcX3_waysCaught dX3_waysCaught_73 rfl L S g
theorem eX3_waysCaught_75 (L : pmL) (S : List Value) (g : pmH) : pmV mX3_waysCaught 75 L S g = zIret mX3_waysCaught S g := ez_ireturn kcX3_waysCaught dX3_waysCaught_75 L S g
theorem eX3_isCaughtIf_0 (L : pmL) (S : List Value) (g : pmH) : pmV mX3_isCaughtIf 0 L S g = zLdA mX3_isCaughtIf 1 0 L S g := ez_aload_n kcX3_isCaughtIf dX3_isCaughtIf_0 rfl rfl L S g
theorem eX3_isCaughtIf_1 (L : pmL) (S : List Value) (g : pmH) : pmV mX3_isCaughtIf 1 L S g = zGet mX3_isCaughtIf 4 3 1 L S g := ez_getfield kcX3_isCaughtIf dX3_isCaughtIf_1 fl_3_15 rfl L S g
theorem eX3_isCaughtIf_4 (L : pmL) (S : List Value) (g : pmH) : pmV mX3_isCaughtIf 4 L S g = zLdA mX3_isCaughtIf 5 0 L S g := ez_aload_n kcX3_isCaughtIf dX3_isCaughtIf_4 rfl rfl L S g
theorem eX3_isCaughtIf_5 (L : pmL) (S : List Value) (g : pmH) : pmV mX3_isCaughtIf 5 L S g = zGet mX3_isCaughtIf 8 3 0 L S g := ez_getfield kcX3_isCaughtIf dX3_isCaughtIf_5 fl_3_9 rfl L S g
theorem eX3_isCaughtIf_8 (L : pmL) (S : List Value) (g : pmH) : pmV mX3_isCaughtIf 8 L S g = yV mX3_isCaughtIf 11 1 mX10_takeFrom 10 3 L S g := (ez_virtual kcX3_isCaughtIf dX3_isCaughtIf_8 ml_3_32 rfl L S g).trans (zCallV_y rfl rfl (by decide) L S g)
theorem eX3_isCaughtIf_11 (L : pmL) (S : List Value) (g : pmH) : pmV mX3_isCaughtIf 11 L S g = zPush mX3_isCaughtIf 12 (.int (nI 0)) L S g := ez_iconst kcX3_isCaughtIf dX3_isCaughtIf_11 (by decide) rfl L S g
theorem eX3_isCaughtIf_12 (L : pmL) (S : List Value) (g : pmH) : pmV mX3_isCaughtIf 12 L S g = zStI mX3_isCaughtIf 14 5 L S g := ez_istore kcX3_isCaughtIf dX3_isCaughtIf_12 rfl L S g
theorem eX3_isCaughtIf_14 (L : pmL) (S : List Value) (g : pmH) : pmV mX3_isCaughtIf 14 L S g = zLdI mX3_isCaughtIf 16 5 L S g := ez_iload kcX3_isCaughtIf dX3_isCaughtIf_14 rfl L S g
theorem eX3_isCaughtIf_16 (L : pmL) (S : List Value) (g : pmH) : pmV mX3_isCaughtIf 16 L S g = zLdI mX3_isCaughtIf 17 2 L S g := ez_iload_n kcX3_isCaughtIf dX3_isCaughtIf_16 rfl rfl L S g
theorem eX3_isCaughtIf_17 (L : pmL) (S : List Value) (g : pmH) : pmV mX3_isCaughtIf 17 L S g = zBge mX3_isCaughtIf 20 55 L S g := ez_icmp_ge kcX3_isCaughtIf dX3_isCaughtIf_17 (by decide) rfl L S g
theorem eX3_isCaughtIf_20 (L : pmL) (S : List Value) (g : pmH) : pmV mX3_isCaughtIf 20 L S g = zLdI mX3_isCaughtIf 21 1 L S g := ez_iload_n kcX3_isCaughtIf dX3_isCaughtIf_20 rfl rfl L S g
theorem eX3_isCaughtIf_21 (L : pmL) (S : List Value) (g : pmH) : pmV mX3_isCaughtIf 21 L S g = zLdI mX3_isCaughtIf 23 5 L S g := ez_iload kcX3_isCaughtIf dX3_isCaughtIf_21 rfl L S g
theorem eX3_isCaughtIf_23 (L : pmL) (S : List Value) (g : pmH) : pmV mX3_isCaughtIf 23 L S g = zShr mX3_isCaughtIf 24 L S g := ez_ishr kcX3_isCaughtIf dX3_isCaughtIf_23 rfl L S g
theorem eX3_isCaughtIf_24 (L : pmL) (S : List Value) (g : pmH) : pmV mX3_isCaughtIf 24 L S g = zPush mX3_isCaughtIf 25 (.int (nI 1)) L S g := ez_iconst kcX3_isCaughtIf dX3_isCaughtIf_24 (by decide) rfl L S g
theorem eX3_isCaughtIf_25 (L : pmL) (S : List Value) (g : pmH) : pmV mX3_isCaughtIf 25 L S g = zAnd mX3_isCaughtIf 26 L S g := ez_iand kcX3_isCaughtIf dX3_isCaughtIf_25 rfl L S g
theorem eX3_isCaughtIf_26 (L : pmL) (S : List Value) (g : pmH) : pmV mX3_isCaughtIf 26 L S g = zCeq mX3_isCaughtIf 29 41 L S g := ez_if_eq kcX3_isCaughtIf dX3_isCaughtIf_26 (by decide) rfl L S g
theorem eX3_isCaughtIf_29 (L : pmL) (S : List Value) (g : pmH) : pmV mX3_isCaughtIf 29 L S g = zLdA mX3_isCaughtIf 30 0 L S g := ez_aload_n kcX3_isCaughtIf dX3_isCaughtIf_29 rfl rfl L S g
theorem eX3_isCaughtIf_30 (L : pmL) (S : List Value) (g : pmH) : pmV mX3_isCaughtIf 30 L S g = zGet mX3_isCaughtIf 33 3 1 L S g := ez_getfield kcX3_isCaughtIf dX3_isCaughtIf_30 fl_3_15 rfl L S g
theorem eX3_isCaughtIf_33 (L : pmL) (S : List Value) (g : pmH) : pmV mX3_isCaughtIf 33 L S g = zPush mX3_isCaughtIf 34 (.int (nI 0)) L S g := ez_iconst kcX3_isCaughtIf dX3_isCaughtIf_33 (by decide) rfl L S g
theorem eX3_isCaughtIf_34 (L : pmL) (S : List Value) (g : pmH) : pmV mX3_isCaughtIf 34 L S g = yV mX3_isCaughtIf 37 1 mX10_passHourBy 10 4 L S g := (ez_virtual kcX3_isCaughtIf dX3_isCaughtIf_34 ml_3_38 rfl L S g).trans (zCallV_y rfl rfl (by decide) L S g)
theorem eX3_isCaughtIf_37 (L : pmL) (S : List Value) (g : pmH) : pmV mX3_isCaughtIf 37 L S g = zPop mX3_isCaughtIf 38 L S g := ez_pop kcX3_isCaughtIf dX3_isCaughtIf_37 rfl L S g
theorem eX3_isCaughtIf_38 (L : pmL) (S : List Value) (g : pmH) : pmV mX3_isCaughtIf 38 L S g = zNx mX3_isCaughtIf 49 L S g := ez_goto kcX3_isCaughtIf dX3_isCaughtIf_38 (by decide) L S g
theorem eX3_isCaughtIf_41 (L : pmL) (S : List Value) (g : pmH) : pmV mX3_isCaughtIf 41 L S g = zLdA mX3_isCaughtIf 42 0 L S g := ez_aload_n kcX3_isCaughtIf dX3_isCaughtIf_41 rfl rfl L S g
theorem eX3_isCaughtIf_42 (L : pmL) (S : List Value) (g : pmH) : pmV mX3_isCaughtIf 42 L S g = zGet mX3_isCaughtIf 45 3 1 L S g := ez_getfield kcX3_isCaughtIf dX3_isCaughtIf_42 fl_3_15 rfl L S g
theorem eX3_isCaughtIf_45 (L : pmL) (S : List Value) (g : pmH) : pmV mX3_isCaughtIf 45 L S g = yV mX3_isCaughtIf 48 0 mX10_passHour 10 1 L S g := (ez_virtual kcX3_isCaughtIf dX3_isCaughtIf_45 ml_3_41 rfl L S g).trans (zCallV_y rfl rfl (by decide) L S g)
theorem eX3_isCaughtIf_48 (L : pmL) (S : List Value) (g : pmH) : pmV mX3_isCaughtIf 48 L S g = zPop mX3_isCaughtIf 49 L S g := ez_pop kcX3_isCaughtIf dX3_isCaughtIf_48 rfl L S g
theorem eX3_isCaughtIf_49 (L : pmL) (S : List Value) (g : pmH) : pmV mX3_isCaughtIf 49 L S g = zInc mX3_isCaughtIf 52 5 (nI 1) L S g := ez_iinc kcX3_isCaughtIf dX3_isCaughtIf_49 (by decide) rfl L S g
theorem eX3_isCaughtIf_52 (L : pmL) (S : List Value) (g : pmH) : pmV mX3_isCaughtIf 52 L S g = zNx mX3_isCaughtIf 14 L S g := ez_goto kcX3_isCaughtIf dX3_isCaughtIf_52 (by decide) L S g
theorem eX3_isCaughtIf_55 (L : pmL) (S : List Value) (g : pmH) : pmV mX3_isCaughtIf 55 L S g = zLdA mX3_isCaughtIf 56 0 L S g := ez_aload_n kcX3_isCaughtIf dX3_isCaughtIf_55 rfl rfl L S g
theorem eX3_isCaughtIf_56 (L : pmL) (S : List Value) (g : pmH) : pmV mX3_isCaughtIf 56 L S g = zGet mX3_isCaughtIf 59 3 1 L S g := ez_getfield kcX3_isCaughtIf dX3_isCaughtIf_56 fl_3_15 rfl L S g
theorem eX3_isCaughtIf_59 (L : pmL) (S : List Value) (g : pmH) : pmV mX3_isCaughtIf 59 L S g = zGet mX3_isCaughtIf 62 10 1 L S g := ez_getfield kcX3_isCaughtIf dX3_isCaughtIf_59 fl_3_45 rfl L S g
theorem eX3_isCaughtIf_62 (L : pmL) (S : List Value) (g : pmH) : pmV mX3_isCaughtIf 62 L S g = zLdI mX3_isCaughtIf 63 3 L S g := ez_iload_n kcX3_isCaughtIf dX3_isCaughtIf_62 rfl rfl L S g
theorem eX3_isCaughtIf_63 (L : pmL) (S : List Value) (g : pmH) : pmV mX3_isCaughtIf 63 L S g = zAald mX3_isCaughtIf 64 L S g := ez_aaload kcX3_isCaughtIf dX3_isCaughtIf_63 rfl L S g
theorem eX3_isCaughtIf_64 (L : pmL) (S : List Value) (g : pmH) : pmV mX3_isCaughtIf 64 L S g = zGet mX3_isCaughtIf 67 1 3 L S g := ez_getfield kcX3_isCaughtIf dX3_isCaughtIf_64 fl_3_49 rfl L S g
theorem eX3_isCaughtIf_67 (L : pmL) (S : List Value) (g : pmH) : pmV mX3_isCaughtIf 67 L S g = zLdI mX3_isCaughtIf 69 4 L S g := ez_iload kcX3_isCaughtIf dX3_isCaughtIf_67 rfl L S g
theorem eX3_isCaughtIf_69 (L : pmL) (S : List Value) (g : pmH) : pmV mX3_isCaughtIf 69 L S g = zBne mX3_isCaughtIf 72 76 L S g := ez_icmp_ne kcX3_isCaughtIf dX3_isCaughtIf_69 (by decide) rfl L S g
theorem eX3_isCaughtIf_72 (L : pmL) (S : List Value) (g : pmH) : pmV mX3_isCaughtIf 72 L S g = zPush mX3_isCaughtIf 73 (.int (nI 1)) L S g := ez_iconst kcX3_isCaughtIf dX3_isCaughtIf_72 (by decide) rfl L S g
theorem eX3_isCaughtIf_73 (L : pmL) (S : List Value) (g : pmH) : pmV mX3_isCaughtIf 73 L S g = zNx mX3_isCaughtIf 77 L S g := ez_goto kcX3_isCaughtIf dX3_isCaughtIf_73 (by decide) L S g
theorem eX3_isCaughtIf_76 (L : pmL) (S : List Value) (g : pmH) : pmV mX3_isCaughtIf 76 L S g = zPush mX3_isCaughtIf 77 (.int (nI 0)) L S g := ez_iconst kcX3_isCaughtIf dX3_isCaughtIf_76 (by decide) rfl L S g
theorem eX3_isCaughtIf_77 (L : pmL) (S : List Value) (g : pmH) : pmV mX3_isCaughtIf 77 L S g = zIret mX3_isCaughtIf S g := ez_ireturn kcX3_isCaughtIf dX3_isCaughtIf_77 L S g
theorem eX3_gladOverYears_0 (L : pmL) (S : List Value) (g : pmH) : pmV mX3_gladOverYears 0 L S g = zLdA mX3_gladOverYears 1 0 L S g := ez_aload_n kcX3_gladOverYears dX3_gladOverYears_0 rfl rfl L S g
theorem eX3_gladOverYears_1 (L : pmL) (S : List Value) (g : pmH) : pmV mX3_gladOverYears 1 L S g = zGet mX3_gladOverYears 4 3 1 L S g := ez_getfield kcX3_gladOverYears dX3_gladOverYears_1 fl_3_15 rfl L S g
theorem eX3_gladOverYears_4 (L : pmL) (S : List Value) (g : pmH) : pmV mX3_gladOverYears 4 L S g = zLdA mX3_gladOverYears 5 0 L S g := ez_aload_n kcX3_gladOverYears dX3_gladOverYears_4 rfl rfl L S g
theorem eX3_gladOverYears_5 (L : pmL) (S : List Value) (g : pmH) : pmV mX3_gladOverYears 5 L S g = zGet mX3_gladOverYears 8 3 0 L S g := ez_getfield kcX3_gladOverYears dX3_gladOverYears_5 fl_3_9 rfl L S g
theorem eX3_gladOverYears_8 (L : pmL) (S : List Value) (g : pmH) : pmV mX3_gladOverYears 8 L S g = yV mX3_gladOverYears 11 1 mX10_takeFrom 10 3 L S g := (ez_virtual kcX3_gladOverYears dX3_gladOverYears_8 ml_3_32 rfl L S g).trans (zCallV_y rfl rfl (by decide) L S g)
theorem eX3_gladOverYears_11 (L : pmL) (S : List Value) (g : pmH) : pmV mX3_gladOverYears 11 L S g = zPush mX3_gladOverYears 12 (.int (nI 0)) L S g := ez_iconst kcX3_gladOverYears dX3_gladOverYears_11 (by decide) rfl L S g
theorem eX3_gladOverYears_12 (L : pmL) (S : List Value) (g : pmH) : pmV mX3_gladOverYears 12 L S g = zStI mX3_gladOverYears 13 2 L S g := ez_istore_n kcX3_gladOverYears dX3_gladOverYears_12 rfl rfl L S g
theorem eX3_gladOverYears_13 (L : pmL) (S : List Value) (g : pmH) : pmV mX3_gladOverYears 13 L S g = zPush mX3_gladOverYears 14 (.int (nI 0)) L S g := ez_iconst kcX3_gladOverYears dX3_gladOverYears_13 (by decide) rfl L S g
theorem eX3_gladOverYears_14 (L : pmL) (S : List Value) (g : pmH) : pmV mX3_gladOverYears 14 L S g = zStI mX3_gladOverYears 15 3 L S g := ez_istore_n kcX3_gladOverYears dX3_gladOverYears_14 rfl rfl L S g
theorem eX3_gladOverYears_15 (L : pmL) (S : List Value) (g : pmH) : pmV mX3_gladOverYears 15 L S g = zLdI mX3_gladOverYears 16 3 L S g := ez_iload_n kcX3_gladOverYears dX3_gladOverYears_15 rfl rfl L S g
theorem eX3_gladOverYears_16 (L : pmL) (S : List Value) (g : pmH) : pmV mX3_gladOverYears 16 L S g = zLdI mX3_gladOverYears 17 1 L S g := ez_iload_n kcX3_gladOverYears dX3_gladOverYears_16 rfl rfl L S g
theorem eX3_gladOverYears_17 (L : pmL) (S : List Value) (g : pmH) : pmV mX3_gladOverYears 17 L S g = zBge mX3_gladOverYears 20 71 L S g := ez_icmp_ge kcX3_gladOverYears dX3_gladOverYears_17 (by decide) rfl L S g
theorem eX3_gladOverYears_20 (L : pmL) (S : List Value) (g : pmH) : pmV mX3_gladOverYears 20 L S g = zLdA mX3_gladOverYears 21 0 L S g := ez_aload_n kcX3_gladOverYears dX3_gladOverYears_20 rfl rfl L S g
theorem eX3_gladOverYears_21 (L : pmL) (S : List Value) (g : pmH) : pmV mX3_gladOverYears 21 L S g = zLdA mX3_gladOverYears 22 0 L S g := ez_aload_n kcX3_gladOverYears dX3_gladOverYears_21 rfl rfl L S g
theorem eX3_gladOverYears_22 (L : pmL) (S : List Value) (g : pmH) : pmV mX3_gladOverYears 22 L S g = zGet mX3_gladOverYears 25 3 2 L S g := ez_getfield kcX3_gladOverYears dX3_gladOverYears_22 fl_3_55 rfl L S g
theorem eX3_gladOverYears_25 (L : pmL) (S : List Value) (g : pmH) : pmV mX3_gladOverYears 25 L S g = zPush mX3_gladOverYears 28 (.long (lN 6364136223846793005)) L S g := ez_ldc2_w kcX3_gladOverYears dX3_gladOverYears_25 jl_3_59 rfl L S g
theorem eX3_gladOverYears_28 (L : pmL) (S : List Value) (g : pmH) : pmV mX3_gladOverYears 28 L S g = zJMul mX3_gladOverYears 29 L S g := ez_lmul kcX3_gladOverYears dX3_gladOverYears_28 rfl L S g
theorem eX3_gladOverYears_29 (L : pmL) (S : List Value) (g : pmH) : pmV mX3_gladOverYears 29 L S g = zPush mX3_gladOverYears 32 (.long (lN 1442695040888963407)) L S g := ez_ldc2_w kcX3_gladOverYears dX3_gladOverYears_29 jl_3_61 rfl L S g
theorem eX3_gladOverYears_32 (L : pmL) (S : List Value) (g : pmH) : pmV mX3_gladOverYears 32 L S g = zJAdd mX3_gladOverYears 33 L S g := ez_ladd kcX3_gladOverYears dX3_gladOverYears_32 rfl L S g
theorem eX3_gladOverYears_33 (L : pmL) (S : List Value) (g : pmH) : pmV mX3_gladOverYears 33 L S g = zPut mX3_gladOverYears 36 3 2 L S g := ez_putfield kcX3_gladOverYears dX3_gladOverYears_33 fl_3_55 rfl L S g
theorem eX3_gladOverYears_36 (L : pmL) (S : List Value) (g : pmH) : pmV mX3_gladOverYears 36 L S g = zLdA mX3_gladOverYears 37 0 L S g := ez_aload_n kcX3_gladOverYears dX3_gladOverYears_36 rfl rfl L S g
theorem eX3_gladOverYears_37 (L : pmL) (S : List Value) (g : pmH) : pmV mX3_gladOverYears 37 L S g = zLdA mX3_gladOverYears 38 0 L S g := ez_aload_n kcX3_gladOverYears dX3_gladOverYears_37 rfl rfl L S g
theorem eX3_gladOverYears_38 (L : pmL) (S : List Value) (g : pmH) : pmV mX3_gladOverYears 38 L S g = zGet mX3_gladOverYears 41 3 2 L S g := ez_getfield kcX3_gladOverYears dX3_gladOverYears_38 fl_3_55 rfl L S g
theorem eX3_gladOverYears_41 (L : pmL) (S : List Value) (g : pmH) : pmV mX3_gladOverYears 41 L S g = zPush mX3_gladOverYears 43 (.int (nI 33)) L S g := ez_bipush kcX3_gladOverYears dX3_gladOverYears_41 (by decide) rfl L S g
theorem eX3_gladOverYears_43 (L : pmL) (S : List Value) (g : pmH) : pmV mX3_gladOverYears 43 L S g = zJUshr mX3_gladOverYears 44 L S g := ez_lushr kcX3_gladOverYears dX3_gladOverYears_43 rfl L S g
theorem eX3_gladOverYears_44 (L : pmL) (S : List Value) (g : pmH) : pmV mX3_gladOverYears 44 L S g = zPush mX3_gladOverYears 47 (.long (lN 24)) L S g := ez_ldc2_w kcX3_gladOverYears dX3_gladOverYears_44 jl_3_63 rfl L S g
theorem eX3_gladOverYears_47 (L : pmL) (S : List Value) (g : pmH) : pmV mX3_gladOverYears 47 L S g = zJRem mX3_gladOverYears 48 L S g := ez_lrem kcX3_gladOverYears dX3_gladOverYears_47 rfl L S g
theorem eX3_gladOverYears_48 (L : pmL) (S : List Value) (g : pmH) : pmV mX3_gladOverYears 48 L S g = zL2i mX3_gladOverYears 49 L S g := ez_l2i kcX3_gladOverYears dX3_gladOverYears_48 rfl L S g
theorem eX3_gladOverYears_49 (L : pmL) (S : List Value) (g : pmH) : pmV mX3_gladOverYears 49 L S g = yV mX3_gladOverYears 52 1 mX3_doIfItCanBe 3 2 L S g := (ez_virtual kcX3_gladOverYears dX3_gladOverYears_49 ml_3_65 rfl L S g).trans (zCallV_y rfl rfl (by decide) L S g)
theorem eX3_gladOverYears_52 (L : pmL) (S : List Value) (g : pmH) : pmV mX3_gladOverYears 52 L S g = zLdI mX3_gladOverYears 53 2 L S g := ez_iload_n kcX3_gladOverYears dX3_gladOverYears_52 rfl rfl L S g
theorem eX3_gladOverYears_53 (L : pmL) (S : List Value) (g : pmH) : pmV mX3_gladOverYears 53 L S g = zLdA mX3_gladOverYears 54 0 L S g := ez_aload_n kcX3_gladOverYears dX3_gladOverYears_53 rfl rfl L S g
theorem eX3_gladOverYears_54 (L : pmL) (S : List Value) (g : pmH) : pmV mX3_gladOverYears 54 L S g = zGet mX3_gladOverYears 57 3 1 L S g := ez_getfield kcX3_gladOverYears dX3_gladOverYears_54 fl_3_15 rfl L S g
theorem eX3_gladOverYears_57 (L : pmL) (S : List Value) (g : pmH) : pmV mX3_gladOverYears 57 L S g = yV mX3_gladOverYears 60 0 mX10_gladChildren 10 3 L S g := (ez_virtual kcX3_gladOverYears dX3_gladOverYears_57 ml_3_69 rfl L S g).trans (zCallV_y rfl rfl (by decide) L S g)
theorem eX3_gladOverYears_60 (L : pmL) (S : List Value) (g : pmH) : pmV mX3_gladOverYears 60 L S g = yS mX3_gladOverYears 63 1 mJ6_bitCount_0f7a4 1 L S g := (ez_static kcX3_gladOverYears dX3_gladOverYears_60 ml_3_18 (by decide) rfl L S g).trans (zCall_y rfl (by decide) L S g)
theorem eX3_gladOverYears_63 (L : pmL) (S : List Value) (g : pmH) : pmV mX3_gladOverYears 63 L S g = zAdd mX3_gladOverYears 64 L S g := ez_iadd kcX3_gladOverYears dX3_gladOverYears_63 rfl L S g
theorem eX3_gladOverYears_64 (L : pmL) (S : List Value) (g : pmH) : pmV mX3_gladOverYears 64 L S g = zStI mX3_gladOverYears 65 2 L S g := ez_istore_n kcX3_gladOverYears dX3_gladOverYears_64 rfl rfl L S g
theorem eX3_gladOverYears_65 (L : pmL) (S : List Value) (g : pmH) : pmV mX3_gladOverYears 65 L S g = zInc mX3_gladOverYears 68 3 (nI 1) L S g := ez_iinc kcX3_gladOverYears dX3_gladOverYears_65 (by decide) rfl L S g
theorem eX3_gladOverYears_68 (L : pmL) (S : List Value) (g : pmH) : pmV mX3_gladOverYears 68 L S g = zNx mX3_gladOverYears 15 L S g := ez_goto kcX3_gladOverYears dX3_gladOverYears_68 (by decide) L S g
theorem eX3_gladOverYears_71 (L : pmL) (S : List Value) (g : pmH) : pmV mX3_gladOverYears 71 L S g = zLdI mX3_gladOverYears 72 2 L S g := ez_iload_n kcX3_gladOverYears dX3_gladOverYears_71 rfl rfl L S g
theorem eX3_gladOverYears_72 (L : pmL) (S : List Value) (g : pmH) : pmV mX3_gladOverYears 72 L S g = zIret mX3_gladOverYears S g := ez_ireturn kcX3_gladOverYears dX3_gladOverYears_72 L S g
theorem eX3_doIfItCanBe_0 (L : pmL) (S : List Value) (g : pmH) : pmV mX3_doIfItCanBe 0 L S g = zLdI mX3_doIfItCanBe 1 1 L S g := ez_iload_n kcX3_doIfItCanBe dX3_doIfItCanBe_0 rfl rfl L S g
theorem eX3_doIfItCanBe_1 (L : pmL) (S : List Value) (g : pmH) : pmV mX3_doIfItCanBe 1 L S g = zPush mX3_doIfItCanBe 2 (.int (nI 5)) L S g := ez_iconst kcX3_doIfItCanBe dX3_doIfItCanBe_1 (by decide) rfl L S g
theorem eX3_doIfItCanBe_2 (L : pmL) (S : List Value) (g : pmH) : pmV mX3_doIfItCanBe 2 L S g = zBge mX3_doIfItCanBe 5 17 L S g := ez_icmp_ge kcX3_doIfItCanBe dX3_doIfItCanBe_2 (by decide) rfl L S g
theorem eX3_doIfItCanBe_5 (L : pmL) (S : List Value) (g : pmH) : pmV mX3_doIfItCanBe 5 L S g = zLdA mX3_doIfItCanBe 6 0 L S g := ez_aload_n kcX3_doIfItCanBe dX3_doIfItCanBe_5 rfl rfl L S g
theorem eX3_doIfItCanBe_6 (L : pmL) (S : List Value) (g : pmH) : pmV mX3_doIfItCanBe 6 L S g = zGet mX3_doIfItCanBe 9 3 1 L S g := ez_getfield kcX3_doIfItCanBe dX3_doIfItCanBe_6 fl_3_15 rfl L S g
theorem eX3_doIfItCanBe_9 (L : pmL) (S : List Value) (g : pmH) : pmV mX3_doIfItCanBe 9 L S g = zLdI mX3_doIfItCanBe 10 1 L S g := ez_iload_n kcX3_doIfItCanBe dX3_doIfItCanBe_9 rfl rfl L S g
theorem eX3_doIfItCanBe_10 (L : pmL) (S : List Value) (g : pmH) : pmV mX3_doIfItCanBe 10 L S g = yV mX3_doIfItCanBe 13 1 mX10_letGo 10 2 L S g := (ez_virtual kcX3_doIfItCanBe dX3_doIfItCanBe_10 ml_3_72 rfl L S g).trans (zCallV_y rfl rfl (by decide) L S g)
theorem eX3_doIfItCanBe_13 (L : pmL) (S : List Value) (g : pmH) : pmV mX3_doIfItCanBe 13 L S g = zPop mX3_doIfItCanBe 14 L S g := ez_pop kcX3_doIfItCanBe dX3_doIfItCanBe_13 rfl L S g
theorem eX3_doIfItCanBe_14 (L : pmL) (S : List Value) (g : pmH) : pmV mX3_doIfItCanBe 14 L S g = zNx mX3_doIfItCanBe 72 L S g := ez_goto kcX3_doIfItCanBe dX3_doIfItCanBe_14 (by decide) L S g
theorem eX3_doIfItCanBe_17 (L : pmL) (S : List Value) (g : pmH) : pmV mX3_doIfItCanBe 17 L S g = zLdI mX3_doIfItCanBe 18 1 L S g := ez_iload_n kcX3_doIfItCanBe dX3_doIfItCanBe_17 rfl rfl L S g
theorem eX3_doIfItCanBe_18 (L : pmL) (S : List Value) (g : pmH) : pmV mX3_doIfItCanBe 18 L S g = zPush mX3_doIfItCanBe 20 (.int (nI 10)) L S g := ez_bipush kcX3_doIfItCanBe dX3_doIfItCanBe_18 (by decide) rfl L S g
theorem eX3_doIfItCanBe_20 (L : pmL) (S : List Value) (g : pmH) : pmV mX3_doIfItCanBe 20 L S g = zBge mX3_doIfItCanBe 23 37 L S g := ez_icmp_ge kcX3_doIfItCanBe dX3_doIfItCanBe_20 (by decide) rfl L S g
theorem eX3_doIfItCanBe_23 (L : pmL) (S : List Value) (g : pmH) : pmV mX3_doIfItCanBe 23 L S g = zLdA mX3_doIfItCanBe 24 0 L S g := ez_aload_n kcX3_doIfItCanBe dX3_doIfItCanBe_23 rfl rfl L S g
theorem eX3_doIfItCanBe_24 (L : pmL) (S : List Value) (g : pmH) : pmV mX3_doIfItCanBe 24 L S g = zGet mX3_doIfItCanBe 27 3 1 L S g := ez_getfield kcX3_doIfItCanBe dX3_doIfItCanBe_24 fl_3_15 rfl L S g
theorem eX3_doIfItCanBe_27 (L : pmL) (S : List Value) (g : pmH) : pmV mX3_doIfItCanBe 27 L S g = zLdI mX3_doIfItCanBe 28 1 L S g := ez_iload_n kcX3_doIfItCanBe dX3_doIfItCanBe_27 rfl rfl L S g
theorem eX3_doIfItCanBe_28 (L : pmL) (S : List Value) (g : pmH) : pmV mX3_doIfItCanBe 28 L S g = zPush mX3_doIfItCanBe 29 (.int (nI 5)) L S g := ez_iconst kcX3_doIfItCanBe dX3_doIfItCanBe_28 (by decide) rfl L S g
theorem eX3_doIfItCanBe_29 (L : pmL) (S : List Value) (g : pmH) : pmV mX3_doIfItCanBe 29 L S g = zSub mX3_doIfItCanBe 30 L S g := ez_isub kcX3_doIfItCanBe dX3_doIfItCanBe_29 rfl L S g
theorem eX3_doIfItCanBe_30 (L : pmL) (S : List Value) (g : pmH) : pmV mX3_doIfItCanBe 30 L S g = yV mX3_doIfItCanBe 33 1 mX10_setFree 10 2 L S g := (ez_virtual kcX3_doIfItCanBe dX3_doIfItCanBe_30 ml_3_76 rfl L S g).trans (zCallV_y rfl rfl (by decide) L S g)
theorem eX3_doIfItCanBe_33 (L : pmL) (S : List Value) (g : pmH) : pmV mX3_doIfItCanBe 33 L S g = zPop mX3_doIfItCanBe 34 L S g := ez_pop kcX3_doIfItCanBe dX3_doIfItCanBe_33 rfl L S g
theorem eX3_doIfItCanBe_34 (L : pmL) (S : List Value) (g : pmH) : pmV mX3_doIfItCanBe 34 L S g = zNx mX3_doIfItCanBe 72 L S g := ez_goto kcX3_doIfItCanBe dX3_doIfItCanBe_34 (by decide) L S g
theorem eX3_doIfItCanBe_37 (L : pmL) (S : List Value) (g : pmH) : pmV mX3_doIfItCanBe 37 L S g = zLdI mX3_doIfItCanBe 38 1 L S g := ez_iload_n kcX3_doIfItCanBe dX3_doIfItCanBe_37 rfl rfl L S g
theorem eX3_doIfItCanBe_38 (L : pmL) (S : List Value) (g : pmH) : pmV mX3_doIfItCanBe 38 L S g = zPush mX3_doIfItCanBe 40 (.int (nI 13)) L S g := ez_bipush kcX3_doIfItCanBe dX3_doIfItCanBe_38 (by decide) rfl L S g
theorem eX3_doIfItCanBe_40 (L : pmL) (S : List Value) (g : pmH) : pmV mX3_doIfItCanBe 40 L S g = zBge mX3_doIfItCanBe 43 64 L S g := ez_icmp_ge kcX3_doIfItCanBe dX3_doIfItCanBe_40 (by decide) rfl L S g
theorem eX3_doIfItCanBe_43 (L : pmL) (S : List Value) (g : pmH) : pmV mX3_doIfItCanBe 43 L S g = zLdA mX3_doIfItCanBe 44 0 L S g := ez_aload_n kcX3_doIfItCanBe dX3_doIfItCanBe_43 rfl rfl L S g
theorem eX3_doIfItCanBe_44 (L : pmL) (S : List Value) (g : pmH) : pmV mX3_doIfItCanBe 44 L S g = zGet mX3_doIfItCanBe 47 3 1 L S g := ez_getfield kcX3_doIfItCanBe dX3_doIfItCanBe_44 fl_3_15 rfl L S g
theorem eX3_doIfItCanBe_47 (L : pmL) (S : List Value) (g : pmH) : pmV mX3_doIfItCanBe 47 L S g = zLdI mX3_doIfItCanBe 48 1 L S g := ez_iload_n kcX3_doIfItCanBe dX3_doIfItCanBe_47 rfl rfl L S g
theorem eX3_doIfItCanBe_48 (L : pmL) (S : List Value) (g : pmH) : pmV mX3_doIfItCanBe 48 L S g = zPush mX3_doIfItCanBe 50 (.int (nI 10)) L S g := ez_bipush kcX3_doIfItCanBe dX3_doIfItCanBe_48 (by decide) rfl L S g
theorem eX3_doIfItCanBe_50 (L : pmL) (S : List Value) (g : pmH) : pmV mX3_doIfItCanBe 50 L S g = zSub mX3_doIfItCanBe 51 L S g := ez_isub kcX3_doIfItCanBe dX3_doIfItCanBe_50 rfl L S g
theorem eX3_doIfItCanBe_51 (L : pmL) (S : List Value) (g : pmH) : pmV mX3_doIfItCanBe 51 L S g = zLdI mX3_doIfItCanBe 52 1 L S g := ez_iload_n kcX3_doIfItCanBe dX3_doIfItCanBe_51 rfl rfl L S g
theorem eX3_doIfItCanBe_52 (L : pmL) (S : List Value) (g : pmH) : pmV mX3_doIfItCanBe 52 L S g = zPush mX3_doIfItCanBe 54 (.int (nI 10)) L S g := ez_bipush kcX3_doIfItCanBe dX3_doIfItCanBe_52 (by decide) rfl L S g
theorem eX3_doIfItCanBe_54 (L : pmL) (S : List Value) (g : pmH) : pmV mX3_doIfItCanBe 54 L S g = zSub mX3_doIfItCanBe 55 L S g := ez_isub kcX3_doIfItCanBe dX3_doIfItCanBe_54 rfl L S g
theorem eX3_doIfItCanBe_55 (L : pmL) (S : List Value) (g : pmH) : pmV mX3_doIfItCanBe 55 L S g = zPush mX3_doIfItCanBe 56 (.int (nI 1)) L S g := ez_iconst kcX3_doIfItCanBe dX3_doIfItCanBe_55 (by decide) rfl L S g
theorem eX3_doIfItCanBe_56 (L : pmL) (S : List Value) (g : pmH) : pmV mX3_doIfItCanBe 56 L S g = zAdd mX3_doIfItCanBe 57 L S g := ez_iadd kcX3_doIfItCanBe dX3_doIfItCanBe_56 rfl L S g
theorem eX3_doIfItCanBe_57 (L : pmL) (S : List Value) (g : pmH) : pmV mX3_doIfItCanBe 57 L S g = yV mX3_doIfItCanBe 60 2 mX10_putRight 10 4 L S g := (ez_virtual kcX3_doIfItCanBe dX3_doIfItCanBe_57 ml_3_79 rfl L S g).trans (zCallV_y rfl rfl (by decide) L S g)
theorem eX3_doIfItCanBe_60 (L : pmL) (S : List Value) (g : pmH) : pmV mX3_doIfItCanBe 60 L S g = zPop mX3_doIfItCanBe 61 L S g := ez_pop kcX3_doIfItCanBe dX3_doIfItCanBe_60 rfl L S g
theorem eX3_doIfItCanBe_61 (L : pmL) (S : List Value) (g : pmH) : pmV mX3_doIfItCanBe 61 L S g = zNx mX3_doIfItCanBe 72 L S g := ez_goto kcX3_doIfItCanBe dX3_doIfItCanBe_61 (by decide) L S g
theorem eX3_doIfItCanBe_64 (L : pmL) (S : List Value) (g : pmH) : pmV mX3_doIfItCanBe 64 L S g = zLdA mX3_doIfItCanBe 65 0 L S g := ez_aload_n kcX3_doIfItCanBe dX3_doIfItCanBe_64 rfl rfl L S g
theorem eX3_doIfItCanBe_65 (L : pmL) (S : List Value) (g : pmH) : pmV mX3_doIfItCanBe 65 L S g = zGet mX3_doIfItCanBe 68 3 1 L S g := ez_getfield kcX3_doIfItCanBe dX3_doIfItCanBe_65 fl_3_15 rfl L S g
theorem eX3_doIfItCanBe_68 (L : pmL) (S : List Value) (g : pmH) : pmV mX3_doIfItCanBe 68 L S g = yV mX3_doIfItCanBe 71 0 mX10_passHour 10 1 L S g := (ez_virtual kcX3_doIfItCanBe dX3_doIfItCanBe_68 ml_3_41 rfl L S g).trans (zCallV_y rfl rfl (by decide) L S g)
theorem eX3_doIfItCanBe_71 (L : pmL) (S : List Value) (g : pmH) : pmV mX3_doIfItCanBe 71 L S g = zPop mX3_doIfItCanBe 72 L S g := ez_pop kcX3_doIfItCanBe dX3_doIfItCanBe_71 rfl L S g
theorem eX3_doIfItCanBe_72 (L : pmL) (S : List Value) (g : pmH) : pmV mX3_doIfItCanBe 72 L S g = zVret S g := ez_return kcX3_doIfItCanBe dX3_doIfItCanBe_72 rfl L S g
theorem eX4_init_0 (L : pmL) (S : List Value) (g : pmH) : pmV mX4_init 0 L S g = zLdA mX4_init 1 0 L S g := ez_aload_n kcX4_init dX4_init_0 rfl rfl L S g
theorem eX4_init_1 (L : pmL) (S : List Value) (g : pmH) : pmV mX4_init 1 L S g = zObj mX4_init 4 L S g := ez_objinit kcX4_init dX4_init_1 ol_4_3 rfl L S g
theorem eX4_init_4 (L : pmL) (S : List Value) (g : pmH) : pmV mX4_init 4 L S g = zLdA mX4_init 5 0 L S g := ez_aload_n kcX4_init dX4_init_4 rfl rfl L S g
theorem eX4_init_5 (L : pmL) (S : List Value) (g : pmH) : pmV mX4_init 5 L S g = zPush mX4_init 6 (.int (nI 4)) L S g := ez_iconst kcX4_init dX4_init_5 (by decide) rfl L S g
theorem eX4_init_6 (L : pmL) (S : List Value) (g : pmH) : pmV mX4_init 6 L S g = zNewA mX4_init 8 0 L S g := ez_newarray_int kcX4_init dX4_init_6 rfl L S g
theorem eX4_init_8 (L : pmL) (S : List Value) (g : pmH) : pmV mX4_init 8 L S g = zPut mX4_init 11 4 0 L S g := ez_putfield kcX4_init dX4_init_8 fl_4_9 rfl L S g
theorem eX4_init_11 (L : pmL) (S : List Value) (g : pmH) : pmV mX4_init 11 L S g = zLdA mX4_init 12 0 L S g := ez_aload_n kcX4_init dX4_init_11 rfl rfl L S g
theorem eX4_init_12 (L : pmL) (S : List Value) (g : pmH) : pmV mX4_init 12 L S g = zPush mX4_init 13 (.int (nI 5)) L S g := ez_iconst kcX4_init dX4_init_12 (by decide) rfl L S g
theorem eX4_init_13 (L : pmL) (S : List Value) (g : pmH) : pmV mX4_init 13 L S g = zNewA mX4_init 15 0 L S g := ez_newarray_int kcX4_init dX4_init_13 rfl L S g
theorem eX4_init_15 (L : pmL) (S : List Value) (g : pmH) : pmV mX4_init 15 L S g = zPut mX4_init 18 4 1 L S g := ez_putfield kcX4_init dX4_init_15 fl_4_15 rfl L S g
theorem eX4_init_18 (L : pmL) (S : List Value) (g : pmH) : pmV mX4_init 18 L S g = zLdA mX4_init 19 0 L S g := ez_aload_n kcX4_init dX4_init_18 rfl rfl L S g
theorem eX4_init_19 (L : pmL) (S : List Value) (g : pmH) : pmV mX4_init 19 L S g = zPush mX4_init 20 (.int (nI 5)) L S g := ez_iconst kcX4_init dX4_init_19 (by decide) rfl L S g
theorem eX4_init_20 (L : pmL) (S : List Value) (g : pmH) : pmV mX4_init 20 L S g = zNewA mX4_init 22 0 L S g := ez_newarray_int kcX4_init dX4_init_20 rfl L S g
theorem eX4_init_22 (L : pmL) (S : List Value) (g : pmH) : pmV mX4_init 22 L S g = zPut mX4_init 25 4 2 L S g := ez_putfield kcX4_init dX4_init_22 fl_4_18 rfl L S g
theorem eX4_init_25 (L : pmL) (S : List Value) (g : pmH) : pmV mX4_init 25 L S g = zLdA mX4_init 26 0 L S g := ez_aload_n kcX4_init dX4_init_25 rfl rfl L S g
theorem eX4_init_26 (L : pmL) (S : List Value) (g : pmH) : pmV mX4_init 26 L S g = zPush mX4_init 27 (.int (nI 5)) L S g := ez_iconst kcX4_init dX4_init_26 (by decide) rfl L S g
theorem eX4_init_27 (L : pmL) (S : List Value) (g : pmH) : pmV mX4_init 27 L S g = zNewA mX4_init 29 0 L S g := ez_newarray_int kcX4_init dX4_init_27 rfl L S g
theorem eX4_init_29 (L : pmL) (S : List Value) (g : pmH) : pmV mX4_init 29 L S g = zPut mX4_init 32 4 3 L S g := ez_putfield kcX4_init dX4_init_29 fl_4_21 rfl L S g
theorem eX4_init_32 (L : pmL) (S : List Value) (g : pmH) : pmV mX4_init 32 L S g = zLdA mX4_init 33 0 L S g := ez_aload_n kcX4_init dX4_init_32 rfl rfl L S g
theorem eX4_init_33 (L : pmL) (S : List Value) (g : pmH) : pmV mX4_init 33 L S g = zPush mX4_init 34 (.int (nI 4)) L S g := ez_iconst kcX4_init dX4_init_33 (by decide) rfl L S g
theorem eX4_init_34 (L : pmL) (S : List Value) (g : pmH) : pmV mX4_init 34 L S g = zNewA mX4_init 36 0 L S g := ez_newarray_int kcX4_init dX4_init_34 rfl L S g
theorem eX4_init_36 (L : pmL) (S : List Value) (g : pmH) : pmV mX4_init 36 L S g = zPut mX4_init 39 4 4 L S g := ez_putfield kcX4_init dX4_init_36 fl_4_24 rfl L S g
theorem eX4_init_39 (L : pmL) (S : List Value) (g : pmH) : pmV mX4_init 39 L S g = zLdA mX4_init 40 0 L S g := ez_aload_n kcX4_init dX4_init_39 rfl rfl L S g
theorem eX4_init_40 (L : pmL) (S : List Value) (g : pmH) : pmV mX4_init 40 L S g = zPush mX4_init 41 (.int (nI 4)) L S g := ez_iconst kcX4_init dX4_init_40 (by decide) rfl L S g
theorem eX4_init_41 (L : pmL) (S : List Value) (g : pmH) : pmV mX4_init 41 L S g = zNewA mX4_init 43 0 L S g := ez_newarray_int kcX4_init dX4_init_41 rfl L S g
theorem eX4_init_43 (L : pmL) (S : List Value) (g : pmH) : pmV mX4_init 43 L S g = zPut mX4_init 46 4 5 L S g := ez_putfield kcX4_init dX4_init_43 fl_4_27 rfl L S g
theorem eX4_init_46 (L : pmL) (S : List Value) (g : pmH) : pmV mX4_init 46 L S g = zLdA mX4_init 47 0 L S g := ez_aload_n kcX4_init dX4_init_46 rfl rfl L S g
theorem eX4_init_47 (L : pmL) (S : List Value) (g : pmH) : pmV mX4_init 47 L S g = zPush mX4_init 48 (.int (nI 4)) L S g := ez_iconst kcX4_init dX4_init_47 (by decide) rfl L S g
theorem eX4_init_48 (L : pmL) (S : List Value) (g : pmH) : pmV mX4_init 48 L S g = zNewA mX4_init 50 0 L S g := ez_newarray_int kcX4_init dX4_init_48 rfl L S g
theorem eX4_init_50 (L : pmL) (S : List Value) (g : pmH) : pmV mX4_init 50 L S g = zPut mX4_init 53 4 6 L S g := ez_putfield kcX4_init dX4_init_50 fl_4_30 rfl L S g
theorem eX4_init_53 (L : pmL) (S : List Value) (g : pmH) : pmV mX4_init 53 L S g = zVret S g := ez_return kcX4_init dX4_init_53 rfl L S g
theorem eX4_clear_0 (L : pmL) (S : List Value) (g : pmH) : pmV mX4_clear 0 L S g = zLdA mX4_clear 1 0 L S g := ez_aload_n kcX4_clear dX4_clear_0 rfl rfl L S g
theorem eX4_clear_1 (L : pmL) (S : List Value) (g : pmH) : pmV mX4_clear 1 L S g = zPush mX4_clear 2 (.int (nI 0)) L S g := ez_iconst kcX4_clear dX4_clear_1 (by decide) rfl L S g
theorem eX4_clear_2 (L : pmL) (S : List Value) (g : pmH) : pmV mX4_clear 2 L S g = zPut mX4_clear 5 4 7 L S g := ez_putfield kcX4_clear dX4_clear_2 fl_4_33 rfl L S g
theorem eX4_clear_5 (L : pmL) (S : List Value) (g : pmH) : pmV mX4_clear 5 L S g = zLdA mX4_clear 6 0 L S g := ez_aload_n kcX4_clear dX4_clear_5 rfl rfl L S g
theorem eX4_clear_6 (L : pmL) (S : List Value) (g : pmH) : pmV mX4_clear 6 L S g = zPush mX4_clear 7 (.int (nI 0)) L S g := ez_iconst kcX4_clear dX4_clear_6 (by decide) rfl L S g
theorem eX4_clear_7 (L : pmL) (S : List Value) (g : pmH) : pmV mX4_clear 7 L S g = zPut mX4_clear 10 4 8 L S g := ez_putfield kcX4_clear dX4_clear_7 fl_4_37 rfl L S g
theorem eX4_clear_10 (L : pmL) (S : List Value) (g : pmH) : pmV mX4_clear 10 L S g = zLdA mX4_clear 11 0 L S g := ez_aload_n kcX4_clear dX4_clear_10 rfl rfl L S g
theorem eX4_clear_11 (L : pmL) (S : List Value) (g : pmH) : pmV mX4_clear 11 L S g = zPush mX4_clear 12 (.int (nI 0)) L S g := ez_iconst kcX4_clear dX4_clear_11 (by decide) rfl L S g
theorem eX4_clear_12 (L : pmL) (S : List Value) (g : pmH) : pmV mX4_clear 12 L S g = zPut mX4_clear 15 4 9 L S g := ez_putfield kcX4_clear dX4_clear_12 fl_4_40 rfl L S g
theorem eX4_clear_15 (L : pmL) (S : List Value) (g : pmH) : pmV mX4_clear 15 L S g = zVret S g := ez_return kcX4_clear dX4_clear_15 rfl L S g
theorem eX4_windOf_0 (L : pmL) (S : List Value) (g : pmH) : pmV mX4_windOf 0 L S g = zLdA mX4_windOf 1 0 L S g := ez_aload_n kcX4_windOf dX4_windOf_0 rfl rfl L S g
theorem eX4_windOf_1 (L : pmL) (S : List Value) (g : pmH) : pmV mX4_windOf 1 L S g = zGet mX4_windOf 4 4 7 L S g := ez_getfield kcX4_windOf dX4_windOf_1 fl_4_33 rfl L S g
theorem eX4_windOf_4 (L : pmL) (S : List Value) (g : pmH) : pmV mX4_windOf 4 L S g = zCne mX4_windOf 7 11 L S g := ez_if_ne kcX4_windOf dX4_windOf_4 (by decide) rfl L S g
theorem eX4_windOf_7 (L : pmL) (S : List Value) (g : pmH) : pmV mX4_windOf 7 L S g = zPush mX4_windOf 8 (.int (nI 0)) L S g := ez_iconst kcX4_windOf dX4_windOf_7 (by decide) rfl L S g
theorem eX4_windOf_8 (L : pmL) (S : List Value) (g : pmH) : pmV mX4_windOf 8 L S g = zNx mX4_windOf 24 L S g := ez_goto kcX4_windOf dX4_windOf_8 (by decide) L S g
theorem eX4_windOf_11 (L : pmL) (S : List Value) (g : pmH) : pmV mX4_windOf 11 L S g = zLdA mX4_windOf 12 0 L S g := ez_aload_n kcX4_windOf dX4_windOf_11 rfl rfl L S g
theorem eX4_windOf_12 (L : pmL) (S : List Value) (g : pmH) : pmV mX4_windOf 12 L S g = zGet mX4_windOf 15 4 0 L S g := ez_getfield kcX4_windOf dX4_windOf_12 fl_4_9 rfl L S g
theorem eX4_windOf_15 (L : pmL) (S : List Value) (g : pmH) : pmV mX4_windOf 15 L S g = zLdI mX4_windOf 16 1 L S g := ez_iload_n kcX4_windOf dX4_windOf_15 rfl rfl L S g
theorem eX4_windOf_16 (L : pmL) (S : List Value) (g : pmH) : pmV mX4_windOf 16 L S g = zLdA mX4_windOf 17 0 L S g := ez_aload_n kcX4_windOf dX4_windOf_16 rfl rfl L S g
theorem eX4_windOf_17 (L : pmL) (S : List Value) (g : pmH) : pmV mX4_windOf 17 L S g = zGet mX4_windOf 20 4 7 L S g := ez_getfield kcX4_windOf dX4_windOf_17 fl_4_33 rfl L S g
theorem eX4_windOf_20 (L : pmL) (S : List Value) (g : pmH) : pmV mX4_windOf 20 L S g = yS mX4_windOf 23 2 mJ9_floorMod_7cf53 3 L S g := (ez_static kcX4_windOf dX4_windOf_20 ml_4_43 (by decide) rfl L S g).trans (zCall_y rfl (by decide) L S g)
theorem eX4_windOf_23 (L : pmL) (S : List Value) (g : pmH) : pmV mX4_windOf 23 L S g = zIald mX4_windOf 24 L S g := ez_iaload kcX4_windOf dX4_windOf_23 rfl L S g
theorem eX4_windOf_24 (L : pmL) (S : List Value) (g : pmH) : pmV mX4_windOf 24 L S g = zIret mX4_windOf S g := ez_ireturn kcX4_windOf dX4_windOf_24 L S g
theorem eX4_hasHedge_0 (L : pmL) (S : List Value) (g : pmH) : pmV mX4_hasHedge 0 L S g = zLdI mX4_hasHedge 1 1 L S g := ez_iload_n kcX4_hasHedge dX4_hasHedge_0 rfl rfl L S g
theorem eX4_hasHedge_1 (L : pmL) (S : List Value) (g : pmH) : pmV mX4_hasHedge 1 L S g = zClt mX4_hasHedge 4 16 L S g := ez_if_lt kcX4_hasHedge dX4_hasHedge_1 (by decide) rfl L S g
theorem eX4_hasHedge_4 (L : pmL) (S : List Value) (g : pmH) : pmV mX4_hasHedge 4 L S g = zLdI mX4_hasHedge 5 1 L S g := ez_iload_n kcX4_hasHedge dX4_hasHedge_4 rfl rfl L S g
theorem eX4_hasHedge_5 (L : pmL) (S : List Value) (g : pmH) : pmV mX4_hasHedge 5 L S g = zLdA mX4_hasHedge 6 0 L S g := ez_aload_n kcX4_hasHedge dX4_hasHedge_5 rfl rfl L S g
theorem eX4_hasHedge_6 (L : pmL) (S : List Value) (g : pmH) : pmV mX4_hasHedge 6 L S g = zGet mX4_hasHedge 9 4 9 L S g := ez_getfield kcX4_hasHedge dX4_hasHedge_6 fl_4_40 rfl L S g
theorem eX4_hasHedge_9 (L : pmL) (S : List Value) (g : pmH) : pmV mX4_hasHedge 9 L S g = zBge mX4_hasHedge 12 16 L S g := ez_icmp_ge kcX4_hasHedge dX4_hasHedge_9 (by decide) rfl L S g
theorem eX4_hasHedge_12 (L : pmL) (S : List Value) (g : pmH) : pmV mX4_hasHedge 12 L S g = zPush mX4_hasHedge 13 (.int (nI 1)) L S g := ez_iconst kcX4_hasHedge dX4_hasHedge_12 (by decide) rfl L S g
theorem eX4_hasHedge_13 (L : pmL) (S : List Value) (g : pmH) : pmV mX4_hasHedge 13 L S g = zNx mX4_hasHedge 17 L S g := ez_goto kcX4_hasHedge dX4_hasHedge_13 (by decide) L S g
theorem eX4_hasHedge_16 (L : pmL) (S : List Value) (g : pmH) : pmV mX4_hasHedge 16 L S g = zPush mX4_hasHedge 17 (.int (nI 0)) L S g := ez_iconst kcX4_hasHedge dX4_hasHedge_16 (by decide) rfl L S g
theorem eX4_hasHedge_17 (L : pmL) (S : List Value) (g : pmH) : pmV mX4_hasHedge 17 L S g = zIret mX4_hasHedge S g := ez_ireturn kcX4_hasHedge dX4_hasHedge_17 L S g
theorem eX4_hedgeAt_0 (L : pmL) (S : List Value) (g : pmH) : pmV mX4_hedgeAt 0 L S g = zPush mX4_hedgeAt 1 (.int (nI 0)) L S g := ez_iconst kcX4_hedgeAt dX4_hedgeAt_0 (by decide) rfl L S g
theorem eX4_hedgeAt_1 (L : pmL) (S : List Value) (g : pmH) : pmV mX4_hedgeAt 1 L S g = zStI mX4_hedgeAt 2 2 L S g := ez_istore_n kcX4_hedgeAt dX4_hedgeAt_1 rfl rfl L S g
theorem eX4_hedgeAt_2 (L : pmL) (S : List Value) (g : pmH) : pmV mX4_hedgeAt 2 L S g = zLdI mX4_hedgeAt 3 2 L S g := ez_iload_n kcX4_hedgeAt dX4_hedgeAt_2 rfl rfl L S g
theorem eX4_hedgeAt_3 (L : pmL) (S : List Value) (g : pmH) : pmV mX4_hedgeAt 3 L S g = zLdA mX4_hedgeAt 4 0 L S g := ez_aload_n kcX4_hedgeAt dX4_hedgeAt_3 rfl rfl L S g
theorem eX4_hedgeAt_4 (L : pmL) (S : List Value) (g : pmH) : pmV mX4_hedgeAt 4 L S g = zGet mX4_hedgeAt 7 4 9 L S g := ez_getfield kcX4_hedgeAt dX4_hedgeAt_4 fl_4_40 rfl L S g
theorem eX4_hedgeAt_7 (L : pmL) (S : List Value) (g : pmH) : pmV mX4_hedgeAt 7 L S g = zBge mX4_hedgeAt 10 28 L S g := ez_icmp_ge kcX4_hedgeAt dX4_hedgeAt_7 (by decide) rfl L S g
theorem eX4_hedgeAt_10 (L : pmL) (S : List Value) (g : pmH) : pmV mX4_hedgeAt 10 L S g = zLdA mX4_hedgeAt 11 0 L S g := ez_aload_n kcX4_hedgeAt dX4_hedgeAt_10 rfl rfl L S g
theorem eX4_hedgeAt_11 (L : pmL) (S : List Value) (g : pmH) : pmV mX4_hedgeAt 11 L S g = zGet mX4_hedgeAt 14 4 4 L S g := ez_getfield kcX4_hedgeAt dX4_hedgeAt_11 fl_4_24 rfl L S g
theorem eX4_hedgeAt_14 (L : pmL) (S : List Value) (g : pmH) : pmV mX4_hedgeAt 14 L S g = zLdI mX4_hedgeAt 15 2 L S g := ez_iload_n kcX4_hedgeAt dX4_hedgeAt_14 rfl rfl L S g
theorem eX4_hedgeAt_15 (L : pmL) (S : List Value) (g : pmH) : pmV mX4_hedgeAt 15 L S g = zIald mX4_hedgeAt 16 L S g := ez_iaload kcX4_hedgeAt dX4_hedgeAt_15 rfl L S g
theorem eX4_hedgeAt_16 (L : pmL) (S : List Value) (g : pmH) : pmV mX4_hedgeAt 16 L S g = zLdI mX4_hedgeAt 17 1 L S g := ez_iload_n kcX4_hedgeAt dX4_hedgeAt_16 rfl rfl L S g
theorem eX4_hedgeAt_17 (L : pmL) (S : List Value) (g : pmH) : pmV mX4_hedgeAt 17 L S g = zBne mX4_hedgeAt 20 22 L S g := ez_icmp_ne kcX4_hedgeAt dX4_hedgeAt_17 (by decide) rfl L S g
theorem eX4_hedgeAt_20 (L : pmL) (S : List Value) (g : pmH) : pmV mX4_hedgeAt 20 L S g = zLdI mX4_hedgeAt 21 2 L S g := ez_iload_n kcX4_hedgeAt dX4_hedgeAt_20 rfl rfl L S g
theorem eX4_hedgeAt_21 (L : pmL) (S : List Value) (g : pmH) : pmV mX4_hedgeAt 21 L S g = zIret mX4_hedgeAt S g := ez_ireturn kcX4_hedgeAt dX4_hedgeAt_21 L S g
theorem eX4_hedgeAt_22 (L : pmL) (S : List Value) (g : pmH) : pmV mX4_hedgeAt 22 L S g = zInc mX4_hedgeAt 25 2 (nI 1) L S g := ez_iinc kcX4_hedgeAt dX4_hedgeAt_22 (by decide) rfl L S g
theorem eX4_hedgeAt_25 (L : pmL) (S : List Value) (g : pmH) : pmV mX4_hedgeAt 25 L S g = zNx mX4_hedgeAt 2 L S g := ez_goto kcX4_hedgeAt dX4_hedgeAt_25 (by decide) L S g
theorem eX4_hedgeAt_28 (L : pmL) (S : List Value) (g : pmH) : pmV mX4_hedgeAt 28 L S g = zPush mX4_hedgeAt 30 (.int (-9)) L S g := ez_bipush kcX4_hedgeAt dX4_hedgeAt_28 (by decide) rfl L S g
theorem eX4_hedgeAt_30 (L : pmL) (S : List Value) (g : pmH) : pmV mX4_hedgeAt 30 L S g = zIret mX4_hedgeAt S g := ez_ireturn kcX4_hedgeAt dX4_hedgeAt_30 L S g
theorem eX5_init_0 (L : pmL) (S : List Value) (g : pmH) : pmV mX5_init 0 L S g = zLdA mX5_init 1 0 L S g := ez_aload_n kcX5_init dX5_init_0 rfl rfl L S g
theorem eX5_init_1 (L : pmL) (S : List Value) (g : pmH) : pmV mX5_init 1 L S g = zObj mX5_init 4 L S g := ez_objinit kcX5_init dX5_init_1 ol_5_3 rfl L S g
theorem eX5_init_4 (L : pmL) (S : List Value) (g : pmH) : pmV mX5_init 4 L S g = zLdA mX5_init 5 0 L S g := ez_aload_n kcX5_init dX5_init_4 rfl rfl L S g
theorem eX5_init_5 (L : pmL) (S : List Value) (g : pmH) : pmV mX5_init 5 L S g = zPush mX5_init 7 (.int (nI 6)) L S g := ez_bipush kcX5_init dX5_init_5 (by decide) rfl L S g
theorem eX5_init_7 (L : pmL) (S : List Value) (g : pmH) : pmV mX5_init 7 L S g = zNewA mX5_init 9 0 L S g := ez_newarray_int kcX5_init dX5_init_7 rfl L S g
theorem eX5_init_9 (L : pmL) (S : List Value) (g : pmH) : pmV mX5_init 9 L S g = zPut mX5_init 12 5 1 L S g := ez_putfield kcX5_init dX5_init_9 fl_5_9 rfl L S g
theorem eX5_init_12 (L : pmL) (S : List Value) (g : pmH) : pmV mX5_init 12 L S g = zLdA mX5_init 13 0 L S g := ez_aload_n kcX5_init dX5_init_12 rfl rfl L S g
theorem eX5_init_13 (L : pmL) (S : List Value) (g : pmH) : pmV mX5_init 13 L S g = zPush mX5_init 15 (.int (nI 6)) L S g := ez_bipush kcX5_init dX5_init_13 (by decide) rfl L S g
theorem eX5_init_15 (L : pmL) (S : List Value) (g : pmH) : pmV mX5_init 15 L S g = zNewA mX5_init 17 0 L S g := ez_newarray_int kcX5_init dX5_init_15 rfl L S g
theorem eX5_init_17 (L : pmL) (S : List Value) (g : pmH) : pmV mX5_init 17 L S g = zPut mX5_init 20 5 2 L S g := ez_putfield kcX5_init dX5_init_17 fl_5_15 rfl L S g
theorem eX5_init_20 (L : pmL) (S : List Value) (g : pmH) : pmV mX5_init 20 L S g = zLdA mX5_init 21 0 L S g := ez_aload_n kcX5_init dX5_init_20 rfl rfl L S g
theorem eX5_init_21 (L : pmL) (S : List Value) (g : pmH) : pmV mX5_init 21 L S g = zNew mX5_init 24 1 L S g := ez_new kcX5_init dX5_init_21 cl_5_18 (by decide) rfl L S g
theorem eX5_init_24 (L : pmL) (S : List Value) (g : pmH) : pmV mX5_init 24 L S g = zDup mX5_init 25 L S g := ez_dup kcX5_init dX5_init_24 rfl L S g
theorem eX5_init_25 (L : pmL) (S : List Value) (g : pmH) : pmV mX5_init 25 L S g = yV mX5_init 28 0 mX1_init 1 1 L S g := (ez_special kcX5_init dX5_init_25 nl_5_20 ml_5_20 (by decide) rfl L S g).trans (zCallV_y rfl rfl (by decide) L S g)
theorem eX5_init_28 (L : pmL) (S : List Value) (g : pmH) : pmV mX5_init 28 L S g = zPut mX5_init 31 5 3 L S g := ez_putfield kcX5_init dX5_init_28 fl_5_21 rfl L S g
theorem eX5_init_31 (L : pmL) (S : List Value) (g : pmH) : pmV mX5_init 31 L S g = zLdA mX5_init 32 0 L S g := ez_aload_n kcX5_init dX5_init_31 rfl rfl L S g
theorem eX5_init_32 (L : pmL) (S : List Value) (g : pmH) : pmV mX5_init 32 L S g = zLdA mX5_init 33 1 L S g := ez_aload_n kcX5_init dX5_init_32 rfl rfl L S g
theorem eX5_init_33 (L : pmL) (S : List Value) (g : pmH) : pmV mX5_init 33 L S g = zPut mX5_init 36 5 0 L S g := ez_putfield kcX5_init dX5_init_33 fl_5_25 rfl L S g
theorem eX5_init_36 (L : pmL) (S : List Value) (g : pmH) : pmV mX5_init 36 L S g = zVret S g := ez_return kcX5_init dX5_init_36 rfl L S g
theorem eX5_add_0 (L : pmL) (S : List Value) (g : pmH) : pmV mX5_add 0 L S g = zLdA mX5_add 1 0 L S g := ez_aload_n kcX5_add dX5_add_0 rfl rfl L S g
theorem eX5_add_1 (L : pmL) (S : List Value) (g : pmH) : pmV mX5_add 1 L S g = zGet mX5_add 4 5 4 L S g := ez_getfield kcX5_add dX5_add_1 fl_5_29 rfl L S g
theorem eX5_add_4 (L : pmL) (S : List Value) (g : pmH) : pmV mX5_add 4 L S g = zPush mX5_add 6 (.int (nI 6)) L S g := ez_bipush kcX5_add dX5_add_4 (by decide) rfl L S g
theorem eX5_add_6 (L : pmL) (S : List Value) (g : pmH) : pmV mX5_add 6 L S g = zBlt mX5_add 9 10 L S g := ez_icmp_lt kcX5_add dX5_add_6 (by decide) rfl L S g
theorem eX5_add_9 (L : pmL) (S : List Value) (g : pmH) : pmV mX5_add 9 L S g = zVret S g := ez_return kcX5_add dX5_add_9 rfl L S g
theorem eX5_add_10 (L : pmL) (S : List Value) (g : pmH) : pmV mX5_add 10 L S g = zLdA mX5_add 11 0 L S g := ez_aload_n kcX5_add dX5_add_10 rfl rfl L S g
theorem eX5_add_11 (L : pmL) (S : List Value) (g : pmH) : pmV mX5_add 11 L S g = zGet mX5_add 14 5 1 L S g := ez_getfield kcX5_add dX5_add_11 fl_5_9 rfl L S g
theorem eX5_add_14 (L : pmL) (S : List Value) (g : pmH) : pmV mX5_add 14 L S g = zLdA mX5_add 15 0 L S g := ez_aload_n kcX5_add dX5_add_14 rfl rfl L S g
theorem eX5_add_15 (L : pmL) (S : List Value) (g : pmH) : pmV mX5_add 15 L S g = zGet mX5_add 18 5 4 L S g := ez_getfield kcX5_add dX5_add_15 fl_5_29 rfl L S g
theorem eX5_add_18 (L : pmL) (S : List Value) (g : pmH) : pmV mX5_add 18 L S g = zLdI mX5_add 19 1 L S g := ez_iload_n kcX5_add dX5_add_18 rfl rfl L S g
theorem eX5_add_19 (L : pmL) (S : List Value) (g : pmH) : pmV mX5_add 19 L S g = zIast mX5_add 20 L S g := ez_iastore kcX5_add dX5_add_19 rfl L S g
theorem eX5_add_20 (L : pmL) (S : List Value) (g : pmH) : pmV mX5_add 20 L S g = zLdA mX5_add 21 0 L S g := ez_aload_n kcX5_add dX5_add_20 rfl rfl L S g
theorem eX5_add_21 (L : pmL) (S : List Value) (g : pmH) : pmV mX5_add 21 L S g = zGet mX5_add 24 5 2 L S g := ez_getfield kcX5_add dX5_add_21 fl_5_15 rfl L S g
theorem eX5_add_24 (L : pmL) (S : List Value) (g : pmH) : pmV mX5_add 24 L S g = zLdA mX5_add 25 0 L S g := ez_aload_n kcX5_add dX5_add_24 rfl rfl L S g
theorem eX5_add_25 (L : pmL) (S : List Value) (g : pmH) : pmV mX5_add 25 L S g = zGet mX5_add 28 5 4 L S g := ez_getfield kcX5_add dX5_add_25 fl_5_29 rfl L S g
theorem eX5_add_28 (L : pmL) (S : List Value) (g : pmH) : pmV mX5_add 28 L S g = zLdI mX5_add 29 2 L S g := ez_iload_n kcX5_add dX5_add_28 rfl rfl L S g
theorem eX5_add_29 (L : pmL) (S : List Value) (g : pmH) : pmV mX5_add 29 L S g = zIast mX5_add 30 L S g := ez_iastore kcX5_add dX5_add_29 rfl L S g
theorem eX5_add_30 (L : pmL) (S : List Value) (g : pmH) : pmV mX5_add 30 L S g = zLdA mX5_add 31 0 L S g := ez_aload_n kcX5_add dX5_add_30 rfl rfl L S g
theorem eX5_add_31 (L : pmL) (S : List Value) (g : pmH) : pmV mX5_add 31 L S g = zDup mX5_add 32 L S g := ez_dup kcX5_add dX5_add_31 rfl L S g
theorem eX5_add_32 (L : pmL) (S : List Value) (g : pmH) : pmV mX5_add 32 L S g = zGet mX5_add 35 5 4 L S g := ez_getfield kcX5_add dX5_add_32 fl_5_29 rfl L S g
theorem eX5_add_35 (L : pmL) (S : List Value) (g : pmH) : pmV mX5_add 35 L S g = zPush mX5_add 36 (.int (nI 1)) L S g := ez_iconst kcX5_add dX5_add_35 (by decide) rfl L S g
theorem eX5_add_36 (L : pmL) (S : List Value) (g : pmH) : pmV mX5_add 36 L S g = zAdd mX5_add 37 L S g := ez_iadd kcX5_add dX5_add_36 rfl L S g
theorem eX5_add_37 (L : pmL) (S : List Value) (g : pmH) : pmV mX5_add 37 L S g = zPut mX5_add 40 5 4 L S g := ez_putfield kcX5_add dX5_add_37 fl_5_29 rfl L S g
theorem eX5_add_40 (L : pmL) (S : List Value) (g : pmH) : pmV mX5_add 40 L S g = zVret S g := ez_return kcX5_add dX5_add_40 rfl L S g
theorem eX5_cellsOfLetting_0 (L : pmL) (S : List Value) (g : pmH) : pmV mX5_cellsOfLetting 0 L S g = zPush mX5_cellsOfLetting 1 (.int (nI 0)) L S g := ez_iconst kcX5_cellsOfLetting dX5_cellsOfLetting_0 (by decide) rfl L S g
theorem eX5_cellsOfLetting_1 (L : pmL) (S : List Value) (g : pmH) : pmV mX5_cellsOfLetting 1 L S g = zStI mX5_cellsOfLetting 2 2 L S g := ez_istore_n kcX5_cellsOfLetting dX5_cellsOfLetting_1 rfl rfl L S g
theorem eX5_cellsOfLetting_2 (L : pmL) (S : List Value) (g : pmH) : pmV mX5_cellsOfLetting 2 L S g = zPush mX5_cellsOfLetting 3 (.int (nI 0)) L S g := ez_iconst kcX5_cellsOfLetting dX5_cellsOfLetting_2 (by decide) rfl L S g
theorem eX5_cellsOfLetting_3 (L : pmL) (S : List Value) (g : pmH) : pmV mX5_cellsOfLetting 3 L S g = zStI mX5_cellsOfLetting 4 3 L S g := ez_istore_n kcX5_cellsOfLetting dX5_cellsOfLetting_3 rfl rfl L S g
theorem eX5_cellsOfLetting_4 (L : pmL) (S : List Value) (g : pmH) : pmV mX5_cellsOfLetting 4 L S g = zLdI mX5_cellsOfLetting 5 3 L S g := ez_iload_n kcX5_cellsOfLetting dX5_cellsOfLetting_4 rfl rfl L S g
theorem eX5_cellsOfLetting_5 (L : pmL) (S : List Value) (g : pmH) : pmV mX5_cellsOfLetting 5 L S g = zPush mX5_cellsOfLetting 7 (.int (nI 20)) L S g := ez_bipush kcX5_cellsOfLetting dX5_cellsOfLetting_5 (by decide) rfl L S g
theorem eX5_cellsOfLetting_7 (L : pmL) (S : List Value) (g : pmH) : pmV mX5_cellsOfLetting 7 L S g = zBge mX5_cellsOfLetting 10 31 L S g := ez_icmp_ge kcX5_cellsOfLetting dX5_cellsOfLetting_7 (by decide) rfl L S g
theorem eX5_cellsOfLetting_10 (L : pmL) (S : List Value) (g : pmH) : pmV mX5_cellsOfLetting 10 L S g = zLdA mX5_cellsOfLetting 11 0 L S g := ez_aload_n kcX5_cellsOfLetting dX5_cellsOfLetting_10 rfl rfl L S g
theorem eX5_cellsOfLetting_11 (L : pmL) (S : List Value) (g : pmH) : pmV mX5_cellsOfLetting 11 L S g = zLdI mX5_cellsOfLetting 12 3 L S g := ez_iload_n kcX5_cellsOfLetting dX5_cellsOfLetting_11 rfl rfl L S g
theorem eX5_cellsOfLetting_12 (L : pmL) (S : List Value) (g : pmH) : pmV mX5_cellsOfLetting 12 L S g = zLdI mX5_cellsOfLetting 13 1 L S g := ez_iload_n kcX5_cellsOfLetting dX5_cellsOfLetting_12 rfl rfl L S g
theorem eX5_cellsOfLetting_13 (L : pmL) (S : List Value) (g : pmH) : pmV mX5_cellsOfLetting 13 L S g = yV mX5_cellsOfLetting 16 2 mX5_agreesFrom 5 4 L S g := (ez_virtual kcX5_cellsOfLetting dX5_cellsOfLetting_13 ml_5_33 rfl L S g).trans (zCallV_y rfl rfl (by decide) L S g)
theorem eX5_cellsOfLetting_16 (L : pmL) (S : List Value) (g : pmH) : pmV mX5_cellsOfLetting 16 L S g = zCeq mX5_cellsOfLetting 19 25 L S g := ez_if_eq kcX5_cellsOfLetting dX5_cellsOfLetting_16 (by decide) rfl L S g
theorem eX5_cellsOfLetting_19 (L : pmL) (S : List Value) (g : pmH) : pmV mX5_cellsOfLetting 19 L S g = zLdI mX5_cellsOfLetting 20 2 L S g := ez_iload_n kcX5_cellsOfLetting dX5_cellsOfLetting_19 rfl rfl L S g
theorem eX5_cellsOfLetting_20 (L : pmL) (S : List Value) (g : pmH) : pmV mX5_cellsOfLetting 20 L S g = zPush mX5_cellsOfLetting 21 (.int (nI 1)) L S g := ez_iconst kcX5_cellsOfLetting dX5_cellsOfLetting_20 (by decide) rfl L S g
theorem eX5_cellsOfLetting_21 (L : pmL) (S : List Value) (g : pmH) : pmV mX5_cellsOfLetting 21 L S g = zLdI mX5_cellsOfLetting 22 3 L S g := ez_iload_n kcX5_cellsOfLetting dX5_cellsOfLetting_21 rfl rfl L S g
theorem eX5_cellsOfLetting_22 (L : pmL) (S : List Value) (g : pmH) : pmV mX5_cellsOfLetting 22 L S g = zShl mX5_cellsOfLetting 23 L S g := ez_ishl kcX5_cellsOfLetting dX5_cellsOfLetting_22 rfl L S g
theorem eX5_cellsOfLetting_23 (L : pmL) (S : List Value) (g : pmH) : pmV mX5_cellsOfLetting 23 L S g = zOr mX5_cellsOfLetting 24 L S g := ez_ior kcX5_cellsOfLetting dX5_cellsOfLetting_23 rfl L S g
theorem eX5_cellsOfLetting_24 (L : pmL) (S : List Value) (g : pmH) : pmV mX5_cellsOfLetting 24 L S g = zStI mX5_cellsOfLetting 25 2 L S g := ez_istore_n kcX5_cellsOfLetting dX5_cellsOfLetting_24 rfl rfl L S g
theorem eX5_cellsOfLetting_25 (L : pmL) (S : List Value) (g : pmH) : pmV mX5_cellsOfLetting 25 L S g = zInc mX5_cellsOfLetting 28 3 (nI 1) L S g := ez_iinc kcX5_cellsOfLetting dX5_cellsOfLetting_25 (by decide) rfl L S g
theorem eX5_cellsOfLetting_28 (L : pmL) (S : List Value) (g : pmH) : pmV mX5_cellsOfLetting 28 L S g = zNx mX5_cellsOfLetting 4 L S g := ez_goto kcX5_cellsOfLetting dX5_cellsOfLetting_28 (by decide) L S g
theorem eX5_cellsOfLetting_31 (L : pmL) (S : List Value) (g : pmH) : pmV mX5_cellsOfLetting 31 L S g = zLdI mX5_cellsOfLetting 32 2 L S g := ez_iload_n kcX5_cellsOfLetting dX5_cellsOfLetting_31 rfl rfl L S g
theorem eX5_cellsOfLetting_32 (L : pmL) (S : List Value) (g : pmH) : pmV mX5_cellsOfLetting 32 L S g = zIret mX5_cellsOfLetting S g := ez_ireturn kcX5_cellsOfLetting dX5_cellsOfLetting_32 L S g
theorem eX5_agreesFrom_0 (L : pmL) (S : List Value) (g : pmH) : pmV mX5_agreesFrom 0 L S g = zLdA mX5_agreesFrom 1 0 L S g := ez_aload_n kcX5_agreesFrom dX5_agreesFrom_0 rfl rfl L S g
theorem eX5_agreesFrom_1 (L : pmL) (S : List Value) (g : pmH) : pmV mX5_agreesFrom 1 L S g = zGet mX5_agreesFrom 4 5 3 L S g := ez_getfield kcX5_agreesFrom dX5_agreesFrom_1 fl_5_21 rfl L S g
theorem eX5_agreesFrom_4 (L : pmL) (S : List Value) (g : pmH) : pmV mX5_agreesFrom 4 L S g = zLdI mX5_agreesFrom 5 1 L S g := ez_iload_n kcX5_agreesFrom dX5_agreesFrom_4 rfl rfl L S g
theorem eX5_agreesFrom_5 (L : pmL) (S : List Value) (g : pmH) : pmV mX5_agreesFrom 5 L S g = zLdI mX5_agreesFrom 6 2 L S g := ez_iload_n kcX5_agreesFrom dX5_agreesFrom_5 rfl rfl L S g
theorem eX5_agreesFrom_6 (L : pmL) (S : List Value) (g : pmH) : pmV mX5_agreesFrom 6 L S g = zPush mX5_agreesFrom 7 (.int (nI 0)) L S g := ez_iconst kcX5_agreesFrom dX5_agreesFrom_6 (by decide) rfl L S g
theorem eX5_agreesFrom_7 (L : pmL) (S : List Value) (g : pmH) : pmV mX5_agreesFrom 7 L S g = yV mX5_agreesFrom 10 3 mX1_holdAt 1 4 L S g := (ez_virtual kcX5_agreesFrom dX5_agreesFrom_7 ml_5_37 rfl L S g).trans (zCallV_y rfl rfl (by decide) L S g)
theorem eX5_agreesFrom_10 (L : pmL) (S : List Value) (g : pmH) : pmV mX5_agreesFrom 10 L S g = zLdA mX5_agreesFrom 11 0 L S g := ez_aload_n kcX5_agreesFrom dX5_agreesFrom_10 rfl rfl L S g
theorem eX5_agreesFrom_11 (L : pmL) (S : List Value) (g : pmH) : pmV mX5_agreesFrom 11 L S g = zGet mX5_agreesFrom 14 5 3 L S g := ez_getfield kcX5_agreesFrom dX5_agreesFrom_11 fl_5_21 rfl L S g
theorem eX5_agreesFrom_14 (L : pmL) (S : List Value) (g : pmH) : pmV mX5_agreesFrom 14 L S g = zPush mX5_agreesFrom 15 (.int (nI 1)) L S g := ez_iconst kcX5_agreesFrom dX5_agreesFrom_14 (by decide) rfl L S g
theorem eX5_agreesFrom_15 (L : pmL) (S : List Value) (g : pmH) : pmV mX5_agreesFrom 15 L S g = zPut mX5_agreesFrom 18 1 2 L S g := ez_putfield kcX5_agreesFrom dX5_agreesFrom_15 fl_5_41 rfl L S g
theorem eX5_agreesFrom_18 (L : pmL) (S : List Value) (g : pmH) : pmV mX5_agreesFrom 18 L S g = zPush mX5_agreesFrom 19 (.int (nI 0)) L S g := ez_iconst kcX5_agreesFrom dX5_agreesFrom_18 (by decide) rfl L S g
theorem eX5_agreesFrom_19 (L : pmL) (S : List Value) (g : pmH) : pmV mX5_agreesFrom 19 L S g = zStI mX5_agreesFrom 20 3 L S g := ez_istore_n kcX5_agreesFrom dX5_agreesFrom_19 rfl rfl L S g
theorem eX5_agreesFrom_20 (L : pmL) (S : List Value) (g : pmH) : pmV mX5_agreesFrom 20 L S g = zLdI mX5_agreesFrom 21 3 L S g := ez_iload_n kcX5_agreesFrom dX5_agreesFrom_20 rfl rfl L S g
theorem eX5_agreesFrom_21 (L : pmL) (S : List Value) (g : pmH) : pmV mX5_agreesFrom 21 L S g = zPush mX5_agreesFrom 23 (.int (nI 9)) L S g := ez_bipush kcX5_agreesFrom dX5_agreesFrom_21 (by decide) rfl L S g
theorem eX5_agreesFrom_23 (L : pmL) (S : List Value) (g : pmH) : pmV mX5_agreesFrom 23 L S g = zBgt mX5_agreesFrom 26 58 L S g := ez_icmp_gt kcX5_agreesFrom dX5_agreesFrom_23 (by decide) rfl L S g
theorem eX5_agreesFrom_26 (L : pmL) (S : List Value) (g : pmH) : pmV mX5_agreesFrom 26 L S g = zLdA mX5_agreesFrom 27 0 L S g := ez_aload_n kcX5_agreesFrom dX5_agreesFrom_26 rfl rfl L S g
theorem eX5_agreesFrom_27 (L : pmL) (S : List Value) (g : pmH) : pmV mX5_agreesFrom 27 L S g = zLdI mX5_agreesFrom 28 3 L S g := ez_iload_n kcX5_agreesFrom dX5_agreesFrom_27 rfl rfl L S g
theorem eX5_agreesFrom_28 (L : pmL) (S : List Value) (g : pmH) : pmV mX5_agreesFrom 28 L S g = yV mX5_agreesFrom 31 1 mX5_agreesBehind 5 3 L S g := (ez_virtual kcX5_agreesFrom dX5_agreesFrom_28 ml_5_44 rfl L S g).trans (zCallV_y rfl rfl (by decide) L S g)
theorem eX5_agreesFrom_31 (L : pmL) (S : List Value) (g : pmH) : pmV mX5_agreesFrom 31 L S g = zCne mX5_agreesFrom 34 36 L S g := ez_if_ne kcX5_agreesFrom dX5_agreesFrom_31 (by decide) rfl L S g
theorem eX5_agreesFrom_34 (L : pmL) (S : List Value) (g : pmH) : pmV mX5_agreesFrom 34 L S g = zPush mX5_agreesFrom 35 (.int (nI 0)) L S g := ez_iconst kcX5_agreesFrom dX5_agreesFrom_34 (by decide) rfl L S g
theorem eX5_agreesFrom_35 (L : pmL) (S : List Value) (g : pmH) : pmV mX5_agreesFrom 35 L S g = zIret mX5_agreesFrom S g := ez_ireturn kcX5_agreesFrom dX5_agreesFrom_35 L S g
theorem eX5_agreesFrom_36 (L : pmL) (S : List Value) (g : pmH) : pmV mX5_agreesFrom 36 L S g = zLdA mX5_agreesFrom 37 0 L S g := ez_aload_n kcX5_agreesFrom dX5_agreesFrom_36 rfl rfl L S g
theorem eX5_agreesFrom_37 (L : pmL) (S : List Value) (g : pmH) : pmV mX5_agreesFrom 37 L S g = zGet mX5_agreesFrom 40 5 3 L S g := ez_getfield kcX5_agreesFrom dX5_agreesFrom_37 fl_5_21 rfl L S g
theorem eX5_agreesFrom_40 (L : pmL) (S : List Value) (g : pmH) : pmV mX5_agreesFrom 40 L S g = zLdA mX5_agreesFrom 41 0 L S g := ez_aload_n kcX5_agreesFrom dX5_agreesFrom_40 rfl rfl L S g
theorem eX5_agreesFrom_41 (L : pmL) (S : List Value) (g : pmH) : pmV mX5_agreesFrom 41 L S g = zGet mX5_agreesFrom 44 5 0 L S g := ez_getfield kcX5_agreesFrom dX5_agreesFrom_41 fl_5_25 rfl L S g
theorem eX5_agreesFrom_44 (L : pmL) (S : List Value) (g : pmH) : pmV mX5_agreesFrom 44 L S g = zLdI mX5_agreesFrom 45 3 L S g := ez_iload_n kcX5_agreesFrom dX5_agreesFrom_44 rfl rfl L S g
theorem eX5_agreesFrom_45 (L : pmL) (S : List Value) (g : pmH) : pmV mX5_agreesFrom 45 L S g = yV mX5_agreesFrom 48 1 mX4_windOf 4 2 L S g := (ez_virtual kcX5_agreesFrom dX5_agreesFrom_45 ml_5_48 rfl L S g).trans (zCallV_y rfl rfl (by decide) L S g)
theorem eX5_agreesFrom_48 (L : pmL) (S : List Value) (g : pmH) : pmV mX5_agreesFrom 48 L S g = zLdI mX5_agreesFrom 49 3 L S g := ez_iload_n kcX5_agreesFrom dX5_agreesFrom_48 rfl rfl L S g
theorem eX5_agreesFrom_49 (L : pmL) (S : List Value) (g : pmH) : pmV mX5_agreesFrom 49 L S g = yV mX5_agreesFrom 52 2 mX1_goBy 1 4 L S g := (ez_virtual kcX5_agreesFrom dX5_agreesFrom_49 ml_5_54 rfl L S g).trans (zCallV_y rfl rfl (by decide) L S g)
theorem eX5_agreesFrom_52 (L : pmL) (S : List Value) (g : pmH) : pmV mX5_agreesFrom 52 L S g = zInc mX5_agreesFrom 55 3 (nI 1) L S g := ez_iinc kcX5_agreesFrom dX5_agreesFrom_52 (by decide) rfl L S g
theorem eX5_agreesFrom_55 (L : pmL) (S : List Value) (g : pmH) : pmV mX5_agreesFrom 55 L S g = zNx mX5_agreesFrom 20 L S g := ez_goto kcX5_agreesFrom dX5_agreesFrom_55 (by decide) L S g
theorem eX5_agreesFrom_58 (L : pmL) (S : List Value) (g : pmH) : pmV mX5_agreesFrom 58 L S g = zPush mX5_agreesFrom 59 (.int (nI 1)) L S g := ez_iconst kcX5_agreesFrom dX5_agreesFrom_58 (by decide) rfl L S g
theorem eX5_agreesFrom_59 (L : pmL) (S : List Value) (g : pmH) : pmV mX5_agreesFrom 59 L S g = zIret mX5_agreesFrom S g := ez_ireturn kcX5_agreesFrom dX5_agreesFrom_59 L S g
theorem eX5_agreesBehind_0 (L : pmL) (S : List Value) (g : pmH) : pmV mX5_agreesBehind 0 L S g = zPush mX5_agreesBehind 1 (.int (nI 0)) L S g := ez_iconst kcX5_agreesBehind dX5_agreesBehind_0 (by decide) rfl L S g
theorem eX5_agreesBehind_1 (L : pmL) (S : List Value) (g : pmH) : pmV mX5_agreesBehind 1 L S g = zStI mX5_agreesBehind 2 2 L S g := ez_istore_n kcX5_agreesBehind dX5_agreesBehind_1 rfl rfl L S g
theorem eX5_agreesBehind_2 (L : pmL) (S : List Value) (g : pmH) : pmV mX5_agreesBehind 2 L S g = zLdI mX5_agreesBehind 3 2 L S g := ez_iload_n kcX5_agreesBehind dX5_agreesBehind_2 rfl rfl L S g
theorem eX5_agreesBehind_3 (L : pmL) (S : List Value) (g : pmH) : pmV mX5_agreesBehind 3 L S g = zLdA mX5_agreesBehind 4 0 L S g := ez_aload_n kcX5_agreesBehind dX5_agreesBehind_3 rfl rfl L S g
theorem eX5_agreesBehind_4 (L : pmL) (S : List Value) (g : pmH) : pmV mX5_agreesBehind 4 L S g = zGet mX5_agreesBehind 7 5 4 L S g := ez_getfield kcX5_agreesBehind dX5_agreesBehind_4 fl_5_29 rfl L S g
theorem eX5_agreesBehind_7 (L : pmL) (S : List Value) (g : pmH) : pmV mX5_agreesBehind 7 L S g = zBge mX5_agreesBehind 10 55 L S g := ez_icmp_ge kcX5_agreesBehind dX5_agreesBehind_7 (by decide) rfl L S g
theorem eX5_agreesBehind_10 (L : pmL) (S : List Value) (g : pmH) : pmV mX5_agreesBehind 10 L S g = zLdA mX5_agreesBehind 11 0 L S g := ez_aload_n kcX5_agreesBehind dX5_agreesBehind_10 rfl rfl L S g
theorem eX5_agreesBehind_11 (L : pmL) (S : List Value) (g : pmH) : pmV mX5_agreesBehind 11 L S g = zGet mX5_agreesBehind 14 5 2 L S g := ez_getfield kcX5_agreesBehind dX5_agreesBehind_11 fl_5_15 rfl L S g
theorem eX5_agreesBehind_14 (L : pmL) (S : List Value) (g : pmH) : pmV mX5_agreesBehind 14 L S g = zLdI mX5_agreesBehind 15 2 L S g := ez_iload_n kcX5_agreesBehind dX5_agreesBehind_14 rfl rfl L S g
theorem eX5_agreesBehind_15 (L : pmL) (S : List Value) (g : pmH) : pmV mX5_agreesBehind 15 L S g = zIald mX5_agreesBehind 16 L S g := ez_iaload kcX5_agreesBehind dX5_agreesBehind_15 rfl L S g
theorem eX5_agreesBehind_16 (L : pmL) (S : List Value) (g : pmH) : pmV mX5_agreesBehind 16 L S g = zLdI mX5_agreesBehind 17 1 L S g := ez_iload_n kcX5_agreesBehind dX5_agreesBehind_16 rfl rfl L S g
theorem eX5_agreesBehind_17 (L : pmL) (S : List Value) (g : pmH) : pmV mX5_agreesBehind 17 L S g = zBne mX5_agreesBehind 20 49 L S g := ez_icmp_ne kcX5_agreesBehind dX5_agreesBehind_17 (by decide) rfl L S g
theorem eX5_agreesBehind_20 (L : pmL) (S : List Value) (g : pmH) : pmV mX5_agreesBehind 20 L S g = zLdA mX5_agreesBehind 21 0 L S g := ez_aload_n kcX5_agreesBehind dX5_agreesBehind_20 rfl rfl L S g
theorem eX5_agreesBehind_21 (L : pmL) (S : List Value) (g : pmH) : pmV mX5_agreesBehind 21 L S g = zGet mX5_agreesBehind 24 5 3 L S g := ez_getfield kcX5_agreesBehind dX5_agreesBehind_21 fl_5_21 rfl L S g
theorem eX5_agreesBehind_24 (L : pmL) (S : List Value) (g : pmH) : pmV mX5_agreesBehind 24 L S g = zGet mX5_agreesBehind 27 1 2 L S g := ez_getfield kcX5_agreesBehind dX5_agreesBehind_24 fl_5_41 rfl L S g
theorem eX5_agreesBehind_27 (L : pmL) (S : List Value) (g : pmH) : pmV mX5_agreesBehind 27 L S g = zPush mX5_agreesBehind 28 (.int (nI 1)) L S g := ez_iconst kcX5_agreesBehind dX5_agreesBehind_27 (by decide) rfl L S g
theorem eX5_agreesBehind_28 (L : pmL) (S : List Value) (g : pmH) : pmV mX5_agreesBehind 28 L S g = zBne mX5_agreesBehind 31 47 L S g := ez_icmp_ne kcX5_agreesBehind dX5_agreesBehind_28 (by decide) rfl L S g
theorem eX5_agreesBehind_31 (L : pmL) (S : List Value) (g : pmH) : pmV mX5_agreesBehind 31 L S g = zLdA mX5_agreesBehind 32 0 L S g := ez_aload_n kcX5_agreesBehind dX5_agreesBehind_31 rfl rfl L S g
theorem eX5_agreesBehind_32 (L : pmL) (S : List Value) (g : pmH) : pmV mX5_agreesBehind 32 L S g = zGet mX5_agreesBehind 35 5 3 L S g := ez_getfield kcX5_agreesBehind dX5_agreesBehind_32 fl_5_21 rfl L S g
theorem eX5_agreesBehind_35 (L : pmL) (S : List Value) (g : pmH) : pmV mX5_agreesBehind 35 L S g = zGet mX5_agreesBehind 38 1 1 L S g := ez_getfield kcX5_agreesBehind dX5_agreesBehind_35 fl_5_58 rfl L S g
theorem eX5_agreesBehind_38 (L : pmL) (S : List Value) (g : pmH) : pmV mX5_agreesBehind 38 L S g = zLdA mX5_agreesBehind 39 0 L S g := ez_aload_n kcX5_agreesBehind dX5_agreesBehind_38 rfl rfl L S g
theorem eX5_agreesBehind_39 (L : pmL) (S : List Value) (g : pmH) : pmV mX5_agreesBehind 39 L S g = zGet mX5_agreesBehind 42 5 1 L S g := ez_getfield kcX5_agreesBehind dX5_agreesBehind_39 fl_5_9 rfl L S g
theorem eX5_agreesBehind_42 (L : pmL) (S : List Value) (g : pmH) : pmV mX5_agreesBehind 42 L S g = zLdI mX5_agreesBehind 43 2 L S g := ez_iload_n kcX5_agreesBehind dX5_agreesBehind_42 rfl rfl L S g
theorem eX5_agreesBehind_43 (L : pmL) (S : List Value) (g : pmH) : pmV mX5_agreesBehind 43 L S g = zIald mX5_agreesBehind 44 L S g := ez_iaload kcX5_agreesBehind dX5_agreesBehind_43 rfl L S g
theorem eX5_agreesBehind_44 (L : pmL) (S : List Value) (g : pmH) : pmV mX5_agreesBehind 44 L S g = zBeq mX5_agreesBehind 47 49 L S g := ez_icmp_eq kcX5_agreesBehind dX5_agreesBehind_44 (by decide) rfl L S g
theorem eX5_agreesBehind_47 (L : pmL) (S : List Value) (g : pmH) : pmV mX5_agreesBehind 47 L S g = zPush mX5_agreesBehind 48 (.int (nI 0)) L S g := ez_iconst kcX5_agreesBehind dX5_agreesBehind_47 (by decide) rfl L S g
theorem eX5_agreesBehind_48 (L : pmL) (S : List Value) (g : pmH) : pmV mX5_agreesBehind 48 L S g = zIret mX5_agreesBehind S g := ez_ireturn kcX5_agreesBehind dX5_agreesBehind_48 L S g
theorem eX5_agreesBehind_49 (L : pmL) (S : List Value) (g : pmH) : pmV mX5_agreesBehind 49 L S g = zInc mX5_agreesBehind 52 2 (nI 1) L S g := ez_iinc kcX5_agreesBehind dX5_agreesBehind_49 (by decide) rfl L S g
theorem eX5_agreesBehind_52 (L : pmL) (S : List Value) (g : pmH) : pmV mX5_agreesBehind 52 L S g = zNx mX5_agreesBehind 2 L S g := ez_goto kcX5_agreesBehind dX5_agreesBehind_52 (by decide) L S g
theorem eX5_agreesBehind_55 (L : pmL) (S : List Value) (g : pmH) : pmV mX5_agreesBehind 55 L S g = zPush mX5_agreesBehind 56 (.int (nI 1)) L S g := ez_iconst kcX5_agreesBehind dX5_agreesBehind_55 (by decide) rfl L S g
theorem eX5_agreesBehind_56 (L : pmL) (S : List Value) (g : pmH) : pmV mX5_agreesBehind 56 L S g = zIret mX5_agreesBehind S g := ez_ireturn kcX5_agreesBehind dX5_agreesBehind_56 L S g
theorem eX6_init_0 (L : pmL) (S : List Value) (g : pmH) : pmV mX6_init 0 L S g = zLdA mX6_init 1 0 L S g := ez_aload_n kcX6_init dX6_init_0 rfl rfl L S g
theorem eX6_init_1 (L : pmL) (S : List Value) (g : pmH) : pmV mX6_init 1 L S g = zObj mX6_init 4 L S g := ez_objinit kcX6_init dX6_init_1 ol_6_3 rfl L S g
theorem eX6_init_4 (L : pmL) (S : List Value) (g : pmH) : pmV mX6_init 4 L S g = zLdA mX6_init 5 0 L S g := ez_aload_n kcX6_init dX6_init_4 rfl rfl L S g
theorem eX6_init_5 (L : pmL) (S : List Value) (g : pmH) : pmV mX6_init 5 L S g = zLdA mX6_init 6 1 L S g := ez_aload_n kcX6_init dX6_init_5 rfl rfl L S g
theorem eX6_init_6 (L : pmL) (S : List Value) (g : pmH) : pmV mX6_init 6 L S g = zPut mX6_init 9 6 0 L S g := ez_putfield kcX6_init dX6_init_6 fl_6_9 rfl L S g
theorem eX6_init_9 (L : pmL) (S : List Value) (g : pmH) : pmV mX6_init 9 L S g = zLdA mX6_init 10 0 L S g := ez_aload_n kcX6_init dX6_init_9 rfl rfl L S g
theorem eX6_init_10 (L : pmL) (S : List Value) (g : pmH) : pmV mX6_init 10 L S g = zLdA mX6_init 11 2 L S g := ez_aload_n kcX6_init dX6_init_10 rfl rfl L S g
theorem eX6_init_11 (L : pmL) (S : List Value) (g : pmH) : pmV mX6_init 11 L S g = zPut mX6_init 14 6 1 L S g := ez_putfield kcX6_init dX6_init_11 fl_6_15 rfl L S g
theorem eX6_init_14 (L : pmL) (S : List Value) (g : pmH) : pmV mX6_init 14 L S g = zVret S g := ez_return kcX6_init dX6_init_14 rfl L S g
theorem eX6_lookAhead_0 (L : pmL) (S : List Value) (g : pmH) : pmV mX6_lookAhead 0 L S g = zLdA mX6_lookAhead 1 0 L S g := ez_aload_n kcX6_lookAhead dX6_lookAhead_0 rfl rfl L S g
theorem eX6_lookAhead_1 (L : pmL) (S : List Value) (g : pmH) : pmV mX6_lookAhead 1 L S g = zGet mX6_lookAhead 4 6 1 L S g := ez_getfield kcX6_lookAhead dX6_lookAhead_1 fl_6_15 rfl L S g
theorem eX6_lookAhead_4 (L : pmL) (S : List Value) (g : pmH) : pmV mX6_lookAhead 4 L S g = zLdA mX6_lookAhead 5 0 L S g := ez_aload_n kcX6_lookAhead dX6_lookAhead_4 rfl rfl L S g
theorem eX6_lookAhead_5 (L : pmL) (S : List Value) (g : pmH) : pmV mX6_lookAhead 5 L S g = zGet mX6_lookAhead 8 6 0 L S g := ez_getfield kcX6_lookAhead dX6_lookAhead_5 fl_6_9 rfl L S g
theorem eX6_lookAhead_8 (L : pmL) (S : List Value) (g : pmH) : pmV mX6_lookAhead 8 L S g = yV mX6_lookAhead 11 1 mX10_takeFrom 10 3 L S g := (ez_virtual kcX6_lookAhead dX6_lookAhead_8 ml_6_18 rfl L S g).trans (zCallV_y rfl rfl (by decide) L S g)
theorem eX6_lookAhead_11 (L : pmL) (S : List Value) (g : pmH) : pmV mX6_lookAhead 11 L S g = zLdA mX6_lookAhead 12 0 L S g := ez_aload_n kcX6_lookAhead dX6_lookAhead_11 rfl rfl L S g
theorem eX6_lookAhead_12 (L : pmL) (S : List Value) (g : pmH) : pmV mX6_lookAhead 12 L S g = zGet mX6_lookAhead 15 6 1 L S g := ez_getfield kcX6_lookAhead dX6_lookAhead_12 fl_6_15 rfl L S g
theorem eX6_lookAhead_15 (L : pmL) (S : List Value) (g : pmH) : pmV mX6_lookAhead 15 L S g = zLdI mX6_lookAhead 16 1 L S g := ez_iload_n kcX6_lookAhead dX6_lookAhead_15 rfl rfl L S g
theorem eX6_lookAhead_16 (L : pmL) (S : List Value) (g : pmH) : pmV mX6_lookAhead 16 L S g = yV mX6_lookAhead 19 1 mX10_passHours 10 3 L S g := (ez_virtual kcX6_lookAhead dX6_lookAhead_16 ml_6_24 rfl L S g).trans (zCallV_y rfl rfl (by decide) L S g)
theorem eX6_lookAhead_19 (L : pmL) (S : List Value) (g : pmH) : pmV mX6_lookAhead 19 L S g = zVret S g := ez_return kcX6_lookAhead dX6_lookAhead_19 rfl L S g
theorem eX6_hoursToAnswer_0 (L : pmL) (S : List Value) (g : pmH) : pmV mX6_hoursToAnswer 0 L S g = zLdA mX6_hoursToAnswer 1 0 L S g := ez_aload_n kcX6_hoursToAnswer dX6_hoursToAnswer_0 rfl rfl L S g
theorem eX6_hoursToAnswer_1 (L : pmL) (S : List Value) (g : pmH) : pmV mX6_hoursToAnswer 1 L S g = zGet mX6_hoursToAnswer 4 6 1 L S g := ez_getfield kcX6_hoursToAnswer dX6_hoursToAnswer_1 fl_6_15 rfl L S g
theorem eX6_hoursToAnswer_4 (L : pmL) (S : List Value) (g : pmH) : pmV mX6_hoursToAnswer 4 L S g = zLdA mX6_hoursToAnswer 5 0 L S g := ez_aload_n kcX6_hoursToAnswer dX6_hoursToAnswer_4 rfl rfl L S g
theorem eX6_hoursToAnswer_5 (L : pmL) (S : List Value) (g : pmH) : pmV mX6_hoursToAnswer 5 L S g = zGet mX6_hoursToAnswer 8 6 0 L S g := ez_getfield kcX6_hoursToAnswer dX6_hoursToAnswer_5 fl_6_9 rfl L S g
theorem eX6_hoursToAnswer_8 (L : pmL) (S : List Value) (g : pmH) : pmV mX6_hoursToAnswer 8 L S g = yV mX6_hoursToAnswer 11 1 mX10_takeFrom 10 3 L S g := (ez_virtual kcX6_hoursToAnswer dX6_hoursToAnswer_8 ml_6_18 rfl L S g).trans (zCallV_y rfl rfl (by decide) L S g)
theorem eX6_hoursToAnswer_11 (L : pmL) (S : List Value) (g : pmH) : pmV mX6_hoursToAnswer 11 L S g = zPush mX6_hoursToAnswer 12 (.int (nI 0)) L S g := ez_iconst kcX6_hoursToAnswer dX6_hoursToAnswer_11 (by decide) rfl L S g
theorem eX6_hoursToAnswer_12 (L : pmL) (S : List Value) (g : pmH) : pmV mX6_hoursToAnswer 12 L S g = zStI mX6_hoursToAnswer 13 2 L S g := ez_istore_n kcX6_hoursToAnswer dX6_hoursToAnswer_12 rfl rfl L S g
theorem eX6_hoursToAnswer_13 (L : pmL) (S : List Value) (g : pmH) : pmV mX6_hoursToAnswer 13 L S g = zLdI mX6_hoursToAnswer 14 2 L S g := ez_iload_n kcX6_hoursToAnswer dX6_hoursToAnswer_13 rfl rfl L S g
theorem eX6_hoursToAnswer_14 (L : pmL) (S : List Value) (g : pmH) : pmV mX6_hoursToAnswer 14 L S g = zPush mX6_hoursToAnswer 16 (.int (nI 30)) L S g := ez_bipush kcX6_hoursToAnswer dX6_hoursToAnswer_14 (by decide) rfl L S g
theorem eX6_hoursToAnswer_16 (L : pmL) (S : List Value) (g : pmH) : pmV mX6_hoursToAnswer 16 L S g = zBgt mX6_hoursToAnswer 19 46 L S g := ez_icmp_gt kcX6_hoursToAnswer dX6_hoursToAnswer_16 (by decide) rfl L S g
theorem eX6_hoursToAnswer_19 (L : pmL) (S : List Value) (g : pmH) : pmV mX6_hoursToAnswer 19 L S g = zLdA mX6_hoursToAnswer 20 0 L S g := ez_aload_n kcX6_hoursToAnswer dX6_hoursToAnswer_19 rfl rfl L S g
theorem eX6_hoursToAnswer_20 (L : pmL) (S : List Value) (g : pmH) : pmV mX6_hoursToAnswer 20 L S g = zGet mX6_hoursToAnswer 23 6 1 L S g := ez_getfield kcX6_hoursToAnswer dX6_hoursToAnswer_20 fl_6_15 rfl L S g
theorem eX6_hoursToAnswer_23 (L : pmL) (S : List Value) (g : pmH) : pmV mX6_hoursToAnswer 23 L S g = zLdI mX6_hoursToAnswer 24 1 L S g := ez_iload_n kcX6_hoursToAnswer dX6_hoursToAnswer_23 rfl rfl L S g
theorem eX6_hoursToAnswer_24 (L : pmL) (S : List Value) (g : pmH) : pmV mX6_hoursToAnswer 24 L S g = yV mX6_hoursToAnswer 27 1 mX10_isAnswered 10 2 L S g := (ez_virtual kcX6_hoursToAnswer dX6_hoursToAnswer_24 ml_6_28 rfl L S g).trans (zCallV_y rfl rfl (by decide) L S g)
theorem eX6_hoursToAnswer_27 (L : pmL) (S : List Value) (g : pmH) : pmV mX6_hoursToAnswer 27 L S g = zCeq mX6_hoursToAnswer 30 32 L S g := ez_if_eq kcX6_hoursToAnswer dX6_hoursToAnswer_27 (by decide) rfl L S g
theorem eX6_hoursToAnswer_30 (L : pmL) (S : List Value) (g : pmH) : pmV mX6_hoursToAnswer 30 L S g = zLdI mX6_hoursToAnswer 31 2 L S g := ez_iload_n kcX6_hoursToAnswer dX6_hoursToAnswer_30 rfl rfl L S g
theorem eX6_hoursToAnswer_31 (L : pmL) (S : List Value) (g : pmH) : pmV mX6_hoursToAnswer 31 L S g = zIret mX6_hoursToAnswer S g := ez_ireturn kcX6_hoursToAnswer dX6_hoursToAnswer_31 L S g
theorem eX6_hoursToAnswer_32 (L : pmL) (S : List Value) (g : pmH) : pmV mX6_hoursToAnswer 32 L S g = zLdA mX6_hoursToAnswer 33 0 L S g := ez_aload_n kcX6_hoursToAnswer dX6_hoursToAnswer_32 rfl rfl L S g
theorem eX6_hoursToAnswer_33 (L : pmL) (S : List Value) (g : pmH) : pmV mX6_hoursToAnswer 33 L S g = zGet mX6_hoursToAnswer 36 6 1 L S g := ez_getfield kcX6_hoursToAnswer dX6_hoursToAnswer_33 fl_6_15 rfl L S g
theorem eX6_hoursToAnswer_36 (L : pmL) (S : List Value) (g : pmH) : pmV mX6_hoursToAnswer 36 L S g = yV mX6_hoursToAnswer 39 0 mX10_passHour 10 1 L S g := (ez_virtual kcX6_hoursToAnswer dX6_hoursToAnswer_36 ml_6_32 rfl L S g).trans (zCallV_y rfl rfl (by decide) L S g)
theorem eX6_hoursToAnswer_39 (L : pmL) (S : List Value) (g : pmH) : pmV mX6_hoursToAnswer 39 L S g = zPop mX6_hoursToAnswer 40 L S g := ez_pop kcX6_hoursToAnswer dX6_hoursToAnswer_39 rfl L S g
theorem eX6_hoursToAnswer_40 (L : pmL) (S : List Value) (g : pmH) : pmV mX6_hoursToAnswer 40 L S g = zInc mX6_hoursToAnswer 43 2 (nI 1) L S g := ez_iinc kcX6_hoursToAnswer dX6_hoursToAnswer_40 (by decide) rfl L S g
theorem eX6_hoursToAnswer_43 (L : pmL) (S : List Value) (g : pmH) : pmV mX6_hoursToAnswer 43 L S g = zNx mX6_hoursToAnswer 13 L S g := ez_goto kcX6_hoursToAnswer dX6_hoursToAnswer_43 (by decide) L S g
theorem eX6_hoursToAnswer_46 (L : pmL) (S : List Value) (g : pmH) : pmV mX6_hoursToAnswer 46 L S g = zPush mX6_hoursToAnswer 48 (.int (-9)) L S g := ez_bipush kcX6_hoursToAnswer dX6_hoursToAnswer_46 (by decide) rfl L S g
theorem eX6_hoursToAnswer_48 (L : pmL) (S : List Value) (g : pmH) : pmV mX6_hoursToAnswer 48 L S g = zIret mX6_hoursToAnswer S g := ez_ireturn kcX6_hoursToAnswer dX6_hoursToAnswer_48 L S g
theorem eX6_hoursToLetting_0 (L : pmL) (S : List Value) (g : pmH) : pmV mX6_hoursToLetting 0 L S g = zPush mX6_hoursToLetting 1 (.int (nI 0)) L S g := ez_iconst kcX6_hoursToLetting dX6_hoursToLetting_0 (by decide) rfl L S g
theorem eX6_hoursToLetting_1 (L : pmL) (S : List Value) (g : pmH) : pmV mX6_hoursToLetting 1 L S g = zStI mX6_hoursToLetting 2 2 L S g := ez_istore_n kcX6_hoursToLetting dX6_hoursToLetting_1 rfl rfl L S g
theorem eX6_hoursToLetting_2 (L : pmL) (S : List Value) (g : pmH) : pmV mX6_hoursToLetting 2 L S g = zLdI mX6_hoursToLetting 3 2 L S g := ez_iload_n kcX6_hoursToLetting dX6_hoursToLetting_2 rfl rfl L S g
theorem eX6_hoursToLetting_3 (L : pmL) (S : List Value) (g : pmH) : pmV mX6_hoursToLetting 3 L S g = zPush mX6_hoursToLetting 5 (.int (nI 12)) L S g := ez_bipush kcX6_hoursToLetting dX6_hoursToLetting_3 (by decide) rfl L S g
theorem eX6_hoursToLetting_5 (L : pmL) (S : List Value) (g : pmH) : pmV mX6_hoursToLetting 5 L S g = zBgt mX6_hoursToLetting 8 25 L S g := ez_icmp_gt kcX6_hoursToLetting dX6_hoursToLetting_5 (by decide) rfl L S g
theorem eX6_hoursToLetting_8 (L : pmL) (S : List Value) (g : pmH) : pmV mX6_hoursToLetting 8 L S g = zLdA mX6_hoursToLetting 9 0 L S g := ez_aload_n kcX6_hoursToLetting dX6_hoursToLetting_8 rfl rfl L S g
theorem eX6_hoursToLetting_9 (L : pmL) (S : List Value) (g : pmH) : pmV mX6_hoursToLetting 9 L S g = zLdI mX6_hoursToLetting 10 2 L S g := ez_iload_n kcX6_hoursToLetting dX6_hoursToLetting_9 rfl rfl L S g
theorem eX6_hoursToLetting_10 (L : pmL) (S : List Value) (g : pmH) : pmV mX6_hoursToLetting 10 L S g = zLdI mX6_hoursToLetting 11 1 L S g := ez_iload_n kcX6_hoursToLetting dX6_hoursToLetting_10 rfl rfl L S g
theorem eX6_hoursToLetting_11 (L : pmL) (S : List Value) (g : pmH) : pmV mX6_hoursToLetting 11 L S g = yV mX6_hoursToLetting 14 2 mX6_endsWellIfLetIn 6 4 L S g := (ez_virtual kcX6_hoursToLetting dX6_hoursToLetting_11 ml_6_36 rfl L S g).trans (zCallV_y rfl rfl (by decide) L S g)
theorem eX6_hoursToLetting_14 (L : pmL) (S : List Value) (g : pmH) : pmV mX6_hoursToLetting 14 L S g = zCeq mX6_hoursToLetting 17 19 L S g := ez_if_eq kcX6_hoursToLetting dX6_hoursToLetting_14 (by decide) rfl L S g
theorem eX6_hoursToLetting_17 (L : pmL) (S : List Value) (g : pmH) : pmV mX6_hoursToLetting 17 L S g = zLdI mX6_hoursToLetting 18 2 L S g := ez_iload_n kcX6_hoursToLetting dX6_hoursToLetting_17 rfl rfl L S g
theorem eX6_hoursToLetting_18 (L : pmL) (S : List Value) (g : pmH) : pmV mX6_hoursToLetting 18 L S g = zIret mX6_hoursToLetting S g := ez_ireturn kcX6_hoursToLetting dX6_hoursToLetting_18 L S g
theorem eX6_hoursToLetting_19 (L : pmL) (S : List Value) (g : pmH) : pmV mX6_hoursToLetting 19 L S g = zInc mX6_hoursToLetting 22 2 (nI 1) L S g := ez_iinc kcX6_hoursToLetting dX6_hoursToLetting_19 (by decide) rfl L S g
theorem eX6_hoursToLetting_22 (L : pmL) (S : List Value) (g : pmH) : pmV mX6_hoursToLetting 22 L S g = zNx mX6_hoursToLetting 2 L S g := ez_goto kcX6_hoursToLetting dX6_hoursToLetting_22 (by decide) L S g
theorem eX6_hoursToLetting_25 (L : pmL) (S : List Value) (g : pmH) : pmV mX6_hoursToLetting 25 L S g = zPush mX6_hoursToLetting 27 (.int (-9)) L S g := ez_bipush kcX6_hoursToLetting dX6_hoursToLetting_25 (by decide) rfl L S g
theorem eX6_hoursToLetting_27 (L : pmL) (S : List Value) (g : pmH) : pmV mX6_hoursToLetting 27 L S g = zIret mX6_hoursToLetting S g := ez_ireturn kcX6_hoursToLetting dX6_hoursToLetting_27 L S g
theorem eX6_endsWellIfLetIn_0 (L : pmL) (S : List Value) (g : pmH) : pmV mX6_endsWellIfLetIn 0 L S g = zLdA mX6_endsWellIfLetIn 1 0 L S g := ez_aload_n kcX6_endsWellIfLetIn dX6_endsWellIfLetIn_0 rfl rfl L S g
theorem eX6_endsWellIfLetIn_1 (L : pmL) (S : List Value) (g : pmH) : pmV mX6_endsWellIfLetIn 1 L S g = zGet mX6_endsWellIfLetIn 4 6 1 L S g := ez_getfield kcX6_endsWellIfLetIn dX6_endsWellIfLetIn_1 fl_6_15 rfl L S g
theorem eX6_endsWellIfLetIn_4 (L : pmL) (S : List Value) (g : pmH) : pmV mX6_endsWellIfLetIn 4 L S g = zLdA mX6_endsWellIfLetIn 5 0 L S g := ez_aload_n kcX6_endsWellIfLetIn dX6_endsWellIfLetIn_4 rfl rfl L S g
theorem eX6_endsWellIfLetIn_5 (L : pmL) (S : List Value) (g : pmH) : pmV mX6_endsWellIfLetIn 5 L S g = zGet mX6_endsWellIfLetIn 8 6 0 L S g := ez_getfield kcX6_endsWellIfLetIn dX6_endsWellIfLetIn_5 fl_6_9 rfl L S g
theorem eX6_endsWellIfLetIn_8 (L : pmL) (S : List Value) (g : pmH) : pmV mX6_endsWellIfLetIn 8 L S g = yV mX6_endsWellIfLetIn 11 1 mX10_takeFrom 10 3 L S g := (ez_virtual kcX6_endsWellIfLetIn dX6_endsWellIfLetIn_8 ml_6_18 rfl L S g).trans (zCallV_y rfl rfl (by decide) L S g)
theorem eX6_endsWellIfLetIn_11 (L : pmL) (S : List Value) (g : pmH) : pmV mX6_endsWellIfLetIn 11 L S g = zLdA mX6_endsWellIfLetIn 12 0 L S g := ez_aload_n kcX6_endsWellIfLetIn dX6_endsWellIfLetIn_11 rfl rfl L S g
theorem eX6_endsWellIfLetIn_12 (L : pmL) (S : List Value) (g : pmH) : pmV mX6_endsWellIfLetIn 12 L S g = zGet mX6_endsWellIfLetIn 15 6 1 L S g := ez_getfield kcX6_endsWellIfLetIn dX6_endsWellIfLetIn_12 fl_6_15 rfl L S g
theorem eX6_endsWellIfLetIn_15 (L : pmL) (S : List Value) (g : pmH) : pmV mX6_endsWellIfLetIn 15 L S g = zLdI mX6_endsWellIfLetIn 16 1 L S g := ez_iload_n kcX6_endsWellIfLetIn dX6_endsWellIfLetIn_15 rfl rfl L S g
theorem eX6_endsWellIfLetIn_16 (L : pmL) (S : List Value) (g : pmH) : pmV mX6_endsWellIfLetIn 16 L S g = yV mX6_endsWellIfLetIn 19 1 mX10_passHours 10 3 L S g := (ez_virtual kcX6_endsWellIfLetIn dX6_endsWellIfLetIn_16 ml_6_24 rfl L S g).trans (zCallV_y rfl rfl (by decide) L S g)
theorem eX6_endsWellIfLetIn_19 (L : pmL) (S : List Value) (g : pmH) : pmV mX6_endsWellIfLetIn 19 L S g = zLdA mX6_endsWellIfLetIn 20 0 L S g := ez_aload_n kcX6_endsWellIfLetIn dX6_endsWellIfLetIn_19 rfl rfl L S g
theorem eX6_endsWellIfLetIn_20 (L : pmL) (S : List Value) (g : pmH) : pmV mX6_endsWellIfLetIn 20 L S g = zGet mX6_endsWellIfLetIn 23 6 1 L S g := ez_getfield kcX6_endsWellIfLetIn dX6_endsWellIfLetIn_20 fl_6_15 rfl L S g
theorem eX6_endsWellIfLetIn_23 (L : pmL) (S : List Value) (g : pmH) : pmV mX6_endsWellIfLetIn 23 L S g = zLdI mX6_endsWellIfLetIn 24 2 L S g := ez_iload_n kcX6_endsWellIfLetIn dX6_endsWellIfLetIn_23 rfl rfl L S g
theorem eX6_endsWellIfLetIn_24 (L : pmL) (S : List Value) (g : pmH) : pmV mX6_endsWellIfLetIn 24 L S g = yV mX6_endsWellIfLetIn 27 1 mX10_letGo 10 2 L S g := (ez_virtual kcX6_endsWellIfLetIn dX6_endsWellIfLetIn_24 ml_6_40 rfl L S g).trans (zCallV_y rfl rfl (by decide) L S g)
theorem eX6_endsWellIfLetIn_27 (L : pmL) (S : List Value) (g : pmH) : pmV mX6_endsWellIfLetIn 27 L S g = zPop mX6_endsWellIfLetIn 28 L S g := ez_pop kcX6_endsWellIfLetIn dX6_endsWellIfLetIn_27 rfl L S g
theorem eX6_endsWellIfLetIn_28 (L : pmL) (S : List Value) (g : pmH) : pmV mX6_endsWellIfLetIn 28 L S g = zLdA mX6_endsWellIfLetIn 29 0 L S g := ez_aload_n kcX6_endsWellIfLetIn dX6_endsWellIfLetIn_28 rfl rfl L S g
theorem eX6_endsWellIfLetIn_29 (L : pmL) (S : List Value) (g : pmH) : pmV mX6_endsWellIfLetIn 29 L S g = zGet mX6_endsWellIfLetIn 32 6 1 L S g := ez_getfield kcX6_endsWellIfLetIn dX6_endsWellIfLetIn_29 fl_6_15 rfl L S g
theorem eX6_endsWellIfLetIn_32 (L : pmL) (S : List Value) (g : pmH) : pmV mX6_endsWellIfLetIn 32 L S g = zPush mX6_endsWellIfLetIn 34 (.int (nI 20)) L S g := ez_bipush kcX6_endsWellIfLetIn dX6_endsWellIfLetIn_32 (by decide) rfl L S g
theorem eX6_endsWellIfLetIn_34 (L : pmL) (S : List Value) (g : pmH) : pmV mX6_endsWellIfLetIn 34 L S g = yV mX6_endsWellIfLetIn 37 1 mX10_passHours 10 3 L S g := (ez_virtual kcX6_endsWellIfLetIn dX6_endsWellIfLetIn_34 ml_6_24 rfl L S g).trans (zCallV_y rfl rfl (by decide) L S g)
theorem eX6_endsWellIfLetIn_37 (L : pmL) (S : List Value) (g : pmH) : pmV mX6_endsWellIfLetIn 37 L S g = zLdA mX6_endsWellIfLetIn 38 0 L S g := ez_aload_n kcX6_endsWellIfLetIn dX6_endsWellIfLetIn_37 rfl rfl L S g
theorem eX6_endsWellIfLetIn_38 (L : pmL) (S : List Value) (g : pmH) : pmV mX6_endsWellIfLetIn 38 L S g = zGet mX6_endsWellIfLetIn 41 6 1 L S g := ez_getfield kcX6_endsWellIfLetIn dX6_endsWellIfLetIn_38 fl_6_15 rfl L S g
theorem eX6_endsWellIfLetIn_41 (L : pmL) (S : List Value) (g : pmH) : pmV mX6_endsWellIfLetIn 41 L S g = zGet mX6_endsWellIfLetIn 44 10 1 L S g := ez_getfield kcX6_endsWellIfLetIn dX6_endsWellIfLetIn_41 fl_6_43 rfl L S g
theorem eX6_endsWellIfLetIn_44 (L : pmL) (S : List Value) (g : pmH) : pmV mX6_endsWellIfLetIn 44 L S g = zLdI mX6_endsWellIfLetIn 45 2 L S g := ez_iload_n kcX6_endsWellIfLetIn dX6_endsWellIfLetIn_44 rfl rfl L S g
theorem eX6_endsWellIfLetIn_45 (L : pmL) (S : List Value) (g : pmH) : pmV mX6_endsWellIfLetIn 45 L S g = zAald mX6_endsWellIfLetIn 46 L S g := ez_aaload kcX6_endsWellIfLetIn dX6_endsWellIfLetIn_45 rfl L S g
theorem eX6_endsWellIfLetIn_46 (L : pmL) (S : List Value) (g : pmH) : pmV mX6_endsWellIfLetIn 46 L S g = zGet mX6_endsWellIfLetIn 49 1 3 L S g := ez_getfield kcX6_endsWellIfLetIn dX6_endsWellIfLetIn_46 fl_6_47 rfl L S g
theorem eX6_endsWellIfLetIn_49 (L : pmL) (S : List Value) (g : pmH) : pmV mX6_endsWellIfLetIn 49 L S g = zStI mX6_endsWellIfLetIn 50 3 L S g := ez_istore_n kcX6_endsWellIfLetIn dX6_endsWellIfLetIn_49 rfl rfl L S g
theorem eX6_endsWellIfLetIn_50 (L : pmL) (S : List Value) (g : pmH) : pmV mX6_endsWellIfLetIn 50 L S g = zLdA mX6_endsWellIfLetIn 51 0 L S g := ez_aload_n kcX6_endsWellIfLetIn dX6_endsWellIfLetIn_50 rfl rfl L S g
theorem eX6_endsWellIfLetIn_51 (L : pmL) (S : List Value) (g : pmH) : pmV mX6_endsWellIfLetIn 51 L S g = zGet mX6_endsWellIfLetIn 54 6 1 L S g := ez_getfield kcX6_endsWellIfLetIn dX6_endsWellIfLetIn_51 fl_6_15 rfl L S g
theorem eX6_endsWellIfLetIn_54 (L : pmL) (S : List Value) (g : pmH) : pmV mX6_endsWellIfLetIn 54 L S g = zGet mX6_endsWellIfLetIn 57 10 0 L S g := ez_getfield kcX6_endsWellIfLetIn dX6_endsWellIfLetIn_54 fl_6_53 rfl L S g
theorem eX6_endsWellIfLetIn_57 (L : pmL) (S : List Value) (g : pmH) : pmV mX6_endsWellIfLetIn 57 L S g = zLdI mX6_endsWellIfLetIn 58 3 L S g := ez_iload_n kcX6_endsWellIfLetIn dX6_endsWellIfLetIn_57 rfl rfl L S g
theorem eX6_endsWellIfLetIn_58 (L : pmL) (S : List Value) (g : pmH) : pmV mX6_endsWellIfLetIn 58 L S g = yV mX6_endsWellIfLetIn 61 1 mX4_hasHedge 4 2 L S g := (ez_virtual kcX6_endsWellIfLetIn dX6_endsWellIfLetIn_58 ml_6_57 rfl L S g).trans (zCallV_y rfl rfl (by decide) L S g)
theorem eX6_endsWellIfLetIn_61 (L : pmL) (S : List Value) (g : pmH) : pmV mX6_endsWellIfLetIn 61 L S g = zCeq mX6_endsWellIfLetIn 64 95 L S g := ez_if_eq kcX6_endsWellIfLetIn dX6_endsWellIfLetIn_61 (by decide) rfl L S g
theorem eX6_endsWellIfLetIn_64 (L : pmL) (S : List Value) (g : pmH) : pmV mX6_endsWellIfLetIn 64 L S g = zLdA mX6_endsWellIfLetIn 65 0 L S g := ez_aload_n kcX6_endsWellIfLetIn dX6_endsWellIfLetIn_64 rfl rfl L S g
theorem eX6_endsWellIfLetIn_65 (L : pmL) (S : List Value) (g : pmH) : pmV mX6_endsWellIfLetIn 65 L S g = zGet mX6_endsWellIfLetIn 68 6 1 L S g := ez_getfield kcX6_endsWellIfLetIn dX6_endsWellIfLetIn_65 fl_6_15 rfl L S g
theorem eX6_endsWellIfLetIn_68 (L : pmL) (S : List Value) (g : pmH) : pmV mX6_endsWellIfLetIn 68 L S g = zGet mX6_endsWellIfLetIn 71 10 0 L S g := ez_getfield kcX6_endsWellIfLetIn dX6_endsWellIfLetIn_68 fl_6_53 rfl L S g
theorem eX6_endsWellIfLetIn_71 (L : pmL) (S : List Value) (g : pmH) : pmV mX6_endsWellIfLetIn 71 L S g = zGet mX6_endsWellIfLetIn 74 4 6 L S g := ez_getfield kcX6_endsWellIfLetIn dX6_endsWellIfLetIn_71 fl_6_62 rfl L S g
theorem eX6_endsWellIfLetIn_74 (L : pmL) (S : List Value) (g : pmH) : pmV mX6_endsWellIfLetIn 74 L S g = zLdI mX6_endsWellIfLetIn 75 3 L S g := ez_iload_n kcX6_endsWellIfLetIn dX6_endsWellIfLetIn_74 rfl rfl L S g
theorem eX6_endsWellIfLetIn_75 (L : pmL) (S : List Value) (g : pmH) : pmV mX6_endsWellIfLetIn 75 L S g = zIald mX6_endsWellIfLetIn 76 L S g := ez_iaload kcX6_endsWellIfLetIn dX6_endsWellIfLetIn_75 rfl L S g
theorem eX6_endsWellIfLetIn_76 (L : pmL) (S : List Value) (g : pmH) : pmV mX6_endsWellIfLetIn 76 L S g = zLdA mX6_endsWellIfLetIn 77 0 L S g := ez_aload_n kcX6_endsWellIfLetIn dX6_endsWellIfLetIn_76 rfl rfl L S g
theorem eX6_endsWellIfLetIn_77 (L : pmL) (S : List Value) (g : pmH) : pmV mX6_endsWellIfLetIn 77 L S g = zGet mX6_endsWellIfLetIn 80 6 1 L S g := ez_getfield kcX6_endsWellIfLetIn dX6_endsWellIfLetIn_77 fl_6_15 rfl L S g
theorem eX6_endsWellIfLetIn_80 (L : pmL) (S : List Value) (g : pmH) : pmV mX6_endsWellIfLetIn 80 L S g = zGet mX6_endsWellIfLetIn 83 10 0 L S g := ez_getfield kcX6_endsWellIfLetIn dX6_endsWellIfLetIn_80 fl_6_53 rfl L S g
theorem eX6_endsWellIfLetIn_83 (L : pmL) (S : List Value) (g : pmH) : pmV mX6_endsWellIfLetIn 83 L S g = zGet mX6_endsWellIfLetIn 86 4 3 L S g := ez_getfield kcX6_endsWellIfLetIn dX6_endsWellIfLetIn_83 fl_6_66 rfl L S g
theorem eX6_endsWellIfLetIn_86 (L : pmL) (S : List Value) (g : pmH) : pmV mX6_endsWellIfLetIn 86 L S g = zLdI mX6_endsWellIfLetIn 87 2 L S g := ez_iload_n kcX6_endsWellIfLetIn dX6_endsWellIfLetIn_86 rfl rfl L S g
theorem eX6_endsWellIfLetIn_87 (L : pmL) (S : List Value) (g : pmH) : pmV mX6_endsWellIfLetIn 87 L S g = zIald mX6_endsWellIfLetIn 88 L S g := ez_iaload kcX6_endsWellIfLetIn dX6_endsWellIfLetIn_87 rfl L S g
theorem eX6_endsWellIfLetIn_88 (L : pmL) (S : List Value) (g : pmH) : pmV mX6_endsWellIfLetIn 88 L S g = zBne mX6_endsWellIfLetIn 91 95 L S g := ez_icmp_ne kcX6_endsWellIfLetIn dX6_endsWellIfLetIn_88 (by decide) rfl L S g
theorem eX6_endsWellIfLetIn_91 (L : pmL) (S : List Value) (g : pmH) : pmV mX6_endsWellIfLetIn 91 L S g = zPush mX6_endsWellIfLetIn 92 (.int (nI 1)) L S g := ez_iconst kcX6_endsWellIfLetIn dX6_endsWellIfLetIn_91 (by decide) rfl L S g
theorem eX6_endsWellIfLetIn_92 (L : pmL) (S : List Value) (g : pmH) : pmV mX6_endsWellIfLetIn 92 L S g = zNx mX6_endsWellIfLetIn 96 L S g := ez_goto kcX6_endsWellIfLetIn dX6_endsWellIfLetIn_92 (by decide) L S g
theorem eX6_endsWellIfLetIn_95 (L : pmL) (S : List Value) (g : pmH) : pmV mX6_endsWellIfLetIn 95 L S g = zPush mX6_endsWellIfLetIn 96 (.int (nI 0)) L S g := ez_iconst kcX6_endsWellIfLetIn dX6_endsWellIfLetIn_95 (by decide) rfl L S g
theorem eX6_endsWellIfLetIn_96 (L : pmL) (S : List Value) (g : pmH) : pmV mX6_endsWellIfLetIn 96 L S g = zIret mX6_endsWellIfLetIn S g := ez_ireturn kcX6_endsWellIfLetIn dX6_endsWellIfLetIn_96 L S g
theorem eX6_firstThatCannotBe_0 (L : pmL) (S : List Value) (g : pmH) : pmV mX6_firstThatCannotBe 0 L S g = zLdA mX6_firstThatCannotBe 1 0 L S g := ez_aload_n kcX6_firstThatCannotBe dX6_firstThatCannotBe_0 rfl rfl L S g
theorem eX6_firstThatCannotBe_1 (L : pmL) (S : List Value) (g : pmH) : pmV mX6_firstThatCannotBe 1 L S g = zGet mX6_firstThatCannotBe 4 6 1 L S g := ez_getfield kcX6_firstThatCannotBe dX6_firstThatCannotBe_1 fl_6_15 rfl L S g
theorem eX6_firstThatCannotBe_4 (L : pmL) (S : List Value) (g : pmH) : pmV mX6_firstThatCannotBe 4 L S g = zLdA mX6_firstThatCannotBe 5 0 L S g := ez_aload_n kcX6_firstThatCannotBe dX6_firstThatCannotBe_4 rfl rfl L S g
theorem eX6_firstThatCannotBe_5 (L : pmL) (S : List Value) (g : pmH) : pmV mX6_firstThatCannotBe 5 L S g = zGet mX6_firstThatCannotBe 8 6 0 L S g := ez_getfield kcX6_firstThatCannotBe dX6_firstThatCannotBe_5 fl_6_9 rfl L S g
theorem eX6_firstThatCannotBe_8 (L : pmL) (S : List Value) (g : pmH) : pmV mX6_firstThatCannotBe 8 L S g = yV mX6_firstThatCannotBe 11 1 mX10_takeFrom 10 3 L S g := (ez_virtual kcX6_firstThatCannotBe dX6_firstThatCannotBe_8 ml_6_18 rfl L S g).trans (zCallV_y rfl rfl (by decide) L S g)
theorem eX6_firstThatCannotBe_11 (L : pmL) (S : List Value) (g : pmH) : pmV mX6_firstThatCannotBe 11 L S g = zPush mX6_firstThatCannotBe 12 (.int (nI 0)) L S g := ez_iconst kcX6_firstThatCannotBe dX6_firstThatCannotBe_11 (by decide) rfl L S g
theorem eX6_firstThatCannotBe_12 (L : pmL) (S : List Value) (g : pmH) : pmV mX6_firstThatCannotBe 12 L S g = zStI mX6_firstThatCannotBe 14 4 L S g := ez_istore kcX6_firstThatCannotBe dX6_firstThatCannotBe_12 rfl L S g
theorem eX6_firstThatCannotBe_14 (L : pmL) (S : List Value) (g : pmH) : pmV mX6_firstThatCannotBe 14 L S g = zLdI mX6_firstThatCannotBe 16 4 L S g := ez_iload kcX6_firstThatCannotBe dX6_firstThatCannotBe_14 rfl L S g
theorem eX6_firstThatCannotBe_16 (L : pmL) (S : List Value) (g : pmH) : pmV mX6_firstThatCannotBe 16 L S g = zLdI mX6_firstThatCannotBe 17 1 L S g := ez_iload_n kcX6_firstThatCannotBe dX6_firstThatCannotBe_16 rfl rfl L S g
theorem eX6_firstThatCannotBe_17 (L : pmL) (S : List Value) (g : pmH) : pmV mX6_firstThatCannotBe 17 L S g = zBge mX6_firstThatCannotBe 20 73 L S g := ez_icmp_ge kcX6_firstThatCannotBe dX6_firstThatCannotBe_17 (by decide) rfl L S g
theorem eX6_firstThatCannotBe_20 (L : pmL) (S : List Value) (g : pmH) : pmV mX6_firstThatCannotBe 20 L S g = zLdJ mX6_firstThatCannotBe 21 2 L S g := ez_lload_n kcX6_firstThatCannotBe dX6_firstThatCannotBe_20 rfl rfl L S g
theorem eX6_firstThatCannotBe_21 (L : pmL) (S : List Value) (g : pmH) : pmV mX6_firstThatCannotBe 21 L S g = zPush mX6_firstThatCannotBe 24 (.ref 2) L S g := ez_getstatic kcX6_firstThatCannotBe dX6_firstThatCannotBe_21 sl_6_69 rfl L S g
theorem eX6_firstThatCannotBe_24 (L : pmL) (S : List Value) (g : pmH) : pmV mX6_firstThatCannotBe 24 L S g = zLdI mX6_firstThatCannotBe 25 1 L S g := ez_iload_n kcX6_firstThatCannotBe dX6_firstThatCannotBe_24 rfl rfl L S g
theorem eX6_firstThatCannotBe_25 (L : pmL) (S : List Value) (g : pmH) : pmV mX6_firstThatCannotBe 25 L S g = zPush mX6_firstThatCannotBe 26 (.int (nI 1)) L S g := ez_iconst kcX6_firstThatCannotBe dX6_firstThatCannotBe_25 (by decide) rfl L S g
theorem eX6_firstThatCannotBe_26 (L : pmL) (S : List Value) (g : pmH) : pmV mX6_firstThatCannotBe 26 L S g = zSub mX6_firstThatCannotBe 27 L S g := ez_isub kcX6_firstThatCannotBe dX6_firstThatCannotBe_26 rfl L S g
theorem eX6_firstThatCannotBe_27 (L : pmL) (S : List Value) (g : pmH) : pmV mX6_firstThatCannotBe 27 L S g = zLdI mX6_firstThatCannotBe 29 4 L S g := ez_iload kcX6_firstThatCannotBe dX6_firstThatCannotBe_27 rfl L S g
theorem eX6_firstThatCannotBe_29 (L : pmL) (S : List Value) (g : pmH) : pmV mX6_firstThatCannotBe 29 L S g = zSub mX6_firstThatCannotBe 30 L S g := ez_isub kcX6_firstThatCannotBe dX6_firstThatCannotBe_29 rfl L S g
theorem eX6_firstThatCannotBe_30 (L : pmL) (S : List Value) (g : pmH) : pmV mX6_firstThatCannotBe 30 L S g = zLald mX6_firstThatCannotBe 31 L S g := ez_laload kcX6_firstThatCannotBe dX6_firstThatCannotBe_30 rfl L S g
theorem eX6_firstThatCannotBe_31 (L : pmL) (S : List Value) (g : pmH) : pmV mX6_firstThatCannotBe 31 L S g = zJDiv mX6_firstThatCannotBe 32 L S g := ez_ldiv kcX6_firstThatCannotBe dX6_firstThatCannotBe_31 rfl L S g
theorem eX6_firstThatCannotBe_32 (L : pmL) (S : List Value) (g : pmH) : pmV mX6_firstThatCannotBe 32 L S g = zPush mX6_firstThatCannotBe 35 (.long (lN 1000)) L S g := ez_ldc2_w kcX6_firstThatCannotBe dX6_firstThatCannotBe_32 jl_6_73 rfl L S g
theorem eX6_firstThatCannotBe_35 (L : pmL) (S : List Value) (g : pmH) : pmV mX6_firstThatCannotBe 35 L S g = zJRem mX6_firstThatCannotBe 36 L S g := ez_lrem kcX6_firstThatCannotBe dX6_firstThatCannotBe_35 rfl L S g
theorem eX6_firstThatCannotBe_36 (L : pmL) (S : List Value) (g : pmH) : pmV mX6_firstThatCannotBe 36 L S g = zL2i mX6_firstThatCannotBe 37 L S g := ez_l2i kcX6_firstThatCannotBe dX6_firstThatCannotBe_36 rfl L S g
theorem eX6_firstThatCannotBe_37 (L : pmL) (S : List Value) (g : pmH) : pmV mX6_firstThatCannotBe 37 L S g = zStI mX6_firstThatCannotBe 39 5 L S g := ez_istore kcX6_firstThatCannotBe dX6_firstThatCannotBe_37 rfl L S g
theorem eX6_firstThatCannotBe_39 (L : pmL) (S : List Value) (g : pmH) : pmV mX6_firstThatCannotBe 39 L S g = zLdA mX6_firstThatCannotBe 40 0 L S g := ez_aload_n kcX6_firstThatCannotBe dX6_firstThatCannotBe_39 rfl rfl L S g
theorem eX6_firstThatCannotBe_40 (L : pmL) (S : List Value) (g : pmH) : pmV mX6_firstThatCannotBe 40 L S g = zLdI mX6_firstThatCannotBe 42 5 L S g := ez_iload kcX6_firstThatCannotBe dX6_firstThatCannotBe_40 rfl L S g
theorem eX6_firstThatCannotBe_42 (L : pmL) (S : List Value) (g : pmH) : pmV mX6_firstThatCannotBe 42 L S g = zPush mX6_firstThatCannotBe 44 (.int (nI 100)) L S g := ez_bipush kcX6_firstThatCannotBe dX6_firstThatCannotBe_42 (by decide) rfl L S g
theorem eX6_firstThatCannotBe_44 (L : pmL) (S : List Value) (g : pmH) : pmV mX6_firstThatCannotBe 44 L S g = zDiv mX6_firstThatCannotBe 45 L S g := ez_idiv kcX6_firstThatCannotBe dX6_firstThatCannotBe_44 rfl L S g
theorem eX6_firstThatCannotBe_45 (L : pmL) (S : List Value) (g : pmH) : pmV mX6_firstThatCannotBe 45 L S g = zLdI mX6_firstThatCannotBe 47 5 L S g := ez_iload kcX6_firstThatCannotBe dX6_firstThatCannotBe_45 rfl L S g
theorem eX6_firstThatCannotBe_47 (L : pmL) (S : List Value) (g : pmH) : pmV mX6_firstThatCannotBe 47 L S g = zPush mX6_firstThatCannotBe 49 (.int (nI 10)) L S g := ez_bipush kcX6_firstThatCannotBe dX6_firstThatCannotBe_47 (by decide) rfl L S g
theorem eX6_firstThatCannotBe_49 (L : pmL) (S : List Value) (g : pmH) : pmV mX6_firstThatCannotBe 49 L S g = zDiv mX6_firstThatCannotBe 50 L S g := ez_idiv kcX6_firstThatCannotBe dX6_firstThatCannotBe_49 rfl L S g
theorem eX6_firstThatCannotBe_50 (L : pmL) (S : List Value) (g : pmH) : pmV mX6_firstThatCannotBe 50 L S g = zPush mX6_firstThatCannotBe 52 (.int (nI 10)) L S g := ez_bipush kcX6_firstThatCannotBe dX6_firstThatCannotBe_50 (by decide) rfl L S g
theorem eX6_firstThatCannotBe_52 (L : pmL) (S : List Value) (g : pmH) : pmV mX6_firstThatCannotBe 52 L S g = zRem mX6_firstThatCannotBe 53 L S g := ez_irem kcX6_firstThatCannotBe dX6_firstThatCannotBe_52 rfl L S g
theorem eX6_firstThatCannotBe_53 (L : pmL) (S : List Value) (g : pmH) : pmV mX6_firstThatCannotBe 53 L S g = zLdI mX6_firstThatCannotBe 55 5 L S g := ez_iload kcX6_firstThatCannotBe dX6_firstThatCannotBe_53 rfl L S g
theorem eX6_firstThatCannotBe_55 (L : pmL) (S : List Value) (g : pmH) : pmV mX6_firstThatCannotBe 55 L S g = zPush mX6_firstThatCannotBe 57 (.int (nI 10)) L S g := ez_bipush kcX6_firstThatCannotBe dX6_firstThatCannotBe_55 (by decide) rfl L S g
theorem eX6_firstThatCannotBe_57 (L : pmL) (S : List Value) (g : pmH) : pmV mX6_firstThatCannotBe 57 L S g = zRem mX6_firstThatCannotBe 58 L S g := ez_irem kcX6_firstThatCannotBe dX6_firstThatCannotBe_57 rfl L S g
theorem eX6_firstThatCannotBe_58 (L : pmL) (S : List Value) (g : pmH) : pmV mX6_firstThatCannotBe 58 L S g = yV mX6_firstThatCannotBe 61 3 mX6_canBe 6 4 L S g := (ez_virtual kcX6_firstThatCannotBe dX6_firstThatCannotBe_58 ml_6_75 rfl L S g).trans (zCallV_y rfl rfl (by decide) L S g)
theorem eX6_firstThatCannotBe_61 (L : pmL) (S : List Value) (g : pmH) : pmV mX6_firstThatCannotBe 61 L S g = zCne mX6_firstThatCannotBe 64 67 L S g := ez_if_ne kcX6_firstThatCannotBe dX6_firstThatCannotBe_61 (by decide) rfl L S g
theorem eX6_firstThatCannotBe_64 (L : pmL) (S : List Value) (g : pmH) : pmV mX6_firstThatCannotBe 64 L S g = zLdI mX6_firstThatCannotBe 66 4 L S g := ez_iload kcX6_firstThatCannotBe dX6_firstThatCannotBe_64 rfl L S g
theorem eX6_firstThatCannotBe_66 (L : pmL) (S : List Value) (g : pmH) : pmV mX6_firstThatCannotBe 66 L S g = zIret mX6_firstThatCannotBe S g := ez_ireturn kcX6_firstThatCannotBe dX6_firstThatCannotBe_66 L S g
theorem eX6_firstThatCannotBe_67 (L : pmL) (S : List Value) (g : pmH) : pmV mX6_firstThatCannotBe 67 L S g = zInc mX6_firstThatCannotBe 70 4 (nI 1) L S g := ez_iinc kcX6_firstThatCannotBe dX6_firstThatCannotBe_67 (by decide) rfl L S g
theorem eX6_firstThatCannotBe_70 (L : pmL) (S : List Value) (g : pmH) : pmV mX6_firstThatCannotBe 70 L S g = zNx mX6_firstThatCannotBe 14 L S g := ez_goto kcX6_firstThatCannotBe dX6_firstThatCannotBe_70 (by decide) L S g
theorem eX6_firstThatCannotBe_73 (L : pmL) (S : List Value) (g : pmH) : pmV mX6_firstThatCannotBe 73 L S g = zPush mX6_firstThatCannotBe 75 (.int (-9)) L S g := ez_bipush kcX6_firstThatCannotBe dX6_firstThatCannotBe_73 (by decide) rfl L S g
theorem eX6_firstThatCannotBe_75 (L : pmL) (S : List Value) (g : pmH) : pmV mX6_firstThatCannotBe 75 L S g = zIret mX6_firstThatCannotBe S g := ez_ireturn kcX6_firstThatCannotBe dX6_firstThatCannotBe_75 L S g
theorem eX6_canBe_0 (L : pmL) (S : List Value) (g : pmH) : pmV mX6_canBe 0 L S g = zLdI mX6_canBe 1 1 L S g := ez_iload_n kcX6_canBe dX6_canBe_0 rfl rfl L S g
theorem eX6_canBe_1 (L : pmL) (S : List Value) (g : pmH) : pmV mX6_canBe 1 L S g = zPush mX6_canBe 2 (.int (nI 3)) L S g := ez_iconst kcX6_canBe dX6_canBe_1 (by decide) rfl L S g
theorem eX6_canBe_2 (L : pmL) (S : List Value) (g : pmH) : pmV mX6_canBe 2 L S g = zBeq mX6_canBe 5 11 L S g := ez_icmp_eq kcX6_canBe dX6_canBe_2 (by decide) rfl L S g
theorem eX6_canBe_5 (L : pmL) (S : List Value) (g : pmH) : pmV mX6_canBe 5 L S g = zLdI mX6_canBe 6 2 L S g := ez_iload_n kcX6_canBe dX6_canBe_5 rfl rfl L S g
theorem eX6_canBe_6 (L : pmL) (S : List Value) (g : pmH) : pmV mX6_canBe 6 L S g = zCeq mX6_canBe 9 11 L S g := ez_if_eq kcX6_canBe dX6_canBe_6 (by decide) rfl L S g
theorem eX6_canBe_9 (L : pmL) (S : List Value) (g : pmH) : pmV mX6_canBe 9 L S g = zPush mX6_canBe 10 (.int (nI 0)) L S g := ez_iconst kcX6_canBe dX6_canBe_9 (by decide) rfl L S g
theorem eX6_canBe_10 (L : pmL) (S : List Value) (g : pmH) : pmV mX6_canBe 10 L S g = zIret mX6_canBe S g := ez_ireturn kcX6_canBe dX6_canBe_10 L S g
theorem eX6_canBe_11 (L : pmL) (S : List Value) (g : pmH) : pmV mX6_canBe 11 L S g = zLdI mX6_canBe 12 1 L S g := ez_iload_n kcX6_canBe dX6_canBe_11 rfl rfl L S g
theorem eX6_canBe_12 (L : pmL) (S : List Value) (g : pmH) : pmV mX6_canBe 12 L S g = zTab mX6_canBe 12 89 0 4 #[36, 52, 61, 70, 80] L S g := ez_tab kcX6_canBe dX6_canBe_12 L S g
theorem eX6_canBe_48 (L : pmL) (S : List Value) (g : pmH) : pmV mX6_canBe 48 L S g = zLdI mX6_canBe 49 3 L S g := ez_iload_n kcX6_canBe dX6_canBe_48 rfl rfl L S g
theorem eX6_canBe_49 (L : pmL) (S : List Value) (g : pmH) : pmV mX6_canBe 49 L S g = zCeq mX6_canBe 52 54 L S g := ez_if_eq kcX6_canBe dX6_canBe_49 (by decide) rfl L S g
theorem eX6_canBe_52 (L : pmL) (S : List Value) (g : pmH) : pmV mX6_canBe 52 L S g = zPush mX6_canBe 53 (.int (nI 0)) L S g := ez_iconst kcX6_canBe dX6_canBe_52 (by decide) rfl L S g
theorem eX6_canBe_53 (L : pmL) (S : List Value) (g : pmH) : pmV mX6_canBe 53 L S g = zIret mX6_canBe S g := ez_ireturn kcX6_canBe dX6_canBe_53 L S g
theorem eX6_canBe_54 (L : pmL) (S : List Value) (g : pmH) : pmV mX6_canBe 54 L S g = zLdA mX6_canBe 55 0 L S g := ez_aload_n kcX6_canBe dX6_canBe_54 rfl rfl L S g
theorem eX6_canBe_55 (L : pmL) (S : List Value) (g : pmH) : pmV mX6_canBe 55 L S g = zGet mX6_canBe 58 6 1 L S g := ez_getfield kcX6_canBe dX6_canBe_55 fl_6_15 rfl L S g
theorem eX6_canBe_58 (L : pmL) (S : List Value) (g : pmH) : pmV mX6_canBe 58 L S g = yV mX6_canBe 61 0 mX10_passHour 10 1 L S g := (ez_virtual kcX6_canBe dX6_canBe_58 ml_6_32 rfl L S g).trans (zCallV_y rfl rfl (by decide) L S g)
theorem eX6_canBe_61 (L : pmL) (S : List Value) (g : pmH) : pmV mX6_canBe 61 L S g = zPop mX6_canBe 62 L S g := ez_pop kcX6_canBe dX6_canBe_61 rfl L S g
theorem eX6_canBe_62 (L : pmL) (S : List Value) (g : pmH) : pmV mX6_canBe 62 L S g = zPush mX6_canBe 63 (.int (nI 1)) L S g := ez_iconst kcX6_canBe dX6_canBe_62 (by decide) rfl L S g
theorem eX6_canBe_63 (L : pmL) (S : List Value) (g : pmH) : pmV mX6_canBe 63 L S g = zIret mX6_canBe S g := ez_ireturn kcX6_canBe dX6_canBe_63 L S g
theorem eX6_canBe_64 (L : pmL) (S : List Value) (g : pmH) : pmV mX6_canBe 64 L S g = zLdA mX6_canBe 65 0 L S g := ez_aload_n kcX6_canBe dX6_canBe_64 rfl rfl L S g
theorem eX6_canBe_65 (L : pmL) (S : List Value) (g : pmH) : pmV mX6_canBe 65 L S g = zGet mX6_canBe 68 6 1 L S g := ez_getfield kcX6_canBe dX6_canBe_65 fl_6_15 rfl L S g
theorem eX6_canBe_68 (L : pmL) (S : List Value) (g : pmH) : pmV mX6_canBe 68 L S g = zLdI mX6_canBe 69 3 L S g := ez_iload_n kcX6_canBe dX6_canBe_68 rfl rfl L S g
theorem eX6_canBe_69 (L : pmL) (S : List Value) (g : pmH) : pmV mX6_canBe 69 L S g = yV mX6_canBe 72 1 mX10_letGo 10 2 L S g := (ez_virtual kcX6_canBe dX6_canBe_69 ml_6_40 rfl L S g).trans (zCallV_y rfl rfl (by decide) L S g)
theorem eX6_canBe_72 (L : pmL) (S : List Value) (g : pmH) : pmV mX6_canBe 72 L S g = zIret mX6_canBe S g := ez_ireturn kcX6_canBe dX6_canBe_72 L S g
theorem eX6_canBe_73 (L : pmL) (S : List Value) (g : pmH) : pmV mX6_canBe 73 L S g = zLdA mX6_canBe 74 0 L S g := ez_aload_n kcX6_canBe dX6_canBe_73 rfl rfl L S g
theorem eX6_canBe_74 (L : pmL) (S : List Value) (g : pmH) : pmV mX6_canBe 74 L S g = zGet mX6_canBe 77 6 1 L S g := ez_getfield kcX6_canBe dX6_canBe_74 fl_6_15 rfl L S g
theorem eX6_canBe_77 (L : pmL) (S : List Value) (g : pmH) : pmV mX6_canBe 77 L S g = zLdI mX6_canBe 78 3 L S g := ez_iload_n kcX6_canBe dX6_canBe_77 rfl rfl L S g
theorem eX6_canBe_78 (L : pmL) (S : List Value) (g : pmH) : pmV mX6_canBe 78 L S g = yV mX6_canBe 81 1 mX10_setFree 10 2 L S g := (ez_virtual kcX6_canBe dX6_canBe_78 ml_6_79 rfl L S g).trans (zCallV_y rfl rfl (by decide) L S g)
theorem eX6_canBe_81 (L : pmL) (S : List Value) (g : pmH) : pmV mX6_canBe 81 L S g = zIret mX6_canBe S g := ez_ireturn kcX6_canBe dX6_canBe_81 L S g
theorem eX6_canBe_82 (L : pmL) (S : List Value) (g : pmH) : pmV mX6_canBe 82 L S g = zLdA mX6_canBe 83 0 L S g := ez_aload_n kcX6_canBe dX6_canBe_82 rfl rfl L S g
theorem eX6_canBe_83 (L : pmL) (S : List Value) (g : pmH) : pmV mX6_canBe 83 L S g = zGet mX6_canBe 86 6 1 L S g := ez_getfield kcX6_canBe dX6_canBe_83 fl_6_15 rfl L S g
theorem eX6_canBe_86 (L : pmL) (S : List Value) (g : pmH) : pmV mX6_canBe 86 L S g = zLdI mX6_canBe 87 2 L S g := ez_iload_n kcX6_canBe dX6_canBe_86 rfl rfl L S g
theorem eX6_canBe_87 (L : pmL) (S : List Value) (g : pmH) : pmV mX6_canBe 87 L S g = zLdI mX6_canBe 88 3 L S g := ez_iload_n kcX6_canBe dX6_canBe_87 rfl rfl L S g
theorem eX6_canBe_88 (L : pmL) (S : List Value) (g : pmH) : pmV mX6_canBe 88 L S g = yV mX6_canBe 91 2 mX10_putRight 10 4 L S g := (ez_virtual kcX6_canBe dX6_canBe_88 ml_6_82 rfl L S g).trans (zCallV_y rfl rfl (by decide) L S g)
theorem eX6_canBe_91 (L : pmL) (S : List Value) (g : pmH) : pmV mX6_canBe 91 L S g = zIret mX6_canBe S g := ez_ireturn kcX6_canBe dX6_canBe_91 L S g
theorem eX6_canBe_92 (L : pmL) (S : List Value) (g : pmH) : pmV mX6_canBe 92 L S g = zLdA mX6_canBe 93 0 L S g := ez_aload_n kcX6_canBe dX6_canBe_92 rfl rfl L S g
theorem eX6_canBe_93 (L : pmL) (S : List Value) (g : pmH) : pmV mX6_canBe 93 L S g = zGet mX6_canBe 96 6 1 L S g := ez_getfield kcX6_canBe dX6_canBe_93 fl_6_15 rfl L S g
theorem eX6_canBe_96 (L : pmL) (S : List Value) (g : pmH) : pmV mX6_canBe 96 L S g = zLdI mX6_canBe 97 3 L S g := ez_iload_n kcX6_canBe dX6_canBe_96 rfl rfl L S g
theorem eX6_canBe_97 (L : pmL) (S : List Value) (g : pmH) : pmV mX6_canBe 97 L S g = yV mX6_canBe 100 1 mX10_isGlad 10 2 L S g := (ez_virtual kcX6_canBe dX6_canBe_97 ml_6_85 rfl L S g).trans (zCallV_y rfl rfl (by decide) L S g)
theorem eX6_canBe_100 (L : pmL) (S : List Value) (g : pmH) : pmV mX6_canBe 100 L S g = zIret mX6_canBe S g := ez_ireturn kcX6_canBe dX6_canBe_100 L S g
theorem eX6_canBe_101 (L : pmL) (S : List Value) (g : pmH) : pmV mX6_canBe 101 L S g = zPush mX6_canBe 102 (.int (nI 0)) L S g := ez_iconst kcX6_canBe dX6_canBe_101 (by decide) rfl L S g
theorem eX6_canBe_102 (L : pmL) (S : List Value) (g : pmH) : pmV mX6_canBe 102 L S g = zIret mX6_canBe S g := ez_ireturn kcX6_canBe dX6_canBe_102 L S g
theorem eX7_init_0 (L : pmL) (S : List Value) (g : pmH) : pmV mX7_init 0 L S g = zLdA mX7_init 1 0 L S g := ez_aload_n kcX7_init dX7_init_0 rfl rfl L S g
theorem eX7_init_1 (L : pmL) (S : List Value) (g : pmH) : pmV mX7_init 1 L S g = zObj mX7_init 4 L S g := ez_objinit kcX7_init dX7_init_1 ol_7_3 rfl L S g
theorem eX7_init_4 (L : pmL) (S : List Value) (g : pmH) : pmV mX7_init 4 L S g = zLdA mX7_init 5 0 L S g := ez_aload_n kcX7_init dX7_init_4 rfl rfl L S g
theorem eX7_init_5 (L : pmL) (S : List Value) (g : pmH) : pmV mX7_init 5 L S g = zLdA mX7_init 6 1 L S g := ez_aload_n kcX7_init dX7_init_5 rfl rfl L S g
theorem eX7_init_6 (L : pmL) (S : List Value) (g : pmH) : pmV mX7_init 6 L S g = zPut mX7_init 9 7 0 L S g := ez_putfield kcX7_init dX7_init_6 fl_7_9 rfl L S g
theorem eX7_init_9 (L : pmL) (S : List Value) (g : pmH) : pmV mX7_init 9 L S g = zVret S g := ez_return kcX7_init dX7_init_9 rfl L S g
theorem eX7_read_0 (L : pmL) (S : List Value) (g : pmH) : pmV mX7_read 0 L S g = zLdA mX7_read 1 0 L S g := ez_aload_n kcX7_read dX7_read_0 rfl rfl L S g
theorem eX7_read_1 (L : pmL) (S : List Value) (g : pmH) : pmV mX7_read 1 L S g = zGet mX7_read 4 7 0 L S g := ez_getfield kcX7_read dX7_read_1 fl_7_9 rfl L S g
theorem eX7_read_4 (L : pmL) (S : List Value) (g : pmH) : pmV mX7_read 4 L S g = yV mX7_read 7 0 mX4_clear 4 1 L S g := (ez_virtual kcX7_read dX7_read_4 ml_7_15 rfl L S g).trans (zCallV_y rfl rfl (by decide) L S g)
theorem eX7_read_7 (L : pmL) (S : List Value) (g : pmH) : pmV mX7_read 7 L S g = zLdA mX7_read 8 0 L S g := ez_aload_n kcX7_read dX7_read_7 rfl rfl L S g
theorem eX7_read_8 (L : pmL) (S : List Value) (g : pmH) : pmV mX7_read 8 L S g = zPush mX7_read 9 (.int (nI 0)) L S g := ez_iconst kcX7_read dX7_read_8 (by decide) rfl L S g
theorem eX7_read_9 (L : pmL) (S : List Value) (g : pmH) : pmV mX7_read 9 L S g = zPut mX7_read 12 7 1 L S g := ez_putfield kcX7_read dX7_read_9 fl_7_20 rfl L S g
theorem eX7_read_12 (L : pmL) (S : List Value) (g : pmH) : pmV mX7_read 12 L S g = zPush mX7_read 13 (.int (nI 0)) L S g := ez_iconst kcX7_read dX7_read_12 (by decide) rfl L S g
theorem eX7_read_13 (L : pmL) (S : List Value) (g : pmH) : pmV mX7_read 13 L S g = zStI mX7_read 14 3 L S g := ez_istore_n kcX7_read dX7_read_13 rfl rfl L S g
theorem eX7_read_14 (L : pmL) (S : List Value) (g : pmH) : pmV mX7_read 14 L S g = zLdI mX7_read 15 3 L S g := ez_iload_n kcX7_read dX7_read_14 rfl rfl L S g
theorem eX7_read_15 (L : pmL) (S : List Value) (g : pmH) : pmV mX7_read 15 L S g = zLdI mX7_read 16 2 L S g := ez_iload_n kcX7_read dX7_read_15 rfl rfl L S g
theorem eX7_read_16 (L : pmL) (S : List Value) (g : pmH) : pmV mX7_read 16 L S g = zBge mX7_read 19 43 L S g := ez_icmp_ge kcX7_read dX7_read_16 (by decide) rfl L S g
theorem eX7_read_19 (L : pmL) (S : List Value) (g : pmH) : pmV mX7_read 19 L S g = zLdI mX7_read 20 3 L S g := ez_iload_n kcX7_read dX7_read_19 rfl rfl L S g
theorem eX7_read_20 (L : pmL) (S : List Value) (g : pmH) : pmV mX7_read 20 L S g = zLdA mX7_read 21 1 L S g := ez_aload_n kcX7_read dX7_read_20 rfl rfl L S g
theorem eX7_read_21 (L : pmL) (S : List Value) (g : pmH) : pmV mX7_read 21 L S g = zLen mX7_read 22 L S g := ez_arraylength kcX7_read dX7_read_21 rfl L S g
theorem eX7_read_22 (L : pmL) (S : List Value) (g : pmH) : pmV mX7_read 22 L S g = zBge mX7_read 25 43 L S g := ez_icmp_ge kcX7_read dX7_read_22 (by decide) rfl L S g
theorem eX7_read_25 (L : pmL) (S : List Value) (g : pmH) : pmV mX7_read 25 L S g = zLdA mX7_read 26 0 L S g := ez_aload_n kcX7_read dX7_read_25 rfl rfl L S g
theorem eX7_read_26 (L : pmL) (S : List Value) (g : pmH) : pmV mX7_read 26 L S g = zLdA mX7_read 27 1 L S g := ez_aload_n kcX7_read dX7_read_26 rfl rfl L S g
theorem eX7_read_27 (L : pmL) (S : List Value) (g : pmH) : pmV mX7_read 27 L S g = zLdI mX7_read 28 3 L S g := ez_iload_n kcX7_read dX7_read_27 rfl rfl L S g
theorem eX7_read_28 (L : pmL) (S : List Value) (g : pmH) : pmV mX7_read 28 L S g = zIald mX7_read 29 L S g := ez_iaload kcX7_read dX7_read_28 rfl L S g
theorem eX7_read_29 (L : pmL) (S : List Value) (g : pmH) : pmV mX7_read 29 L S g = yV mX7_read 32 1 mX7_takes 7 2 L S g := (ez_virtual kcX7_read dX7_read_29 ml_7_24 rfl L S g).trans (zCallV_y rfl rfl (by decide) L S g)
theorem eX7_read_32 (L : pmL) (S : List Value) (g : pmH) : pmV mX7_read 32 L S g = zCne mX7_read 35 37 L S g := ez_if_ne kcX7_read dX7_read_32 (by decide) rfl L S g
theorem eX7_read_35 (L : pmL) (S : List Value) (g : pmH) : pmV mX7_read 35 L S g = zLdI mX7_read 36 3 L S g := ez_iload_n kcX7_read dX7_read_35 rfl rfl L S g
theorem eX7_read_36 (L : pmL) (S : List Value) (g : pmH) : pmV mX7_read 36 L S g = zIret mX7_read S g := ez_ireturn kcX7_read dX7_read_36 L S g
theorem eX7_read_37 (L : pmL) (S : List Value) (g : pmH) : pmV mX7_read 37 L S g = zInc mX7_read 40 3 (nI 1) L S g := ez_iinc kcX7_read dX7_read_37 (by decide) rfl L S g
theorem eX7_read_40 (L : pmL) (S : List Value) (g : pmH) : pmV mX7_read 40 L S g = zNx mX7_read 14 L S g := ez_goto kcX7_read dX7_read_40 (by decide) L S g
theorem eX7_read_43 (L : pmL) (S : List Value) (g : pmH) : pmV mX7_read 43 L S g = zLdA mX7_read 44 0 L S g := ez_aload_n kcX7_read dX7_read_43 rfl rfl L S g
theorem eX7_read_44 (L : pmL) (S : List Value) (g : pmH) : pmV mX7_read 44 L S g = zGet mX7_read 47 7 1 L S g := ez_getfield kcX7_read dX7_read_44 fl_7_20 rfl L S g
theorem eX7_read_47 (L : pmL) (S : List Value) (g : pmH) : pmV mX7_read 47 L S g = zPush mX7_read 48 (.int (nI 1)) L S g := ez_iconst kcX7_read dX7_read_47 (by decide) rfl L S g
theorem eX7_read_48 (L : pmL) (S : List Value) (g : pmH) : pmV mX7_read 48 L S g = zBne mX7_read 51 56 L S g := ez_icmp_ne kcX7_read dX7_read_48 (by decide) rfl L S g
theorem eX7_read_51 (L : pmL) (S : List Value) (g : pmH) : pmV mX7_read 51 L S g = zPush mX7_read 53 (.int (-9)) L S g := ez_bipush kcX7_read dX7_read_51 (by decide) rfl L S g
theorem eX7_read_53 (L : pmL) (S : List Value) (g : pmH) : pmV mX7_read 53 L S g = zNx mX7_read 57 L S g := ez_goto kcX7_read dX7_read_53 (by decide) L S g
theorem eX7_read_56 (L : pmL) (S : List Value) (g : pmH) : pmV mX7_read 56 L S g = zLdI mX7_read 57 2 L S g := ez_iload_n kcX7_read dX7_read_56 rfl rfl L S g
theorem eX7_read_57 (L : pmL) (S : List Value) (g : pmH) : pmV mX7_read 57 L S g = zIret mX7_read S g := ez_ireturn kcX7_read dX7_read_57 L S g
theorem eX7_takes_0 (L : pmL) (S : List Value) (g : pmH) : pmV mX7_takes 0 L S g = zLdA mX7_takes 1 0 L S g := ez_aload_n kcX7_takes dX7_takes_0 rfl rfl L S g
theorem eX7_takes_1 (L : pmL) (S : List Value) (g : pmH) : pmV mX7_takes 1 L S g = zGet mX7_takes 4 7 1 L S g := ez_getfield kcX7_takes dX7_takes_1 fl_7_20 rfl L S g
theorem eX7_takes_4 (L : pmL) (S : List Value) (g : pmH) : pmV mX7_takes 4 L S g = zLook mX7_takes 4 103 #[(0, 44), (1, 61), (66, 76), (87, 67)] L S g := ez_look kcX7_takes dX7_takes_4 L S g
theorem eX7_takes_48 (L : pmL) (S : List Value) (g : pmH) : pmV mX7_takes 48 L S g = zLdA mX7_takes 49 0 L S g := ez_aload_n kcX7_takes dX7_takes_48 rfl rfl L S g
theorem eX7_takes_49 (L : pmL) (S : List Value) (g : pmH) : pmV mX7_takes 49 L S g = zPush mX7_takes 50 (.int (nI 1)) L S g := ez_iconst kcX7_takes dX7_takes_49 (by decide) rfl L S g
theorem eX7_takes_50 (L : pmL) (S : List Value) (g : pmH) : pmV mX7_takes 50 L S g = zPut mX7_takes 53 7 1 L S g := ez_putfield kcX7_takes dX7_takes_50 fl_7_20 rfl L S g
theorem eX7_takes_53 (L : pmL) (S : List Value) (g : pmH) : pmV mX7_takes 53 L S g = zLdI mX7_takes 54 1 L S g := ez_iload_n kcX7_takes dX7_takes_53 rfl rfl L S g
theorem eX7_takes_54 (L : pmL) (S : List Value) (g : pmH) : pmV mX7_takes 54 L S g = zPush mX7_takes 56 (.int (nI 67)) L S g := ez_bipush kcX7_takes dX7_takes_54 (by decide) rfl L S g
theorem eX7_takes_56 (L : pmL) (S : List Value) (g : pmH) : pmV mX7_takes 56 L S g = zBne mX7_takes 59 63 L S g := ez_icmp_ne kcX7_takes dX7_takes_56 (by decide) rfl L S g
theorem eX7_takes_59 (L : pmL) (S : List Value) (g : pmH) : pmV mX7_takes 59 L S g = zPush mX7_takes 60 (.int (nI 1)) L S g := ez_iconst kcX7_takes dX7_takes_59 (by decide) rfl L S g
theorem eX7_takes_60 (L : pmL) (S : List Value) (g : pmH) : pmV mX7_takes 60 L S g = zNx mX7_takes 64 L S g := ez_goto kcX7_takes dX7_takes_60 (by decide) L S g
theorem eX7_takes_63 (L : pmL) (S : List Value) (g : pmH) : pmV mX7_takes 63 L S g = zPush mX7_takes 64 (.int (nI 0)) L S g := ez_iconst kcX7_takes dX7_takes_63 (by decide) rfl L S g
theorem eX7_takes_64 (L : pmL) (S : List Value) (g : pmH) : pmV mX7_takes 64 L S g = zIret mX7_takes S g := ez_ireturn kcX7_takes dX7_takes_64 L S g
theorem eX7_takes_65 (L : pmL) (S : List Value) (g : pmH) : pmV mX7_takes 65 L S g = zLdA mX7_takes 66 0 L S g := ez_aload_n kcX7_takes dX7_takes_65 rfl rfl L S g
theorem eX7_takes_66 (L : pmL) (S : List Value) (g : pmH) : pmV mX7_takes 66 L S g = zLdI mX7_takes 67 1 L S g := ez_iload_n kcX7_takes dX7_takes_66 rfl rfl L S g
theorem eX7_takes_67 (L : pmL) (S : List Value) (g : pmH) : pmV mX7_takes 67 L S g = yV mX7_takes 70 1 mX7_opensPart 7 2 L S g := (ez_virtual kcX7_takes dX7_takes_67 ml_7_28 rfl L S g).trans (zCallV_y rfl rfl (by decide) L S g)
theorem eX7_takes_70 (L : pmL) (S : List Value) (g : pmH) : pmV mX7_takes 70 L S g = zIret mX7_takes S g := ez_ireturn kcX7_takes dX7_takes_70 L S g
theorem eX7_takes_71 (L : pmL) (S : List Value) (g : pmH) : pmV mX7_takes 71 L S g = zLdA mX7_takes 72 0 L S g := ez_aload_n kcX7_takes dX7_takes_71 rfl rfl L S g
theorem eX7_takes_72 (L : pmL) (S : List Value) (g : pmH) : pmV mX7_takes 72 L S g = zLdI mX7_takes 73 1 L S g := ez_iload_n kcX7_takes dX7_takes_72 rfl rfl L S g
theorem eX7_takes_73 (L : pmL) (S : List Value) (g : pmH) : pmV mX7_takes 73 L S g = zPush mX7_takes 75 (.int (nI 48)) L S g := ez_bipush kcX7_takes dX7_takes_73 (by decide) rfl L S g
theorem eX7_takes_75 (L : pmL) (S : List Value) (g : pmH) : pmV mX7_takes 75 L S g = zSub mX7_takes 76 L S g := ez_isub kcX7_takes dX7_takes_75 rfl L S g
theorem eX7_takes_76 (L : pmL) (S : List Value) (g : pmH) : pmV mX7_takes 76 L S g = yV mX7_takes 79 1 mX7_takesWind 7 2 L S g := (ez_virtual kcX7_takes dX7_takes_76 ml_7_31 rfl L S g).trans (zCallV_y rfl rfl (by decide) L S g)
theorem eX7_takes_79 (L : pmL) (S : List Value) (g : pmH) : pmV mX7_takes 79 L S g = zIret mX7_takes S g := ez_ireturn kcX7_takes dX7_takes_79 L S g
theorem eX7_takes_80 (L : pmL) (S : List Value) (g : pmH) : pmV mX7_takes 80 L S g = zLdA mX7_takes 81 0 L S g := ez_aload_n kcX7_takes dX7_takes_80 rfl rfl L S g
theorem eX7_takes_81 (L : pmL) (S : List Value) (g : pmH) : pmV mX7_takes 81 L S g = zGet mX7_takes 84 7 2 L S g := ez_getfield kcX7_takes dX7_takes_81 fl_7_34 rfl L S g
theorem eX7_takes_84 (L : pmL) (S : List Value) (g : pmH) : pmV mX7_takes 84 L S g = zCne mX7_takes 87 98 L S g := ez_if_ne kcX7_takes dX7_takes_84 (by decide) rfl L S g
theorem eX7_takes_87 (L : pmL) (S : List Value) (g : pmH) : pmV mX7_takes 87 L S g = zLdA mX7_takes 88 0 L S g := ez_aload_n kcX7_takes dX7_takes_87 rfl rfl L S g
theorem eX7_takes_88 (L : pmL) (S : List Value) (g : pmH) : pmV mX7_takes 88 L S g = zLdI mX7_takes 89 1 L S g := ez_iload_n kcX7_takes dX7_takes_88 rfl rfl L S g
theorem eX7_takes_89 (L : pmL) (S : List Value) (g : pmH) : pmV mX7_takes 89 L S g = zPush mX7_takes 91 (.int (nI 97)) L S g := ez_bipush kcX7_takes dX7_takes_89 (by decide) rfl L S g
theorem eX7_takes_91 (L : pmL) (S : List Value) (g : pmH) : pmV mX7_takes 91 L S g = zSub mX7_takes 92 L S g := ez_isub kcX7_takes dX7_takes_91 rfl L S g
theorem eX7_takes_92 (L : pmL) (S : List Value) (g : pmH) : pmV mX7_takes 92 L S g = yV mX7_takes 95 1 mX7_takesStart 7 2 L S g := (ez_virtual kcX7_takes dX7_takes_92 ml_7_37 rfl L S g).trans (zCallV_y rfl rfl (by decide) L S g)
theorem eX7_takes_95 (L : pmL) (S : List Value) (g : pmH) : pmV mX7_takes 95 L S g = zNx mX7_takes 106 L S g := ez_goto kcX7_takes dX7_takes_95 (by decide) L S g
theorem eX7_takes_98 (L : pmL) (S : List Value) (g : pmH) : pmV mX7_takes 98 L S g = zLdA mX7_takes 99 0 L S g := ez_aload_n kcX7_takes dX7_takes_98 rfl rfl L S g
theorem eX7_takes_99 (L : pmL) (S : List Value) (g : pmH) : pmV mX7_takes 99 L S g = zLdI mX7_takes 100 1 L S g := ez_iload_n kcX7_takes dX7_takes_99 rfl rfl L S g
theorem eX7_takes_100 (L : pmL) (S : List Value) (g : pmH) : pmV mX7_takes 100 L S g = zPush mX7_takes 102 (.int (nI 48)) L S g := ez_bipush kcX7_takes dX7_takes_100 (by decide) rfl L S g
theorem eX7_takes_102 (L : pmL) (S : List Value) (g : pmH) : pmV mX7_takes 102 L S g = zSub mX7_takes 103 L S g := ez_isub kcX7_takes dX7_takes_102 rfl L S g
theorem eX7_takes_103 (L : pmL) (S : List Value) (g : pmH) : pmV mX7_takes 103 L S g = yV mX7_takes 106 1 mX7_takesOfBalloon 7 2 L S g := (ez_virtual kcX7_takes dX7_takes_103 ml_7_40 rfl L S g).trans (zCallV_y rfl rfl (by decide) L S g)
theorem eX7_takes_106 (L : pmL) (S : List Value) (g : pmH) : pmV mX7_takes 106 L S g = zIret mX7_takes S g := ez_ireturn kcX7_takes dX7_takes_106 L S g
theorem eX7_takes_107 (L : pmL) (S : List Value) (g : pmH) : pmV mX7_takes 107 L S g = zLdA mX7_takes 108 0 L S g := ez_aload_n kcX7_takes dX7_takes_107 rfl rfl L S g
theorem eX7_takes_108 (L : pmL) (S : List Value) (g : pmH) : pmV mX7_takes 108 L S g = zGet mX7_takes 111 7 2 L S g := ez_getfield kcX7_takes dX7_takes_108 fl_7_34 rfl L S g
theorem eX7_takes_111 (L : pmL) (S : List Value) (g : pmH) : pmV mX7_takes 111 L S g = zCne mX7_takes 114 125 L S g := ez_if_ne kcX7_takes dX7_takes_111 (by decide) rfl L S g
theorem eX7_takes_114 (L : pmL) (S : List Value) (g : pmH) : pmV mX7_takes 114 L S g = zLdA mX7_takes 115 0 L S g := ez_aload_n kcX7_takes dX7_takes_114 rfl rfl L S g
theorem eX7_takes_115 (L : pmL) (S : List Value) (g : pmH) : pmV mX7_takes 115 L S g = zLdI mX7_takes 116 1 L S g := ez_iload_n kcX7_takes dX7_takes_115 rfl rfl L S g
theorem eX7_takes_116 (L : pmL) (S : List Value) (g : pmH) : pmV mX7_takes 116 L S g = zPush mX7_takes 118 (.int (nI 97)) L S g := ez_bipush kcX7_takes dX7_takes_116 (by decide) rfl L S g
theorem eX7_takes_118 (L : pmL) (S : List Value) (g : pmH) : pmV mX7_takes 118 L S g = zSub mX7_takes 119 L S g := ez_isub kcX7_takes dX7_takes_118 rfl L S g
theorem eX7_takes_119 (L : pmL) (S : List Value) (g : pmH) : pmV mX7_takes 119 L S g = yV mX7_takes 122 1 mX7_takesHedgeCell 7 2 L S g := (ez_virtual kcX7_takes dX7_takes_119 ml_7_43 rfl L S g).trans (zCallV_y rfl rfl (by decide) L S g)
theorem eX7_takes_122 (L : pmL) (S : List Value) (g : pmH) : pmV mX7_takes 122 L S g = zNx mX7_takes 133 L S g := ez_goto kcX7_takes dX7_takes_122 (by decide) L S g
theorem eX7_takes_125 (L : pmL) (S : List Value) (g : pmH) : pmV mX7_takes 125 L S g = zLdA mX7_takes 126 0 L S g := ez_aload_n kcX7_takes dX7_takes_125 rfl rfl L S g
theorem eX7_takes_126 (L : pmL) (S : List Value) (g : pmH) : pmV mX7_takes 126 L S g = zLdI mX7_takes 127 1 L S g := ez_iload_n kcX7_takes dX7_takes_126 rfl rfl L S g
theorem eX7_takes_127 (L : pmL) (S : List Value) (g : pmH) : pmV mX7_takes 127 L S g = zPush mX7_takes 129 (.int (nI 48)) L S g := ez_bipush kcX7_takes dX7_takes_127 (by decide) rfl L S g
theorem eX7_takes_129 (L : pmL) (S : List Value) (g : pmH) : pmV mX7_takes 129 L S g = zSub mX7_takes 130 L S g := ez_isub kcX7_takes dX7_takes_129 rfl L S g
theorem eX7_takes_130 (L : pmL) (S : List Value) (g : pmH) : pmV mX7_takes 130 L S g = yV mX7_takes 133 1 mX7_takesOfHedge 7 2 L S g := (ez_virtual kcX7_takes dX7_takes_130 ml_7_46 rfl L S g).trans (zCallV_y rfl rfl (by decide) L S g)
theorem eX7_takes_133 (L : pmL) (S : List Value) (g : pmH) : pmV mX7_takes 133 L S g = zIret mX7_takes S g := ez_ireturn kcX7_takes dX7_takes_133 L S g
theorem eX7_opensPart_0 (L : pmL) (S : List Value) (g : pmH) : pmV mX7_opensPart 0 L S g = zLdA mX7_opensPart 1 0 L S g := ez_aload_n kcX7_opensPart dX7_opensPart_0 rfl rfl L S g
theorem eX7_opensPart_1 (L : pmL) (S : List Value) (g : pmH) : pmV mX7_opensPart 1 L S g = zLdI mX7_opensPart 2 1 L S g := ez_iload_n kcX7_opensPart dX7_opensPart_1 rfl rfl L S g
theorem eX7_opensPart_2 (L : pmL) (S : List Value) (g : pmH) : pmV mX7_opensPart 2 L S g = zPut mX7_opensPart 5 7 1 L S g := ez_putfield kcX7_opensPart dX7_opensPart_2 fl_7_20 rfl L S g
theorem eX7_opensPart_5 (L : pmL) (S : List Value) (g : pmH) : pmV mX7_opensPart 5 L S g = zLdA mX7_opensPart 6 0 L S g := ez_aload_n kcX7_opensPart dX7_opensPart_5 rfl rfl L S g
theorem eX7_opensPart_6 (L : pmL) (S : List Value) (g : pmH) : pmV mX7_opensPart 6 L S g = zPush mX7_opensPart 7 (.int (nI 0)) L S g := ez_iconst kcX7_opensPart dX7_opensPart_6 (by decide) rfl L S g
theorem eX7_opensPart_7 (L : pmL) (S : List Value) (g : pmH) : pmV mX7_opensPart 7 L S g = zPut mX7_opensPart 10 7 2 L S g := ez_putfield kcX7_opensPart dX7_opensPart_7 fl_7_34 rfl L S g
theorem eX7_opensPart_10 (L : pmL) (S : List Value) (g : pmH) : pmV mX7_opensPart 10 L S g = zLdI mX7_opensPart 11 1 L S g := ez_iload_n kcX7_opensPart dX7_opensPart_10 rfl rfl L S g
theorem eX7_opensPart_11 (L : pmL) (S : List Value) (g : pmH) : pmV mX7_opensPart 11 L S g = zLook mX7_opensPart 11 84 #[(66, 50), (72, 67), (87, 33)] L S g := ez_look kcX7_opensPart dX7_opensPart_11 L S g
theorem eX7_opensPart_44 (L : pmL) (S : List Value) (g : pmH) : pmV mX7_opensPart 44 L S g = zLdA mX7_opensPart 45 0 L S g := ez_aload_n kcX7_opensPart dX7_opensPart_44 rfl rfl L S g
theorem eX7_opensPart_45 (L : pmL) (S : List Value) (g : pmH) : pmV mX7_opensPart 45 L S g = zGet mX7_opensPart 48 7 0 L S g := ez_getfield kcX7_opensPart dX7_opensPart_45 fl_7_9 rfl L S g
theorem eX7_opensPart_48 (L : pmL) (S : List Value) (g : pmH) : pmV mX7_opensPart 48 L S g = zGet mX7_opensPart 51 4 7 L S g := ez_getfield kcX7_opensPart dX7_opensPart_48 fl_7_49 rfl L S g
theorem eX7_opensPart_51 (L : pmL) (S : List Value) (g : pmH) : pmV mX7_opensPart 51 L S g = zPush mX7_opensPart 52 (.int (nI 4)) L S g := ez_iconst kcX7_opensPart dX7_opensPart_51 (by decide) rfl L S g
theorem eX7_opensPart_52 (L : pmL) (S : List Value) (g : pmH) : pmV mX7_opensPart 52 L S g = zBge mX7_opensPart 55 59 L S g := ez_icmp_ge kcX7_opensPart dX7_opensPart_52 (by decide) rfl L S g
theorem eX7_opensPart_55 (L : pmL) (S : List Value) (g : pmH) : pmV mX7_opensPart 55 L S g = zPush mX7_opensPart 56 (.int (nI 1)) L S g := ez_iconst kcX7_opensPart dX7_opensPart_55 (by decide) rfl L S g
theorem eX7_opensPart_56 (L : pmL) (S : List Value) (g : pmH) : pmV mX7_opensPart 56 L S g = zNx mX7_opensPart 60 L S g := ez_goto kcX7_opensPart dX7_opensPart_56 (by decide) L S g
theorem eX7_opensPart_59 (L : pmL) (S : List Value) (g : pmH) : pmV mX7_opensPart 59 L S g = zPush mX7_opensPart 60 (.int (nI 0)) L S g := ez_iconst kcX7_opensPart dX7_opensPart_59 (by decide) rfl L S g
theorem eX7_opensPart_60 (L : pmL) (S : List Value) (g : pmH) : pmV mX7_opensPart 60 L S g = zIret mX7_opensPart S g := ez_ireturn kcX7_opensPart dX7_opensPart_60 L S g
theorem eX7_opensPart_61 (L : pmL) (S : List Value) (g : pmH) : pmV mX7_opensPart 61 L S g = zLdA mX7_opensPart 62 0 L S g := ez_aload_n kcX7_opensPart dX7_opensPart_61 rfl rfl L S g
theorem eX7_opensPart_62 (L : pmL) (S : List Value) (g : pmH) : pmV mX7_opensPart 62 L S g = zGet mX7_opensPart 65 7 0 L S g := ez_getfield kcX7_opensPart dX7_opensPart_62 fl_7_9 rfl L S g
theorem eX7_opensPart_65 (L : pmL) (S : List Value) (g : pmH) : pmV mX7_opensPart 65 L S g = zGet mX7_opensPart 68 4 8 L S g := ez_getfield kcX7_opensPart dX7_opensPart_65 fl_7_52 rfl L S g
theorem eX7_opensPart_68 (L : pmL) (S : List Value) (g : pmH) : pmV mX7_opensPart 68 L S g = zPush mX7_opensPart 69 (.int (nI 5)) L S g := ez_iconst kcX7_opensPart dX7_opensPart_68 (by decide) rfl L S g
theorem eX7_opensPart_69 (L : pmL) (S : List Value) (g : pmH) : pmV mX7_opensPart 69 L S g = zBge mX7_opensPart 72 76 L S g := ez_icmp_ge kcX7_opensPart dX7_opensPart_69 (by decide) rfl L S g
theorem eX7_opensPart_72 (L : pmL) (S : List Value) (g : pmH) : pmV mX7_opensPart 72 L S g = zPush mX7_opensPart 73 (.int (nI 1)) L S g := ez_iconst kcX7_opensPart dX7_opensPart_72 (by decide) rfl L S g
theorem eX7_opensPart_73 (L : pmL) (S : List Value) (g : pmH) : pmV mX7_opensPart 73 L S g = zNx mX7_opensPart 77 L S g := ez_goto kcX7_opensPart dX7_opensPart_73 (by decide) L S g
theorem eX7_opensPart_76 (L : pmL) (S : List Value) (g : pmH) : pmV mX7_opensPart 76 L S g = zPush mX7_opensPart 77 (.int (nI 0)) L S g := ez_iconst kcX7_opensPart dX7_opensPart_76 (by decide) rfl L S g
theorem eX7_opensPart_77 (L : pmL) (S : List Value) (g : pmH) : pmV mX7_opensPart 77 L S g = zIret mX7_opensPart S g := ez_ireturn kcX7_opensPart dX7_opensPart_77 L S g
theorem eX7_opensPart_78 (L : pmL) (S : List Value) (g : pmH) : pmV mX7_opensPart 78 L S g = zLdA mX7_opensPart 79 0 L S g := ez_aload_n kcX7_opensPart dX7_opensPart_78 rfl rfl L S g
theorem eX7_opensPart_79 (L : pmL) (S : List Value) (g : pmH) : pmV mX7_opensPart 79 L S g = zGet mX7_opensPart 82 7 0 L S g := ez_getfield kcX7_opensPart dX7_opensPart_79 fl_7_9 rfl L S g
theorem eX7_opensPart_82 (L : pmL) (S : List Value) (g : pmH) : pmV mX7_opensPart 82 L S g = zGet mX7_opensPart 85 4 9 L S g := ez_getfield kcX7_opensPart dX7_opensPart_82 fl_7_55 rfl L S g
theorem eX7_opensPart_85 (L : pmL) (S : List Value) (g : pmH) : pmV mX7_opensPart 85 L S g = zPush mX7_opensPart 86 (.int (nI 4)) L S g := ez_iconst kcX7_opensPart dX7_opensPart_85 (by decide) rfl L S g
theorem eX7_opensPart_86 (L : pmL) (S : List Value) (g : pmH) : pmV mX7_opensPart 86 L S g = zBge mX7_opensPart 89 93 L S g := ez_icmp_ge kcX7_opensPart dX7_opensPart_86 (by decide) rfl L S g
theorem eX7_opensPart_89 (L : pmL) (S : List Value) (g : pmH) : pmV mX7_opensPart 89 L S g = zPush mX7_opensPart 90 (.int (nI 1)) L S g := ez_iconst kcX7_opensPart dX7_opensPart_89 (by decide) rfl L S g
theorem eX7_opensPart_90 (L : pmL) (S : List Value) (g : pmH) : pmV mX7_opensPart 90 L S g = zNx mX7_opensPart 94 L S g := ez_goto kcX7_opensPart dX7_opensPart_90 (by decide) L S g
theorem eX7_opensPart_93 (L : pmL) (S : List Value) (g : pmH) : pmV mX7_opensPart 93 L S g = zPush mX7_opensPart 94 (.int (nI 0)) L S g := ez_iconst kcX7_opensPart dX7_opensPart_93 (by decide) rfl L S g
theorem eX7_opensPart_94 (L : pmL) (S : List Value) (g : pmH) : pmV mX7_opensPart 94 L S g = zIret mX7_opensPart S g := ez_ireturn kcX7_opensPart dX7_opensPart_94 L S g
theorem eX7_opensPart_95 (L : pmL) (S : List Value) (g : pmH) : pmV mX7_opensPart 95 L S g = zPush mX7_opensPart 96 (.int (nI 0)) L S g := ez_iconst kcX7_opensPart dX7_opensPart_95 (by decide) rfl L S g
theorem eX7_opensPart_96 (L : pmL) (S : List Value) (g : pmH) : pmV mX7_opensPart 96 L S g = zIret mX7_opensPart S g := ez_ireturn kcX7_opensPart dX7_opensPart_96 L S g
theorem eX7_takesWind_0 (L : pmL) (S : List Value) (g : pmH) : pmV mX7_takesWind 0 L S g = zLdI mX7_takesWind 1 1 L S g := ez_iload_n kcX7_takesWind dX7_takesWind_0 rfl rfl L S g
theorem eX7_takesWind_1 (L : pmL) (S : List Value) (g : pmH) : pmV mX7_takesWind 1 L S g = zClt mX7_takesWind 4 20 L S g := ez_if_lt kcX7_takesWind dX7_takesWind_1 (by decide) rfl L S g
theorem eX7_takesWind_4 (L : pmL) (S : List Value) (g : pmH) : pmV mX7_takesWind 4 L S g = zLdI mX7_takesWind 5 1 L S g := ez_iload_n kcX7_takesWind dX7_takesWind_4 rfl rfl L S g
theorem eX7_takesWind_5 (L : pmL) (S : List Value) (g : pmH) : pmV mX7_takesWind 5 L S g = zPush mX7_takesWind 6 (.int (nI 4)) L S g := ez_iconst kcX7_takesWind dX7_takesWind_5 (by decide) rfl L S g
theorem eX7_takesWind_6 (L : pmL) (S : List Value) (g : pmH) : pmV mX7_takesWind 6 L S g = zBgt mX7_takesWind 9 20 L S g := ez_icmp_gt kcX7_takesWind dX7_takesWind_6 (by decide) rfl L S g
theorem eX7_takesWind_9 (L : pmL) (S : List Value) (g : pmH) : pmV mX7_takesWind 9 L S g = zLdA mX7_takesWind 10 0 L S g := ez_aload_n kcX7_takesWind dX7_takesWind_9 rfl rfl L S g
theorem eX7_takesWind_10 (L : pmL) (S : List Value) (g : pmH) : pmV mX7_takesWind 10 L S g = zGet mX7_takesWind 13 7 0 L S g := ez_getfield kcX7_takesWind dX7_takesWind_10 fl_7_9 rfl L S g
theorem eX7_takesWind_13 (L : pmL) (S : List Value) (g : pmH) : pmV mX7_takesWind 13 L S g = zGet mX7_takesWind 16 4 7 L S g := ez_getfield kcX7_takesWind dX7_takesWind_13 fl_7_49 rfl L S g
theorem eX7_takesWind_16 (L : pmL) (S : List Value) (g : pmH) : pmV mX7_takesWind 16 L S g = zPush mX7_takesWind 17 (.int (nI 4)) L S g := ez_iconst kcX7_takesWind dX7_takesWind_16 (by decide) rfl L S g
theorem eX7_takesWind_17 (L : pmL) (S : List Value) (g : pmH) : pmV mX7_takesWind 17 L S g = zBlt mX7_takesWind 20 22 L S g := ez_icmp_lt kcX7_takesWind dX7_takesWind_17 (by decide) rfl L S g
theorem eX7_takesWind_20 (L : pmL) (S : List Value) (g : pmH) : pmV mX7_takesWind 20 L S g = zPush mX7_takesWind 21 (.int (nI 0)) L S g := ez_iconst kcX7_takesWind dX7_takesWind_20 (by decide) rfl L S g
theorem eX7_takesWind_21 (L : pmL) (S : List Value) (g : pmH) : pmV mX7_takesWind 21 L S g = zIret mX7_takesWind S g := ez_ireturn kcX7_takesWind dX7_takesWind_21 L S g
theorem eX7_takesWind_22 (L : pmL) (S : List Value) (g : pmH) : pmV mX7_takesWind 22 L S g = zLdA mX7_takesWind 23 0 L S g := ez_aload_n kcX7_takesWind dX7_takesWind_22 rfl rfl L S g
theorem eX7_takesWind_23 (L : pmL) (S : List Value) (g : pmH) : pmV mX7_takesWind 23 L S g = zGet mX7_takesWind 26 7 0 L S g := ez_getfield kcX7_takesWind dX7_takesWind_23 fl_7_9 rfl L S g
theorem eX7_takesWind_26 (L : pmL) (S : List Value) (g : pmH) : pmV mX7_takesWind 26 L S g = zGet mX7_takesWind 29 4 0 L S g := ez_getfield kcX7_takesWind dX7_takesWind_26 fl_7_58 rfl L S g
theorem eX7_takesWind_29 (L : pmL) (S : List Value) (g : pmH) : pmV mX7_takesWind 29 L S g = zLdA mX7_takesWind 30 0 L S g := ez_aload_n kcX7_takesWind dX7_takesWind_29 rfl rfl L S g
theorem eX7_takesWind_30 (L : pmL) (S : List Value) (g : pmH) : pmV mX7_takesWind 30 L S g = zGet mX7_takesWind 33 7 0 L S g := ez_getfield kcX7_takesWind dX7_takesWind_30 fl_7_9 rfl L S g
theorem eX7_takesWind_33 (L : pmL) (S : List Value) (g : pmH) : pmV mX7_takesWind 33 L S g = zGet mX7_takesWind 36 4 7 L S g := ez_getfield kcX7_takesWind dX7_takesWind_33 fl_7_49 rfl L S g
theorem eX7_takesWind_36 (L : pmL) (S : List Value) (g : pmH) : pmV mX7_takesWind 36 L S g = zLdI mX7_takesWind 37 1 L S g := ez_iload_n kcX7_takesWind dX7_takesWind_36 rfl rfl L S g
theorem eX7_takesWind_37 (L : pmL) (S : List Value) (g : pmH) : pmV mX7_takesWind 37 L S g = zIast mX7_takesWind 38 L S g := ez_iastore kcX7_takesWind dX7_takesWind_37 rfl L S g
theorem eX7_takesWind_38 (L : pmL) (S : List Value) (g : pmH) : pmV mX7_takesWind 38 L S g = zLdA mX7_takesWind 39 0 L S g := ez_aload_n kcX7_takesWind dX7_takesWind_38 rfl rfl L S g
theorem eX7_takesWind_39 (L : pmL) (S : List Value) (g : pmH) : pmV mX7_takesWind 39 L S g = zGet mX7_takesWind 42 7 0 L S g := ez_getfield kcX7_takesWind dX7_takesWind_39 fl_7_9 rfl L S g
theorem eX7_takesWind_42 (L : pmL) (S : List Value) (g : pmH) : pmV mX7_takesWind 42 L S g = zDup mX7_takesWind 43 L S g := ez_dup kcX7_takesWind dX7_takesWind_42 rfl L S g
theorem eX7_takesWind_43 (L : pmL) (S : List Value) (g : pmH) : pmV mX7_takesWind 43 L S g = zGet mX7_takesWind 46 4 7 L S g := ez_getfield kcX7_takesWind dX7_takesWind_43 fl_7_49 rfl L S g
theorem eX7_takesWind_46 (L : pmL) (S : List Value) (g : pmH) : pmV mX7_takesWind 46 L S g = zPush mX7_takesWind 47 (.int (nI 1)) L S g := ez_iconst kcX7_takesWind dX7_takesWind_46 (by decide) rfl L S g
theorem eX7_takesWind_47 (L : pmL) (S : List Value) (g : pmH) : pmV mX7_takesWind 47 L S g = zAdd mX7_takesWind 48 L S g := ez_iadd kcX7_takesWind dX7_takesWind_47 rfl L S g
theorem eX7_takesWind_48 (L : pmL) (S : List Value) (g : pmH) : pmV mX7_takesWind 48 L S g = zPut mX7_takesWind 51 4 7 L S g := ez_putfield kcX7_takesWind dX7_takesWind_48 fl_7_49 rfl L S g
theorem eX7_takesWind_51 (L : pmL) (S : List Value) (g : pmH) : pmV mX7_takesWind 51 L S g = zLdA mX7_takesWind 52 0 L S g := ez_aload_n kcX7_takesWind dX7_takesWind_51 rfl rfl L S g
theorem eX7_takesWind_52 (L : pmL) (S : List Value) (g : pmH) : pmV mX7_takesWind 52 L S g = zPush mX7_takesWind 53 (.int (nI 1)) L S g := ez_iconst kcX7_takesWind dX7_takesWind_52 (by decide) rfl L S g
theorem eX7_takesWind_53 (L : pmL) (S : List Value) (g : pmH) : pmV mX7_takesWind 53 L S g = zPut mX7_takesWind 56 7 1 L S g := ez_putfield kcX7_takesWind dX7_takesWind_53 fl_7_20 rfl L S g
theorem eX7_takesWind_56 (L : pmL) (S : List Value) (g : pmH) : pmV mX7_takesWind 56 L S g = zPush mX7_takesWind 57 (.int (nI 1)) L S g := ez_iconst kcX7_takesWind dX7_takesWind_56 (by decide) rfl L S g
theorem eX7_takesWind_57 (L : pmL) (S : List Value) (g : pmH) : pmV mX7_takesWind 57 L S g = zIret mX7_takesWind S g := ez_ireturn kcX7_takesWind dX7_takesWind_57 L S g
theorem eX7_takesStart_0 (L : pmL) (S : List Value) (g : pmH) : pmV mX7_takesStart 0 L S g = zLdI mX7_takesStart 1 1 L S g := ez_iload_n kcX7_takesStart dX7_takesStart_0 rfl rfl L S g
theorem eX7_takesStart_1 (L : pmL) (S : List Value) (g : pmH) : pmV mX7_takesStart 1 L S g = zClt mX7_takesStart 4 21 L S g := ez_if_lt kcX7_takesStart dX7_takesStart_1 (by decide) rfl L S g
theorem eX7_takesStart_4 (L : pmL) (S : List Value) (g : pmH) : pmV mX7_takesStart 4 L S g = zLdI mX7_takesStart 5 1 L S g := ez_iload_n kcX7_takesStart dX7_takesStart_4 rfl rfl L S g
theorem eX7_takesStart_5 (L : pmL) (S : List Value) (g : pmH) : pmV mX7_takesStart 5 L S g = zPush mX7_takesStart 7 (.int (nI 20)) L S g := ez_bipush kcX7_takesStart dX7_takesStart_5 (by decide) rfl L S g
theorem eX7_takesStart_7 (L : pmL) (S : List Value) (g : pmH) : pmV mX7_takesStart 7 L S g = zBge mX7_takesStart 10 21 L S g := ez_icmp_ge kcX7_takesStart dX7_takesStart_7 (by decide) rfl L S g
theorem eX7_takesStart_10 (L : pmL) (S : List Value) (g : pmH) : pmV mX7_takesStart 10 L S g = zLdA mX7_takesStart 11 0 L S g := ez_aload_n kcX7_takesStart dX7_takesStart_10 rfl rfl L S g
theorem eX7_takesStart_11 (L : pmL) (S : List Value) (g : pmH) : pmV mX7_takesStart 11 L S g = zGet mX7_takesStart 14 7 0 L S g := ez_getfield kcX7_takesStart dX7_takesStart_11 fl_7_9 rfl L S g
theorem eX7_takesStart_14 (L : pmL) (S : List Value) (g : pmH) : pmV mX7_takesStart 14 L S g = zGet mX7_takesStart 17 4 8 L S g := ez_getfield kcX7_takesStart dX7_takesStart_14 fl_7_52 rfl L S g
theorem eX7_takesStart_17 (L : pmL) (S : List Value) (g : pmH) : pmV mX7_takesStart 17 L S g = zPush mX7_takesStart 18 (.int (nI 5)) L S g := ez_iconst kcX7_takesStart dX7_takesStart_17 (by decide) rfl L S g
theorem eX7_takesStart_18 (L : pmL) (S : List Value) (g : pmH) : pmV mX7_takesStart 18 L S g = zBlt mX7_takesStart 21 23 L S g := ez_icmp_lt kcX7_takesStart dX7_takesStart_18 (by decide) rfl L S g
theorem eX7_takesStart_21 (L : pmL) (S : List Value) (g : pmH) : pmV mX7_takesStart 21 L S g = zPush mX7_takesStart 22 (.int (nI 0)) L S g := ez_iconst kcX7_takesStart dX7_takesStart_21 (by decide) rfl L S g
theorem eX7_takesStart_22 (L : pmL) (S : List Value) (g : pmH) : pmV mX7_takesStart 22 L S g = zIret mX7_takesStart S g := ez_ireturn kcX7_takesStart dX7_takesStart_22 L S g
theorem eX7_takesStart_23 (L : pmL) (S : List Value) (g : pmH) : pmV mX7_takesStart 23 L S g = zLdA mX7_takesStart 24 0 L S g := ez_aload_n kcX7_takesStart dX7_takesStart_23 rfl rfl L S g
theorem eX7_takesStart_24 (L : pmL) (S : List Value) (g : pmH) : pmV mX7_takesStart 24 L S g = zGet mX7_takesStart 27 7 0 L S g := ez_getfield kcX7_takesStart dX7_takesStart_24 fl_7_9 rfl L S g
theorem eX7_takesStart_27 (L : pmL) (S : List Value) (g : pmH) : pmV mX7_takesStart 27 L S g = zGet mX7_takesStart 30 4 1 L S g := ez_getfield kcX7_takesStart dX7_takesStart_27 fl_7_62 rfl L S g
theorem eX7_takesStart_30 (L : pmL) (S : List Value) (g : pmH) : pmV mX7_takesStart 30 L S g = zLdA mX7_takesStart 31 0 L S g := ez_aload_n kcX7_takesStart dX7_takesStart_30 rfl rfl L S g
theorem eX7_takesStart_31 (L : pmL) (S : List Value) (g : pmH) : pmV mX7_takesStart 31 L S g = zGet mX7_takesStart 34 7 0 L S g := ez_getfield kcX7_takesStart dX7_takesStart_31 fl_7_9 rfl L S g
theorem eX7_takesStart_34 (L : pmL) (S : List Value) (g : pmH) : pmV mX7_takesStart 34 L S g = zGet mX7_takesStart 37 4 8 L S g := ez_getfield kcX7_takesStart dX7_takesStart_34 fl_7_52 rfl L S g
theorem eX7_takesStart_37 (L : pmL) (S : List Value) (g : pmH) : pmV mX7_takesStart 37 L S g = zLdI mX7_takesStart 38 1 L S g := ez_iload_n kcX7_takesStart dX7_takesStart_37 rfl rfl L S g
theorem eX7_takesStart_38 (L : pmL) (S : List Value) (g : pmH) : pmV mX7_takesStart 38 L S g = zIast mX7_takesStart 39 L S g := ez_iastore kcX7_takesStart dX7_takesStart_38 rfl L S g
theorem eX7_takesStart_39 (L : pmL) (S : List Value) (g : pmH) : pmV mX7_takesStart 39 L S g = zLdA mX7_takesStart 40 0 L S g := ez_aload_n kcX7_takesStart dX7_takesStart_39 rfl rfl L S g
theorem eX7_takesStart_40 (L : pmL) (S : List Value) (g : pmH) : pmV mX7_takesStart 40 L S g = zPush mX7_takesStart 41 (.int (nI 1)) L S g := ez_iconst kcX7_takesStart dX7_takesStart_40 (by decide) rfl L S g
theorem eX7_takesStart_41 (L : pmL) (S : List Value) (g : pmH) : pmV mX7_takesStart 41 L S g = zPut mX7_takesStart 44 7 2 L S g := ez_putfield kcX7_takesStart dX7_takesStart_41 fl_7_34 rfl L S g
theorem eX7_takesStart_44 (L : pmL) (S : List Value) (g : pmH) : pmV mX7_takesStart 44 L S g = zPush mX7_takesStart 45 (.int (nI 1)) L S g := ez_iconst kcX7_takesStart dX7_takesStart_44 (by decide) rfl L S g
theorem eX7_takesStart_45 (L : pmL) (S : List Value) (g : pmH) : pmV mX7_takesStart 45 L S g = zIret mX7_takesStart S g := ez_ireturn kcX7_takesStart dX7_takesStart_45 L S g
theorem eX7_takesOfBalloon_0 (L : pmL) (S : List Value) (g : pmH) : pmV mX7_takesOfBalloon 0 L S g = zLdI mX7_takesOfBalloon 1 1 L S g := ez_iload_n kcX7_takesOfBalloon dX7_takesOfBalloon_0 rfl rfl L S g
theorem eX7_takesOfBalloon_1 (L : pmL) (S : List Value) (g : pmH) : pmV mX7_takesOfBalloon 1 L S g = zClt mX7_takesOfBalloon 4 32 L S g := ez_if_lt kcX7_takesOfBalloon dX7_takesOfBalloon_1 (by decide) rfl L S g
theorem eX7_takesOfBalloon_4 (L : pmL) (S : List Value) (g : pmH) : pmV mX7_takesOfBalloon 4 L S g = zLdI mX7_takesOfBalloon 5 1 L S g := ez_iload_n kcX7_takesOfBalloon dX7_takesOfBalloon_4 rfl rfl L S g
theorem eX7_takesOfBalloon_5 (L : pmL) (S : List Value) (g : pmH) : pmV mX7_takesOfBalloon 5 L S g = zLdA mX7_takesOfBalloon 6 0 L S g := ez_aload_n kcX7_takesOfBalloon dX7_takesOfBalloon_5 rfl rfl L S g
theorem eX7_takesOfBalloon_6 (L : pmL) (S : List Value) (g : pmH) : pmV mX7_takesOfBalloon 6 L S g = zGet mX7_takesOfBalloon 9 7 2 L S g := ez_getfield kcX7_takesOfBalloon dX7_takesOfBalloon_6 fl_7_34 rfl L S g
theorem eX7_takesOfBalloon_9 (L : pmL) (S : List Value) (g : pmH) : pmV mX7_takesOfBalloon 9 L S g = zPush mX7_takesOfBalloon 10 (.int (nI 1)) L S g := ez_iconst kcX7_takesOfBalloon dX7_takesOfBalloon_9 (by decide) rfl L S g
theorem eX7_takesOfBalloon_10 (L : pmL) (S : List Value) (g : pmH) : pmV mX7_takesOfBalloon 10 L S g = zBne mX7_takesOfBalloon 13 17 L S g := ez_icmp_ne kcX7_takesOfBalloon dX7_takesOfBalloon_10 (by decide) rfl L S g
theorem eX7_takesOfBalloon_13 (L : pmL) (S : List Value) (g : pmH) : pmV mX7_takesOfBalloon 13 L S g = zPush mX7_takesOfBalloon 14 (.int (nI 3)) L S g := ez_iconst kcX7_takesOfBalloon dX7_takesOfBalloon_13 (by decide) rfl L S g
theorem eX7_takesOfBalloon_14 (L : pmL) (S : List Value) (g : pmH) : pmV mX7_takesOfBalloon 14 L S g = zNx mX7_takesOfBalloon 18 L S g := ez_goto kcX7_takesOfBalloon dX7_takesOfBalloon_14 (by decide) L S g
theorem eX7_takesOfBalloon_17 (L : pmL) (S : List Value) (g : pmH) : pmV mX7_takesOfBalloon 17 L S g = zPush mX7_takesOfBalloon 18 (.int (nI 3)) L S g := ez_iconst kcX7_takesOfBalloon dX7_takesOfBalloon_17 (by decide) rfl L S g
theorem eX7_takesOfBalloon_18 (L : pmL) (S : List Value) (g : pmH) : pmV mX7_takesOfBalloon 18 L S g = zBgt mX7_takesOfBalloon 21 32 L S g := ez_icmp_gt kcX7_takesOfBalloon dX7_takesOfBalloon_18 (by decide) rfl L S g
theorem eX7_takesOfBalloon_21 (L : pmL) (S : List Value) (g : pmH) : pmV mX7_takesOfBalloon 21 L S g = zLdA mX7_takesOfBalloon 22 0 L S g := ez_aload_n kcX7_takesOfBalloon dX7_takesOfBalloon_21 rfl rfl L S g
theorem eX7_takesOfBalloon_22 (L : pmL) (S : List Value) (g : pmH) : pmV mX7_takesOfBalloon 22 L S g = zGet mX7_takesOfBalloon 25 7 0 L S g := ez_getfield kcX7_takesOfBalloon dX7_takesOfBalloon_22 fl_7_9 rfl L S g
theorem eX7_takesOfBalloon_25 (L : pmL) (S : List Value) (g : pmH) : pmV mX7_takesOfBalloon 25 L S g = zGet mX7_takesOfBalloon 28 4 8 L S g := ez_getfield kcX7_takesOfBalloon dX7_takesOfBalloon_25 fl_7_52 rfl L S g
theorem eX7_takesOfBalloon_28 (L : pmL) (S : List Value) (g : pmH) : pmV mX7_takesOfBalloon 28 L S g = zPush mX7_takesOfBalloon 29 (.int (nI 5)) L S g := ez_iconst kcX7_takesOfBalloon dX7_takesOfBalloon_28 (by decide) rfl L S g
theorem eX7_takesOfBalloon_29 (L : pmL) (S : List Value) (g : pmH) : pmV mX7_takesOfBalloon 29 L S g = zBlt mX7_takesOfBalloon 32 34 L S g := ez_icmp_lt kcX7_takesOfBalloon dX7_takesOfBalloon_29 (by decide) rfl L S g
theorem eX7_takesOfBalloon_32 (L : pmL) (S : List Value) (g : pmH) : pmV mX7_takesOfBalloon 32 L S g = zPush mX7_takesOfBalloon 33 (.int (nI 0)) L S g := ez_iconst kcX7_takesOfBalloon dX7_takesOfBalloon_32 (by decide) rfl L S g
theorem eX7_takesOfBalloon_33 (L : pmL) (S : List Value) (g : pmH) : pmV mX7_takesOfBalloon 33 L S g = zIret mX7_takesOfBalloon S g := ez_ireturn kcX7_takesOfBalloon dX7_takesOfBalloon_33 L S g
theorem eX7_takesOfBalloon_34 (L : pmL) (S : List Value) (g : pmH) : pmV mX7_takesOfBalloon 34 L S g = zLdA mX7_takesOfBalloon 35 0 L S g := ez_aload_n kcX7_takesOfBalloon dX7_takesOfBalloon_34 rfl rfl L S g
theorem eX7_takesOfBalloon_35 (L : pmL) (S : List Value) (g : pmH) : pmV mX7_takesOfBalloon 35 L S g = zGet mX7_takesOfBalloon 38 7 2 L S g := ez_getfield kcX7_takesOfBalloon dX7_takesOfBalloon_35 fl_7_34 rfl L S g
theorem eX7_takesOfBalloon_38 (L : pmL) (S : List Value) (g : pmH) : pmV mX7_takesOfBalloon 38 L S g = zPush mX7_takesOfBalloon 39 (.int (nI 1)) L S g := ez_iconst kcX7_takesOfBalloon dX7_takesOfBalloon_38 (by decide) rfl L S g
theorem eX7_takesOfBalloon_39 (L : pmL) (S : List Value) (g : pmH) : pmV mX7_takesOfBalloon 39 L S g = zBne mX7_takesOfBalloon 42 65 L S g := ez_icmp_ne kcX7_takesOfBalloon dX7_takesOfBalloon_39 (by decide) rfl L S g
theorem eX7_takesOfBalloon_42 (L : pmL) (S : List Value) (g : pmH) : pmV mX7_takesOfBalloon 42 L S g = zLdA mX7_takesOfBalloon 43 0 L S g := ez_aload_n kcX7_takesOfBalloon dX7_takesOfBalloon_42 rfl rfl L S g
theorem eX7_takesOfBalloon_43 (L : pmL) (S : List Value) (g : pmH) : pmV mX7_takesOfBalloon 43 L S g = zGet mX7_takesOfBalloon 46 7 0 L S g := ez_getfield kcX7_takesOfBalloon dX7_takesOfBalloon_43 fl_7_9 rfl L S g
theorem eX7_takesOfBalloon_46 (L : pmL) (S : List Value) (g : pmH) : pmV mX7_takesOfBalloon 46 L S g = zGet mX7_takesOfBalloon 49 4 2 L S g := ez_getfield kcX7_takesOfBalloon dX7_takesOfBalloon_46 fl_7_65 rfl L S g
theorem eX7_takesOfBalloon_49 (L : pmL) (S : List Value) (g : pmH) : pmV mX7_takesOfBalloon 49 L S g = zLdA mX7_takesOfBalloon 50 0 L S g := ez_aload_n kcX7_takesOfBalloon dX7_takesOfBalloon_49 rfl rfl L S g
theorem eX7_takesOfBalloon_50 (L : pmL) (S : List Value) (g : pmH) : pmV mX7_takesOfBalloon 50 L S g = zGet mX7_takesOfBalloon 53 7 0 L S g := ez_getfield kcX7_takesOfBalloon dX7_takesOfBalloon_50 fl_7_9 rfl L S g
theorem eX7_takesOfBalloon_53 (L : pmL) (S : List Value) (g : pmH) : pmV mX7_takesOfBalloon 53 L S g = zGet mX7_takesOfBalloon 56 4 8 L S g := ez_getfield kcX7_takesOfBalloon dX7_takesOfBalloon_53 fl_7_52 rfl L S g
theorem eX7_takesOfBalloon_56 (L : pmL) (S : List Value) (g : pmH) : pmV mX7_takesOfBalloon 56 L S g = zLdI mX7_takesOfBalloon 57 1 L S g := ez_iload_n kcX7_takesOfBalloon dX7_takesOfBalloon_56 rfl rfl L S g
theorem eX7_takesOfBalloon_57 (L : pmL) (S : List Value) (g : pmH) : pmV mX7_takesOfBalloon 57 L S g = zIast mX7_takesOfBalloon 58 L S g := ez_iastore kcX7_takesOfBalloon dX7_takesOfBalloon_57 rfl L S g
theorem eX7_takesOfBalloon_58 (L : pmL) (S : List Value) (g : pmH) : pmV mX7_takesOfBalloon 58 L S g = zLdA mX7_takesOfBalloon 59 0 L S g := ez_aload_n kcX7_takesOfBalloon dX7_takesOfBalloon_58 rfl rfl L S g
theorem eX7_takesOfBalloon_59 (L : pmL) (S : List Value) (g : pmH) : pmV mX7_takesOfBalloon 59 L S g = zPush mX7_takesOfBalloon 60 (.int (nI 2)) L S g := ez_iconst kcX7_takesOfBalloon dX7_takesOfBalloon_59 (by decide) rfl L S g
theorem eX7_takesOfBalloon_60 (L : pmL) (S : List Value) (g : pmH) : pmV mX7_takesOfBalloon 60 L S g = zPut mX7_takesOfBalloon 63 7 2 L S g := ez_putfield kcX7_takesOfBalloon dX7_takesOfBalloon_60 fl_7_34 rfl L S g
theorem eX7_takesOfBalloon_63 (L : pmL) (S : List Value) (g : pmH) : pmV mX7_takesOfBalloon 63 L S g = zPush mX7_takesOfBalloon 64 (.int (nI 1)) L S g := ez_iconst kcX7_takesOfBalloon dX7_takesOfBalloon_63 (by decide) rfl L S g
theorem eX7_takesOfBalloon_64 (L : pmL) (S : List Value) (g : pmH) : pmV mX7_takesOfBalloon 64 L S g = zIret mX7_takesOfBalloon S g := ez_ireturn kcX7_takesOfBalloon dX7_takesOfBalloon_64 L S g
theorem eX7_takesOfBalloon_65 (L : pmL) (S : List Value) (g : pmH) : pmV mX7_takesOfBalloon 65 L S g = zLdA mX7_takesOfBalloon 66 0 L S g := ez_aload_n kcX7_takesOfBalloon dX7_takesOfBalloon_65 rfl rfl L S g
theorem eX7_takesOfBalloon_66 (L : pmL) (S : List Value) (g : pmH) : pmV mX7_takesOfBalloon 66 L S g = zGet mX7_takesOfBalloon 69 7 0 L S g := ez_getfield kcX7_takesOfBalloon dX7_takesOfBalloon_66 fl_7_9 rfl L S g
theorem eX7_takesOfBalloon_69 (L : pmL) (S : List Value) (g : pmH) : pmV mX7_takesOfBalloon 69 L S g = zGet mX7_takesOfBalloon 72 4 3 L S g := ez_getfield kcX7_takesOfBalloon dX7_takesOfBalloon_69 fl_7_68 rfl L S g
theorem eX7_takesOfBalloon_72 (L : pmL) (S : List Value) (g : pmH) : pmV mX7_takesOfBalloon 72 L S g = zLdA mX7_takesOfBalloon 73 0 L S g := ez_aload_n kcX7_takesOfBalloon dX7_takesOfBalloon_72 rfl rfl L S g
theorem eX7_takesOfBalloon_73 (L : pmL) (S : List Value) (g : pmH) : pmV mX7_takesOfBalloon 73 L S g = zGet mX7_takesOfBalloon 76 7 0 L S g := ez_getfield kcX7_takesOfBalloon dX7_takesOfBalloon_73 fl_7_9 rfl L S g
theorem eX7_takesOfBalloon_76 (L : pmL) (S : List Value) (g : pmH) : pmV mX7_takesOfBalloon 76 L S g = zGet mX7_takesOfBalloon 79 4 8 L S g := ez_getfield kcX7_takesOfBalloon dX7_takesOfBalloon_76 fl_7_52 rfl L S g
theorem eX7_takesOfBalloon_79 (L : pmL) (S : List Value) (g : pmH) : pmV mX7_takesOfBalloon 79 L S g = zLdI mX7_takesOfBalloon 80 1 L S g := ez_iload_n kcX7_takesOfBalloon dX7_takesOfBalloon_79 rfl rfl L S g
theorem eX7_takesOfBalloon_80 (L : pmL) (S : List Value) (g : pmH) : pmV mX7_takesOfBalloon 80 L S g = zIast mX7_takesOfBalloon 81 L S g := ez_iastore kcX7_takesOfBalloon dX7_takesOfBalloon_80 rfl L S g
theorem eX7_takesOfBalloon_81 (L : pmL) (S : List Value) (g : pmH) : pmV mX7_takesOfBalloon 81 L S g = zLdA mX7_takesOfBalloon 82 0 L S g := ez_aload_n kcX7_takesOfBalloon dX7_takesOfBalloon_81 rfl rfl L S g
theorem eX7_takesOfBalloon_82 (L : pmL) (S : List Value) (g : pmH) : pmV mX7_takesOfBalloon 82 L S g = zGet mX7_takesOfBalloon 85 7 0 L S g := ez_getfield kcX7_takesOfBalloon dX7_takesOfBalloon_82 fl_7_9 rfl L S g
theorem eX7_takesOfBalloon_85 (L : pmL) (S : List Value) (g : pmH) : pmV mX7_takesOfBalloon 85 L S g = zDup mX7_takesOfBalloon 86 L S g := ez_dup kcX7_takesOfBalloon dX7_takesOfBalloon_85 rfl L S g
theorem eX7_takesOfBalloon_86 (L : pmL) (S : List Value) (g : pmH) : pmV mX7_takesOfBalloon 86 L S g = zGet mX7_takesOfBalloon 89 4 8 L S g := ez_getfield kcX7_takesOfBalloon dX7_takesOfBalloon_86 fl_7_52 rfl L S g
theorem eX7_takesOfBalloon_89 (L : pmL) (S : List Value) (g : pmH) : pmV mX7_takesOfBalloon 89 L S g = zPush mX7_takesOfBalloon 90 (.int (nI 1)) L S g := ez_iconst kcX7_takesOfBalloon dX7_takesOfBalloon_89 (by decide) rfl L S g
theorem eX7_takesOfBalloon_90 (L : pmL) (S : List Value) (g : pmH) : pmV mX7_takesOfBalloon 90 L S g = zAdd mX7_takesOfBalloon 91 L S g := ez_iadd kcX7_takesOfBalloon dX7_takesOfBalloon_90 rfl L S g
theorem eX7_takesOfBalloon_91 (L : pmL) (S : List Value) (g : pmH) : pmV mX7_takesOfBalloon 91 L S g = zPut mX7_takesOfBalloon 94 4 8 L S g := ez_putfield kcX7_takesOfBalloon dX7_takesOfBalloon_91 fl_7_52 rfl L S g
theorem eX7_takesOfBalloon_94 (L : pmL) (S : List Value) (g : pmH) : pmV mX7_takesOfBalloon 94 L S g = zLdA mX7_takesOfBalloon 95 0 L S g := ez_aload_n kcX7_takesOfBalloon dX7_takesOfBalloon_94 rfl rfl L S g
theorem eX7_takesOfBalloon_95 (L : pmL) (S : List Value) (g : pmH) : pmV mX7_takesOfBalloon 95 L S g = zPush mX7_takesOfBalloon 96 (.int (nI 1)) L S g := ez_iconst kcX7_takesOfBalloon dX7_takesOfBalloon_95 (by decide) rfl L S g
theorem eX7_takesOfBalloon_96 (L : pmL) (S : List Value) (g : pmH) : pmV mX7_takesOfBalloon 96 L S g = zPut mX7_takesOfBalloon 99 7 1 L S g := ez_putfield kcX7_takesOfBalloon dX7_takesOfBalloon_96 fl_7_20 rfl L S g
theorem eX7_takesOfBalloon_99 (L : pmL) (S : List Value) (g : pmH) : pmV mX7_takesOfBalloon 99 L S g = zPush mX7_takesOfBalloon 100 (.int (nI 1)) L S g := ez_iconst kcX7_takesOfBalloon dX7_takesOfBalloon_99 (by decide) rfl L S g
theorem eX7_takesOfBalloon_100 (L : pmL) (S : List Value) (g : pmH) : pmV mX7_takesOfBalloon 100 L S g = zIret mX7_takesOfBalloon S g := ez_ireturn kcX7_takesOfBalloon dX7_takesOfBalloon_100 L S g
theorem eX7_takesHedgeCell_0 (L : pmL) (S : List Value) (g : pmH) : pmV mX7_takesHedgeCell 0 L S g = zLdI mX7_takesHedgeCell 1 1 L S g := ez_iload_n kcX7_takesHedgeCell dX7_takesHedgeCell_0 rfl rfl L S g
theorem eX7_takesHedgeCell_1 (L : pmL) (S : List Value) (g : pmH) : pmV mX7_takesHedgeCell 1 L S g = zClt mX7_takesHedgeCell 4 34 L S g := ez_if_lt kcX7_takesHedgeCell dX7_takesHedgeCell_1 (by decide) rfl L S g
theorem eX7_takesHedgeCell_4 (L : pmL) (S : List Value) (g : pmH) : pmV mX7_takesHedgeCell 4 L S g = zLdI mX7_takesHedgeCell 5 1 L S g := ez_iload_n kcX7_takesHedgeCell dX7_takesHedgeCell_4 rfl rfl L S g
theorem eX7_takesHedgeCell_5 (L : pmL) (S : List Value) (g : pmH) : pmV mX7_takesHedgeCell 5 L S g = zPush mX7_takesHedgeCell 7 (.int (nI 20)) L S g := ez_bipush kcX7_takesHedgeCell dX7_takesHedgeCell_5 (by decide) rfl L S g
theorem eX7_takesHedgeCell_7 (L : pmL) (S : List Value) (g : pmH) : pmV mX7_takesHedgeCell 7 L S g = zBge mX7_takesHedgeCell 10 34 L S g := ez_icmp_ge kcX7_takesHedgeCell dX7_takesHedgeCell_7 (by decide) rfl L S g
theorem eX7_takesHedgeCell_10 (L : pmL) (S : List Value) (g : pmH) : pmV mX7_takesHedgeCell 10 L S g = zLdA mX7_takesHedgeCell 11 0 L S g := ez_aload_n kcX7_takesHedgeCell dX7_takesHedgeCell_10 rfl rfl L S g
theorem eX7_takesHedgeCell_11 (L : pmL) (S : List Value) (g : pmH) : pmV mX7_takesHedgeCell 11 L S g = zGet mX7_takesHedgeCell 14 7 0 L S g := ez_getfield kcX7_takesHedgeCell dX7_takesHedgeCell_11 fl_7_9 rfl L S g
theorem eX7_takesHedgeCell_14 (L : pmL) (S : List Value) (g : pmH) : pmV mX7_takesHedgeCell 14 L S g = zGet mX7_takesHedgeCell 17 4 9 L S g := ez_getfield kcX7_takesHedgeCell dX7_takesHedgeCell_14 fl_7_55 rfl L S g
theorem eX7_takesHedgeCell_17 (L : pmL) (S : List Value) (g : pmH) : pmV mX7_takesHedgeCell 17 L S g = zPush mX7_takesHedgeCell 18 (.int (nI 4)) L S g := ez_iconst kcX7_takesHedgeCell dX7_takesHedgeCell_17 (by decide) rfl L S g
theorem eX7_takesHedgeCell_18 (L : pmL) (S : List Value) (g : pmH) : pmV mX7_takesHedgeCell 18 L S g = zBge mX7_takesHedgeCell 21 34 L S g := ez_icmp_ge kcX7_takesHedgeCell dX7_takesHedgeCell_18 (by decide) rfl L S g
theorem eX7_takesHedgeCell_21 (L : pmL) (S : List Value) (g : pmH) : pmV mX7_takesHedgeCell 21 L S g = zLdA mX7_takesHedgeCell 22 0 L S g := ez_aload_n kcX7_takesHedgeCell dX7_takesHedgeCell_21 rfl rfl L S g
theorem eX7_takesHedgeCell_22 (L : pmL) (S : List Value) (g : pmH) : pmV mX7_takesHedgeCell 22 L S g = zGet mX7_takesHedgeCell 25 7 0 L S g := ez_getfield kcX7_takesHedgeCell dX7_takesHedgeCell_22 fl_7_9 rfl L S g
theorem eX7_takesHedgeCell_25 (L : pmL) (S : List Value) (g : pmH) : pmV mX7_takesHedgeCell 25 L S g = zLdI mX7_takesHedgeCell 26 1 L S g := ez_iload_n kcX7_takesHedgeCell dX7_takesHedgeCell_25 rfl rfl L S g
theorem eX7_takesHedgeCell_26 (L : pmL) (S : List Value) (g : pmH) : pmV mX7_takesHedgeCell 26 L S g = yV mX7_takesHedgeCell 29 1 mX4_hedgeAt 4 3 L S g := (ez_virtual kcX7_takesHedgeCell dX7_takesHedgeCell_26 ml_7_71 rfl L S g).trans (zCallV_y rfl rfl (by decide) L S g)
theorem eX7_takesHedgeCell_29 (L : pmL) (S : List Value) (g : pmH) : pmV mX7_takesHedgeCell 29 L S g = zPush mX7_takesHedgeCell 31 (.int (-9)) L S g := ez_bipush kcX7_takesHedgeCell dX7_takesHedgeCell_29 (by decide) rfl L S g
theorem eX7_takesHedgeCell_31 (L : pmL) (S : List Value) (g : pmH) : pmV mX7_takesHedgeCell 31 L S g = zBeq mX7_takesHedgeCell 34 36 L S g := ez_icmp_eq kcX7_takesHedgeCell dX7_takesHedgeCell_31 (by decide) rfl L S g
theorem eX7_takesHedgeCell_34 (L : pmL) (S : List Value) (g : pmH) : pmV mX7_takesHedgeCell 34 L S g = zPush mX7_takesHedgeCell 35 (.int (nI 0)) L S g := ez_iconst kcX7_takesHedgeCell dX7_takesHedgeCell_34 (by decide) rfl L S g
theorem eX7_takesHedgeCell_35 (L : pmL) (S : List Value) (g : pmH) : pmV mX7_takesHedgeCell 35 L S g = zIret mX7_takesHedgeCell S g := ez_ireturn kcX7_takesHedgeCell dX7_takesHedgeCell_35 L S g
theorem eX7_takesHedgeCell_36 (L : pmL) (S : List Value) (g : pmH) : pmV mX7_takesHedgeCell 36 L S g = zLdA mX7_takesHedgeCell 37 0 L S g := ez_aload_n kcX7_takesHedgeCell dX7_takesHedgeCell_36 rfl rfl L S g
theorem eX7_takesHedgeCell_37 (L : pmL) (S : List Value) (g : pmH) : pmV mX7_takesHedgeCell 37 L S g = zGet mX7_takesHedgeCell 40 7 0 L S g := ez_getfield kcX7_takesHedgeCell dX7_takesHedgeCell_37 fl_7_9 rfl L S g
theorem eX7_takesHedgeCell_40 (L : pmL) (S : List Value) (g : pmH) : pmV mX7_takesHedgeCell 40 L S g = zGet mX7_takesHedgeCell 43 4 4 L S g := ez_getfield kcX7_takesHedgeCell dX7_takesHedgeCell_40 fl_7_75 rfl L S g
theorem eX7_takesHedgeCell_43 (L : pmL) (S : List Value) (g : pmH) : pmV mX7_takesHedgeCell 43 L S g = zLdA mX7_takesHedgeCell 44 0 L S g := ez_aload_n kcX7_takesHedgeCell dX7_takesHedgeCell_43 rfl rfl L S g
theorem eX7_takesHedgeCell_44 (L : pmL) (S : List Value) (g : pmH) : pmV mX7_takesHedgeCell 44 L S g = zGet mX7_takesHedgeCell 47 7 0 L S g := ez_getfield kcX7_takesHedgeCell dX7_takesHedgeCell_44 fl_7_9 rfl L S g
theorem eX7_takesHedgeCell_47 (L : pmL) (S : List Value) (g : pmH) : pmV mX7_takesHedgeCell 47 L S g = zGet mX7_takesHedgeCell 50 4 9 L S g := ez_getfield kcX7_takesHedgeCell dX7_takesHedgeCell_47 fl_7_55 rfl L S g
theorem eX7_takesHedgeCell_50 (L : pmL) (S : List Value) (g : pmH) : pmV mX7_takesHedgeCell 50 L S g = zLdI mX7_takesHedgeCell 51 1 L S g := ez_iload_n kcX7_takesHedgeCell dX7_takesHedgeCell_50 rfl rfl L S g
theorem eX7_takesHedgeCell_51 (L : pmL) (S : List Value) (g : pmH) : pmV mX7_takesHedgeCell 51 L S g = zIast mX7_takesHedgeCell 52 L S g := ez_iastore kcX7_takesHedgeCell dX7_takesHedgeCell_51 rfl L S g
theorem eX7_takesHedgeCell_52 (L : pmL) (S : List Value) (g : pmH) : pmV mX7_takesHedgeCell 52 L S g = zLdA mX7_takesHedgeCell 53 0 L S g := ez_aload_n kcX7_takesHedgeCell dX7_takesHedgeCell_52 rfl rfl L S g
theorem eX7_takesHedgeCell_53 (L : pmL) (S : List Value) (g : pmH) : pmV mX7_takesHedgeCell 53 L S g = zPush mX7_takesHedgeCell 54 (.int (nI 1)) L S g := ez_iconst kcX7_takesHedgeCell dX7_takesHedgeCell_53 (by decide) rfl L S g
theorem eX7_takesHedgeCell_54 (L : pmL) (S : List Value) (g : pmH) : pmV mX7_takesHedgeCell 54 L S g = zPut mX7_takesHedgeCell 57 7 2 L S g := ez_putfield kcX7_takesHedgeCell dX7_takesHedgeCell_54 fl_7_34 rfl L S g
theorem eX7_takesHedgeCell_57 (L : pmL) (S : List Value) (g : pmH) : pmV mX7_takesHedgeCell 57 L S g = zPush mX7_takesHedgeCell 58 (.int (nI 1)) L S g := ez_iconst kcX7_takesHedgeCell dX7_takesHedgeCell_57 (by decide) rfl L S g
theorem eX7_takesHedgeCell_58 (L : pmL) (S : List Value) (g : pmH) : pmV mX7_takesHedgeCell 58 L S g = zIret mX7_takesHedgeCell S g := ez_ireturn kcX7_takesHedgeCell dX7_takesHedgeCell_58 L S g
theorem eX7_takesOfHedge_0 (L : pmL) (S : List Value) (g : pmH) : pmV mX7_takesOfHedge 0 L S g = zLdI mX7_takesOfHedge 1 1 L S g := ez_iload_n kcX7_takesOfHedge dX7_takesOfHedge_0 rfl rfl L S g
theorem eX7_takesOfHedge_1 (L : pmL) (S : List Value) (g : pmH) : pmV mX7_takesOfHedge 1 L S g = zClt mX7_takesOfHedge 4 33 L S g := ez_if_lt kcX7_takesOfHedge dX7_takesOfHedge_1 (by decide) rfl L S g
theorem eX7_takesOfHedge_4 (L : pmL) (S : List Value) (g : pmH) : pmV mX7_takesOfHedge 4 L S g = zLdI mX7_takesOfHedge 5 1 L S g := ez_iload_n kcX7_takesOfHedge dX7_takesOfHedge_4 rfl rfl L S g
theorem eX7_takesOfHedge_5 (L : pmL) (S : List Value) (g : pmH) : pmV mX7_takesOfHedge 5 L S g = zLdA mX7_takesOfHedge 6 0 L S g := ez_aload_n kcX7_takesOfHedge dX7_takesOfHedge_5 rfl rfl L S g
theorem eX7_takesOfHedge_6 (L : pmL) (S : List Value) (g : pmH) : pmV mX7_takesOfHedge 6 L S g = zGet mX7_takesOfHedge 9 7 2 L S g := ez_getfield kcX7_takesOfHedge dX7_takesOfHedge_6 fl_7_34 rfl L S g
theorem eX7_takesOfHedge_9 (L : pmL) (S : List Value) (g : pmH) : pmV mX7_takesOfHedge 9 L S g = zPush mX7_takesOfHedge 10 (.int (nI 1)) L S g := ez_iconst kcX7_takesOfHedge dX7_takesOfHedge_9 (by decide) rfl L S g
theorem eX7_takesOfHedge_10 (L : pmL) (S : List Value) (g : pmH) : pmV mX7_takesOfHedge 10 L S g = zBne mX7_takesOfHedge 13 18 L S g := ez_icmp_ne kcX7_takesOfHedge dX7_takesOfHedge_10 (by decide) rfl L S g
theorem eX7_takesOfHedge_13 (L : pmL) (S : List Value) (g : pmH) : pmV mX7_takesOfHedge 13 L S g = zPush mX7_takesOfHedge 15 (.int (nI 9)) L S g := ez_bipush kcX7_takesOfHedge dX7_takesOfHedge_13 (by decide) rfl L S g
theorem eX7_takesOfHedge_15 (L : pmL) (S : List Value) (g : pmH) : pmV mX7_takesOfHedge 15 L S g = zNx mX7_takesOfHedge 19 L S g := ez_goto kcX7_takesOfHedge dX7_takesOfHedge_15 (by decide) L S g
theorem eX7_takesOfHedge_18 (L : pmL) (S : List Value) (g : pmH) : pmV mX7_takesOfHedge 18 L S g = zPush mX7_takesOfHedge 19 (.int (nI 3)) L S g := ez_iconst kcX7_takesOfHedge dX7_takesOfHedge_18 (by decide) rfl L S g
theorem eX7_takesOfHedge_19 (L : pmL) (S : List Value) (g : pmH) : pmV mX7_takesOfHedge 19 L S g = zBgt mX7_takesOfHedge 22 33 L S g := ez_icmp_gt kcX7_takesOfHedge dX7_takesOfHedge_19 (by decide) rfl L S g
theorem eX7_takesOfHedge_22 (L : pmL) (S : List Value) (g : pmH) : pmV mX7_takesOfHedge 22 L S g = zLdA mX7_takesOfHedge 23 0 L S g := ez_aload_n kcX7_takesOfHedge dX7_takesOfHedge_22 rfl rfl L S g
theorem eX7_takesOfHedge_23 (L : pmL) (S : List Value) (g : pmH) : pmV mX7_takesOfHedge 23 L S g = zGet mX7_takesOfHedge 26 7 0 L S g := ez_getfield kcX7_takesOfHedge dX7_takesOfHedge_23 fl_7_9 rfl L S g
theorem eX7_takesOfHedge_26 (L : pmL) (S : List Value) (g : pmH) : pmV mX7_takesOfHedge 26 L S g = zGet mX7_takesOfHedge 29 4 9 L S g := ez_getfield kcX7_takesOfHedge dX7_takesOfHedge_26 fl_7_55 rfl L S g
theorem eX7_takesOfHedge_29 (L : pmL) (S : List Value) (g : pmH) : pmV mX7_takesOfHedge 29 L S g = zPush mX7_takesOfHedge 30 (.int (nI 4)) L S g := ez_iconst kcX7_takesOfHedge dX7_takesOfHedge_29 (by decide) rfl L S g
theorem eX7_takesOfHedge_30 (L : pmL) (S : List Value) (g : pmH) : pmV mX7_takesOfHedge 30 L S g = zBlt mX7_takesOfHedge 33 35 L S g := ez_icmp_lt kcX7_takesOfHedge dX7_takesOfHedge_30 (by decide) rfl L S g
theorem eX7_takesOfHedge_33 (L : pmL) (S : List Value) (g : pmH) : pmV mX7_takesOfHedge 33 L S g = zPush mX7_takesOfHedge 34 (.int (nI 0)) L S g := ez_iconst kcX7_takesOfHedge dX7_takesOfHedge_33 (by decide) rfl L S g
theorem eX7_takesOfHedge_34 (L : pmL) (S : List Value) (g : pmH) : pmV mX7_takesOfHedge 34 L S g = zIret mX7_takesOfHedge S g := ez_ireturn kcX7_takesOfHedge dX7_takesOfHedge_34 L S g
theorem eX7_takesOfHedge_35 (L : pmL) (S : List Value) (g : pmH) : pmV mX7_takesOfHedge 35 L S g = zLdA mX7_takesOfHedge 36 0 L S g := ez_aload_n kcX7_takesOfHedge dX7_takesOfHedge_35 rfl rfl L S g
theorem eX7_takesOfHedge_36 (L : pmL) (S : List Value) (g : pmH) : pmV mX7_takesOfHedge 36 L S g = zGet mX7_takesOfHedge 39 7 2 L S g := ez_getfield kcX7_takesOfHedge dX7_takesOfHedge_36 fl_7_34 rfl L S g
theorem eX7_takesOfHedge_39 (L : pmL) (S : List Value) (g : pmH) : pmV mX7_takesOfHedge 39 L S g = zPush mX7_takesOfHedge 40 (.int (nI 1)) L S g := ez_iconst kcX7_takesOfHedge dX7_takesOfHedge_39 (by decide) rfl L S g
theorem eX7_takesOfHedge_40 (L : pmL) (S : List Value) (g : pmH) : pmV mX7_takesOfHedge 40 L S g = zBne mX7_takesOfHedge 43 66 L S g := ez_icmp_ne kcX7_takesOfHedge dX7_takesOfHedge_40 (by decide) rfl L S g
theorem eX7_takesOfHedge_43 (L : pmL) (S : List Value) (g : pmH) : pmV mX7_takesOfHedge 43 L S g = zLdA mX7_takesOfHedge 44 0 L S g := ez_aload_n kcX7_takesOfHedge dX7_takesOfHedge_43 rfl rfl L S g
theorem eX7_takesOfHedge_44 (L : pmL) (S : List Value) (g : pmH) : pmV mX7_takesOfHedge 44 L S g = zGet mX7_takesOfHedge 47 7 0 L S g := ez_getfield kcX7_takesOfHedge dX7_takesOfHedge_44 fl_7_9 rfl L S g
theorem eX7_takesOfHedge_47 (L : pmL) (S : List Value) (g : pmH) : pmV mX7_takesOfHedge 47 L S g = zGet mX7_takesOfHedge 50 4 5 L S g := ez_getfield kcX7_takesOfHedge dX7_takesOfHedge_47 fl_7_78 rfl L S g
theorem eX7_takesOfHedge_50 (L : pmL) (S : List Value) (g : pmH) : pmV mX7_takesOfHedge 50 L S g = zLdA mX7_takesOfHedge 51 0 L S g := ez_aload_n kcX7_takesOfHedge dX7_takesOfHedge_50 rfl rfl L S g
theorem eX7_takesOfHedge_51 (L : pmL) (S : List Value) (g : pmH) : pmV mX7_takesOfHedge 51 L S g = zGet mX7_takesOfHedge 54 7 0 L S g := ez_getfield kcX7_takesOfHedge dX7_takesOfHedge_51 fl_7_9 rfl L S g
theorem eX7_takesOfHedge_54 (L : pmL) (S : List Value) (g : pmH) : pmV mX7_takesOfHedge 54 L S g = zGet mX7_takesOfHedge 57 4 9 L S g := ez_getfield kcX7_takesOfHedge dX7_takesOfHedge_54 fl_7_55 rfl L S g
theorem eX7_takesOfHedge_57 (L : pmL) (S : List Value) (g : pmH) : pmV mX7_takesOfHedge 57 L S g = zLdI mX7_takesOfHedge 58 1 L S g := ez_iload_n kcX7_takesOfHedge dX7_takesOfHedge_57 rfl rfl L S g
theorem eX7_takesOfHedge_58 (L : pmL) (S : List Value) (g : pmH) : pmV mX7_takesOfHedge 58 L S g = zIast mX7_takesOfHedge 59 L S g := ez_iastore kcX7_takesOfHedge dX7_takesOfHedge_58 rfl L S g
theorem eX7_takesOfHedge_59 (L : pmL) (S : List Value) (g : pmH) : pmV mX7_takesOfHedge 59 L S g = zLdA mX7_takesOfHedge 60 0 L S g := ez_aload_n kcX7_takesOfHedge dX7_takesOfHedge_59 rfl rfl L S g
theorem eX7_takesOfHedge_60 (L : pmL) (S : List Value) (g : pmH) : pmV mX7_takesOfHedge 60 L S g = zPush mX7_takesOfHedge 61 (.int (nI 2)) L S g := ez_iconst kcX7_takesOfHedge dX7_takesOfHedge_60 (by decide) rfl L S g
theorem eX7_takesOfHedge_61 (L : pmL) (S : List Value) (g : pmH) : pmV mX7_takesOfHedge 61 L S g = zPut mX7_takesOfHedge 64 7 2 L S g := ez_putfield kcX7_takesOfHedge dX7_takesOfHedge_61 fl_7_34 rfl L S g
theorem eX7_takesOfHedge_64 (L : pmL) (S : List Value) (g : pmH) : pmV mX7_takesOfHedge 64 L S g = zPush mX7_takesOfHedge 65 (.int (nI 1)) L S g := ez_iconst kcX7_takesOfHedge dX7_takesOfHedge_64 (by decide) rfl L S g
theorem eX7_takesOfHedge_65 (L : pmL) (S : List Value) (g : pmH) : pmV mX7_takesOfHedge 65 L S g = zIret mX7_takesOfHedge S g := ez_ireturn kcX7_takesOfHedge dX7_takesOfHedge_65 L S g
theorem eX7_takesOfHedge_66 (L : pmL) (S : List Value) (g : pmH) : pmV mX7_takesOfHedge 66 L S g = zLdA mX7_takesOfHedge 67 0 L S g := ez_aload_n kcX7_takesOfHedge dX7_takesOfHedge_66 rfl rfl L S g
theorem eX7_takesOfHedge_67 (L : pmL) (S : List Value) (g : pmH) : pmV mX7_takesOfHedge 67 L S g = zGet mX7_takesOfHedge 70 7 0 L S g := ez_getfield kcX7_takesOfHedge dX7_takesOfHedge_67 fl_7_9 rfl L S g
theorem eX7_takesOfHedge_70 (L : pmL) (S : List Value) (g : pmH) : pmV mX7_takesOfHedge 70 L S g = zGet mX7_takesOfHedge 73 4 6 L S g := ez_getfield kcX7_takesOfHedge dX7_takesOfHedge_70 fl_7_81 rfl L S g
theorem eX7_takesOfHedge_73 (L : pmL) (S : List Value) (g : pmH) : pmV mX7_takesOfHedge 73 L S g = zLdA mX7_takesOfHedge 74 0 L S g := ez_aload_n kcX7_takesOfHedge dX7_takesOfHedge_73 rfl rfl L S g
theorem eX7_takesOfHedge_74 (L : pmL) (S : List Value) (g : pmH) : pmV mX7_takesOfHedge 74 L S g = zGet mX7_takesOfHedge 77 7 0 L S g := ez_getfield kcX7_takesOfHedge dX7_takesOfHedge_74 fl_7_9 rfl L S g
theorem eX7_takesOfHedge_77 (L : pmL) (S : List Value) (g : pmH) : pmV mX7_takesOfHedge 77 L S g = zGet mX7_takesOfHedge 80 4 9 L S g := ez_getfield kcX7_takesOfHedge dX7_takesOfHedge_77 fl_7_55 rfl L S g
theorem eX7_takesOfHedge_80 (L : pmL) (S : List Value) (g : pmH) : pmV mX7_takesOfHedge 80 L S g = zLdI mX7_takesOfHedge 81 1 L S g := ez_iload_n kcX7_takesOfHedge dX7_takesOfHedge_80 rfl rfl L S g
theorem eX7_takesOfHedge_81 (L : pmL) (S : List Value) (g : pmH) : pmV mX7_takesOfHedge 81 L S g = zIast mX7_takesOfHedge 82 L S g := ez_iastore kcX7_takesOfHedge dX7_takesOfHedge_81 rfl L S g
theorem eX7_takesOfHedge_82 (L : pmL) (S : List Value) (g : pmH) : pmV mX7_takesOfHedge 82 L S g = zLdA mX7_takesOfHedge 83 0 L S g := ez_aload_n kcX7_takesOfHedge dX7_takesOfHedge_82 rfl rfl L S g
theorem eX7_takesOfHedge_83 (L : pmL) (S : List Value) (g : pmH) : pmV mX7_takesOfHedge 83 L S g = zGet mX7_takesOfHedge 86 7 0 L S g := ez_getfield kcX7_takesOfHedge dX7_takesOfHedge_83 fl_7_9 rfl L S g
theorem eX7_takesOfHedge_86 (L : pmL) (S : List Value) (g : pmH) : pmV mX7_takesOfHedge 86 L S g = zDup mX7_takesOfHedge 87 L S g := ez_dup kcX7_takesOfHedge dX7_takesOfHedge_86 rfl L S g
theorem eX7_takesOfHedge_87 (L : pmL) (S : List Value) (g : pmH) : pmV mX7_takesOfHedge 87 L S g = zGet mX7_takesOfHedge 90 4 9 L S g := ez_getfield kcX7_takesOfHedge dX7_takesOfHedge_87 fl_7_55 rfl L S g
theorem eX7_takesOfHedge_90 (L : pmL) (S : List Value) (g : pmH) : pmV mX7_takesOfHedge 90 L S g = zPush mX7_takesOfHedge 91 (.int (nI 1)) L S g := ez_iconst kcX7_takesOfHedge dX7_takesOfHedge_90 (by decide) rfl L S g
theorem eX7_takesOfHedge_91 (L : pmL) (S : List Value) (g : pmH) : pmV mX7_takesOfHedge 91 L S g = zAdd mX7_takesOfHedge 92 L S g := ez_iadd kcX7_takesOfHedge dX7_takesOfHedge_91 rfl L S g
theorem eX7_takesOfHedge_92 (L : pmL) (S : List Value) (g : pmH) : pmV mX7_takesOfHedge 92 L S g = zPut mX7_takesOfHedge 95 4 9 L S g := ez_putfield kcX7_takesOfHedge dX7_takesOfHedge_92 fl_7_55 rfl L S g
theorem eX7_takesOfHedge_95 (L : pmL) (S : List Value) (g : pmH) : pmV mX7_takesOfHedge 95 L S g = zLdA mX7_takesOfHedge 96 0 L S g := ez_aload_n kcX7_takesOfHedge dX7_takesOfHedge_95 rfl rfl L S g
theorem eX7_takesOfHedge_96 (L : pmL) (S : List Value) (g : pmH) : pmV mX7_takesOfHedge 96 L S g = zPush mX7_takesOfHedge 97 (.int (nI 1)) L S g := ez_iconst kcX7_takesOfHedge dX7_takesOfHedge_96 (by decide) rfl L S g
theorem eX7_takesOfHedge_97 (L : pmL) (S : List Value) (g : pmH) : pmV mX7_takesOfHedge 97 L S g = zPut mX7_takesOfHedge 100 7 1 L S g := ez_putfield kcX7_takesOfHedge dX7_takesOfHedge_97 fl_7_20 rfl L S g
theorem eX7_takesOfHedge_100 (L : pmL) (S : List Value) (g : pmH) : pmV mX7_takesOfHedge 100 L S g = zPush mX7_takesOfHedge 101 (.int (nI 1)) L S g := ez_iconst kcX7_takesOfHedge dX7_takesOfHedge_100 (by decide) rfl L S g
theorem eX7_takesOfHedge_101 (L : pmL) (S : List Value) (g : pmH) : pmV mX7_takesOfHedge 101 L S g = zIret mX7_takesOfHedge S g := ez_ireturn kcX7_takesOfHedge dX7_takesOfHedge_101 L S g
theorem eX8_init_0 (L : pmL) (S : List Value) (g : pmH) : pmV mX8_init 0 L S g = zLdA mX8_init 1 0 L S g := ez_aload_n kcX8_init dX8_init_0 rfl rfl L S g
theorem eX8_init_1 (L : pmL) (S : List Value) (g : pmH) : pmV mX8_init 1 L S g = zObj mX8_init 4 L S g := ez_objinit kcX8_init dX8_init_1 ol_8_3 rfl L S g
theorem eX8_init_4 (L : pmL) (S : List Value) (g : pmH) : pmV mX8_init 4 L S g = zLdA mX8_init 5 0 L S g := ez_aload_n kcX8_init dX8_init_4 rfl rfl L S g
theorem eX8_init_5 (L : pmL) (S : List Value) (g : pmH) : pmV mX8_init 5 L S g = zPush mX8_init 7 (.int (nI 16)) L S g := ez_bipush kcX8_init dX8_init_5 (by decide) rfl L S g
theorem eX8_init_7 (L : pmL) (S : List Value) (g : pmH) : pmV mX8_init 7 L S g = zNewA mX8_init 9 0 L S g := ez_newarray_int kcX8_init dX8_init_7 rfl L S g
theorem eX8_init_9 (L : pmL) (S : List Value) (g : pmH) : pmV mX8_init 9 L S g = zPut mX8_init 12 8 2 L S g := ez_putfield kcX8_init dX8_init_9 fl_8_9 rfl L S g
theorem eX8_init_12 (L : pmL) (S : List Value) (g : pmH) : pmV mX8_init 12 L S g = zLdA mX8_init 13 0 L S g := ez_aload_n kcX8_init dX8_init_12 rfl rfl L S g
theorem eX8_init_13 (L : pmL) (S : List Value) (g : pmH) : pmV mX8_init 13 L S g = zLdA mX8_init 14 1 L S g := ez_aload_n kcX8_init dX8_init_13 rfl rfl L S g
theorem eX8_init_14 (L : pmL) (S : List Value) (g : pmH) : pmV mX8_init 14 L S g = zPut mX8_init 17 8 0 L S g := ez_putfield kcX8_init dX8_init_14 fl_8_15 rfl L S g
theorem eX8_init_17 (L : pmL) (S : List Value) (g : pmH) : pmV mX8_init 17 L S g = zLdA mX8_init 18 0 L S g := ez_aload_n kcX8_init dX8_init_17 rfl rfl L S g
theorem eX8_init_18 (L : pmL) (S : List Value) (g : pmH) : pmV mX8_init 18 L S g = zLdA mX8_init 19 2 L S g := ez_aload_n kcX8_init dX8_init_18 rfl rfl L S g
theorem eX8_init_19 (L : pmL) (S : List Value) (g : pmH) : pmV mX8_init 19 L S g = zPut mX8_init 22 8 1 L S g := ez_putfield kcX8_init dX8_init_19 fl_8_19 rfl L S g
theorem eX8_init_22 (L : pmL) (S : List Value) (g : pmH) : pmV mX8_init 22 L S g = zVret S g := ez_return kcX8_init dX8_init_22 rfl L S g
theorem eX8_sumOverOrders_0 (L : pmL) (S : List Value) (g : pmH) : pmV mX8_sumOverOrders 0 L S g = zLdA mX8_sumOverOrders 1 0 L S g := ez_aload_n kcX8_sumOverOrders dX8_sumOverOrders_0 rfl rfl L S g
theorem eX8_sumOverOrders_1 (L : pmL) (S : List Value) (g : pmH) : pmV mX8_sumOverOrders 1 L S g = zGet mX8_sumOverOrders 4 8 0 L S g := ez_getfield kcX8_sumOverOrders dX8_sumOverOrders_1 fl_8_15 rfl L S g
theorem eX8_sumOverOrders_4 (L : pmL) (S : List Value) (g : pmH) : pmV mX8_sumOverOrders 4 L S g = zGet mX8_sumOverOrders 7 10 0 L S g := ez_getfield kcX8_sumOverOrders dX8_sumOverOrders_4 fl_8_22 rfl L S g
theorem eX8_sumOverOrders_7 (L : pmL) (S : List Value) (g : pmH) : pmV mX8_sumOverOrders 7 L S g = zGet mX8_sumOverOrders 10 4 9 L S g := ez_getfield kcX8_sumOverOrders dX8_sumOverOrders_7 fl_8_28 rfl L S g
theorem eX8_sumOverOrders_10 (L : pmL) (S : List Value) (g : pmH) : pmV mX8_sumOverOrders 10 L S g = zStI mX8_sumOverOrders 11 2 L S g := ez_istore_n kcX8_sumOverOrders dX8_sumOverOrders_10 rfl rfl L S g
theorem eX8_sumOverOrders_11 (L : pmL) (S : List Value) (g : pmH) : pmV mX8_sumOverOrders 11 L S g = zLdA mX8_sumOverOrders 12 0 L S g := ez_aload_n kcX8_sumOverOrders dX8_sumOverOrders_11 rfl rfl L S g
theorem eX8_sumOverOrders_12 (L : pmL) (S : List Value) (g : pmH) : pmV mX8_sumOverOrders 12 L S g = zGet mX8_sumOverOrders 15 8 0 L S g := ez_getfield kcX8_sumOverOrders dX8_sumOverOrders_12 fl_8_15 rfl L S g
theorem eX8_sumOverOrders_15 (L : pmL) (S : List Value) (g : pmH) : pmV mX8_sumOverOrders 15 L S g = zGet mX8_sumOverOrders 18 10 0 L S g := ez_getfield kcX8_sumOverOrders dX8_sumOverOrders_15 fl_8_22 rfl L S g
theorem eX8_sumOverOrders_18 (L : pmL) (S : List Value) (g : pmH) : pmV mX8_sumOverOrders 18 L S g = zLdI mX8_sumOverOrders 19 1 L S g := ez_iload_n kcX8_sumOverOrders dX8_sumOverOrders_18 rfl rfl L S g
theorem eX8_sumOverOrders_19 (L : pmL) (S : List Value) (g : pmH) : pmV mX8_sumOverOrders 19 L S g = yV mX8_sumOverOrders 22 1 mX4_hasHedge 4 2 L S g := (ez_virtual kcX8_sumOverOrders dX8_sumOverOrders_19 ml_8_34 rfl L S g).trans (zCallV_y rfl rfl (by decide) L S g)
theorem eX8_sumOverOrders_22 (L : pmL) (S : List Value) (g : pmH) : pmV mX8_sumOverOrders 22 L S g = zCne mX8_sumOverOrders 25 27 L S g := ez_if_ne kcX8_sumOverOrders dX8_sumOverOrders_22 (by decide) rfl L S g
theorem eX8_sumOverOrders_25 (L : pmL) (S : List Value) (g : pmH) : pmV mX8_sumOverOrders 25 L S g = zPush mX8_sumOverOrders 26 (.int (nI 0)) L S g := ez_iconst kcX8_sumOverOrders dX8_sumOverOrders_25 (by decide) rfl L S g
theorem eX8_sumOverOrders_26 (L : pmL) (S : List Value) (g : pmH) : pmV mX8_sumOverOrders 26 L S g = zIret mX8_sumOverOrders S g := ez_ireturn kcX8_sumOverOrders dX8_sumOverOrders_26 L S g
theorem eX8_sumOverOrders_27 (L : pmL) (S : List Value) (g : pmH) : pmV mX8_sumOverOrders 27 L S g = zLdA mX8_sumOverOrders 28 0 L S g := ez_aload_n kcX8_sumOverOrders dX8_sumOverOrders_27 rfl rfl L S g
theorem eX8_sumOverOrders_28 (L : pmL) (S : List Value) (g : pmH) : pmV mX8_sumOverOrders 28 L S g = zLdI mX8_sumOverOrders 29 2 L S g := ez_iload_n kcX8_sumOverOrders dX8_sumOverOrders_28 rfl rfl L S g
theorem eX8_sumOverOrders_29 (L : pmL) (S : List Value) (g : pmH) : pmV mX8_sumOverOrders 29 L S g = yV mX8_sumOverOrders 32 1 mX8_weighAllSets 8 3 L S g := (ez_virtual kcX8_sumOverOrders dX8_sumOverOrders_29 ml_8_38 rfl L S g).trans (zCallV_y rfl rfl (by decide) L S g)
theorem eX8_sumOverOrders_32 (L : pmL) (S : List Value) (g : pmH) : pmV mX8_sumOverOrders 32 L S g = zPush mX8_sumOverOrders 33 (.int (nI 0)) L S g := ez_iconst kcX8_sumOverOrders dX8_sumOverOrders_32 (by decide) rfl L S g
theorem eX8_sumOverOrders_33 (L : pmL) (S : List Value) (g : pmH) : pmV mX8_sumOverOrders 33 L S g = zStI mX8_sumOverOrders 34 3 L S g := ez_istore_n kcX8_sumOverOrders dX8_sumOverOrders_33 rfl rfl L S g
theorem eX8_sumOverOrders_34 (L : pmL) (S : List Value) (g : pmH) : pmV mX8_sumOverOrders 34 L S g = zPush mX8_sumOverOrders 35 (.int (nI 0)) L S g := ez_iconst kcX8_sumOverOrders dX8_sumOverOrders_34 (by decide) rfl L S g
theorem eX8_sumOverOrders_35 (L : pmL) (S : List Value) (g : pmH) : pmV mX8_sumOverOrders 35 L S g = zStI mX8_sumOverOrders 37 4 L S g := ez_istore kcX8_sumOverOrders dX8_sumOverOrders_35 rfl L S g
theorem eX8_sumOverOrders_37 (L : pmL) (S : List Value) (g : pmH) : pmV mX8_sumOverOrders 37 L S g = zLdI mX8_sumOverOrders 39 4 L S g := ez_iload kcX8_sumOverOrders dX8_sumOverOrders_37 rfl L S g
theorem eX8_sumOverOrders_39 (L : pmL) (S : List Value) (g : pmH) : pmV mX8_sumOverOrders 39 L S g = zPush mX8_sumOverOrders 40 (.int (nI 1)) L S g := ez_iconst kcX8_sumOverOrders dX8_sumOverOrders_39 (by decide) rfl L S g
theorem eX8_sumOverOrders_40 (L : pmL) (S : List Value) (g : pmH) : pmV mX8_sumOverOrders 40 L S g = zLdI mX8_sumOverOrders 41 2 L S g := ez_iload_n kcX8_sumOverOrders dX8_sumOverOrders_40 rfl rfl L S g
theorem eX8_sumOverOrders_41 (L : pmL) (S : List Value) (g : pmH) : pmV mX8_sumOverOrders 41 L S g = zShl mX8_sumOverOrders 42 L S g := ez_ishl kcX8_sumOverOrders dX8_sumOverOrders_41 rfl L S g
theorem eX8_sumOverOrders_42 (L : pmL) (S : List Value) (g : pmH) : pmV mX8_sumOverOrders 42 L S g = zBge mX8_sumOverOrders 45 111 L S g := ez_icmp_ge kcX8_sumOverOrders dX8_sumOverOrders_42 (by decide) rfl L S g
theorem eX8_sumOverOrders_45 (L : pmL) (S : List Value) (g : pmH) : pmV mX8_sumOverOrders 45 L S g = zLdI mX8_sumOverOrders 47 4 L S g := ez_iload kcX8_sumOverOrders dX8_sumOverOrders_45 rfl L S g
theorem eX8_sumOverOrders_47 (L : pmL) (S : List Value) (g : pmH) : pmV mX8_sumOverOrders 47 L S g = zLdI mX8_sumOverOrders 48 1 L S g := ez_iload_n kcX8_sumOverOrders dX8_sumOverOrders_47 rfl rfl L S g
theorem eX8_sumOverOrders_48 (L : pmL) (S : List Value) (g : pmH) : pmV mX8_sumOverOrders 48 L S g = zShr mX8_sumOverOrders 49 L S g := ez_ishr kcX8_sumOverOrders dX8_sumOverOrders_48 rfl L S g
theorem eX8_sumOverOrders_49 (L : pmL) (S : List Value) (g : pmH) : pmV mX8_sumOverOrders 49 L S g = zPush mX8_sumOverOrders 50 (.int (nI 1)) L S g := ez_iconst kcX8_sumOverOrders dX8_sumOverOrders_49 (by decide) rfl L S g
theorem eX8_sumOverOrders_50 (L : pmL) (S : List Value) (g : pmH) : pmV mX8_sumOverOrders 50 L S g = zAnd mX8_sumOverOrders 51 L S g := ez_iand kcX8_sumOverOrders dX8_sumOverOrders_50 rfl L S g
theorem eX8_sumOverOrders_51 (L : pmL) (S : List Value) (g : pmH) : pmV mX8_sumOverOrders 51 L S g = zCne mX8_sumOverOrders 54 105 L S g := ez_if_ne kcX8_sumOverOrders dX8_sumOverOrders_51 (by decide) rfl L S g
theorem eX8_sumOverOrders_54 (L : pmL) (S : List Value) (g : pmH) : pmV mX8_sumOverOrders 54 L S g = zLdI mX8_sumOverOrders 56 4 L S g := ez_iload kcX8_sumOverOrders dX8_sumOverOrders_54 rfl L S g
theorem eX8_sumOverOrders_56 (L : pmL) (S : List Value) (g : pmH) : pmV mX8_sumOverOrders 56 L S g = yS mX8_sumOverOrders 59 1 mJ6_bitCount_0f7a4 1 L S g := (ez_static kcX8_sumOverOrders dX8_sumOverOrders_56 ml_8_42 (by decide) rfl L S g).trans (zCall_y rfl (by decide) L S g)
theorem eX8_sumOverOrders_59 (L : pmL) (S : List Value) (g : pmH) : pmV mX8_sumOverOrders 59 L S g = zStI mX8_sumOverOrders 61 5 L S g := ez_istore kcX8_sumOverOrders dX8_sumOverOrders_59 rfl L S g
theorem eX8_sumOverOrders_61 (L : pmL) (S : List Value) (g : pmH) : pmV mX8_sumOverOrders 61 L S g = zPush mX8_sumOverOrders 64 (.ref 1) L S g := ez_getstatic kcX8_sumOverOrders dX8_sumOverOrders_61 sl_8_48 rfl L S g
theorem eX8_sumOverOrders_64 (L : pmL) (S : List Value) (g : pmH) : pmV mX8_sumOverOrders 64 L S g = zLdI mX8_sumOverOrders 66 5 L S g := ez_iload kcX8_sumOverOrders dX8_sumOverOrders_64 rfl L S g
theorem eX8_sumOverOrders_66 (L : pmL) (S : List Value) (g : pmH) : pmV mX8_sumOverOrders 66 L S g = zIald mX8_sumOverOrders 67 L S g := ez_iaload kcX8_sumOverOrders dX8_sumOverOrders_66 rfl L S g
theorem eX8_sumOverOrders_67 (L : pmL) (S : List Value) (g : pmH) : pmV mX8_sumOverOrders 67 L S g = zPush mX8_sumOverOrders 70 (.ref 1) L S g := ez_getstatic kcX8_sumOverOrders dX8_sumOverOrders_67 sl_8_48 rfl L S g
theorem eX8_sumOverOrders_70 (L : pmL) (S : List Value) (g : pmH) : pmV mX8_sumOverOrders 70 L S g = zLdI mX8_sumOverOrders 71 2 L S g := ez_iload_n kcX8_sumOverOrders dX8_sumOverOrders_70 rfl rfl L S g
theorem eX8_sumOverOrders_71 (L : pmL) (S : List Value) (g : pmH) : pmV mX8_sumOverOrders 71 L S g = zPush mX8_sumOverOrders 72 (.int (nI 1)) L S g := ez_iconst kcX8_sumOverOrders dX8_sumOverOrders_71 (by decide) rfl L S g
theorem eX8_sumOverOrders_72 (L : pmL) (S : List Value) (g : pmH) : pmV mX8_sumOverOrders 72 L S g = zSub mX8_sumOverOrders 73 L S g := ez_isub kcX8_sumOverOrders dX8_sumOverOrders_72 rfl L S g
theorem eX8_sumOverOrders_73 (L : pmL) (S : List Value) (g : pmH) : pmV mX8_sumOverOrders 73 L S g = zLdI mX8_sumOverOrders 75 5 L S g := ez_iload kcX8_sumOverOrders dX8_sumOverOrders_73 rfl L S g
theorem eX8_sumOverOrders_75 (L : pmL) (S : List Value) (g : pmH) : pmV mX8_sumOverOrders 75 L S g = zSub mX8_sumOverOrders 76 L S g := ez_isub kcX8_sumOverOrders dX8_sumOverOrders_75 rfl L S g
theorem eX8_sumOverOrders_76 (L : pmL) (S : List Value) (g : pmH) : pmV mX8_sumOverOrders 76 L S g = zIald mX8_sumOverOrders 77 L S g := ez_iaload kcX8_sumOverOrders dX8_sumOverOrders_76 rfl L S g
theorem eX8_sumOverOrders_77 (L : pmL) (S : List Value) (g : pmH) : pmV mX8_sumOverOrders 77 L S g = zMul mX8_sumOverOrders 78 L S g := ez_imul kcX8_sumOverOrders dX8_sumOverOrders_77 rfl L S g
theorem eX8_sumOverOrders_78 (L : pmL) (S : List Value) (g : pmH) : pmV mX8_sumOverOrders 78 L S g = zStI mX8_sumOverOrders 80 6 L S g := ez_istore kcX8_sumOverOrders dX8_sumOverOrders_78 rfl L S g
theorem eX8_sumOverOrders_80 (L : pmL) (S : List Value) (g : pmH) : pmV mX8_sumOverOrders 80 L S g = zLdI mX8_sumOverOrders 81 3 L S g := ez_iload_n kcX8_sumOverOrders dX8_sumOverOrders_80 rfl rfl L S g
theorem eX8_sumOverOrders_81 (L : pmL) (S : List Value) (g : pmH) : pmV mX8_sumOverOrders 81 L S g = zLdI mX8_sumOverOrders 83 6 L S g := ez_iload kcX8_sumOverOrders dX8_sumOverOrders_81 rfl L S g
theorem eX8_sumOverOrders_83 (L : pmL) (S : List Value) (g : pmH) : pmV mX8_sumOverOrders 83 L S g = zLdA mX8_sumOverOrders 84 0 L S g := ez_aload_n kcX8_sumOverOrders dX8_sumOverOrders_83 rfl rfl L S g
theorem eX8_sumOverOrders_84 (L : pmL) (S : List Value) (g : pmH) : pmV mX8_sumOverOrders 84 L S g = zGet mX8_sumOverOrders 87 8 2 L S g := ez_getfield kcX8_sumOverOrders dX8_sumOverOrders_84 fl_8_9 rfl L S g
theorem eX8_sumOverOrders_87 (L : pmL) (S : List Value) (g : pmH) : pmV mX8_sumOverOrders 87 L S g = zLdI mX8_sumOverOrders 89 4 L S g := ez_iload kcX8_sumOverOrders dX8_sumOverOrders_87 rfl L S g
theorem eX8_sumOverOrders_89 (L : pmL) (S : List Value) (g : pmH) : pmV mX8_sumOverOrders 89 L S g = zPush mX8_sumOverOrders 90 (.int (nI 1)) L S g := ez_iconst kcX8_sumOverOrders dX8_sumOverOrders_89 (by decide) rfl L S g
theorem eX8_sumOverOrders_90 (L : pmL) (S : List Value) (g : pmH) : pmV mX8_sumOverOrders 90 L S g = zLdI mX8_sumOverOrders 91 1 L S g := ez_iload_n kcX8_sumOverOrders dX8_sumOverOrders_90 rfl rfl L S g
theorem eX8_sumOverOrders_91 (L : pmL) (S : List Value) (g : pmH) : pmV mX8_sumOverOrders 91 L S g = zShl mX8_sumOverOrders 92 L S g := ez_ishl kcX8_sumOverOrders dX8_sumOverOrders_91 rfl L S g
theorem eX8_sumOverOrders_92 (L : pmL) (S : List Value) (g : pmH) : pmV mX8_sumOverOrders 92 L S g = zOr mX8_sumOverOrders 93 L S g := ez_ior kcX8_sumOverOrders dX8_sumOverOrders_92 rfl L S g
theorem eX8_sumOverOrders_93 (L : pmL) (S : List Value) (g : pmH) : pmV mX8_sumOverOrders 93 L S g = zIald mX8_sumOverOrders 94 L S g := ez_iaload kcX8_sumOverOrders dX8_sumOverOrders_93 rfl L S g
theorem eX8_sumOverOrders_94 (L : pmL) (S : List Value) (g : pmH) : pmV mX8_sumOverOrders 94 L S g = zLdA mX8_sumOverOrders 95 0 L S g := ez_aload_n kcX8_sumOverOrders dX8_sumOverOrders_94 rfl rfl L S g
theorem eX8_sumOverOrders_95 (L : pmL) (S : List Value) (g : pmH) : pmV mX8_sumOverOrders 95 L S g = zGet mX8_sumOverOrders 98 8 2 L S g := ez_getfield kcX8_sumOverOrders dX8_sumOverOrders_95 fl_8_9 rfl L S g
theorem eX8_sumOverOrders_98 (L : pmL) (S : List Value) (g : pmH) : pmV mX8_sumOverOrders 98 L S g = zLdI mX8_sumOverOrders 100 4 L S g := ez_iload kcX8_sumOverOrders dX8_sumOverOrders_98 rfl L S g
theorem eX8_sumOverOrders_100 (L : pmL) (S : List Value) (g : pmH) : pmV mX8_sumOverOrders 100 L S g = zIald mX8_sumOverOrders 101 L S g := ez_iaload kcX8_sumOverOrders dX8_sumOverOrders_100 rfl L S g
theorem eX8_sumOverOrders_101 (L : pmL) (S : List Value) (g : pmH) : pmV mX8_sumOverOrders 101 L S g = zSub mX8_sumOverOrders 102 L S g := ez_isub kcX8_sumOverOrders dX8_sumOverOrders_101 rfl L S g
theorem eX8_sumOverOrders_102 (L : pmL) (S : List Value) (g : pmH) : pmV mX8_sumOverOrders 102 L S g = zMul mX8_sumOverOrders 103 L S g := ez_imul kcX8_sumOverOrders dX8_sumOverOrders_102 rfl L S g
theorem eX8_sumOverOrders_103 (L : pmL) (S : List Value) (g : pmH) : pmV mX8_sumOverOrders 103 L S g = zAdd mX8_sumOverOrders 104 L S g := ez_iadd kcX8_sumOverOrders dX8_sumOverOrders_103 rfl L S g
theorem eX8_sumOverOrders_104 (L : pmL) (S : List Value) (g : pmH) : pmV mX8_sumOverOrders 104 L S g = zStI mX8_sumOverOrders 105 3 L S g := ez_istore_n kcX8_sumOverOrders dX8_sumOverOrders_104 rfl rfl L S g
theorem eX8_sumOverOrders_105 (L : pmL) (S : List Value) (g : pmH) : pmV mX8_sumOverOrders 105 L S g = zInc mX8_sumOverOrders 108 4 (nI 1) L S g := ez_iinc kcX8_sumOverOrders dX8_sumOverOrders_105 (by decide) rfl L S g
theorem eX8_sumOverOrders_108 (L : pmL) (S : List Value) (g : pmH) : pmV mX8_sumOverOrders 108 L S g = zNx mX8_sumOverOrders 37 L S g := ez_goto kcX8_sumOverOrders dX8_sumOverOrders_108 (by decide) L S g
theorem eX8_sumOverOrders_111 (L : pmL) (S : List Value) (g : pmH) : pmV mX8_sumOverOrders 111 L S g = zLdI mX8_sumOverOrders 112 3 L S g := ez_iload_n kcX8_sumOverOrders dX8_sumOverOrders_111 rfl rfl L S g
theorem eX8_sumOverOrders_112 (L : pmL) (S : List Value) (g : pmH) : pmV mX8_sumOverOrders 112 L S g = zIret mX8_sumOverOrders S g := ez_ireturn kcX8_sumOverOrders dX8_sumOverOrders_112 L S g
theorem eX8_weighAllSets_0 (L : pmL) (S : List Value) (g : pmH) : pmV mX8_weighAllSets 0 L S g = zPush mX8_weighAllSets 1 (.int (nI 0)) L S g := ez_iconst kcX8_weighAllSets dX8_weighAllSets_0 (by decide) rfl L S g
theorem eX8_weighAllSets_1 (L : pmL) (S : List Value) (g : pmH) : pmV mX8_weighAllSets 1 L S g = zStI mX8_weighAllSets 2 2 L S g := ez_istore_n kcX8_weighAllSets dX8_weighAllSets_1 rfl rfl L S g
theorem eX8_weighAllSets_2 (L : pmL) (S : List Value) (g : pmH) : pmV mX8_weighAllSets 2 L S g = zLdI mX8_weighAllSets 3 2 L S g := ez_iload_n kcX8_weighAllSets dX8_weighAllSets_2 rfl rfl L S g
theorem eX8_weighAllSets_3 (L : pmL) (S : List Value) (g : pmH) : pmV mX8_weighAllSets 3 L S g = zPush mX8_weighAllSets 4 (.int (nI 1)) L S g := ez_iconst kcX8_weighAllSets dX8_weighAllSets_3 (by decide) rfl L S g
theorem eX8_weighAllSets_4 (L : pmL) (S : List Value) (g : pmH) : pmV mX8_weighAllSets 4 L S g = zLdI mX8_weighAllSets 5 1 L S g := ez_iload_n kcX8_weighAllSets dX8_weighAllSets_4 rfl rfl L S g
theorem eX8_weighAllSets_5 (L : pmL) (S : List Value) (g : pmH) : pmV mX8_weighAllSets 5 L S g = zShl mX8_weighAllSets 6 L S g := ez_ishl kcX8_weighAllSets dX8_weighAllSets_5 rfl L S g
theorem eX8_weighAllSets_6 (L : pmL) (S : List Value) (g : pmH) : pmV mX8_weighAllSets 6 L S g = zBge mX8_weighAllSets 9 59 L S g := ez_icmp_ge kcX8_weighAllSets dX8_weighAllSets_6 (by decide) rfl L S g
theorem eX8_weighAllSets_9 (L : pmL) (S : List Value) (g : pmH) : pmV mX8_weighAllSets 9 L S g = zLdA mX8_weighAllSets 10 0 L S g := ez_aload_n kcX8_weighAllSets dX8_weighAllSets_9 rfl rfl L S g
theorem eX8_weighAllSets_10 (L : pmL) (S : List Value) (g : pmH) : pmV mX8_weighAllSets 10 L S g = zGet mX8_weighAllSets 13 8 1 L S g := ez_getfield kcX8_weighAllSets dX8_weighAllSets_10 fl_8_19 rfl L S g
theorem eX8_weighAllSets_13 (L : pmL) (S : List Value) (g : pmH) : pmV mX8_weighAllSets 13 L S g = zLdA mX8_weighAllSets 14 0 L S g := ez_aload_n kcX8_weighAllSets dX8_weighAllSets_13 rfl rfl L S g
theorem eX8_weighAllSets_14 (L : pmL) (S : List Value) (g : pmH) : pmV mX8_weighAllSets 14 L S g = zGet mX8_weighAllSets 17 8 0 L S g := ez_getfield kcX8_weighAllSets dX8_weighAllSets_14 fl_8_15 rfl L S g
theorem eX8_weighAllSets_17 (L : pmL) (S : List Value) (g : pmH) : pmV mX8_weighAllSets 17 L S g = yV mX8_weighAllSets 20 1 mX10_takeFrom 10 3 L S g := (ez_virtual kcX8_weighAllSets dX8_weighAllSets_17 ml_8_51 rfl L S g).trans (zCallV_y rfl rfl (by decide) L S g)
theorem eX8_weighAllSets_20 (L : pmL) (S : List Value) (g : pmH) : pmV mX8_weighAllSets 20 L S g = zLdA mX8_weighAllSets 21 0 L S g := ez_aload_n kcX8_weighAllSets dX8_weighAllSets_20 rfl rfl L S g
theorem eX8_weighAllSets_21 (L : pmL) (S : List Value) (g : pmH) : pmV mX8_weighAllSets 21 L S g = zGet mX8_weighAllSets 24 8 1 L S g := ez_getfield kcX8_weighAllSets dX8_weighAllSets_21 fl_8_19 rfl L S g
theorem eX8_weighAllSets_24 (L : pmL) (S : List Value) (g : pmH) : pmV mX8_weighAllSets 24 L S g = zLdI mX8_weighAllSets 25 2 L S g := ez_iload_n kcX8_weighAllSets dX8_weighAllSets_24 rfl rfl L S g
theorem eX8_weighAllSets_25 (L : pmL) (S : List Value) (g : pmH) : pmV mX8_weighAllSets 25 L S g = yV mX8_weighAllSets 28 1 mX10_leaveStanding 10 3 L S g := (ez_virtual kcX8_weighAllSets dX8_weighAllSets_25 ml_8_55 rfl L S g).trans (zCallV_y rfl rfl (by decide) L S g)
theorem eX8_weighAllSets_28 (L : pmL) (S : List Value) (g : pmH) : pmV mX8_weighAllSets 28 L S g = zLdA mX8_weighAllSets 29 0 L S g := ez_aload_n kcX8_weighAllSets dX8_weighAllSets_28 rfl rfl L S g
theorem eX8_weighAllSets_29 (L : pmL) (S : List Value) (g : pmH) : pmV mX8_weighAllSets 29 L S g = zGet mX8_weighAllSets 32 8 1 L S g := ez_getfield kcX8_weighAllSets dX8_weighAllSets_29 fl_8_19 rfl L S g
theorem eX8_weighAllSets_32 (L : pmL) (S : List Value) (g : pmH) : pmV mX8_weighAllSets 32 L S g = zPush mX8_weighAllSets 34 (.int (nI 30)) L S g := ez_bipush kcX8_weighAllSets dX8_weighAllSets_32 (by decide) rfl L S g
theorem eX8_weighAllSets_34 (L : pmL) (S : List Value) (g : pmH) : pmV mX8_weighAllSets 34 L S g = yV mX8_weighAllSets 37 1 mX10_passHours 10 3 L S g := (ez_virtual kcX8_weighAllSets dX8_weighAllSets_34 ml_8_58 rfl L S g).trans (zCallV_y rfl rfl (by decide) L S g)
theorem eX8_weighAllSets_37 (L : pmL) (S : List Value) (g : pmH) : pmV mX8_weighAllSets 37 L S g = zLdA mX8_weighAllSets 38 0 L S g := ez_aload_n kcX8_weighAllSets dX8_weighAllSets_37 rfl rfl L S g
theorem eX8_weighAllSets_38 (L : pmL) (S : List Value) (g : pmH) : pmV mX8_weighAllSets 38 L S g = zGet mX8_weighAllSets 41 8 2 L S g := ez_getfield kcX8_weighAllSets dX8_weighAllSets_38 fl_8_9 rfl L S g
theorem eX8_weighAllSets_41 (L : pmL) (S : List Value) (g : pmH) : pmV mX8_weighAllSets 41 L S g = zLdI mX8_weighAllSets 42 2 L S g := ez_iload_n kcX8_weighAllSets dX8_weighAllSets_41 rfl rfl L S g
theorem eX8_weighAllSets_42 (L : pmL) (S : List Value) (g : pmH) : pmV mX8_weighAllSets 42 L S g = zLdA mX8_weighAllSets 43 0 L S g := ez_aload_n kcX8_weighAllSets dX8_weighAllSets_42 rfl rfl L S g
theorem eX8_weighAllSets_43 (L : pmL) (S : List Value) (g : pmH) : pmV mX8_weighAllSets 43 L S g = zGet mX8_weighAllSets 46 8 1 L S g := ez_getfield kcX8_weighAllSets dX8_weighAllSets_43 fl_8_19 rfl L S g
theorem eX8_weighAllSets_46 (L : pmL) (S : List Value) (g : pmH) : pmV mX8_weighAllSets 46 L S g = yV mX8_weighAllSets 49 0 mX10_gladChildren 10 3 L S g := (ez_virtual kcX8_weighAllSets dX8_weighAllSets_46 ml_8_61 rfl L S g).trans (zCallV_y rfl rfl (by decide) L S g)
theorem eX8_weighAllSets_49 (L : pmL) (S : List Value) (g : pmH) : pmV mX8_weighAllSets 49 L S g = yS mX8_weighAllSets 52 1 mJ6_bitCount_0f7a4 1 L S g := (ez_static kcX8_weighAllSets dX8_weighAllSets_49 ml_8_42 (by decide) rfl L S g).trans (zCall_y rfl (by decide) L S g)
theorem eX8_weighAllSets_52 (L : pmL) (S : List Value) (g : pmH) : pmV mX8_weighAllSets 52 L S g = zIast mX8_weighAllSets 53 L S g := ez_iastore kcX8_weighAllSets dX8_weighAllSets_52 rfl L S g
theorem eX8_weighAllSets_53 (L : pmL) (S : List Value) (g : pmH) : pmV mX8_weighAllSets 53 L S g = zInc mX8_weighAllSets 56 2 (nI 1) L S g := ez_iinc kcX8_weighAllSets dX8_weighAllSets_53 (by decide) rfl L S g
theorem eX8_weighAllSets_56 (L : pmL) (S : List Value) (g : pmH) : pmV mX8_weighAllSets 56 L S g = zNx mX8_weighAllSets 2 L S g := ez_goto kcX8_weighAllSets dX8_weighAllSets_56 (by decide) L S g
theorem eX8_weighAllSets_59 (L : pmL) (S : List Value) (g : pmH) : pmV mX8_weighAllSets 59 L S g = zVret S g := ez_return kcX8_weighAllSets dX8_weighAllSets_59 rfl L S g
theorem eX9_init_0 (L : pmL) (S : List Value) (g : pmH) : pmV mX9_init 0 L S g = zLdA mX9_init 1 0 L S g := ez_aload_n kcX9_init dX9_init_0 rfl rfl L S g
theorem eX9_init_1 (L : pmL) (S : List Value) (g : pmH) : pmV mX9_init 1 L S g = zObj mX9_init 4 L S g := ez_objinit kcX9_init dX9_init_1 ol_9_3 rfl L S g
theorem eX9_init_4 (L : pmL) (S : List Value) (g : pmH) : pmV mX9_init 4 L S g = zLdA mX9_init 5 0 L S g := ez_aload_n kcX9_init dX9_init_4 rfl rfl L S g
theorem eX9_init_5 (L : pmL) (S : List Value) (g : pmH) : pmV mX9_init 5 L S g = zPush mX9_init 6 (.int (nI 5)) L S g := ez_iconst kcX9_init dX9_init_5 (by decide) rfl L S g
theorem eX9_init_6 (L : pmL) (S : List Value) (g : pmH) : pmV mX9_init 6 L S g = zNewA mX9_init 8 0 L S g := ez_newarray_int kcX9_init dX9_init_6 rfl L S g
theorem eX9_init_8 (L : pmL) (S : List Value) (g : pmH) : pmV mX9_init 8 L S g = zPut mX9_init 11 9 1 L S g := ez_putfield kcX9_init dX9_init_8 fl_9_9 rfl L S g
theorem eX9_init_11 (L : pmL) (S : List Value) (g : pmH) : pmV mX9_init 11 L S g = zLdA mX9_init 12 0 L S g := ez_aload_n kcX9_init dX9_init_11 rfl rfl L S g
theorem eX9_init_12 (L : pmL) (S : List Value) (g : pmH) : pmV mX9_init 12 L S g = zLdA mX9_init 13 1 L S g := ez_aload_n kcX9_init dX9_init_12 rfl rfl L S g
theorem eX9_init_13 (L : pmL) (S : List Value) (g : pmH) : pmV mX9_init 13 L S g = zPut mX9_init 16 9 0 L S g := ez_putfield kcX9_init dX9_init_13 fl_9_15 rfl L S g
theorem eX9_init_16 (L : pmL) (S : List Value) (g : pmH) : pmV mX9_init 16 L S g = zVret S g := ez_return kcX9_init dX9_init_16 rfl L S g
theorem eX9_tryAllOrders_0 (L : pmL) (S : List Value) (g : pmH) : pmV mX9_tryAllOrders 0 L S g = zLdA mX9_tryAllOrders 1 0 L S g := ez_aload_n kcX9_tryAllOrders dX9_tryAllOrders_0 rfl rfl L S g
theorem eX9_tryAllOrders_1 (L : pmL) (S : List Value) (g : pmH) : pmV mX9_tryAllOrders 1 L S g = zPush mX9_tryAllOrders 3 (.int (-9)) L S g := ez_bipush kcX9_tryAllOrders dX9_tryAllOrders_1 (by decide) rfl L S g
theorem eX9_tryAllOrders_3 (L : pmL) (S : List Value) (g : pmH) : pmV mX9_tryAllOrders 3 L S g = zPut mX9_tryAllOrders 6 9 2 L S g := ez_putfield kcX9_tryAllOrders dX9_tryAllOrders_3 fl_9_19 rfl L S g
theorem eX9_tryAllOrders_6 (L : pmL) (S : List Value) (g : pmH) : pmV mX9_tryAllOrders 6 L S g = zLdA mX9_tryAllOrders 7 0 L S g := ez_aload_n kcX9_tryAllOrders dX9_tryAllOrders_6 rfl rfl L S g
theorem eX9_tryAllOrders_7 (L : pmL) (S : List Value) (g : pmH) : pmV mX9_tryAllOrders 7 L S g = zPush mX9_tryAllOrders 9 (.int (-9)) L S g := ez_bipush kcX9_tryAllOrders dX9_tryAllOrders_7 (by decide) rfl L S g
theorem eX9_tryAllOrders_9 (L : pmL) (S : List Value) (g : pmH) : pmV mX9_tryAllOrders 9 L S g = zPut mX9_tryAllOrders 12 9 3 L S g := ez_putfield kcX9_tryAllOrders dX9_tryAllOrders_9 fl_9_23 rfl L S g
theorem eX9_tryAllOrders_12 (L : pmL) (S : List Value) (g : pmH) : pmV mX9_tryAllOrders 12 L S g = zPush mX9_tryAllOrders 15 (.ref 1) L S g := ez_getstatic kcX9_tryAllOrders dX9_tryAllOrders_12 sl_9_26 rfl L S g
theorem eX9_tryAllOrders_15 (L : pmL) (S : List Value) (g : pmH) : pmV mX9_tryAllOrders 15 L S g = zLdA mX9_tryAllOrders 16 0 L S g := ez_aload_n kcX9_tryAllOrders dX9_tryAllOrders_15 rfl rfl L S g
theorem eX9_tryAllOrders_16 (L : pmL) (S : List Value) (g : pmH) : pmV mX9_tryAllOrders 16 L S g = zGet mX9_tryAllOrders 19 9 0 L S g := ez_getfield kcX9_tryAllOrders dX9_tryAllOrders_16 fl_9_15 rfl L S g
theorem eX9_tryAllOrders_19 (L : pmL) (S : List Value) (g : pmH) : pmV mX9_tryAllOrders 19 L S g = zGet mX9_tryAllOrders 22 10 0 L S g := ez_getfield kcX9_tryAllOrders dX9_tryAllOrders_19 fl_9_29 rfl L S g
theorem eX9_tryAllOrders_22 (L : pmL) (S : List Value) (g : pmH) : pmV mX9_tryAllOrders 22 L S g = zGet mX9_tryAllOrders 25 4 8 L S g := ez_getfield kcX9_tryAllOrders dX9_tryAllOrders_22 fl_9_35 rfl L S g
theorem eX9_tryAllOrders_25 (L : pmL) (S : List Value) (g : pmH) : pmV mX9_tryAllOrders 25 L S g = zIald mX9_tryAllOrders 26 L S g := ez_iaload kcX9_tryAllOrders dX9_tryAllOrders_25 rfl L S g
theorem eX9_tryAllOrders_26 (L : pmL) (S : List Value) (g : pmH) : pmV mX9_tryAllOrders 26 L S g = zStI mX9_tryAllOrders 27 1 L S g := ez_istore_n kcX9_tryAllOrders dX9_tryAllOrders_26 rfl rfl L S g
theorem eX9_tryAllOrders_27 (L : pmL) (S : List Value) (g : pmH) : pmV mX9_tryAllOrders 27 L S g = zPush mX9_tryAllOrders 28 (.int (nI 0)) L S g := ez_iconst kcX9_tryAllOrders dX9_tryAllOrders_27 (by decide) rfl L S g
theorem eX9_tryAllOrders_28 (L : pmL) (S : List Value) (g : pmH) : pmV mX9_tryAllOrders 28 L S g = zStI mX9_tryAllOrders 29 2 L S g := ez_istore_n kcX9_tryAllOrders dX9_tryAllOrders_28 rfl rfl L S g
theorem eX9_tryAllOrders_29 (L : pmL) (S : List Value) (g : pmH) : pmV mX9_tryAllOrders 29 L S g = zLdI mX9_tryAllOrders 30 2 L S g := ez_iload_n kcX9_tryAllOrders dX9_tryAllOrders_29 rfl rfl L S g
theorem eX9_tryAllOrders_30 (L : pmL) (S : List Value) (g : pmH) : pmV mX9_tryAllOrders 30 L S g = zLdI mX9_tryAllOrders 31 1 L S g := ez_iload_n kcX9_tryAllOrders dX9_tryAllOrders_30 rfl rfl L S g
theorem eX9_tryAllOrders_31 (L : pmL) (S : List Value) (g : pmH) : pmV mX9_tryAllOrders 31 L S g = zBge mX9_tryAllOrders 34 89 L S g := ez_icmp_ge kcX9_tryAllOrders dX9_tryAllOrders_31 (by decide) rfl L S g
theorem eX9_tryAllOrders_34 (L : pmL) (S : List Value) (g : pmH) : pmV mX9_tryAllOrders 34 L S g = zLdA mX9_tryAllOrders 35 0 L S g := ez_aload_n kcX9_tryAllOrders dX9_tryAllOrders_34 rfl rfl L S g
theorem eX9_tryAllOrders_35 (L : pmL) (S : List Value) (g : pmH) : pmV mX9_tryAllOrders 35 L S g = zLdI mX9_tryAllOrders 36 2 L S g := ez_iload_n kcX9_tryAllOrders dX9_tryAllOrders_35 rfl rfl L S g
theorem eX9_tryAllOrders_36 (L : pmL) (S : List Value) (g : pmH) : pmV mX9_tryAllOrders 36 L S g = yV mX9_tryAllOrders 39 1 mX9_layOut 9 8 L S g := (ez_virtual kcX9_tryAllOrders dX9_tryAllOrders_36 ml_9_40 rfl L S g).trans (zCallV_y rfl rfl (by decide) L S g)
theorem eX9_tryAllOrders_39 (L : pmL) (S : List Value) (g : pmH) : pmV mX9_tryAllOrders 39 L S g = zStI mX9_tryAllOrders 40 3 L S g := ez_istore_n kcX9_tryAllOrders dX9_tryAllOrders_39 rfl rfl L S g
theorem eX9_tryAllOrders_40 (L : pmL) (S : List Value) (g : pmH) : pmV mX9_tryAllOrders 40 L S g = zLdA mX9_tryAllOrders 41 0 L S g := ez_aload_n kcX9_tryAllOrders dX9_tryAllOrders_40 rfl rfl L S g
theorem eX9_tryAllOrders_41 (L : pmL) (S : List Value) (g : pmH) : pmV mX9_tryAllOrders 41 L S g = yV mX9_tryAllOrders 44 0 mX9_gladByOrder 9 3 L S g := (ez_virtual kcX9_tryAllOrders dX9_tryAllOrders_41 ml_9_44 rfl L S g).trans (zCallV_y rfl rfl (by decide) L S g)
theorem eX9_tryAllOrders_44 (L : pmL) (S : List Value) (g : pmH) : pmV mX9_tryAllOrders 44 L S g = zStI mX9_tryAllOrders 46 4 L S g := ez_istore kcX9_tryAllOrders dX9_tryAllOrders_44 rfl L S g
theorem eX9_tryAllOrders_46 (L : pmL) (S : List Value) (g : pmH) : pmV mX9_tryAllOrders 46 L S g = zLdI mX9_tryAllOrders 48 4 L S g := ez_iload kcX9_tryAllOrders dX9_tryAllOrders_46 rfl L S g
theorem eX9_tryAllOrders_48 (L : pmL) (S : List Value) (g : pmH) : pmV mX9_tryAllOrders 48 L S g = zLdA mX9_tryAllOrders 49 0 L S g := ez_aload_n kcX9_tryAllOrders dX9_tryAllOrders_48 rfl rfl L S g
theorem eX9_tryAllOrders_49 (L : pmL) (S : List Value) (g : pmH) : pmV mX9_tryAllOrders 49 L S g = zGet mX9_tryAllOrders 52 9 2 L S g := ez_getfield kcX9_tryAllOrders dX9_tryAllOrders_49 fl_9_19 rfl L S g
theorem eX9_tryAllOrders_52 (L : pmL) (S : List Value) (g : pmH) : pmV mX9_tryAllOrders 52 L S g = zBgt mX9_tryAllOrders 55 72 L S g := ez_icmp_gt kcX9_tryAllOrders dX9_tryAllOrders_52 (by decide) rfl L S g
theorem eX9_tryAllOrders_55 (L : pmL) (S : List Value) (g : pmH) : pmV mX9_tryAllOrders 55 L S g = zLdI mX9_tryAllOrders 57 4 L S g := ez_iload kcX9_tryAllOrders dX9_tryAllOrders_55 rfl L S g
theorem eX9_tryAllOrders_57 (L : pmL) (S : List Value) (g : pmH) : pmV mX9_tryAllOrders 57 L S g = zLdA mX9_tryAllOrders 58 0 L S g := ez_aload_n kcX9_tryAllOrders dX9_tryAllOrders_57 rfl rfl L S g
theorem eX9_tryAllOrders_58 (L : pmL) (S : List Value) (g : pmH) : pmV mX9_tryAllOrders 58 L S g = zGet mX9_tryAllOrders 61 9 2 L S g := ez_getfield kcX9_tryAllOrders dX9_tryAllOrders_58 fl_9_19 rfl L S g
theorem eX9_tryAllOrders_61 (L : pmL) (S : List Value) (g : pmH) : pmV mX9_tryAllOrders 61 L S g = zBne mX9_tryAllOrders 64 83 L S g := ez_icmp_ne kcX9_tryAllOrders dX9_tryAllOrders_61 (by decide) rfl L S g
theorem eX9_tryAllOrders_64 (L : pmL) (S : List Value) (g : pmH) : pmV mX9_tryAllOrders 64 L S g = zLdI mX9_tryAllOrders 65 3 L S g := ez_iload_n kcX9_tryAllOrders dX9_tryAllOrders_64 rfl rfl L S g
theorem eX9_tryAllOrders_65 (L : pmL) (S : List Value) (g : pmH) : pmV mX9_tryAllOrders 65 L S g = zLdA mX9_tryAllOrders 66 0 L S g := ez_aload_n kcX9_tryAllOrders dX9_tryAllOrders_65 rfl rfl L S g
theorem eX9_tryAllOrders_66 (L : pmL) (S : List Value) (g : pmH) : pmV mX9_tryAllOrders 66 L S g = zGet mX9_tryAllOrders 69 9 3 L S g := ez_getfield kcX9_tryAllOrders dX9_tryAllOrders_66 fl_9_23 rfl L S g
theorem eX9_tryAllOrders_69 (L : pmL) (S : List Value) (g : pmH) : pmV mX9_tryAllOrders 69 L S g = zBge mX9_tryAllOrders 72 83 L S g := ez_icmp_ge kcX9_tryAllOrders dX9_tryAllOrders_69 (by decide) rfl L S g
theorem eX9_tryAllOrders_72 (L : pmL) (S : List Value) (g : pmH) : pmV mX9_tryAllOrders 72 L S g = zLdA mX9_tryAllOrders 73 0 L S g := ez_aload_n kcX9_tryAllOrders dX9_tryAllOrders_72 rfl rfl L S g
theorem eX9_tryAllOrders_73 (L : pmL) (S : List Value) (g : pmH) : pmV mX9_tryAllOrders 73 L S g = zLdI mX9_tryAllOrders 75 4 L S g := ez_iload kcX9_tryAllOrders dX9_tryAllOrders_73 rfl L S g
theorem eX9_tryAllOrders_75 (L : pmL) (S : List Value) (g : pmH) : pmV mX9_tryAllOrders 75 L S g = zPut mX9_tryAllOrders 78 9 2 L S g := ez_putfield kcX9_tryAllOrders dX9_tryAllOrders_75 fl_9_19 rfl L S g
theorem eX9_tryAllOrders_78 (L : pmL) (S : List Value) (g : pmH) : pmV mX9_tryAllOrders 78 L S g = zLdA mX9_tryAllOrders 79 0 L S g := ez_aload_n kcX9_tryAllOrders dX9_tryAllOrders_78 rfl rfl L S g
theorem eX9_tryAllOrders_79 (L : pmL) (S : List Value) (g : pmH) : pmV mX9_tryAllOrders 79 L S g = zLdI mX9_tryAllOrders 80 3 L S g := ez_iload_n kcX9_tryAllOrders dX9_tryAllOrders_79 rfl rfl L S g
theorem eX9_tryAllOrders_80 (L : pmL) (S : List Value) (g : pmH) : pmV mX9_tryAllOrders 80 L S g = zPut mX9_tryAllOrders 83 9 3 L S g := ez_putfield kcX9_tryAllOrders dX9_tryAllOrders_80 fl_9_23 rfl L S g
theorem eX9_tryAllOrders_83 (L : pmL) (S : List Value) (g : pmH) : pmV mX9_tryAllOrders 83 L S g = zInc mX9_tryAllOrders 86 2 (nI 1) L S g := ez_iinc kcX9_tryAllOrders dX9_tryAllOrders_83 (by decide) rfl L S g
theorem eX9_tryAllOrders_86 (L : pmL) (S : List Value) (g : pmH) : pmV mX9_tryAllOrders 86 L S g = zNx mX9_tryAllOrders 29 L S g := ez_goto kcX9_tryAllOrders dX9_tryAllOrders_86 (by decide) L S g
theorem eX9_tryAllOrders_89 (L : pmL) (S : List Value) (g : pmH) : pmV mX9_tryAllOrders 89 L S g = zVret S g := ez_return kcX9_tryAllOrders dX9_tryAllOrders_89 rfl L S g
theorem eX9_layOut_0 (L : pmL) (S : List Value) (g : pmH) : pmV mX9_layOut 0 L S g = zLdA mX9_layOut 1 0 L S g := ez_aload_n kcX9_layOut dX9_layOut_0 rfl rfl L S g
theorem eX9_layOut_1 (L : pmL) (S : List Value) (g : pmH) : pmV mX9_layOut 1 L S g = zGet mX9_layOut 4 9 0 L S g := ez_getfield kcX9_layOut dX9_layOut_1 fl_9_15 rfl L S g
theorem eX9_layOut_4 (L : pmL) (S : List Value) (g : pmH) : pmV mX9_layOut 4 L S g = zGet mX9_layOut 7 10 0 L S g := ez_getfield kcX9_layOut dX9_layOut_4 fl_9_29 rfl L S g
theorem eX9_layOut_7 (L : pmL) (S : List Value) (g : pmH) : pmV mX9_layOut 7 L S g = zGet mX9_layOut 10 4 8 L S g := ez_getfield kcX9_layOut dX9_layOut_7 fl_9_35 rfl L S g
theorem eX9_layOut_10 (L : pmL) (S : List Value) (g : pmH) : pmV mX9_layOut 10 L S g = zStI mX9_layOut 11 2 L S g := ez_istore_n kcX9_layOut dX9_layOut_10 rfl rfl L S g
theorem eX9_layOut_11 (L : pmL) (S : List Value) (g : pmH) : pmV mX9_layOut 11 L S g = zPush mX9_layOut 12 (.int (nI 0)) L S g := ez_iconst kcX9_layOut dX9_layOut_11 (by decide) rfl L S g
theorem eX9_layOut_12 (L : pmL) (S : List Value) (g : pmH) : pmV mX9_layOut 12 L S g = zStI mX9_layOut 13 3 L S g := ez_istore_n kcX9_layOut dX9_layOut_12 rfl rfl L S g
theorem eX9_layOut_13 (L : pmL) (S : List Value) (g : pmH) : pmV mX9_layOut 13 L S g = zLdI mX9_layOut 14 3 L S g := ez_iload_n kcX9_layOut dX9_layOut_13 rfl rfl L S g
theorem eX9_layOut_14 (L : pmL) (S : List Value) (g : pmH) : pmV mX9_layOut 14 L S g = zLdI mX9_layOut 15 2 L S g := ez_iload_n kcX9_layOut dX9_layOut_14 rfl rfl L S g
theorem eX9_layOut_15 (L : pmL) (S : List Value) (g : pmH) : pmV mX9_layOut 15 L S g = zBge mX9_layOut 18 42 L S g := ez_icmp_ge kcX9_layOut dX9_layOut_15 (by decide) rfl L S g
theorem eX9_layOut_18 (L : pmL) (S : List Value) (g : pmH) : pmV mX9_layOut 18 L S g = zLdA mX9_layOut 19 0 L S g := ez_aload_n kcX9_layOut dX9_layOut_18 rfl rfl L S g
theorem eX9_layOut_19 (L : pmL) (S : List Value) (g : pmH) : pmV mX9_layOut 19 L S g = zGet mX9_layOut 22 9 1 L S g := ez_getfield kcX9_layOut dX9_layOut_19 fl_9_9 rfl L S g
theorem eX9_layOut_22 (L : pmL) (S : List Value) (g : pmH) : pmV mX9_layOut 22 L S g = zLdI mX9_layOut 23 3 L S g := ez_iload_n kcX9_layOut dX9_layOut_22 rfl rfl L S g
theorem eX9_layOut_23 (L : pmL) (S : List Value) (g : pmH) : pmV mX9_layOut 23 L S g = zLdA mX9_layOut 24 0 L S g := ez_aload_n kcX9_layOut dX9_layOut_23 rfl rfl L S g
theorem eX9_layOut_24 (L : pmL) (S : List Value) (g : pmH) : pmV mX9_layOut 24 L S g = zGet mX9_layOut 27 9 0 L S g := ez_getfield kcX9_layOut dX9_layOut_24 fl_9_15 rfl L S g
theorem eX9_layOut_27 (L : pmL) (S : List Value) (g : pmH) : pmV mX9_layOut 27 L S g = zGet mX9_layOut 30 10 1 L S g := ez_getfield kcX9_layOut dX9_layOut_27 fl_9_48 rfl L S g
theorem eX9_layOut_30 (L : pmL) (S : List Value) (g : pmH) : pmV mX9_layOut 30 L S g = zLdI mX9_layOut 31 3 L S g := ez_iload_n kcX9_layOut dX9_layOut_30 rfl rfl L S g
theorem eX9_layOut_31 (L : pmL) (S : List Value) (g : pmH) : pmV mX9_layOut 31 L S g = zAald mX9_layOut 32 L S g := ez_aaload kcX9_layOut dX9_layOut_31 rfl L S g
theorem eX9_layOut_32 (L : pmL) (S : List Value) (g : pmH) : pmV mX9_layOut 32 L S g = zGet mX9_layOut 35 1 6 L S g := ez_getfield kcX9_layOut dX9_layOut_32 fl_9_51 rfl L S g
theorem eX9_layOut_35 (L : pmL) (S : List Value) (g : pmH) : pmV mX9_layOut 35 L S g = zIast mX9_layOut 36 L S g := ez_iastore kcX9_layOut dX9_layOut_35 rfl L S g
theorem eX9_layOut_36 (L : pmL) (S : List Value) (g : pmH) : pmV mX9_layOut 36 L S g = zInc mX9_layOut 39 3 (nI 1) L S g := ez_iinc kcX9_layOut dX9_layOut_36 (by decide) rfl L S g
theorem eX9_layOut_39 (L : pmL) (S : List Value) (g : pmH) : pmV mX9_layOut 39 L S g = zNx mX9_layOut 13 L S g := ez_goto kcX9_layOut dX9_layOut_39 (by decide) L S g
theorem eX9_layOut_42 (L : pmL) (S : List Value) (g : pmH) : pmV mX9_layOut 42 L S g = zLdI mX9_layOut 43 1 L S g := ez_iload_n kcX9_layOut dX9_layOut_42 rfl rfl L S g
theorem eX9_layOut_43 (L : pmL) (S : List Value) (g : pmH) : pmV mX9_layOut 43 L S g = zStI mX9_layOut 44 3 L S g := ez_istore_n kcX9_layOut dX9_layOut_43 rfl rfl L S g
theorem eX9_layOut_44 (L : pmL) (S : List Value) (g : pmH) : pmV mX9_layOut 44 L S g = zPush mX9_layOut 45 (.int (nI 0)) L S g := ez_iconst kcX9_layOut dX9_layOut_44 (by decide) rfl L S g
theorem eX9_layOut_45 (L : pmL) (S : List Value) (g : pmH) : pmV mX9_layOut 45 L S g = zStI mX9_layOut 47 4 L S g := ez_istore kcX9_layOut dX9_layOut_45 rfl L S g
theorem eX9_layOut_47 (L : pmL) (S : List Value) (g : pmH) : pmV mX9_layOut 47 L S g = zPush mX9_layOut 48 (.int (nI 0)) L S g := ez_iconst kcX9_layOut dX9_layOut_47 (by decide) rfl L S g
theorem eX9_layOut_48 (L : pmL) (S : List Value) (g : pmH) : pmV mX9_layOut 48 L S g = zStI mX9_layOut 50 5 L S g := ez_istore kcX9_layOut dX9_layOut_48 rfl L S g
theorem eX9_layOut_50 (L : pmL) (S : List Value) (g : pmH) : pmV mX9_layOut 50 L S g = zLdI mX9_layOut 52 5 L S g := ez_iload kcX9_layOut dX9_layOut_50 rfl L S g
theorem eX9_layOut_52 (L : pmL) (S : List Value) (g : pmH) : pmV mX9_layOut 52 L S g = zLdI mX9_layOut 53 2 L S g := ez_iload_n kcX9_layOut dX9_layOut_52 rfl rfl L S g
theorem eX9_layOut_53 (L : pmL) (S : List Value) (g : pmH) : pmV mX9_layOut 53 L S g = zBge mX9_layOut 56 122 L S g := ez_icmp_ge kcX9_layOut dX9_layOut_53 (by decide) rfl L S g
theorem eX9_layOut_56 (L : pmL) (S : List Value) (g : pmH) : pmV mX9_layOut 56 L S g = zLdI mX9_layOut 58 5 L S g := ez_iload kcX9_layOut dX9_layOut_56 rfl L S g
theorem eX9_layOut_58 (L : pmL) (S : List Value) (g : pmH) : pmV mX9_layOut 58 L S g = zLdI mX9_layOut 59 3 L S g := ez_iload_n kcX9_layOut dX9_layOut_58 rfl rfl L S g
theorem eX9_layOut_59 (L : pmL) (S : List Value) (g : pmH) : pmV mX9_layOut 59 L S g = zLdI mX9_layOut 60 2 L S g := ez_iload_n kcX9_layOut dX9_layOut_59 rfl rfl L S g
theorem eX9_layOut_60 (L : pmL) (S : List Value) (g : pmH) : pmV mX9_layOut 60 L S g = zLdI mX9_layOut 62 5 L S g := ez_iload kcX9_layOut dX9_layOut_60 rfl L S g
theorem eX9_layOut_62 (L : pmL) (S : List Value) (g : pmH) : pmV mX9_layOut 62 L S g = zSub mX9_layOut 63 L S g := ez_isub kcX9_layOut dX9_layOut_62 rfl L S g
theorem eX9_layOut_63 (L : pmL) (S : List Value) (g : pmH) : pmV mX9_layOut 63 L S g = zRem mX9_layOut 64 L S g := ez_irem kcX9_layOut dX9_layOut_63 rfl L S g
theorem eX9_layOut_64 (L : pmL) (S : List Value) (g : pmH) : pmV mX9_layOut 64 L S g = zAdd mX9_layOut 65 L S g := ez_iadd kcX9_layOut dX9_layOut_64 rfl L S g
theorem eX9_layOut_65 (L : pmL) (S : List Value) (g : pmH) : pmV mX9_layOut 65 L S g = zStI mX9_layOut 67 6 L S g := ez_istore kcX9_layOut dX9_layOut_65 rfl L S g
theorem eX9_layOut_67 (L : pmL) (S : List Value) (g : pmH) : pmV mX9_layOut 67 L S g = zLdI mX9_layOut 68 3 L S g := ez_iload_n kcX9_layOut dX9_layOut_67 rfl rfl L S g
theorem eX9_layOut_68 (L : pmL) (S : List Value) (g : pmH) : pmV mX9_layOut 68 L S g = zLdI mX9_layOut 69 2 L S g := ez_iload_n kcX9_layOut dX9_layOut_68 rfl rfl L S g
theorem eX9_layOut_69 (L : pmL) (S : List Value) (g : pmH) : pmV mX9_layOut 69 L S g = zLdI mX9_layOut 71 5 L S g := ez_iload kcX9_layOut dX9_layOut_69 rfl L S g
theorem eX9_layOut_71 (L : pmL) (S : List Value) (g : pmH) : pmV mX9_layOut 71 L S g = zSub mX9_layOut 72 L S g := ez_isub kcX9_layOut dX9_layOut_71 rfl L S g
theorem eX9_layOut_72 (L : pmL) (S : List Value) (g : pmH) : pmV mX9_layOut 72 L S g = zDiv mX9_layOut 73 L S g := ez_idiv kcX9_layOut dX9_layOut_72 rfl L S g
theorem eX9_layOut_73 (L : pmL) (S : List Value) (g : pmH) : pmV mX9_layOut 73 L S g = zStI mX9_layOut 74 3 L S g := ez_istore_n kcX9_layOut dX9_layOut_73 rfl rfl L S g
theorem eX9_layOut_74 (L : pmL) (S : List Value) (g : pmH) : pmV mX9_layOut 74 L S g = zLdI mX9_layOut 76 6 L S g := ez_iload kcX9_layOut dX9_layOut_74 rfl L S g
theorem eX9_layOut_76 (L : pmL) (S : List Value) (g : pmH) : pmV mX9_layOut 76 L S g = zLdI mX9_layOut 78 5 L S g := ez_iload kcX9_layOut dX9_layOut_76 rfl L S g
theorem eX9_layOut_78 (L : pmL) (S : List Value) (g : pmH) : pmV mX9_layOut 78 L S g = zBeq mX9_layOut 81 116 L S g := ez_icmp_eq kcX9_layOut dX9_layOut_78 (by decide) rfl L S g
theorem eX9_layOut_81 (L : pmL) (S : List Value) (g : pmH) : pmV mX9_layOut 81 L S g = zLdA mX9_layOut 82 0 L S g := ez_aload_n kcX9_layOut dX9_layOut_81 rfl rfl L S g
theorem eX9_layOut_82 (L : pmL) (S : List Value) (g : pmH) : pmV mX9_layOut 82 L S g = zGet mX9_layOut 85 9 1 L S g := ez_getfield kcX9_layOut dX9_layOut_82 fl_9_9 rfl L S g
theorem eX9_layOut_85 (L : pmL) (S : List Value) (g : pmH) : pmV mX9_layOut 85 L S g = zLdI mX9_layOut 87 5 L S g := ez_iload kcX9_layOut dX9_layOut_85 rfl L S g
theorem eX9_layOut_87 (L : pmL) (S : List Value) (g : pmH) : pmV mX9_layOut 87 L S g = zIald mX9_layOut 88 L S g := ez_iaload kcX9_layOut dX9_layOut_87 rfl L S g
theorem eX9_layOut_88 (L : pmL) (S : List Value) (g : pmH) : pmV mX9_layOut 88 L S g = zStI mX9_layOut 90 7 L S g := ez_istore kcX9_layOut dX9_layOut_88 rfl L S g
theorem eX9_layOut_90 (L : pmL) (S : List Value) (g : pmH) : pmV mX9_layOut 90 L S g = zLdA mX9_layOut 91 0 L S g := ez_aload_n kcX9_layOut dX9_layOut_90 rfl rfl L S g
theorem eX9_layOut_91 (L : pmL) (S : List Value) (g : pmH) : pmV mX9_layOut 91 L S g = zGet mX9_layOut 94 9 1 L S g := ez_getfield kcX9_layOut dX9_layOut_91 fl_9_9 rfl L S g
theorem eX9_layOut_94 (L : pmL) (S : List Value) (g : pmH) : pmV mX9_layOut 94 L S g = zLdI mX9_layOut 96 5 L S g := ez_iload kcX9_layOut dX9_layOut_94 rfl L S g
theorem eX9_layOut_96 (L : pmL) (S : List Value) (g : pmH) : pmV mX9_layOut 96 L S g = zLdA mX9_layOut 97 0 L S g := ez_aload_n kcX9_layOut dX9_layOut_96 rfl rfl L S g
theorem eX9_layOut_97 (L : pmL) (S : List Value) (g : pmH) : pmV mX9_layOut 97 L S g = zGet mX9_layOut 100 9 1 L S g := ez_getfield kcX9_layOut dX9_layOut_97 fl_9_9 rfl L S g
theorem eX9_layOut_100 (L : pmL) (S : List Value) (g : pmH) : pmV mX9_layOut 100 L S g = zLdI mX9_layOut 102 6 L S g := ez_iload kcX9_layOut dX9_layOut_100 rfl L S g
theorem eX9_layOut_102 (L : pmL) (S : List Value) (g : pmH) : pmV mX9_layOut 102 L S g = zIald mX9_layOut 103 L S g := ez_iaload kcX9_layOut dX9_layOut_102 rfl L S g
theorem eX9_layOut_103 (L : pmL) (S : List Value) (g : pmH) : pmV mX9_layOut 103 L S g = zIast mX9_layOut 104 L S g := ez_iastore kcX9_layOut dX9_layOut_103 rfl L S g
theorem eX9_layOut_104 (L : pmL) (S : List Value) (g : pmH) : pmV mX9_layOut 104 L S g = zLdA mX9_layOut 105 0 L S g := ez_aload_n kcX9_layOut dX9_layOut_104 rfl rfl L S g
theorem eX9_layOut_105 (L : pmL) (S : List Value) (g : pmH) : pmV mX9_layOut 105 L S g = zGet mX9_layOut 108 9 1 L S g := ez_getfield kcX9_layOut dX9_layOut_105 fl_9_9 rfl L S g
theorem eX9_layOut_108 (L : pmL) (S : List Value) (g : pmH) : pmV mX9_layOut 108 L S g = zLdI mX9_layOut 110 6 L S g := ez_iload kcX9_layOut dX9_layOut_108 rfl L S g
theorem eX9_layOut_110 (L : pmL) (S : List Value) (g : pmH) : pmV mX9_layOut 110 L S g = zLdI mX9_layOut 112 7 L S g := ez_iload kcX9_layOut dX9_layOut_110 rfl L S g
theorem eX9_layOut_112 (L : pmL) (S : List Value) (g : pmH) : pmV mX9_layOut 112 L S g = zIast mX9_layOut 113 L S g := ez_iastore kcX9_layOut dX9_layOut_112 rfl L S g
theorem eX9_layOut_113 (L : pmL) (S : List Value) (g : pmH) : pmV mX9_layOut 113 L S g = zInc mX9_layOut 116 4 (nI 1) L S g := ez_iinc kcX9_layOut dX9_layOut_113 (by decide) rfl L S g
theorem eX9_layOut_116 (L : pmL) (S : List Value) (g : pmH) : pmV mX9_layOut 116 L S g = zInc mX9_layOut 119 5 (nI 1) L S g := ez_iinc kcX9_layOut dX9_layOut_116 (by decide) rfl L S g
theorem eX9_layOut_119 (L : pmL) (S : List Value) (g : pmH) : pmV mX9_layOut 119 L S g = zNx mX9_layOut 50 L S g := ez_goto kcX9_layOut dX9_layOut_119 (by decide) L S g
theorem eX9_layOut_122 (L : pmL) (S : List Value) (g : pmH) : pmV mX9_layOut 122 L S g = zLdI mX9_layOut 124 4 L S g := ez_iload kcX9_layOut dX9_layOut_122 rfl L S g
theorem eX9_layOut_124 (L : pmL) (S : List Value) (g : pmH) : pmV mX9_layOut 124 L S g = zIret mX9_layOut S g := ez_ireturn kcX9_layOut dX9_layOut_124 L S g
theorem eX9_gladByOrder_0 (L : pmL) (S : List Value) (g : pmH) : pmV mX9_gladByOrder 0 L S g = zPush mX9_gladByOrder 1 (.int (nI 0)) L S g := ez_iconst kcX9_gladByOrder dX9_gladByOrder_0 (by decide) rfl L S g
theorem eX9_gladByOrder_1 (L : pmL) (S : List Value) (g : pmH) : pmV mX9_gladByOrder 1 L S g = zStI mX9_gladByOrder 2 1 L S g := ez_istore_n kcX9_gladByOrder dX9_gladByOrder_1 rfl rfl L S g
theorem eX9_gladByOrder_2 (L : pmL) (S : List Value) (g : pmH) : pmV mX9_gladByOrder 2 L S g = zPush mX9_gladByOrder 3 (.int (nI 0)) L S g := ez_iconst kcX9_gladByOrder dX9_gladByOrder_2 (by decide) rfl L S g
theorem eX9_gladByOrder_3 (L : pmL) (S : List Value) (g : pmH) : pmV mX9_gladByOrder 3 L S g = zStI mX9_gladByOrder 4 2 L S g := ez_istore_n kcX9_gladByOrder dX9_gladByOrder_3 rfl rfl L S g
theorem eX9_gladByOrder_4 (L : pmL) (S : List Value) (g : pmH) : pmV mX9_gladByOrder 4 L S g = zLdI mX9_gladByOrder 5 2 L S g := ez_iload_n kcX9_gladByOrder dX9_gladByOrder_4 rfl rfl L S g
theorem eX9_gladByOrder_5 (L : pmL) (S : List Value) (g : pmH) : pmV mX9_gladByOrder 5 L S g = zLdA mX9_gladByOrder 6 0 L S g := ez_aload_n kcX9_gladByOrder dX9_gladByOrder_5 rfl rfl L S g
theorem eX9_gladByOrder_6 (L : pmL) (S : List Value) (g : pmH) : pmV mX9_gladByOrder 6 L S g = zGet mX9_gladByOrder 9 9 0 L S g := ez_getfield kcX9_gladByOrder dX9_gladByOrder_6 fl_9_15 rfl L S g
theorem eX9_gladByOrder_9 (L : pmL) (S : List Value) (g : pmH) : pmV mX9_gladByOrder 9 L S g = zGet mX9_gladByOrder 12 10 0 L S g := ez_getfield kcX9_gladByOrder dX9_gladByOrder_9 fl_9_29 rfl L S g
theorem eX9_gladByOrder_12 (L : pmL) (S : List Value) (g : pmH) : pmV mX9_gladByOrder 12 L S g = zGet mX9_gladByOrder 15 4 8 L S g := ez_getfield kcX9_gladByOrder dX9_gladByOrder_12 fl_9_35 rfl L S g
theorem eX9_gladByOrder_15 (L : pmL) (S : List Value) (g : pmH) : pmV mX9_gladByOrder 15 L S g = zBge mX9_gladByOrder 18 44 L S g := ez_icmp_ge kcX9_gladByOrder dX9_gladByOrder_15 (by decide) rfl L S g
theorem eX9_gladByOrder_18 (L : pmL) (S : List Value) (g : pmH) : pmV mX9_gladByOrder 18 L S g = zLdA mX9_gladByOrder 19 0 L S g := ez_aload_n kcX9_gladByOrder dX9_gladByOrder_18 rfl rfl L S g
theorem eX9_gladByOrder_19 (L : pmL) (S : List Value) (g : pmH) : pmV mX9_gladByOrder 19 L S g = zGet mX9_gladByOrder 22 9 0 L S g := ez_getfield kcX9_gladByOrder dX9_gladByOrder_19 fl_9_15 rfl L S g
theorem eX9_gladByOrder_22 (L : pmL) (S : List Value) (g : pmH) : pmV mX9_gladByOrder 22 L S g = zLdI mX9_gladByOrder 23 2 L S g := ez_iload_n kcX9_gladByOrder dX9_gladByOrder_22 rfl rfl L S g
theorem eX9_gladByOrder_23 (L : pmL) (S : List Value) (g : pmH) : pmV mX9_gladByOrder 23 L S g = zLdA mX9_gladByOrder 24 0 L S g := ez_aload_n kcX9_gladByOrder dX9_gladByOrder_23 rfl rfl L S g
theorem eX9_gladByOrder_24 (L : pmL) (S : List Value) (g : pmH) : pmV mX9_gladByOrder 24 L S g = zGet mX9_gladByOrder 27 9 1 L S g := ez_getfield kcX9_gladByOrder dX9_gladByOrder_24 fl_9_9 rfl L S g
theorem eX9_gladByOrder_27 (L : pmL) (S : List Value) (g : pmH) : pmV mX9_gladByOrder 27 L S g = zLdI mX9_gladByOrder 28 2 L S g := ez_iload_n kcX9_gladByOrder dX9_gladByOrder_27 rfl rfl L S g
theorem eX9_gladByOrder_28 (L : pmL) (S : List Value) (g : pmH) : pmV mX9_gladByOrder 28 L S g = zIald mX9_gladByOrder 29 L S g := ez_iaload kcX9_gladByOrder dX9_gladByOrder_28 rfl L S g
theorem eX9_gladByOrder_29 (L : pmL) (S : List Value) (g : pmH) : pmV mX9_gladByOrder 29 L S g = yV mX9_gladByOrder 32 2 mX10_gladdens 10 3 L S g := (ez_virtual kcX9_gladByOrder dX9_gladByOrder_29 ml_9_56 rfl L S g).trans (zCallV_y rfl rfl (by decide) L S g)
theorem eX9_gladByOrder_32 (L : pmL) (S : List Value) (g : pmH) : pmV mX9_gladByOrder 32 L S g = zCeq mX9_gladByOrder 35 38 L S g := ez_if_eq kcX9_gladByOrder dX9_gladByOrder_32 (by decide) rfl L S g
theorem eX9_gladByOrder_35 (L : pmL) (S : List Value) (g : pmH) : pmV mX9_gladByOrder 35 L S g = zInc mX9_gladByOrder 38 1 (nI 1) L S g := ez_iinc kcX9_gladByOrder dX9_gladByOrder_35 (by decide) rfl L S g
theorem eX9_gladByOrder_38 (L : pmL) (S : List Value) (g : pmH) : pmV mX9_gladByOrder 38 L S g = zInc mX9_gladByOrder 41 2 (nI 1) L S g := ez_iinc kcX9_gladByOrder dX9_gladByOrder_38 (by decide) rfl L S g
theorem eX9_gladByOrder_41 (L : pmL) (S : List Value) (g : pmH) : pmV mX9_gladByOrder 41 L S g = zNx mX9_gladByOrder 4 L S g := ez_goto kcX9_gladByOrder dX9_gladByOrder_41 (by decide) L S g
theorem eX9_gladByOrder_44 (L : pmL) (S : List Value) (g : pmH) : pmV mX9_gladByOrder 44 L S g = zLdI mX9_gladByOrder 45 1 L S g := ez_iload_n kcX9_gladByOrder dX9_gladByOrder_44 rfl rfl L S g
theorem eX9_gladByOrder_45 (L : pmL) (S : List Value) (g : pmH) : pmV mX9_gladByOrder 45 L S g = zIret mX9_gladByOrder S g := ez_ireturn kcX9_gladByOrder dX9_gladByOrder_45 L S g
theorem eX10_init_0 (L : pmL) (S : List Value) (g : pmH) : pmV mX10_init 0 L S g = zLdA mX10_init 1 0 L S g := ez_aload_n kcX10_init dX10_init_0 rfl rfl L S g
theorem eX10_init_1 (L : pmL) (S : List Value) (g : pmH) : pmV mX10_init 1 L S g = zObj mX10_init 4 L S g := ez_objinit kcX10_init dX10_init_1 ol_10_3 rfl L S g
theorem eX10_init_4 (L : pmL) (S : List Value) (g : pmH) : pmV mX10_init 4 L S g = zLdA mX10_init 5 0 L S g := ez_aload_n kcX10_init dX10_init_4 rfl rfl L S g
theorem eX10_init_5 (L : pmL) (S : List Value) (g : pmH) : pmV mX10_init 5 L S g = zPush mX10_init 6 (.int (nI 5)) L S g := ez_iconst kcX10_init dX10_init_5 (by decide) rfl L S g
theorem eX10_init_6 (L : pmL) (S : List Value) (g : pmH) : pmV mX10_init 6 L S g = zNewQ mX10_init 9 3 L S g := ez_anewarray kcX10_init dX10_init_6 cl_10_9 (by decide) rfl L S g
theorem eX10_init_9 (L : pmL) (S : List Value) (g : pmH) : pmV mX10_init 9 L S g = zPut mX10_init 12 10 1 L S g := ez_putfield kcX10_init dX10_init_9 fl_10_11 rfl L S g
theorem eX10_init_12 (L : pmL) (S : List Value) (g : pmH) : pmV mX10_init 12 L S g = zLdA mX10_init 13 0 L S g := ez_aload_n kcX10_init dX10_init_12 rfl rfl L S g
theorem eX10_init_13 (L : pmL) (S : List Value) (g : pmH) : pmV mX10_init 13 L S g = zPush mX10_init 14 (.int (-1)) L S g := ez_iconst kcX10_init dX10_init_13 (by decide) rfl L S g
theorem eX10_init_14 (L : pmL) (S : List Value) (g : pmH) : pmV mX10_init 14 L S g = zPut mX10_init 17 10 3 L S g := ez_putfield kcX10_init dX10_init_14 fl_10_17 rfl L S g
theorem eX10_init_17 (L : pmL) (S : List Value) (g : pmH) : pmV mX10_init 17 L S g = zLdA mX10_init 18 0 L S g := ez_aload_n kcX10_init dX10_init_17 rfl rfl L S g
theorem eX10_init_18 (L : pmL) (S : List Value) (g : pmH) : pmV mX10_init 18 L S g = zLdA mX10_init 19 1 L S g := ez_aload_n kcX10_init dX10_init_18 rfl rfl L S g
theorem eX10_init_19 (L : pmL) (S : List Value) (g : pmH) : pmV mX10_init 19 L S g = zPut mX10_init 22 10 0 L S g := ez_putfield kcX10_init dX10_init_19 fl_10_21 rfl L S g
theorem eX10_init_22 (L : pmL) (S : List Value) (g : pmH) : pmV mX10_init 22 L S g = zPush mX10_init 23 (.int (nI 0)) L S g := ez_iconst kcX10_init dX10_init_22 (by decide) rfl L S g
theorem eX10_init_23 (L : pmL) (S : List Value) (g : pmH) : pmV mX10_init 23 L S g = zStI mX10_init 24 2 L S g := ez_istore_n kcX10_init dX10_init_23 rfl rfl L S g
theorem eX10_init_24 (L : pmL) (S : List Value) (g : pmH) : pmV mX10_init 24 L S g = zLdI mX10_init 25 2 L S g := ez_iload_n kcX10_init dX10_init_24 rfl rfl L S g
theorem eX10_init_25 (L : pmL) (S : List Value) (g : pmH) : pmV mX10_init 25 L S g = zPush mX10_init 26 (.int (nI 5)) L S g := ez_iconst kcX10_init dX10_init_25 (by decide) rfl L S g
theorem eX10_init_26 (L : pmL) (S : List Value) (g : pmH) : pmV mX10_init 26 L S g = zBge mX10_init 29 48 L S g := ez_icmp_ge kcX10_init dX10_init_26 (by decide) rfl L S g
theorem eX10_init_29 (L : pmL) (S : List Value) (g : pmH) : pmV mX10_init 29 L S g = zLdA mX10_init 30 0 L S g := ez_aload_n kcX10_init dX10_init_29 rfl rfl L S g
theorem eX10_init_30 (L : pmL) (S : List Value) (g : pmH) : pmV mX10_init 30 L S g = zGet mX10_init 33 10 1 L S g := ez_getfield kcX10_init dX10_init_30 fl_10_11 rfl L S g
theorem eX10_init_33 (L : pmL) (S : List Value) (g : pmH) : pmV mX10_init 33 L S g = zLdI mX10_init 34 2 L S g := ez_iload_n kcX10_init dX10_init_33 rfl rfl L S g
theorem eX10_init_34 (L : pmL) (S : List Value) (g : pmH) : pmV mX10_init 34 L S g = zNew mX10_init 37 1 L S g := ez_new kcX10_init dX10_init_34 cl_10_9 (by decide) rfl L S g
theorem eX10_init_37 (L : pmL) (S : List Value) (g : pmH) : pmV mX10_init 37 L S g = zDup mX10_init 38 L S g := ez_dup kcX10_init dX10_init_37 rfl L S g
theorem eX10_init_38 (L : pmL) (S : List Value) (g : pmH) : pmV mX10_init 38 L S g = yV mX10_init 41 0 mX1_init 1 1 L S g := (ez_special kcX10_init dX10_init_38 nl_10_25 ml_10_25 (by decide) rfl L S g).trans (zCallV_y rfl rfl (by decide) L S g)
theorem eX10_init_41 (L : pmL) (S : List Value) (g : pmH) : pmV mX10_init 41 L S g = zAast mX10_init 42 L S g := ez_aastore kcX10_init dX10_init_41 rfl L S g
theorem eX10_init_42 (L : pmL) (S : List Value) (g : pmH) : pmV mX10_init 42 L S g = zInc mX10_init 45 2 (nI 1) L S g := ez_iinc kcX10_init dX10_init_42 (by decide) rfl L S g
theorem eX10_init_45 (L : pmL) (S : List Value) (g : pmH) : pmV mX10_init 45 L S g = zNx mX10_init 24 L S g := ez_goto kcX10_init dX10_init_45 (by decide) L S g
theorem eX10_init_48 (L : pmL) (S : List Value) (g : pmH) : pmV mX10_init 48 L S g = zVret S g := ez_return kcX10_init dX10_init_48 rfl L S g
theorem eX10_begin_0 (L : pmL) (S : List Value) (g : pmH) : pmV mX10_begin 0 L S g = zLdA mX10_begin 1 0 L S g := ez_aload_n kcX10_begin dX10_begin_0 rfl rfl L S g
theorem eX10_begin_1 (L : pmL) (S : List Value) (g : pmH) : pmV mX10_begin 1 L S g = zPush mX10_begin 2 (.int (nI 0)) L S g := ez_iconst kcX10_begin dX10_begin_1 (by decide) rfl L S g
theorem eX10_begin_2 (L : pmL) (S : List Value) (g : pmH) : pmV mX10_begin 2 L S g = zPut mX10_begin 5 10 2 L S g := ez_putfield kcX10_begin dX10_begin_2 fl_10_26 rfl L S g
theorem eX10_begin_5 (L : pmL) (S : List Value) (g : pmH) : pmV mX10_begin 5 L S g = zLdA mX10_begin 6 0 L S g := ez_aload_n kcX10_begin dX10_begin_5 rfl rfl L S g
theorem eX10_begin_6 (L : pmL) (S : List Value) (g : pmH) : pmV mX10_begin 6 L S g = zPush mX10_begin 7 (.int (-1)) L S g := ez_iconst kcX10_begin dX10_begin_6 (by decide) rfl L S g
theorem eX10_begin_7 (L : pmL) (S : List Value) (g : pmH) : pmV mX10_begin 7 L S g = zPut mX10_begin 10 10 3 L S g := ez_putfield kcX10_begin dX10_begin_7 fl_10_17 rfl L S g
theorem eX10_begin_10 (L : pmL) (S : List Value) (g : pmH) : pmV mX10_begin 10 L S g = zPush mX10_begin 11 (.int (nI 0)) L S g := ez_iconst kcX10_begin dX10_begin_10 (by decide) rfl L S g
theorem eX10_begin_11 (L : pmL) (S : List Value) (g : pmH) : pmV mX10_begin 11 L S g = zStI mX10_begin 12 1 L S g := ez_istore_n kcX10_begin dX10_begin_11 rfl rfl L S g
theorem eX10_begin_12 (L : pmL) (S : List Value) (g : pmH) : pmV mX10_begin 12 L S g = zLdI mX10_begin 13 1 L S g := ez_iload_n kcX10_begin dX10_begin_12 rfl rfl L S g
theorem eX10_begin_13 (L : pmL) (S : List Value) (g : pmH) : pmV mX10_begin 13 L S g = zLdA mX10_begin 14 0 L S g := ez_aload_n kcX10_begin dX10_begin_13 rfl rfl L S g
theorem eX10_begin_14 (L : pmL) (S : List Value) (g : pmH) : pmV mX10_begin 14 L S g = zGet mX10_begin 17 10 0 L S g := ez_getfield kcX10_begin dX10_begin_14 fl_10_21 rfl L S g
theorem eX10_begin_17 (L : pmL) (S : List Value) (g : pmH) : pmV mX10_begin 17 L S g = zGet mX10_begin 20 4 8 L S g := ez_getfield kcX10_begin dX10_begin_17 fl_10_29 rfl L S g
theorem eX10_begin_20 (L : pmL) (S : List Value) (g : pmH) : pmV mX10_begin 20 L S g = zBge mX10_begin 23 57 L S g := ez_icmp_ge kcX10_begin dX10_begin_20 (by decide) rfl L S g
theorem eX10_begin_23 (L : pmL) (S : List Value) (g : pmH) : pmV mX10_begin 23 L S g = zLdA mX10_begin 24 0 L S g := ez_aload_n kcX10_begin dX10_begin_23 rfl rfl L S g
theorem eX10_begin_24 (L : pmL) (S : List Value) (g : pmH) : pmV mX10_begin 24 L S g = zGet mX10_begin 27 10 1 L S g := ez_getfield kcX10_begin dX10_begin_24 fl_10_11 rfl L S g
theorem eX10_begin_27 (L : pmL) (S : List Value) (g : pmH) : pmV mX10_begin 27 L S g = zLdI mX10_begin 28 1 L S g := ez_iload_n kcX10_begin dX10_begin_27 rfl rfl L S g
theorem eX10_begin_28 (L : pmL) (S : List Value) (g : pmH) : pmV mX10_begin 28 L S g = zAald mX10_begin 29 L S g := ez_aaload kcX10_begin dX10_begin_28 rfl L S g
theorem eX10_begin_29 (L : pmL) (S : List Value) (g : pmH) : pmV mX10_begin 29 L S g = zLdA mX10_begin 30 0 L S g := ez_aload_n kcX10_begin dX10_begin_29 rfl rfl L S g
theorem eX10_begin_30 (L : pmL) (S : List Value) (g : pmH) : pmV mX10_begin 30 L S g = zGet mX10_begin 33 10 0 L S g := ez_getfield kcX10_begin dX10_begin_30 fl_10_21 rfl L S g
theorem eX10_begin_33 (L : pmL) (S : List Value) (g : pmH) : pmV mX10_begin 33 L S g = zGet mX10_begin 36 4 1 L S g := ez_getfield kcX10_begin dX10_begin_33 fl_10_33 rfl L S g
theorem eX10_begin_36 (L : pmL) (S : List Value) (g : pmH) : pmV mX10_begin 36 L S g = zLdI mX10_begin 37 1 L S g := ez_iload_n kcX10_begin dX10_begin_36 rfl rfl L S g
theorem eX10_begin_37 (L : pmL) (S : List Value) (g : pmH) : pmV mX10_begin 37 L S g = zIald mX10_begin 38 L S g := ez_iaload kcX10_begin dX10_begin_37 rfl L S g
theorem eX10_begin_38 (L : pmL) (S : List Value) (g : pmH) : pmV mX10_begin 38 L S g = zLdA mX10_begin 39 0 L S g := ez_aload_n kcX10_begin dX10_begin_38 rfl rfl L S g
theorem eX10_begin_39 (L : pmL) (S : List Value) (g : pmH) : pmV mX10_begin 39 L S g = zGet mX10_begin 42 10 0 L S g := ez_getfield kcX10_begin dX10_begin_39 fl_10_21 rfl L S g
theorem eX10_begin_42 (L : pmL) (S : List Value) (g : pmH) : pmV mX10_begin 42 L S g = zGet mX10_begin 45 4 2 L S g := ez_getfield kcX10_begin dX10_begin_42 fl_10_37 rfl L S g
theorem eX10_begin_45 (L : pmL) (S : List Value) (g : pmH) : pmV mX10_begin 45 L S g = zLdI mX10_begin 46 1 L S g := ez_iload_n kcX10_begin dX10_begin_45 rfl rfl L S g
theorem eX10_begin_46 (L : pmL) (S : List Value) (g : pmH) : pmV mX10_begin 46 L S g = zIald mX10_begin 47 L S g := ez_iaload kcX10_begin dX10_begin_46 rfl L S g
theorem eX10_begin_47 (L : pmL) (S : List Value) (g : pmH) : pmV mX10_begin 47 L S g = zLdI mX10_begin 48 1 L S g := ez_iload_n kcX10_begin dX10_begin_47 rfl rfl L S g
theorem eX10_begin_48 (L : pmL) (S : List Value) (g : pmH) : pmV mX10_begin 48 L S g = yV mX10_begin 51 3 mX1_holdAt 1 4 L S g := (ez_virtual kcX10_begin dX10_begin_48 ml_10_40 rfl L S g).trans (zCallV_y rfl rfl (by decide) L S g)
theorem eX10_begin_51 (L : pmL) (S : List Value) (g : pmH) : pmV mX10_begin 51 L S g = zInc mX10_begin 54 1 (nI 1) L S g := ez_iinc kcX10_begin dX10_begin_51 (by decide) rfl L S g
theorem eX10_begin_54 (L : pmL) (S : List Value) (g : pmH) : pmV mX10_begin 54 L S g = zNx mX10_begin 12 L S g := ez_goto kcX10_begin dX10_begin_54 (by decide) L S g
theorem eX10_begin_57 (L : pmL) (S : List Value) (g : pmH) : pmV mX10_begin 57 L S g = zVret S g := ez_return kcX10_begin dX10_begin_57 rfl L S g
theorem eX10_takeFrom_0 (L : pmL) (S : List Value) (g : pmH) : pmV mX10_takeFrom 0 L S g = zLdA mX10_takeFrom 1 0 L S g := ez_aload_n kcX10_takeFrom dX10_takeFrom_0 rfl rfl L S g
theorem eX10_takeFrom_1 (L : pmL) (S : List Value) (g : pmH) : pmV mX10_takeFrom 1 L S g = zLdA mX10_takeFrom 2 1 L S g := ez_aload_n kcX10_takeFrom dX10_takeFrom_1 rfl rfl L S g
theorem eX10_takeFrom_2 (L : pmL) (S : List Value) (g : pmH) : pmV mX10_takeFrom 2 L S g = zGet mX10_takeFrom 5 10 2 L S g := ez_getfield kcX10_takeFrom dX10_takeFrom_2 fl_10_26 rfl L S g
theorem eX10_takeFrom_5 (L : pmL) (S : List Value) (g : pmH) : pmV mX10_takeFrom 5 L S g = zPut mX10_takeFrom 8 10 2 L S g := ez_putfield kcX10_takeFrom dX10_takeFrom_5 fl_10_26 rfl L S g
theorem eX10_takeFrom_8 (L : pmL) (S : List Value) (g : pmH) : pmV mX10_takeFrom 8 L S g = zLdA mX10_takeFrom 9 0 L S g := ez_aload_n kcX10_takeFrom dX10_takeFrom_8 rfl rfl L S g
theorem eX10_takeFrom_9 (L : pmL) (S : List Value) (g : pmH) : pmV mX10_takeFrom 9 L S g = zLdA mX10_takeFrom 10 1 L S g := ez_aload_n kcX10_takeFrom dX10_takeFrom_9 rfl rfl L S g
theorem eX10_takeFrom_10 (L : pmL) (S : List Value) (g : pmH) : pmV mX10_takeFrom 10 L S g = zGet mX10_takeFrom 13 10 3 L S g := ez_getfield kcX10_takeFrom dX10_takeFrom_10 fl_10_17 rfl L S g
theorem eX10_takeFrom_13 (L : pmL) (S : List Value) (g : pmH) : pmV mX10_takeFrom 13 L S g = zPut mX10_takeFrom 16 10 3 L S g := ez_putfield kcX10_takeFrom dX10_takeFrom_13 fl_10_17 rfl L S g
theorem eX10_takeFrom_16 (L : pmL) (S : List Value) (g : pmH) : pmV mX10_takeFrom 16 L S g = zPush mX10_takeFrom 17 (.int (nI 0)) L S g := ez_iconst kcX10_takeFrom dX10_takeFrom_16 (by decide) rfl L S g
theorem eX10_takeFrom_17 (L : pmL) (S : List Value) (g : pmH) : pmV mX10_takeFrom 17 L S g = zStI mX10_takeFrom 18 2 L S g := ez_istore_n kcX10_takeFrom dX10_takeFrom_17 rfl rfl L S g
theorem eX10_takeFrom_18 (L : pmL) (S : List Value) (g : pmH) : pmV mX10_takeFrom 18 L S g = zLdI mX10_takeFrom 19 2 L S g := ez_iload_n kcX10_takeFrom dX10_takeFrom_18 rfl rfl L S g
theorem eX10_takeFrom_19 (L : pmL) (S : List Value) (g : pmH) : pmV mX10_takeFrom 19 L S g = zLdA mX10_takeFrom 20 0 L S g := ez_aload_n kcX10_takeFrom dX10_takeFrom_19 rfl rfl L S g
theorem eX10_takeFrom_20 (L : pmL) (S : List Value) (g : pmH) : pmV mX10_takeFrom 20 L S g = zGet mX10_takeFrom 23 10 0 L S g := ez_getfield kcX10_takeFrom dX10_takeFrom_20 fl_10_21 rfl L S g
theorem eX10_takeFrom_23 (L : pmL) (S : List Value) (g : pmH) : pmV mX10_takeFrom 23 L S g = zGet mX10_takeFrom 26 4 8 L S g := ez_getfield kcX10_takeFrom dX10_takeFrom_23 fl_10_29 rfl L S g
theorem eX10_takeFrom_26 (L : pmL) (S : List Value) (g : pmH) : pmV mX10_takeFrom 26 L S g = zBge mX10_takeFrom 29 50 L S g := ez_icmp_ge kcX10_takeFrom dX10_takeFrom_26 (by decide) rfl L S g
theorem eX10_takeFrom_29 (L : pmL) (S : List Value) (g : pmH) : pmV mX10_takeFrom 29 L S g = zLdA mX10_takeFrom 30 0 L S g := ez_aload_n kcX10_takeFrom dX10_takeFrom_29 rfl rfl L S g
theorem eX10_takeFrom_30 (L : pmL) (S : List Value) (g : pmH) : pmV mX10_takeFrom 30 L S g = zGet mX10_takeFrom 33 10 1 L S g := ez_getfield kcX10_takeFrom dX10_takeFrom_30 fl_10_11 rfl L S g
theorem eX10_takeFrom_33 (L : pmL) (S : List Value) (g : pmH) : pmV mX10_takeFrom 33 L S g = zLdI mX10_takeFrom 34 2 L S g := ez_iload_n kcX10_takeFrom dX10_takeFrom_33 rfl rfl L S g
theorem eX10_takeFrom_34 (L : pmL) (S : List Value) (g : pmH) : pmV mX10_takeFrom 34 L S g = zAald mX10_takeFrom 35 L S g := ez_aaload kcX10_takeFrom dX10_takeFrom_34 rfl L S g
theorem eX10_takeFrom_35 (L : pmL) (S : List Value) (g : pmH) : pmV mX10_takeFrom 35 L S g = zLdA mX10_takeFrom 36 1 L S g := ez_aload_n kcX10_takeFrom dX10_takeFrom_35 rfl rfl L S g
theorem eX10_takeFrom_36 (L : pmL) (S : List Value) (g : pmH) : pmV mX10_takeFrom 36 L S g = zGet mX10_takeFrom 39 10 1 L S g := ez_getfield kcX10_takeFrom dX10_takeFrom_36 fl_10_11 rfl L S g
theorem eX10_takeFrom_39 (L : pmL) (S : List Value) (g : pmH) : pmV mX10_takeFrom 39 L S g = zLdI mX10_takeFrom 40 2 L S g := ez_iload_n kcX10_takeFrom dX10_takeFrom_39 rfl rfl L S g
theorem eX10_takeFrom_40 (L : pmL) (S : List Value) (g : pmH) : pmV mX10_takeFrom 40 L S g = zAald mX10_takeFrom 41 L S g := ez_aaload kcX10_takeFrom dX10_takeFrom_40 rfl L S g
theorem eX10_takeFrom_41 (L : pmL) (S : List Value) (g : pmH) : pmV mX10_takeFrom 41 L S g = yV mX10_takeFrom 44 1 mX1_takeFrom 1 2 L S g := (ez_virtual kcX10_takeFrom dX10_takeFrom_41 ml_10_44 rfl L S g).trans (zCallV_y rfl rfl (by decide) L S g)
theorem eX10_takeFrom_44 (L : pmL) (S : List Value) (g : pmH) : pmV mX10_takeFrom 44 L S g = zInc mX10_takeFrom 47 2 (nI 1) L S g := ez_iinc kcX10_takeFrom dX10_takeFrom_44 (by decide) rfl L S g
theorem eX10_takeFrom_47 (L : pmL) (S : List Value) (g : pmH) : pmV mX10_takeFrom 47 L S g = zNx mX10_takeFrom 18 L S g := ez_goto kcX10_takeFrom dX10_takeFrom_47 (by decide) L S g
theorem eX10_takeFrom_50 (L : pmL) (S : List Value) (g : pmH) : pmV mX10_takeFrom 50 L S g = zVret S g := ez_return kcX10_takeFrom dX10_takeFrom_50 rfl L S g
theorem eX10_hasBalloon_0 (L : pmL) (S : List Value) (g : pmH) : pmV mX10_hasBalloon 0 L S g = zLdI mX10_hasBalloon 1 1 L S g := ez_iload_n kcX10_hasBalloon dX10_hasBalloon_0 rfl rfl L S g
theorem eX10_hasBalloon_1 (L : pmL) (S : List Value) (g : pmH) : pmV mX10_hasBalloon 1 L S g = zClt mX10_hasBalloon 4 19 L S g := ez_if_lt kcX10_hasBalloon dX10_hasBalloon_1 (by decide) rfl L S g
theorem eX10_hasBalloon_4 (L : pmL) (S : List Value) (g : pmH) : pmV mX10_hasBalloon 4 L S g = zLdI mX10_hasBalloon 5 1 L S g := ez_iload_n kcX10_hasBalloon dX10_hasBalloon_4 rfl rfl L S g
theorem eX10_hasBalloon_5 (L : pmL) (S : List Value) (g : pmH) : pmV mX10_hasBalloon 5 L S g = zLdA mX10_hasBalloon 6 0 L S g := ez_aload_n kcX10_hasBalloon dX10_hasBalloon_5 rfl rfl L S g
theorem eX10_hasBalloon_6 (L : pmL) (S : List Value) (g : pmH) : pmV mX10_hasBalloon 6 L S g = zGet mX10_hasBalloon 9 10 0 L S g := ez_getfield kcX10_hasBalloon dX10_hasBalloon_6 fl_10_21 rfl L S g
theorem eX10_hasBalloon_9 (L : pmL) (S : List Value) (g : pmH) : pmV mX10_hasBalloon 9 L S g = zGet mX10_hasBalloon 12 4 8 L S g := ez_getfield kcX10_hasBalloon dX10_hasBalloon_9 fl_10_29 rfl L S g
theorem eX10_hasBalloon_12 (L : pmL) (S : List Value) (g : pmH) : pmV mX10_hasBalloon 12 L S g = zBge mX10_hasBalloon 15 19 L S g := ez_icmp_ge kcX10_hasBalloon dX10_hasBalloon_12 (by decide) rfl L S g
theorem eX10_hasBalloon_15 (L : pmL) (S : List Value) (g : pmH) : pmV mX10_hasBalloon 15 L S g = zPush mX10_hasBalloon 16 (.int (nI 1)) L S g := ez_iconst kcX10_hasBalloon dX10_hasBalloon_15 (by decide) rfl L S g
theorem eX10_hasBalloon_16 (L : pmL) (S : List Value) (g : pmH) : pmV mX10_hasBalloon 16 L S g = zNx mX10_hasBalloon 20 L S g := ez_goto kcX10_hasBalloon dX10_hasBalloon_16 (by decide) L S g
theorem eX10_hasBalloon_19 (L : pmL) (S : List Value) (g : pmH) : pmV mX10_hasBalloon 19 L S g = zPush mX10_hasBalloon 20 (.int (nI 0)) L S g := ez_iconst kcX10_hasBalloon dX10_hasBalloon_19 (by decide) rfl L S g
theorem eX10_hasBalloon_20 (L : pmL) (S : List Value) (g : pmH) : pmV mX10_hasBalloon 20 L S g = zIret mX10_hasBalloon S g := ez_ireturn kcX10_hasBalloon dX10_hasBalloon_20 L S g
theorem eX10_is_0 (L : pmL) (S : List Value) (g : pmH) : pmV mX10_is 0 L S g = zLdA mX10_is 1 0 L S g := ez_aload_n kcX10_is dX10_is_0 rfl rfl L S g
theorem eX10_is_1 (L : pmL) (S : List Value) (g : pmH) : pmV mX10_is 1 L S g = zLdI mX10_is 2 1 L S g := ez_iload_n kcX10_is dX10_is_1 rfl rfl L S g
theorem eX10_is_2 (L : pmL) (S : List Value) (g : pmH) : pmV mX10_is 2 L S g = yV mX10_is 5 1 mX10_hasBalloon 10 2 L S g := (ez_virtual kcX10_is dX10_is_2 ml_10_48 rfl L S g).trans (zCallV_y rfl rfl (by decide) L S g)
theorem eX10_is_5 (L : pmL) (S : List Value) (g : pmH) : pmV mX10_is 5 L S g = zCeq mX10_is 8 25 L S g := ez_if_eq kcX10_is dX10_is_5 (by decide) rfl L S g
theorem eX10_is_8 (L : pmL) (S : List Value) (g : pmH) : pmV mX10_is 8 L S g = zLdA mX10_is 9 0 L S g := ez_aload_n kcX10_is dX10_is_8 rfl rfl L S g
theorem eX10_is_9 (L : pmL) (S : List Value) (g : pmH) : pmV mX10_is 9 L S g = zGet mX10_is 12 10 1 L S g := ez_getfield kcX10_is dX10_is_9 fl_10_11 rfl L S g
theorem eX10_is_12 (L : pmL) (S : List Value) (g : pmH) : pmV mX10_is 12 L S g = zLdI mX10_is 13 1 L S g := ez_iload_n kcX10_is dX10_is_12 rfl rfl L S g
theorem eX10_is_13 (L : pmL) (S : List Value) (g : pmH) : pmV mX10_is 13 L S g = zAald mX10_is 14 L S g := ez_aaload kcX10_is dX10_is_13 rfl L S g
theorem eX10_is_14 (L : pmL) (S : List Value) (g : pmH) : pmV mX10_is 14 L S g = zGet mX10_is 17 1 2 L S g := ez_getfield kcX10_is dX10_is_14 fl_10_52 rfl L S g
theorem eX10_is_17 (L : pmL) (S : List Value) (g : pmH) : pmV mX10_is 17 L S g = zLdI mX10_is 18 2 L S g := ez_iload_n kcX10_is dX10_is_17 rfl rfl L S g
theorem eX10_is_18 (L : pmL) (S : List Value) (g : pmH) : pmV mX10_is 18 L S g = zBne mX10_is 21 25 L S g := ez_icmp_ne kcX10_is dX10_is_18 (by decide) rfl L S g
theorem eX10_is_21 (L : pmL) (S : List Value) (g : pmH) : pmV mX10_is 21 L S g = zPush mX10_is 22 (.int (nI 1)) L S g := ez_iconst kcX10_is dX10_is_21 (by decide) rfl L S g
theorem eX10_is_22 (L : pmL) (S : List Value) (g : pmH) : pmV mX10_is 22 L S g = zNx mX10_is 26 L S g := ez_goto kcX10_is dX10_is_22 (by decide) L S g
theorem eX10_is_25 (L : pmL) (S : List Value) (g : pmH) : pmV mX10_is 25 L S g = zPush mX10_is 26 (.int (nI 0)) L S g := ez_iconst kcX10_is dX10_is_25 (by decide) rfl L S g
theorem eX10_is_26 (L : pmL) (S : List Value) (g : pmH) : pmV mX10_is 26 L S g = zIret mX10_is S g := ez_ireturn kcX10_is dX10_is_26 L S g
theorem eX10_letGo_0 (L : pmL) (S : List Value) (g : pmH) : pmV mX10_letGo 0 L S g = zLdA mX10_letGo 1 0 L S g := ez_aload_n kcX10_letGo dX10_letGo_0 rfl rfl L S g
theorem eX10_letGo_1 (L : pmL) (S : List Value) (g : pmH) : pmV mX10_letGo 1 L S g = zLdI mX10_letGo 2 1 L S g := ez_iload_n kcX10_letGo dX10_letGo_1 rfl rfl L S g
theorem eX10_letGo_2 (L : pmL) (S : List Value) (g : pmH) : pmV mX10_letGo 2 L S g = zPush mX10_letGo 3 (.int (nI 0)) L S g := ez_iconst kcX10_letGo dX10_letGo_2 (by decide) rfl L S g
theorem eX10_letGo_3 (L : pmL) (S : List Value) (g : pmH) : pmV mX10_letGo 3 L S g = yV mX10_letGo 6 2 mX10_is 10 3 L S g := (ez_virtual kcX10_letGo dX10_letGo_3 ml_10_55 rfl L S g).trans (zCallV_y rfl rfl (by decide) L S g)
theorem eX10_letGo_6 (L : pmL) (S : List Value) (g : pmH) : pmV mX10_letGo 6 L S g = zCne mX10_letGo 9 11 L S g := ez_if_ne kcX10_letGo dX10_letGo_6 (by decide) rfl L S g
theorem eX10_letGo_9 (L : pmL) (S : List Value) (g : pmH) : pmV mX10_letGo 9 L S g = zPush mX10_letGo 10 (.int (nI 0)) L S g := ez_iconst kcX10_letGo dX10_letGo_9 (by decide) rfl L S g
theorem eX10_letGo_10 (L : pmL) (S : List Value) (g : pmH) : pmV mX10_letGo 10 L S g = zIret mX10_letGo S g := ez_ireturn kcX10_letGo dX10_letGo_10 L S g
theorem eX10_letGo_11 (L : pmL) (S : List Value) (g : pmH) : pmV mX10_letGo 11 L S g = zLdA mX10_letGo 12 0 L S g := ez_aload_n kcX10_letGo dX10_letGo_11 rfl rfl L S g
theorem eX10_letGo_12 (L : pmL) (S : List Value) (g : pmH) : pmV mX10_letGo 12 L S g = zGet mX10_letGo 15 10 1 L S g := ez_getfield kcX10_letGo dX10_letGo_12 fl_10_11 rfl L S g
theorem eX10_letGo_15 (L : pmL) (S : List Value) (g : pmH) : pmV mX10_letGo 15 L S g = zLdI mX10_letGo 16 1 L S g := ez_iload_n kcX10_letGo dX10_letGo_15 rfl rfl L S g
theorem eX10_letGo_16 (L : pmL) (S : List Value) (g : pmH) : pmV mX10_letGo 16 L S g = zAald mX10_letGo 17 L S g := ez_aaload kcX10_letGo dX10_letGo_16 rfl L S g
theorem eX10_letGo_17 (L : pmL) (S : List Value) (g : pmH) : pmV mX10_letGo 17 L S g = zPush mX10_letGo 18 (.int (nI 1)) L S g := ez_iconst kcX10_letGo dX10_letGo_17 (by decide) rfl L S g
theorem eX10_letGo_18 (L : pmL) (S : List Value) (g : pmH) : pmV mX10_letGo 18 L S g = zPut mX10_letGo 21 1 2 L S g := ez_putfield kcX10_letGo dX10_letGo_18 fl_10_52 rfl L S g
theorem eX10_letGo_21 (L : pmL) (S : List Value) (g : pmH) : pmV mX10_letGo 21 L S g = zPush mX10_letGo 22 (.int (nI 1)) L S g := ez_iconst kcX10_letGo dX10_letGo_21 (by decide) rfl L S g
theorem eX10_letGo_22 (L : pmL) (S : List Value) (g : pmH) : pmV mX10_letGo 22 L S g = zIret mX10_letGo S g := ez_ireturn kcX10_letGo dX10_letGo_22 L S g
theorem eX10_setFree_0 (L : pmL) (S : List Value) (g : pmH) : pmV mX10_setFree 0 L S g = zLdA mX10_setFree 1 0 L S g := ez_aload_n kcX10_setFree dX10_setFree_0 rfl rfl L S g
theorem eX10_setFree_1 (L : pmL) (S : List Value) (g : pmH) : pmV mX10_setFree 1 L S g = zLdI mX10_setFree 2 1 L S g := ez_iload_n kcX10_setFree dX10_setFree_1 rfl rfl L S g
theorem eX10_setFree_2 (L : pmL) (S : List Value) (g : pmH) : pmV mX10_setFree 2 L S g = zPush mX10_setFree 3 (.int (nI 2)) L S g := ez_iconst kcX10_setFree dX10_setFree_2 (by decide) rfl L S g
theorem eX10_setFree_3 (L : pmL) (S : List Value) (g : pmH) : pmV mX10_setFree 3 L S g = yV mX10_setFree 6 2 mX10_is 10 3 L S g := (ez_virtual kcX10_setFree dX10_setFree_3 ml_10_55 rfl L S g).trans (zCallV_y rfl rfl (by decide) L S g)
theorem eX10_setFree_6 (L : pmL) (S : List Value) (g : pmH) : pmV mX10_setFree 6 L S g = zCne mX10_setFree 9 11 L S g := ez_if_ne kcX10_setFree dX10_setFree_6 (by decide) rfl L S g
theorem eX10_setFree_9 (L : pmL) (S : List Value) (g : pmH) : pmV mX10_setFree 9 L S g = zPush mX10_setFree 10 (.int (nI 0)) L S g := ez_iconst kcX10_setFree dX10_setFree_9 (by decide) rfl L S g
theorem eX10_setFree_10 (L : pmL) (S : List Value) (g : pmH) : pmV mX10_setFree 10 L S g = zIret mX10_setFree S g := ez_ireturn kcX10_setFree dX10_setFree_10 L S g
theorem eX10_setFree_11 (L : pmL) (S : List Value) (g : pmH) : pmV mX10_setFree 11 L S g = zLdA mX10_setFree 12 0 L S g := ez_aload_n kcX10_setFree dX10_setFree_11 rfl rfl L S g
theorem eX10_setFree_12 (L : pmL) (S : List Value) (g : pmH) : pmV mX10_setFree 12 L S g = zGet mX10_setFree 15 10 1 L S g := ez_getfield kcX10_setFree dX10_setFree_12 fl_10_11 rfl L S g
theorem eX10_setFree_15 (L : pmL) (S : List Value) (g : pmH) : pmV mX10_setFree 15 L S g = zLdI mX10_setFree 16 1 L S g := ez_iload_n kcX10_setFree dX10_setFree_15 rfl rfl L S g
theorem eX10_setFree_16 (L : pmL) (S : List Value) (g : pmH) : pmV mX10_setFree 16 L S g = zAald mX10_setFree 17 L S g := ez_aaload kcX10_setFree dX10_setFree_16 rfl L S g
theorem eX10_setFree_17 (L : pmL) (S : List Value) (g : pmH) : pmV mX10_setFree 17 L S g = zPush mX10_setFree 18 (.int (nI 1)) L S g := ez_iconst kcX10_setFree dX10_setFree_17 (by decide) rfl L S g
theorem eX10_setFree_18 (L : pmL) (S : List Value) (g : pmH) : pmV mX10_setFree 18 L S g = yV mX10_setFree 21 1 mX1_leaveHedge 1 2 L S g := (ez_virtual kcX10_setFree dX10_setFree_18 ml_10_59 rfl L S g).trans (zCallV_y rfl rfl (by decide) L S g)
theorem eX10_setFree_21 (L : pmL) (S : List Value) (g : pmH) : pmV mX10_setFree 21 L S g = zPush mX10_setFree 22 (.int (nI 1)) L S g := ez_iconst kcX10_setFree dX10_setFree_21 (by decide) rfl L S g
theorem eX10_setFree_22 (L : pmL) (S : List Value) (g : pmH) : pmV mX10_setFree 22 L S g = zIret mX10_setFree S g := ez_ireturn kcX10_setFree dX10_setFree_22 L S g
theorem eX10_putRight_0 (L : pmL) (S : List Value) (g : pmH) : pmV mX10_putRight 0 L S g = zLdA mX10_putRight 1 0 L S g := ez_aload_n kcX10_putRight dX10_putRight_0 rfl rfl L S g
theorem eX10_putRight_1 (L : pmL) (S : List Value) (g : pmH) : pmV mX10_putRight 1 L S g = zLdI mX10_putRight 2 1 L S g := ez_iload_n kcX10_putRight dX10_putRight_1 rfl rfl L S g
theorem eX10_putRight_2 (L : pmL) (S : List Value) (g : pmH) : pmV mX10_putRight 2 L S g = yV mX10_putRight 5 1 mX10_hasBalloon 10 2 L S g := (ez_virtual kcX10_putRight dX10_putRight_2 ml_10_48 rfl L S g).trans (zCallV_y rfl rfl (by decide) L S g)
theorem eX10_putRight_5 (L : pmL) (S : List Value) (g : pmH) : pmV mX10_putRight 5 L S g = zCeq mX10_putRight 8 21 L S g := ez_if_eq kcX10_putRight dX10_putRight_5 (by decide) rfl L S g
theorem eX10_putRight_8 (L : pmL) (S : List Value) (g : pmH) : pmV mX10_putRight 8 L S g = zLdA mX10_putRight 9 0 L S g := ez_aload_n kcX10_putRight dX10_putRight_8 rfl rfl L S g
theorem eX10_putRight_9 (L : pmL) (S : List Value) (g : pmH) : pmV mX10_putRight 9 L S g = zLdI mX10_putRight 10 2 L S g := ez_iload_n kcX10_putRight dX10_putRight_9 rfl rfl L S g
theorem eX10_putRight_10 (L : pmL) (S : List Value) (g : pmH) : pmV mX10_putRight 10 L S g = yV mX10_putRight 13 1 mX10_hasBalloon 10 2 L S g := (ez_virtual kcX10_putRight dX10_putRight_10 ml_10_48 rfl L S g).trans (zCallV_y rfl rfl (by decide) L S g)
theorem eX10_putRight_13 (L : pmL) (S : List Value) (g : pmH) : pmV mX10_putRight 13 L S g = zCeq mX10_putRight 16 21 L S g := ez_if_eq kcX10_putRight dX10_putRight_13 (by decide) rfl L S g
theorem eX10_putRight_16 (L : pmL) (S : List Value) (g : pmH) : pmV mX10_putRight 16 L S g = zLdI mX10_putRight 17 1 L S g := ez_iload_n kcX10_putRight dX10_putRight_16 rfl rfl L S g
theorem eX10_putRight_17 (L : pmL) (S : List Value) (g : pmH) : pmV mX10_putRight 17 L S g = zLdI mX10_putRight 18 2 L S g := ez_iload_n kcX10_putRight dX10_putRight_17 rfl rfl L S g
theorem eX10_putRight_18 (L : pmL) (S : List Value) (g : pmH) : pmV mX10_putRight 18 L S g = zBne mX10_putRight 21 23 L S g := ez_icmp_ne kcX10_putRight dX10_putRight_18 (by decide) rfl L S g
theorem eX10_putRight_21 (L : pmL) (S : List Value) (g : pmH) : pmV mX10_putRight 21 L S g = zPush mX10_putRight 22 (.int (nI 0)) L S g := ez_iconst kcX10_putRight dX10_putRight_21 (by decide) rfl L S g
theorem eX10_putRight_22 (L : pmL) (S : List Value) (g : pmH) : pmV mX10_putRight 22 L S g = zIret mX10_putRight S g := ez_ireturn kcX10_putRight dX10_putRight_22 L S g
theorem eX10_putRight_23 (L : pmL) (S : List Value) (g : pmH) : pmV mX10_putRight 23 L S g = zLdA mX10_putRight 24 0 L S g := ez_aload_n kcX10_putRight dX10_putRight_23 rfl rfl L S g
theorem eX10_putRight_24 (L : pmL) (S : List Value) (g : pmH) : pmV mX10_putRight 24 L S g = zGet mX10_putRight 27 10 1 L S g := ez_getfield kcX10_putRight dX10_putRight_24 fl_10_11 rfl L S g
theorem eX10_putRight_27 (L : pmL) (S : List Value) (g : pmH) : pmV mX10_putRight 27 L S g = zLdI mX10_putRight 28 1 L S g := ez_iload_n kcX10_putRight dX10_putRight_27 rfl rfl L S g
theorem eX10_putRight_28 (L : pmL) (S : List Value) (g : pmH) : pmV mX10_putRight 28 L S g = zAald mX10_putRight 29 L S g := ez_aaload kcX10_putRight dX10_putRight_28 rfl L S g
theorem eX10_putRight_29 (L : pmL) (S : List Value) (g : pmH) : pmV mX10_putRight 29 L S g = zGet mX10_putRight 32 1 6 L S g := ez_getfield kcX10_putRight dX10_putRight_29 fl_10_63 rfl L S g
theorem eX10_putRight_32 (L : pmL) (S : List Value) (g : pmH) : pmV mX10_putRight 32 L S g = zStI mX10_putRight 33 3 L S g := ez_istore_n kcX10_putRight dX10_putRight_32 rfl rfl L S g
theorem eX10_putRight_33 (L : pmL) (S : List Value) (g : pmH) : pmV mX10_putRight 33 L S g = zLdA mX10_putRight 34 0 L S g := ez_aload_n kcX10_putRight dX10_putRight_33 rfl rfl L S g
theorem eX10_putRight_34 (L : pmL) (S : List Value) (g : pmH) : pmV mX10_putRight 34 L S g = zGet mX10_putRight 37 10 1 L S g := ez_getfield kcX10_putRight dX10_putRight_34 fl_10_11 rfl L S g
theorem eX10_putRight_37 (L : pmL) (S : List Value) (g : pmH) : pmV mX10_putRight 37 L S g = zLdI mX10_putRight 38 1 L S g := ez_iload_n kcX10_putRight dX10_putRight_37 rfl rfl L S g
theorem eX10_putRight_38 (L : pmL) (S : List Value) (g : pmH) : pmV mX10_putRight 38 L S g = zAald mX10_putRight 39 L S g := ez_aaload kcX10_putRight dX10_putRight_38 rfl L S g
theorem eX10_putRight_39 (L : pmL) (S : List Value) (g : pmH) : pmV mX10_putRight 39 L S g = zLdA mX10_putRight 40 0 L S g := ez_aload_n kcX10_putRight dX10_putRight_39 rfl rfl L S g
theorem eX10_putRight_40 (L : pmL) (S : List Value) (g : pmH) : pmV mX10_putRight 40 L S g = zGet mX10_putRight 43 10 1 L S g := ez_getfield kcX10_putRight dX10_putRight_40 fl_10_11 rfl L S g
theorem eX10_putRight_43 (L : pmL) (S : List Value) (g : pmH) : pmV mX10_putRight 43 L S g = zLdI mX10_putRight 44 2 L S g := ez_iload_n kcX10_putRight dX10_putRight_43 rfl rfl L S g
theorem eX10_putRight_44 (L : pmL) (S : List Value) (g : pmH) : pmV mX10_putRight 44 L S g = zAald mX10_putRight 45 L S g := ez_aaload kcX10_putRight dX10_putRight_44 rfl L S g
theorem eX10_putRight_45 (L : pmL) (S : List Value) (g : pmH) : pmV mX10_putRight 45 L S g = zGet mX10_putRight 48 1 6 L S g := ez_getfield kcX10_putRight dX10_putRight_45 fl_10_63 rfl L S g
theorem eX10_putRight_48 (L : pmL) (S : List Value) (g : pmH) : pmV mX10_putRight 48 L S g = zPut mX10_putRight 51 1 6 L S g := ez_putfield kcX10_putRight dX10_putRight_48 fl_10_63 rfl L S g
theorem eX10_putRight_51 (L : pmL) (S : List Value) (g : pmH) : pmV mX10_putRight 51 L S g = zLdA mX10_putRight 52 0 L S g := ez_aload_n kcX10_putRight dX10_putRight_51 rfl rfl L S g
theorem eX10_putRight_52 (L : pmL) (S : List Value) (g : pmH) : pmV mX10_putRight 52 L S g = zGet mX10_putRight 55 10 1 L S g := ez_getfield kcX10_putRight dX10_putRight_52 fl_10_11 rfl L S g
theorem eX10_putRight_55 (L : pmL) (S : List Value) (g : pmH) : pmV mX10_putRight 55 L S g = zLdI mX10_putRight 56 2 L S g := ez_iload_n kcX10_putRight dX10_putRight_55 rfl rfl L S g
theorem eX10_putRight_56 (L : pmL) (S : List Value) (g : pmH) : pmV mX10_putRight 56 L S g = zAald mX10_putRight 57 L S g := ez_aaload kcX10_putRight dX10_putRight_56 rfl L S g
theorem eX10_putRight_57 (L : pmL) (S : List Value) (g : pmH) : pmV mX10_putRight 57 L S g = zLdI mX10_putRight 58 3 L S g := ez_iload_n kcX10_putRight dX10_putRight_57 rfl rfl L S g
theorem eX10_putRight_58 (L : pmL) (S : List Value) (g : pmH) : pmV mX10_putRight 58 L S g = zPut mX10_putRight 61 1 6 L S g := ez_putfield kcX10_putRight dX10_putRight_58 fl_10_63 rfl L S g
theorem eX10_putRight_61 (L : pmL) (S : List Value) (g : pmH) : pmV mX10_putRight 61 L S g = zPush mX10_putRight 62 (.int (nI 1)) L S g := ez_iconst kcX10_putRight dX10_putRight_61 (by decide) rfl L S g
theorem eX10_putRight_62 (L : pmL) (S : List Value) (g : pmH) : pmV mX10_putRight 62 L S g = zIret mX10_putRight S g := ez_ireturn kcX10_putRight dX10_putRight_62 L S g
theorem eX10_passHour_0 (L : pmL) (S : List Value) (g : pmH) : pmV mX10_passHour 0 L S g = zLdA mX10_passHour 1 0 L S g := ez_aload_n kcX10_passHour dX10_passHour_0 rfl rfl L S g
theorem eX10_passHour_1 (L : pmL) (S : List Value) (g : pmH) : pmV mX10_passHour 1 L S g = zLdA mX10_passHour 2 0 L S g := ez_aload_n kcX10_passHour dX10_passHour_1 rfl rfl L S g
theorem eX10_passHour_2 (L : pmL) (S : List Value) (g : pmH) : pmV mX10_passHour 2 L S g = zGet mX10_passHour 5 10 0 L S g := ez_getfield kcX10_passHour dX10_passHour_2 fl_10_21 rfl L S g
theorem eX10_passHour_5 (L : pmL) (S : List Value) (g : pmH) : pmV mX10_passHour 5 L S g = zLdA mX10_passHour 6 0 L S g := ez_aload_n kcX10_passHour dX10_passHour_5 rfl rfl L S g
theorem eX10_passHour_6 (L : pmL) (S : List Value) (g : pmH) : pmV mX10_passHour 6 L S g = zGet mX10_passHour 9 10 2 L S g := ez_getfield kcX10_passHour dX10_passHour_6 fl_10_26 rfl L S g
theorem eX10_passHour_9 (L : pmL) (S : List Value) (g : pmH) : pmV mX10_passHour 9 L S g = yV mX10_passHour 12 1 mX4_windOf 4 2 L S g := (ez_virtual kcX10_passHour dX10_passHour_9 ml_10_66 rfl L S g).trans (zCallV_y rfl rfl (by decide) L S g)
theorem eX10_passHour_12 (L : pmL) (S : List Value) (g : pmH) : pmV mX10_passHour 12 L S g = yV mX10_passHour 15 1 mX10_passHourBy 10 4 L S g := (ez_virtual kcX10_passHour dX10_passHour_12 ml_10_70 rfl L S g).trans (zCallV_y rfl rfl (by decide) L S g)
theorem eX10_passHour_15 (L : pmL) (S : List Value) (g : pmH) : pmV mX10_passHour 15 L S g = zIret mX10_passHour S g := ez_ireturn kcX10_passHour dX10_passHour_15 L S g
theorem eX10_passHours_0 (L : pmL) (S : List Value) (g : pmH) : pmV mX10_passHours 0 L S g = zPush mX10_passHours 1 (.int (nI 0)) L S g := ez_iconst kcX10_passHours dX10_passHours_0 (by decide) rfl L S g
theorem eX10_passHours_1 (L : pmL) (S : List Value) (g : pmH) : pmV mX10_passHours 1 L S g = zStI mX10_passHours 2 2 L S g := ez_istore_n kcX10_passHours dX10_passHours_1 rfl rfl L S g
theorem eX10_passHours_2 (L : pmL) (S : List Value) (g : pmH) : pmV mX10_passHours 2 L S g = zLdI mX10_passHours 3 2 L S g := ez_iload_n kcX10_passHours dX10_passHours_2 rfl rfl L S g
theorem eX10_passHours_3 (L : pmL) (S : List Value) (g : pmH) : pmV mX10_passHours 3 L S g = zLdI mX10_passHours 4 1 L S g := ez_iload_n kcX10_passHours dX10_passHours_3 rfl rfl L S g
theorem eX10_passHours_4 (L : pmL) (S : List Value) (g : pmH) : pmV mX10_passHours 4 L S g = zBge mX10_passHours 7 29 L S g := ez_icmp_ge kcX10_passHours dX10_passHours_4 (by decide) rfl L S g
theorem eX10_passHours_7 (L : pmL) (S : List Value) (g : pmH) : pmV mX10_passHours 7 L S g = zLdA mX10_passHours 8 0 L S g := ez_aload_n kcX10_passHours dX10_passHours_7 rfl rfl L S g
theorem eX10_passHours_8 (L : pmL) (S : List Value) (g : pmH) : pmV mX10_passHours 8 L S g = zLdA mX10_passHours 9 0 L S g := ez_aload_n kcX10_passHours dX10_passHours_8 rfl rfl L S g
theorem eX10_passHours_9 (L : pmL) (S : List Value) (g : pmH) : pmV mX10_passHours 9 L S g = zGet mX10_passHours 12 10 0 L S g := ez_getfield kcX10_passHours dX10_passHours_9 fl_10_21 rfl L S g
theorem eX10_passHours_12 (L : pmL) (S : List Value) (g : pmH) : pmV mX10_passHours 12 L S g = zLdA mX10_passHours 13 0 L S g := ez_aload_n kcX10_passHours dX10_passHours_12 rfl rfl L S g
theorem eX10_passHours_13 (L : pmL) (S : List Value) (g : pmH) : pmV mX10_passHours 13 L S g = zGet mX10_passHours 16 10 2 L S g := ez_getfield kcX10_passHours dX10_passHours_13 fl_10_26 rfl L S g
theorem eX10_passHours_16 (L : pmL) (S : List Value) (g : pmH) : pmV mX10_passHours 16 L S g = yV mX10_passHours 19 1 mX4_windOf 4 2 L S g := (ez_virtual kcX10_passHours dX10_passHours_16 ml_10_66 rfl L S g).trans (zCallV_y rfl rfl (by decide) L S g)
theorem eX10_passHours_19 (L : pmL) (S : List Value) (g : pmH) : pmV mX10_passHours 19 L S g = yV mX10_passHours 22 1 mX10_passHourBy 10 4 L S g := (ez_virtual kcX10_passHours dX10_passHours_19 ml_10_70 rfl L S g).trans (zCallV_y rfl rfl (by decide) L S g)
theorem eX10_passHours_22 (L : pmL) (S : List Value) (g : pmH) : pmV mX10_passHours 22 L S g = zPop mX10_passHours 23 L S g := ez_pop kcX10_passHours dX10_passHours_22 rfl L S g
theorem eX10_passHours_23 (L : pmL) (S : List Value) (g : pmH) : pmV mX10_passHours 23 L S g = zInc mX10_passHours 26 2 (nI 1) L S g := ez_iinc kcX10_passHours dX10_passHours_23 (by decide) rfl L S g
theorem eX10_passHours_26 (L : pmL) (S : List Value) (g : pmH) : pmV mX10_passHours 26 L S g = zNx mX10_passHours 2 L S g := ez_goto kcX10_passHours dX10_passHours_26 (by decide) L S g
theorem eX10_passHours_29 (L : pmL) (S : List Value) (g : pmH) : pmV mX10_passHours 29 L S g = zVret S g := ez_return kcX10_passHours dX10_passHours_29 rfl L S g
theorem eX10_passHourBy_0 (L : pmL) (S : List Value) (g : pmH) : pmV mX10_passHourBy 0 L S g = zPush mX10_passHourBy 1 (.int (nI 0)) L S g := ez_iconst kcX10_passHourBy dX10_passHourBy_0 (by decide) rfl L S g
theorem eX10_passHourBy_1 (L : pmL) (S : List Value) (g : pmH) : pmV mX10_passHourBy 1 L S g = zStI mX10_passHourBy 2 2 L S g := ez_istore_n kcX10_passHourBy dX10_passHourBy_1 rfl rfl L S g
theorem eX10_passHourBy_2 (L : pmL) (S : List Value) (g : pmH) : pmV mX10_passHourBy 2 L S g = zLdI mX10_passHourBy 3 2 L S g := ez_iload_n kcX10_passHourBy dX10_passHourBy_2 rfl rfl L S g
theorem eX10_passHourBy_3 (L : pmL) (S : List Value) (g : pmH) : pmV mX10_passHourBy 3 L S g = zLdA mX10_passHourBy 4 0 L S g := ez_aload_n kcX10_passHourBy dX10_passHourBy_3 rfl rfl L S g
theorem eX10_passHourBy_4 (L : pmL) (S : List Value) (g : pmH) : pmV mX10_passHourBy 4 L S g = zGet mX10_passHourBy 7 10 0 L S g := ez_getfield kcX10_passHourBy dX10_passHourBy_4 fl_10_21 rfl L S g
theorem eX10_passHourBy_7 (L : pmL) (S : List Value) (g : pmH) : pmV mX10_passHourBy 7 L S g = zGet mX10_passHourBy 10 4 8 L S g := ez_getfield kcX10_passHourBy dX10_passHourBy_7 fl_10_29 rfl L S g
theorem eX10_passHourBy_10 (L : pmL) (S : List Value) (g : pmH) : pmV mX10_passHourBy 10 L S g = zBge mX10_passHourBy 13 33 L S g := ez_icmp_ge kcX10_passHourBy dX10_passHourBy_10 (by decide) rfl L S g
theorem eX10_passHourBy_13 (L : pmL) (S : List Value) (g : pmH) : pmV mX10_passHourBy 13 L S g = zLdA mX10_passHourBy 14 0 L S g := ez_aload_n kcX10_passHourBy dX10_passHourBy_13 rfl rfl L S g
theorem eX10_passHourBy_14 (L : pmL) (S : List Value) (g : pmH) : pmV mX10_passHourBy 14 L S g = zGet mX10_passHourBy 17 10 1 L S g := ez_getfield kcX10_passHourBy dX10_passHourBy_14 fl_10_11 rfl L S g
theorem eX10_passHourBy_17 (L : pmL) (S : List Value) (g : pmH) : pmV mX10_passHourBy 17 L S g = zLdI mX10_passHourBy 18 2 L S g := ez_iload_n kcX10_passHourBy dX10_passHourBy_17 rfl rfl L S g
theorem eX10_passHourBy_18 (L : pmL) (S : List Value) (g : pmH) : pmV mX10_passHourBy 18 L S g = zAald mX10_passHourBy 19 L S g := ez_aaload kcX10_passHourBy dX10_passHourBy_18 rfl L S g
theorem eX10_passHourBy_19 (L : pmL) (S : List Value) (g : pmH) : pmV mX10_passHourBy 19 L S g = zLdI mX10_passHourBy 20 1 L S g := ez_iload_n kcX10_passHourBy dX10_passHourBy_19 rfl rfl L S g
theorem eX10_passHourBy_20 (L : pmL) (S : List Value) (g : pmH) : pmV mX10_passHourBy 20 L S g = zLdA mX10_passHourBy 21 0 L S g := ez_aload_n kcX10_passHourBy dX10_passHourBy_20 rfl rfl L S g
theorem eX10_passHourBy_21 (L : pmL) (S : List Value) (g : pmH) : pmV mX10_passHourBy 21 L S g = zGet mX10_passHourBy 24 10 2 L S g := ez_getfield kcX10_passHourBy dX10_passHourBy_21 fl_10_26 rfl L S g
theorem eX10_passHourBy_24 (L : pmL) (S : List Value) (g : pmH) : pmV mX10_passHourBy 24 L S g = yV mX10_passHourBy 27 2 mX1_goBy 1 4 L S g := (ez_virtual kcX10_passHourBy dX10_passHourBy_24 ml_10_73 rfl L S g).trans (zCallV_y rfl rfl (by decide) L S g)
theorem eX10_passHourBy_27 (L : pmL) (S : List Value) (g : pmH) : pmV mX10_passHourBy 27 L S g = zInc mX10_passHourBy 30 2 (nI 1) L S g := ez_iinc kcX10_passHourBy dX10_passHourBy_27 (by decide) rfl L S g
theorem eX10_passHourBy_30 (L : pmL) (S : List Value) (g : pmH) : pmV mX10_passHourBy 30 L S g = zNx mX10_passHourBy 2 L S g := ez_goto kcX10_passHourBy dX10_passHourBy_30 (by decide) L S g
theorem eX10_passHourBy_33 (L : pmL) (S : List Value) (g : pmH) : pmV mX10_passHourBy 33 L S g = zLdA mX10_passHourBy 34 0 L S g := ez_aload_n kcX10_passHourBy dX10_passHourBy_33 rfl rfl L S g
theorem eX10_passHourBy_34 (L : pmL) (S : List Value) (g : pmH) : pmV mX10_passHourBy 34 L S g = zDup mX10_passHourBy 35 L S g := ez_dup kcX10_passHourBy dX10_passHourBy_34 rfl L S g
theorem eX10_passHourBy_35 (L : pmL) (S : List Value) (g : pmH) : pmV mX10_passHourBy 35 L S g = zGet mX10_passHourBy 38 10 2 L S g := ez_getfield kcX10_passHourBy dX10_passHourBy_35 fl_10_26 rfl L S g
theorem eX10_passHourBy_38 (L : pmL) (S : List Value) (g : pmH) : pmV mX10_passHourBy 38 L S g = zPush mX10_passHourBy 39 (.int (nI 1)) L S g := ez_iconst kcX10_passHourBy dX10_passHourBy_38 (by decide) rfl L S g
theorem eX10_passHourBy_39 (L : pmL) (S : List Value) (g : pmH) : pmV mX10_passHourBy 39 L S g = zAdd mX10_passHourBy 40 L S g := ez_iadd kcX10_passHourBy dX10_passHourBy_39 rfl L S g
theorem eX10_passHourBy_40 (L : pmL) (S : List Value) (g : pmH) : pmV mX10_passHourBy 40 L S g = zPut mX10_passHourBy 43 10 2 L S g := ez_putfield kcX10_passHourBy dX10_passHourBy_40 fl_10_26 rfl L S g
theorem eX10_passHourBy_43 (L : pmL) (S : List Value) (g : pmH) : pmV mX10_passHourBy 43 L S g = zPush mX10_passHourBy 44 (.int (nI 0)) L S g := ez_iconst kcX10_passHourBy dX10_passHourBy_43 (by decide) rfl L S g
theorem eX10_passHourBy_44 (L : pmL) (S : List Value) (g : pmH) : pmV mX10_passHourBy 44 L S g = zStI mX10_passHourBy 45 2 L S g := ez_istore_n kcX10_passHourBy dX10_passHourBy_44 rfl rfl L S g
theorem eX10_passHourBy_45 (L : pmL) (S : List Value) (g : pmH) : pmV mX10_passHourBy 45 L S g = zPush mX10_passHourBy 46 (.int (nI 0)) L S g := ez_iconst kcX10_passHourBy dX10_passHourBy_45 (by decide) rfl L S g
theorem eX10_passHourBy_46 (L : pmL) (S : List Value) (g : pmH) : pmV mX10_passHourBy 46 L S g = zStI mX10_passHourBy 47 3 L S g := ez_istore_n kcX10_passHourBy dX10_passHourBy_46 rfl rfl L S g
theorem eX10_passHourBy_47 (L : pmL) (S : List Value) (g : pmH) : pmV mX10_passHourBy 47 L S g = zLdI mX10_passHourBy 48 3 L S g := ez_iload_n kcX10_passHourBy dX10_passHourBy_47 rfl rfl L S g
theorem eX10_passHourBy_48 (L : pmL) (S : List Value) (g : pmH) : pmV mX10_passHourBy 48 L S g = zLdA mX10_passHourBy 49 0 L S g := ez_aload_n kcX10_passHourBy dX10_passHourBy_48 rfl rfl L S g
theorem eX10_passHourBy_49 (L : pmL) (S : List Value) (g : pmH) : pmV mX10_passHourBy 49 L S g = zGet mX10_passHourBy 52 10 0 L S g := ez_getfield kcX10_passHourBy dX10_passHourBy_49 fl_10_21 rfl L S g
theorem eX10_passHourBy_52 (L : pmL) (S : List Value) (g : pmH) : pmV mX10_passHourBy 52 L S g = zGet mX10_passHourBy 55 4 8 L S g := ez_getfield kcX10_passHourBy dX10_passHourBy_52 fl_10_29 rfl L S g
theorem eX10_passHourBy_55 (L : pmL) (S : List Value) (g : pmH) : pmV mX10_passHourBy 55 L S g = zBge mX10_passHourBy 58 93 L S g := ez_icmp_ge kcX10_passHourBy dX10_passHourBy_55 (by decide) rfl L S g
theorem eX10_passHourBy_58 (L : pmL) (S : List Value) (g : pmH) : pmV mX10_passHourBy 58 L S g = zLdA mX10_passHourBy 59 0 L S g := ez_aload_n kcX10_passHourBy dX10_passHourBy_58 rfl rfl L S g
theorem eX10_passHourBy_59 (L : pmL) (S : List Value) (g : pmH) : pmV mX10_passHourBy 59 L S g = zGet mX10_passHourBy 62 10 1 L S g := ez_getfield kcX10_passHourBy dX10_passHourBy_59 fl_10_11 rfl L S g
theorem eX10_passHourBy_62 (L : pmL) (S : List Value) (g : pmH) : pmV mX10_passHourBy 62 L S g = zLdI mX10_passHourBy 63 3 L S g := ez_iload_n kcX10_passHourBy dX10_passHourBy_62 rfl rfl L S g
theorem eX10_passHourBy_63 (L : pmL) (S : List Value) (g : pmH) : pmV mX10_passHourBy 63 L S g = zAald mX10_passHourBy 64 L S g := ez_aaload kcX10_passHourBy dX10_passHourBy_63 rfl L S g
theorem eX10_passHourBy_64 (L : pmL) (S : List Value) (g : pmH) : pmV mX10_passHourBy 64 L S g = zGet mX10_passHourBy 67 1 2 L S g := ez_getfield kcX10_passHourBy dX10_passHourBy_64 fl_10_52 rfl L S g
theorem eX10_passHourBy_67 (L : pmL) (S : List Value) (g : pmH) : pmV mX10_passHourBy 67 L S g = zPush mX10_passHourBy 68 (.int (nI 1)) L S g := ez_iconst kcX10_passHourBy dX10_passHourBy_67 (by decide) rfl L S g
theorem eX10_passHourBy_68 (L : pmL) (S : List Value) (g : pmH) : pmV mX10_passHourBy 68 L S g = zBne mX10_passHourBy 71 87 L S g := ez_icmp_ne kcX10_passHourBy dX10_passHourBy_68 (by decide) rfl L S g
theorem eX10_passHourBy_71 (L : pmL) (S : List Value) (g : pmH) : pmV mX10_passHourBy 71 L S g = zLdA mX10_passHourBy 72 0 L S g := ez_aload_n kcX10_passHourBy dX10_passHourBy_71 rfl rfl L S g
theorem eX10_passHourBy_72 (L : pmL) (S : List Value) (g : pmH) : pmV mX10_passHourBy 72 L S g = zLdA mX10_passHourBy 73 0 L S g := ez_aload_n kcX10_passHourBy dX10_passHourBy_72 rfl rfl L S g
theorem eX10_passHourBy_73 (L : pmL) (S : List Value) (g : pmH) : pmV mX10_passHourBy 73 L S g = zGet mX10_passHourBy 76 10 1 L S g := ez_getfield kcX10_passHourBy dX10_passHourBy_73 fl_10_11 rfl L S g
theorem eX10_passHourBy_76 (L : pmL) (S : List Value) (g : pmH) : pmV mX10_passHourBy 76 L S g = zLdI mX10_passHourBy 77 3 L S g := ez_iload_n kcX10_passHourBy dX10_passHourBy_76 rfl rfl L S g
theorem eX10_passHourBy_77 (L : pmL) (S : List Value) (g : pmH) : pmV mX10_passHourBy 77 L S g = zAald mX10_passHourBy 78 L S g := ez_aaload kcX10_passHourBy dX10_passHourBy_77 rfl L S g
theorem eX10_passHourBy_78 (L : pmL) (S : List Value) (g : pmH) : pmV mX10_passHourBy 78 L S g = yV mX10_passHourBy 81 1 mX10_catches 10 3 L S g := (ez_virtual kcX10_passHourBy dX10_passHourBy_78 ml_10_77 rfl L S g).trans (zCallV_y rfl rfl (by decide) L S g)
theorem eX10_passHourBy_81 (L : pmL) (S : List Value) (g : pmH) : pmV mX10_passHourBy 81 L S g = zCeq mX10_passHourBy 84 87 L S g := ez_if_eq kcX10_passHourBy dX10_passHourBy_81 (by decide) rfl L S g
theorem eX10_passHourBy_84 (L : pmL) (S : List Value) (g : pmH) : pmV mX10_passHourBy 84 L S g = zInc mX10_passHourBy 87 2 (nI 1) L S g := ez_iinc kcX10_passHourBy dX10_passHourBy_84 (by decide) rfl L S g
theorem eX10_passHourBy_87 (L : pmL) (S : List Value) (g : pmH) : pmV mX10_passHourBy 87 L S g = zInc mX10_passHourBy 90 3 (nI 1) L S g := ez_iinc kcX10_passHourBy dX10_passHourBy_87 (by decide) rfl L S g
theorem eX10_passHourBy_90 (L : pmL) (S : List Value) (g : pmH) : pmV mX10_passHourBy 90 L S g = zNx mX10_passHourBy 47 L S g := ez_goto kcX10_passHourBy dX10_passHourBy_90 (by decide) L S g
theorem eX10_passHourBy_93 (L : pmL) (S : List Value) (g : pmH) : pmV mX10_passHourBy 93 L S g = zLdI mX10_passHourBy 94 2 L S g := ez_iload_n kcX10_passHourBy dX10_passHourBy_93 rfl rfl L S g
theorem eX10_passHourBy_94 (L : pmL) (S : List Value) (g : pmH) : pmV mX10_passHourBy 94 L S g = zIret mX10_passHourBy S g := ez_ireturn kcX10_passHourBy dX10_passHourBy_94 L S g
theorem eX10_catches_0 (L : pmL) (S : List Value) (g : pmH) : pmV mX10_catches 0 L S g = zLdA mX10_catches 1 0 L S g := ez_aload_n kcX10_catches dX10_catches_0 rfl rfl L S g
theorem eX10_catches_1 (L : pmL) (S : List Value) (g : pmH) : pmV mX10_catches 1 L S g = zGet mX10_catches 4 10 0 L S g := ez_getfield kcX10_catches dX10_catches_1 fl_10_21 rfl L S g
theorem eX10_catches_4 (L : pmL) (S : List Value) (g : pmH) : pmV mX10_catches 4 L S g = zLdA mX10_catches 5 1 L S g := ez_aload_n kcX10_catches dX10_catches_4 rfl rfl L S g
theorem eX10_catches_5 (L : pmL) (S : List Value) (g : pmH) : pmV mX10_catches 5 L S g = zGet mX10_catches 8 1 1 L S g := ez_getfield kcX10_catches dX10_catches_5 fl_10_81 rfl L S g
theorem eX10_catches_8 (L : pmL) (S : List Value) (g : pmH) : pmV mX10_catches 8 L S g = yV mX10_catches 11 1 mX4_hedgeAt 4 3 L S g := (ez_virtual kcX10_catches dX10_catches_8 ml_10_84 rfl L S g).trans (zCallV_y rfl rfl (by decide) L S g)
theorem eX10_catches_11 (L : pmL) (S : List Value) (g : pmH) : pmV mX10_catches 11 L S g = zStI mX10_catches 12 2 L S g := ez_istore_n kcX10_catches dX10_catches_11 rfl rfl L S g
theorem eX10_catches_12 (L : pmL) (S : List Value) (g : pmH) : pmV mX10_catches 12 L S g = zLdI mX10_catches 13 2 L S g := ez_iload_n kcX10_catches dX10_catches_12 rfl rfl L S g
theorem eX10_catches_13 (L : pmL) (S : List Value) (g : pmH) : pmV mX10_catches 13 L S g = zPush mX10_catches 15 (.int (-9)) L S g := ez_bipush kcX10_catches dX10_catches_13 (by decide) rfl L S g
theorem eX10_catches_15 (L : pmL) (S : List Value) (g : pmH) : pmV mX10_catches 15 L S g = zBeq mX10_catches 18 26 L S g := ez_icmp_eq kcX10_catches dX10_catches_15 (by decide) rfl L S g
theorem eX10_catches_18 (L : pmL) (S : List Value) (g : pmH) : pmV mX10_catches 18 L S g = zLdA mX10_catches 19 0 L S g := ez_aload_n kcX10_catches dX10_catches_18 rfl rfl L S g
theorem eX10_catches_19 (L : pmL) (S : List Value) (g : pmH) : pmV mX10_catches 19 L S g = zLdI mX10_catches 20 2 L S g := ez_iload_n kcX10_catches dX10_catches_19 rfl rfl L S g
theorem eX10_catches_20 (L : pmL) (S : List Value) (g : pmH) : pmV mX10_catches 20 L S g = yV mX10_catches 23 1 mX10_stands 10 2 L S g := (ez_virtual kcX10_catches dX10_catches_20 ml_10_87 rfl L S g).trans (zCallV_y rfl rfl (by decide) L S g)
theorem eX10_catches_23 (L : pmL) (S : List Value) (g : pmH) : pmV mX10_catches 23 L S g = zCne mX10_catches 26 28 L S g := ez_if_ne kcX10_catches dX10_catches_23 (by decide) rfl L S g
theorem eX10_catches_26 (L : pmL) (S : List Value) (g : pmH) : pmV mX10_catches 26 L S g = zPush mX10_catches 27 (.int (nI 0)) L S g := ez_iconst kcX10_catches dX10_catches_26 (by decide) rfl L S g
theorem eX10_catches_27 (L : pmL) (S : List Value) (g : pmH) : pmV mX10_catches 27 L S g = zIret mX10_catches S g := ez_ireturn kcX10_catches dX10_catches_27 L S g
theorem eX10_catches_28 (L : pmL) (S : List Value) (g : pmH) : pmV mX10_catches 28 L S g = zLdA mX10_catches 29 1 L S g := ez_aload_n kcX10_catches dX10_catches_28 rfl rfl L S g
theorem eX10_catches_29 (L : pmL) (S : List Value) (g : pmH) : pmV mX10_catches 29 L S g = zLdI mX10_catches 30 2 L S g := ez_iload_n kcX10_catches dX10_catches_29 rfl rfl L S g
theorem eX10_catches_30 (L : pmL) (S : List Value) (g : pmH) : pmV mX10_catches 30 L S g = zLdA mX10_catches 31 0 L S g := ez_aload_n kcX10_catches dX10_catches_30 rfl rfl L S g
theorem eX10_catches_31 (L : pmL) (S : List Value) (g : pmH) : pmV mX10_catches 31 L S g = zGet mX10_catches 34 10 2 L S g := ez_getfield kcX10_catches dX10_catches_31 fl_10_26 rfl L S g
theorem eX10_catches_34 (L : pmL) (S : List Value) (g : pmH) : pmV mX10_catches 34 L S g = yV mX10_catches 37 2 mX1_catchIn 1 3 L S g := (ez_virtual kcX10_catches dX10_catches_34 ml_10_90 rfl L S g).trans (zCallV_y rfl rfl (by decide) L S g)
theorem eX10_catches_37 (L : pmL) (S : List Value) (g : pmH) : pmV mX10_catches 37 L S g = zPush mX10_catches 38 (.int (nI 1)) L S g := ez_iconst kcX10_catches dX10_catches_37 (by decide) rfl L S g
theorem eX10_catches_38 (L : pmL) (S : List Value) (g : pmH) : pmV mX10_catches 38 L S g = zIret mX10_catches S g := ez_ireturn kcX10_catches dX10_catches_38 L S g
theorem eX10_stands_0 (L : pmL) (S : List Value) (g : pmH) : pmV mX10_stands 0 L S g = zLdA mX10_stands 1 0 L S g := ez_aload_n kcX10_stands dX10_stands_0 rfl rfl L S g
theorem eX10_stands_1 (L : pmL) (S : List Value) (g : pmH) : pmV mX10_stands 1 L S g = zGet mX10_stands 4 10 3 L S g := ez_getfield kcX10_stands dX10_stands_1 fl_10_17 rfl L S g
theorem eX10_stands_4 (L : pmL) (S : List Value) (g : pmH) : pmV mX10_stands 4 L S g = zLdI mX10_stands 5 1 L S g := ez_iload_n kcX10_stands dX10_stands_4 rfl rfl L S g
theorem eX10_stands_5 (L : pmL) (S : List Value) (g : pmH) : pmV mX10_stands 5 L S g = zShr mX10_stands 6 L S g := ez_ishr kcX10_stands dX10_stands_5 rfl L S g
theorem eX10_stands_6 (L : pmL) (S : List Value) (g : pmH) : pmV mX10_stands 6 L S g = zPush mX10_stands 7 (.int (nI 1)) L S g := ez_iconst kcX10_stands dX10_stands_6 (by decide) rfl L S g
theorem eX10_stands_7 (L : pmL) (S : List Value) (g : pmH) : pmV mX10_stands 7 L S g = zAnd mX10_stands 8 L S g := ez_iand kcX10_stands dX10_stands_7 rfl L S g
theorem eX10_stands_8 (L : pmL) (S : List Value) (g : pmH) : pmV mX10_stands 8 L S g = zCeq mX10_stands 11 15 L S g := ez_if_eq kcX10_stands dX10_stands_8 (by decide) rfl L S g
theorem eX10_stands_11 (L : pmL) (S : List Value) (g : pmH) : pmV mX10_stands 11 L S g = zPush mX10_stands 12 (.int (nI 1)) L S g := ez_iconst kcX10_stands dX10_stands_11 (by decide) rfl L S g
theorem eX10_stands_12 (L : pmL) (S : List Value) (g : pmH) : pmV mX10_stands 12 L S g = zNx mX10_stands 16 L S g := ez_goto kcX10_stands dX10_stands_12 (by decide) L S g
theorem eX10_stands_15 (L : pmL) (S : List Value) (g : pmH) : pmV mX10_stands 15 L S g = zPush mX10_stands 16 (.int (nI 0)) L S g := ez_iconst kcX10_stands dX10_stands_15 (by decide) rfl L S g
theorem eX10_stands_16 (L : pmL) (S : List Value) (g : pmH) : pmV mX10_stands 16 L S g = zIret mX10_stands S g := ez_ireturn kcX10_stands dX10_stands_16 L S g
theorem eX10_leaveStanding_0 (L : pmL) (S : List Value) (g : pmH) : pmV mX10_leaveStanding 0 L S g = zLdA mX10_leaveStanding 1 0 L S g := ez_aload_n kcX10_leaveStanding dX10_leaveStanding_0 rfl rfl L S g
theorem eX10_leaveStanding_1 (L : pmL) (S : List Value) (g : pmH) : pmV mX10_leaveStanding 1 L S g = zLdI mX10_leaveStanding 2 1 L S g := ez_iload_n kcX10_leaveStanding dX10_leaveStanding_1 rfl rfl L S g
theorem eX10_leaveStanding_2 (L : pmL) (S : List Value) (g : pmH) : pmV mX10_leaveStanding 2 L S g = zPut mX10_leaveStanding 5 10 3 L S g := ez_putfield kcX10_leaveStanding dX10_leaveStanding_2 fl_10_17 rfl L S g
theorem eX10_leaveStanding_5 (L : pmL) (S : List Value) (g : pmH) : pmV mX10_leaveStanding 5 L S g = zPush mX10_leaveStanding 6 (.int (nI 0)) L S g := ez_iconst kcX10_leaveStanding dX10_leaveStanding_5 (by decide) rfl L S g
theorem eX10_leaveStanding_6 (L : pmL) (S : List Value) (g : pmH) : pmV mX10_leaveStanding 6 L S g = zStI mX10_leaveStanding 7 2 L S g := ez_istore_n kcX10_leaveStanding dX10_leaveStanding_6 rfl rfl L S g
theorem eX10_leaveStanding_7 (L : pmL) (S : List Value) (g : pmH) : pmV mX10_leaveStanding 7 L S g = zLdI mX10_leaveStanding 8 2 L S g := ez_iload_n kcX10_leaveStanding dX10_leaveStanding_7 rfl rfl L S g
theorem eX10_leaveStanding_8 (L : pmL) (S : List Value) (g : pmH) : pmV mX10_leaveStanding 8 L S g = zLdA mX10_leaveStanding 9 0 L S g := ez_aload_n kcX10_leaveStanding dX10_leaveStanding_8 rfl rfl L S g
theorem eX10_leaveStanding_9 (L : pmL) (S : List Value) (g : pmH) : pmV mX10_leaveStanding 9 L S g = zGet mX10_leaveStanding 12 10 0 L S g := ez_getfield kcX10_leaveStanding dX10_leaveStanding_9 fl_10_21 rfl L S g
theorem eX10_leaveStanding_12 (L : pmL) (S : List Value) (g : pmH) : pmV mX10_leaveStanding 12 L S g = zGet mX10_leaveStanding 15 4 8 L S g := ez_getfield kcX10_leaveStanding dX10_leaveStanding_12 fl_10_29 rfl L S g
theorem eX10_leaveStanding_15 (L : pmL) (S : List Value) (g : pmH) : pmV mX10_leaveStanding 15 L S g = zBge mX10_leaveStanding 18 62 L S g := ez_icmp_ge kcX10_leaveStanding dX10_leaveStanding_15 (by decide) rfl L S g
theorem eX10_leaveStanding_18 (L : pmL) (S : List Value) (g : pmH) : pmV mX10_leaveStanding 18 L S g = zLdA mX10_leaveStanding 19 0 L S g := ez_aload_n kcX10_leaveStanding dX10_leaveStanding_18 rfl rfl L S g
theorem eX10_leaveStanding_19 (L : pmL) (S : List Value) (g : pmH) : pmV mX10_leaveStanding 19 L S g = zGet mX10_leaveStanding 22 10 1 L S g := ez_getfield kcX10_leaveStanding dX10_leaveStanding_19 fl_10_11 rfl L S g
theorem eX10_leaveStanding_22 (L : pmL) (S : List Value) (g : pmH) : pmV mX10_leaveStanding 22 L S g = zLdI mX10_leaveStanding 23 2 L S g := ez_iload_n kcX10_leaveStanding dX10_leaveStanding_22 rfl rfl L S g
theorem eX10_leaveStanding_23 (L : pmL) (S : List Value) (g : pmH) : pmV mX10_leaveStanding 23 L S g = zAald mX10_leaveStanding 24 L S g := ez_aaload kcX10_leaveStanding dX10_leaveStanding_23 rfl L S g
theorem eX10_leaveStanding_24 (L : pmL) (S : List Value) (g : pmH) : pmV mX10_leaveStanding 24 L S g = zGet mX10_leaveStanding 27 1 3 L S g := ez_getfield kcX10_leaveStanding dX10_leaveStanding_24 fl_10_93 rfl L S g
theorem eX10_leaveStanding_27 (L : pmL) (S : List Value) (g : pmH) : pmV mX10_leaveStanding 27 L S g = zClt mX10_leaveStanding 30 56 L S g := ez_if_lt kcX10_leaveStanding dX10_leaveStanding_27 (by decide) rfl L S g
theorem eX10_leaveStanding_30 (L : pmL) (S : List Value) (g : pmH) : pmV mX10_leaveStanding 30 L S g = zLdA mX10_leaveStanding 31 0 L S g := ez_aload_n kcX10_leaveStanding dX10_leaveStanding_30 rfl rfl L S g
theorem eX10_leaveStanding_31 (L : pmL) (S : List Value) (g : pmH) : pmV mX10_leaveStanding 31 L S g = zLdA mX10_leaveStanding 32 0 L S g := ez_aload_n kcX10_leaveStanding dX10_leaveStanding_31 rfl rfl L S g
theorem eX10_leaveStanding_32 (L : pmL) (S : List Value) (g : pmH) : pmV mX10_leaveStanding 32 L S g = zGet mX10_leaveStanding 35 10 1 L S g := ez_getfield kcX10_leaveStanding dX10_leaveStanding_32 fl_10_11 rfl L S g
theorem eX10_leaveStanding_35 (L : pmL) (S : List Value) (g : pmH) : pmV mX10_leaveStanding 35 L S g = zLdI mX10_leaveStanding 36 2 L S g := ez_iload_n kcX10_leaveStanding dX10_leaveStanding_35 rfl rfl L S g
theorem eX10_leaveStanding_36 (L : pmL) (S : List Value) (g : pmH) : pmV mX10_leaveStanding 36 L S g = zAald mX10_leaveStanding 37 L S g := ez_aaload kcX10_leaveStanding dX10_leaveStanding_36 rfl L S g
theorem eX10_leaveStanding_37 (L : pmL) (S : List Value) (g : pmH) : pmV mX10_leaveStanding 37 L S g = zGet mX10_leaveStanding 40 1 3 L S g := ez_getfield kcX10_leaveStanding dX10_leaveStanding_37 fl_10_93 rfl L S g
theorem eX10_leaveStanding_40 (L : pmL) (S : List Value) (g : pmH) : pmV mX10_leaveStanding 40 L S g = yV mX10_leaveStanding 43 1 mX10_stands 10 2 L S g := (ez_virtual kcX10_leaveStanding dX10_leaveStanding_40 ml_10_87 rfl L S g).trans (zCallV_y rfl rfl (by decide) L S g)
theorem eX10_leaveStanding_43 (L : pmL) (S : List Value) (g : pmH) : pmV mX10_leaveStanding 43 L S g = zCne mX10_leaveStanding 46 56 L S g := ez_if_ne kcX10_leaveStanding dX10_leaveStanding_43 (by decide) rfl L S g
theorem eX10_leaveStanding_46 (L : pmL) (S : List Value) (g : pmH) : pmV mX10_leaveStanding 46 L S g = zLdA mX10_leaveStanding 47 0 L S g := ez_aload_n kcX10_leaveStanding dX10_leaveStanding_46 rfl rfl L S g
theorem eX10_leaveStanding_47 (L : pmL) (S : List Value) (g : pmH) : pmV mX10_leaveStanding 47 L S g = zGet mX10_leaveStanding 50 10 1 L S g := ez_getfield kcX10_leaveStanding dX10_leaveStanding_47 fl_10_11 rfl L S g
theorem eX10_leaveStanding_50 (L : pmL) (S : List Value) (g : pmH) : pmV mX10_leaveStanding 50 L S g = zLdI mX10_leaveStanding 51 2 L S g := ez_iload_n kcX10_leaveStanding dX10_leaveStanding_50 rfl rfl L S g
theorem eX10_leaveStanding_51 (L : pmL) (S : List Value) (g : pmH) : pmV mX10_leaveStanding 51 L S g = zAald mX10_leaveStanding 52 L S g := ez_aaload kcX10_leaveStanding dX10_leaveStanding_51 rfl L S g
theorem eX10_leaveStanding_52 (L : pmL) (S : List Value) (g : pmH) : pmV mX10_leaveStanding 52 L S g = zPush mX10_leaveStanding 53 (.int (nI 3)) L S g := ez_iconst kcX10_leaveStanding dX10_leaveStanding_52 (by decide) rfl L S g
theorem eX10_leaveStanding_53 (L : pmL) (S : List Value) (g : pmH) : pmV mX10_leaveStanding 53 L S g = yV mX10_leaveStanding 56 1 mX1_leaveHedge 1 2 L S g := (ez_virtual kcX10_leaveStanding dX10_leaveStanding_53 ml_10_59 rfl L S g).trans (zCallV_y rfl rfl (by decide) L S g)
theorem eX10_leaveStanding_56 (L : pmL) (S : List Value) (g : pmH) : pmV mX10_leaveStanding 56 L S g = zInc mX10_leaveStanding 59 2 (nI 1) L S g := ez_iinc kcX10_leaveStanding dX10_leaveStanding_56 (by decide) rfl L S g
theorem eX10_leaveStanding_59 (L : pmL) (S : List Value) (g : pmH) : pmV mX10_leaveStanding 59 L S g = zNx mX10_leaveStanding 7 L S g := ez_goto kcX10_leaveStanding dX10_leaveStanding_59 (by decide) L S g
theorem eX10_leaveStanding_62 (L : pmL) (S : List Value) (g : pmH) : pmV mX10_leaveStanding 62 L S g = zVret S g := ez_return kcX10_leaveStanding dX10_leaveStanding_62 rfl L S g
theorem eX10_whatCame_0 (L : pmL) (S : List Value) (g : pmH) : pmV mX10_whatCame 0 L S g = zLdA mX10_whatCame 1 0 L S g := ez_aload_n kcX10_whatCame dX10_whatCame_0 rfl rfl L S g
theorem eX10_whatCame_1 (L : pmL) (S : List Value) (g : pmH) : pmV mX10_whatCame 1 L S g = zGet mX10_whatCame 4 10 1 L S g := ez_getfield kcX10_whatCame dX10_whatCame_1 fl_10_11 rfl L S g
theorem eX10_whatCame_4 (L : pmL) (S : List Value) (g : pmH) : pmV mX10_whatCame 4 L S g = zLdI mX10_whatCame 5 1 L S g := ez_iload_n kcX10_whatCame dX10_whatCame_4 rfl rfl L S g
theorem eX10_whatCame_5 (L : pmL) (S : List Value) (g : pmH) : pmV mX10_whatCame 5 L S g = zAald mX10_whatCame 6 L S g := ez_aaload kcX10_whatCame dX10_whatCame_5 rfl L S g
theorem eX10_whatCame_6 (L : pmL) (S : List Value) (g : pmH) : pmV mX10_whatCame 6 L S g = zStA mX10_whatCame 7 2 L S g := ez_astore_n kcX10_whatCame dX10_whatCame_6 rfl rfl L S g
theorem eX10_whatCame_7 (L : pmL) (S : List Value) (g : pmH) : pmV mX10_whatCame 7 L S g = zLdA mX10_whatCame 8 2 L S g := ez_aload_n kcX10_whatCame dX10_whatCame_7 rfl rfl L S g
theorem eX10_whatCame_8 (L : pmL) (S : List Value) (g : pmH) : pmV mX10_whatCame 8 L S g = zGet mX10_whatCame 11 1 3 L S g := ez_getfield kcX10_whatCame dX10_whatCame_8 fl_10_93 rfl L S g
theorem eX10_whatCame_11 (L : pmL) (S : List Value) (g : pmH) : pmV mX10_whatCame 11 L S g = zClt mX10_whatCame 14 52 L S g := ez_if_lt kcX10_whatCame dX10_whatCame_11 (by decide) rfl L S g
theorem eX10_whatCame_14 (L : pmL) (S : List Value) (g : pmH) : pmV mX10_whatCame 14 L S g = zLdA mX10_whatCame 15 2 L S g := ez_aload_n kcX10_whatCame dX10_whatCame_14 rfl rfl L S g
theorem eX10_whatCame_15 (L : pmL) (S : List Value) (g : pmH) : pmV mX10_whatCame 15 L S g = zGet mX10_whatCame 18 1 3 L S g := ez_getfield kcX10_whatCame dX10_whatCame_15 fl_10_93 rfl L S g
theorem eX10_whatCame_18 (L : pmL) (S : List Value) (g : pmH) : pmV mX10_whatCame 18 L S g = zLdA mX10_whatCame 19 0 L S g := ez_aload_n kcX10_whatCame dX10_whatCame_18 rfl rfl L S g
theorem eX10_whatCame_19 (L : pmL) (S : List Value) (g : pmH) : pmV mX10_whatCame 19 L S g = zGet mX10_whatCame 22 10 0 L S g := ez_getfield kcX10_whatCame dX10_whatCame_19 fl_10_21 rfl L S g
theorem eX10_whatCame_22 (L : pmL) (S : List Value) (g : pmH) : pmV mX10_whatCame 22 L S g = zGet mX10_whatCame 25 4 9 L S g := ez_getfield kcX10_whatCame dX10_whatCame_22 fl_10_96 rfl L S g
theorem eX10_whatCame_25 (L : pmL) (S : List Value) (g : pmH) : pmV mX10_whatCame 25 L S g = zBge mX10_whatCame 28 52 L S g := ez_icmp_ge kcX10_whatCame dX10_whatCame_25 (by decide) rfl L S g
theorem eX10_whatCame_28 (L : pmL) (S : List Value) (g : pmH) : pmV mX10_whatCame 28 L S g = zLdA mX10_whatCame 29 0 L S g := ez_aload_n kcX10_whatCame dX10_whatCame_28 rfl rfl L S g
theorem eX10_whatCame_29 (L : pmL) (S : List Value) (g : pmH) : pmV mX10_whatCame 29 L S g = zGet mX10_whatCame 32 10 2 L S g := ez_getfield kcX10_whatCame dX10_whatCame_29 fl_10_26 rfl L S g
theorem eX10_whatCame_32 (L : pmL) (S : List Value) (g : pmH) : pmV mX10_whatCame 32 L S g = zLdA mX10_whatCame 33 2 L S g := ez_aload_n kcX10_whatCame dX10_whatCame_32 rfl rfl L S g
theorem eX10_whatCame_33 (L : pmL) (S : List Value) (g : pmH) : pmV mX10_whatCame 33 L S g = zGet mX10_whatCame 36 1 4 L S g := ez_getfield kcX10_whatCame dX10_whatCame_33 fl_10_99 rfl L S g
theorem eX10_whatCame_36 (L : pmL) (S : List Value) (g : pmH) : pmV mX10_whatCame 36 L S g = zSub mX10_whatCame 37 L S g := ez_isub kcX10_whatCame dX10_whatCame_36 rfl L S g
theorem eX10_whatCame_37 (L : pmL) (S : List Value) (g : pmH) : pmV mX10_whatCame 37 L S g = zLdA mX10_whatCame 38 0 L S g := ez_aload_n kcX10_whatCame dX10_whatCame_37 rfl rfl L S g
theorem eX10_whatCame_38 (L : pmL) (S : List Value) (g : pmH) : pmV mX10_whatCame 38 L S g = zGet mX10_whatCame 41 10 0 L S g := ez_getfield kcX10_whatCame dX10_whatCame_38 fl_10_21 rfl L S g
theorem eX10_whatCame_41 (L : pmL) (S : List Value) (g : pmH) : pmV mX10_whatCame 41 L S g = zGet mX10_whatCame 44 4 5 L S g := ez_getfield kcX10_whatCame dX10_whatCame_41 fl_10_102 rfl L S g
theorem eX10_whatCame_44 (L : pmL) (S : List Value) (g : pmH) : pmV mX10_whatCame 44 L S g = zLdA mX10_whatCame 45 2 L S g := ez_aload_n kcX10_whatCame dX10_whatCame_44 rfl rfl L S g
theorem eX10_whatCame_45 (L : pmL) (S : List Value) (g : pmH) : pmV mX10_whatCame 45 L S g = zGet mX10_whatCame 48 1 3 L S g := ez_getfield kcX10_whatCame dX10_whatCame_45 fl_10_93 rfl L S g
theorem eX10_whatCame_48 (L : pmL) (S : List Value) (g : pmH) : pmV mX10_whatCame 48 L S g = zIald mX10_whatCame 49 L S g := ez_iaload kcX10_whatCame dX10_whatCame_48 rfl L S g
theorem eX10_whatCame_49 (L : pmL) (S : List Value) (g : pmH) : pmV mX10_whatCame 49 L S g = zBge mX10_whatCame 52 55 L S g := ez_icmp_ge kcX10_whatCame dX10_whatCame_49 (by decide) rfl L S g
theorem eX10_whatCame_52 (L : pmL) (S : List Value) (g : pmH) : pmV mX10_whatCame 52 L S g = zPush mX10_whatCame 54 (.int (-9)) L S g := ez_bipush kcX10_whatCame dX10_whatCame_52 (by decide) rfl L S g
theorem eX10_whatCame_54 (L : pmL) (S : List Value) (g : pmH) : pmV mX10_whatCame 54 L S g = zIret mX10_whatCame S g := ez_ireturn kcX10_whatCame dX10_whatCame_54 L S g
theorem eX10_whatCame_55 (L : pmL) (S : List Value) (g : pmH) : pmV mX10_whatCame 55 L S g = zLdA mX10_whatCame 56 0 L S g := ez_aload_n kcX10_whatCame dX10_whatCame_55 rfl rfl L S g
theorem eX10_whatCame_56 (L : pmL) (S : List Value) (g : pmH) : pmV mX10_whatCame 56 L S g = zGet mX10_whatCame 59 10 0 L S g := ez_getfield kcX10_whatCame dX10_whatCame_56 fl_10_21 rfl L S g
theorem eX10_whatCame_59 (L : pmL) (S : List Value) (g : pmH) : pmV mX10_whatCame 59 L S g = zGet mX10_whatCame 62 4 6 L S g := ez_getfield kcX10_whatCame dX10_whatCame_59 fl_10_105 rfl L S g
theorem eX10_whatCame_62 (L : pmL) (S : List Value) (g : pmH) : pmV mX10_whatCame 62 L S g = zLdA mX10_whatCame 63 2 L S g := ez_aload_n kcX10_whatCame dX10_whatCame_62 rfl rfl L S g
theorem eX10_whatCame_63 (L : pmL) (S : List Value) (g : pmH) : pmV mX10_whatCame 63 L S g = zGet mX10_whatCame 66 1 3 L S g := ez_getfield kcX10_whatCame dX10_whatCame_63 fl_10_93 rfl L S g
theorem eX10_whatCame_66 (L : pmL) (S : List Value) (g : pmH) : pmV mX10_whatCame 66 L S g = zIald mX10_whatCame 67 L S g := ez_iaload kcX10_whatCame dX10_whatCame_66 rfl L S g
theorem eX10_whatCame_67 (L : pmL) (S : List Value) (g : pmH) : pmV mX10_whatCame 67 L S g = zIret mX10_whatCame S g := ez_ireturn kcX10_whatCame dX10_whatCame_67 L S g
theorem eX10_isAnswered_0 (L : pmL) (S : List Value) (g : pmH) : pmV mX10_isAnswered 0 L S g = zLdA mX10_isAnswered 1 0 L S g := ez_aload_n kcX10_isAnswered dX10_isAnswered_0 rfl rfl L S g
theorem eX10_isAnswered_1 (L : pmL) (S : List Value) (g : pmH) : pmV mX10_isAnswered 1 L S g = zLdI mX10_isAnswered 2 1 L S g := ez_iload_n kcX10_isAnswered dX10_isAnswered_1 rfl rfl L S g
theorem eX10_isAnswered_2 (L : pmL) (S : List Value) (g : pmH) : pmV mX10_isAnswered 2 L S g = yV mX10_isAnswered 5 1 mX10_whatCame 10 3 L S g := (ez_virtual kcX10_isAnswered dX10_isAnswered_2 ml_10_108 rfl L S g).trans (zCallV_y rfl rfl (by decide) L S g)
theorem eX10_isAnswered_5 (L : pmL) (S : List Value) (g : pmH) : pmV mX10_isAnswered 5 L S g = zPush mX10_isAnswered 7 (.int (-9)) L S g := ez_bipush kcX10_isAnswered dX10_isAnswered_5 (by decide) rfl L S g
theorem eX10_isAnswered_7 (L : pmL) (S : List Value) (g : pmH) : pmV mX10_isAnswered 7 L S g = zBeq mX10_isAnswered 10 14 L S g := ez_icmp_eq kcX10_isAnswered dX10_isAnswered_7 (by decide) rfl L S g
theorem eX10_isAnswered_10 (L : pmL) (S : List Value) (g : pmH) : pmV mX10_isAnswered 10 L S g = zPush mX10_isAnswered 11 (.int (nI 1)) L S g := ez_iconst kcX10_isAnswered dX10_isAnswered_10 (by decide) rfl L S g
theorem eX10_isAnswered_11 (L : pmL) (S : List Value) (g : pmH) : pmV mX10_isAnswered 11 L S g = zNx mX10_isAnswered 15 L S g := ez_goto kcX10_isAnswered dX10_isAnswered_11 (by decide) L S g
theorem eX10_isAnswered_14 (L : pmL) (S : List Value) (g : pmH) : pmV mX10_isAnswered 14 L S g = zPush mX10_isAnswered 15 (.int (nI 0)) L S g := ez_iconst kcX10_isAnswered dX10_isAnswered_14 (by decide) rfl L S g
theorem eX10_isAnswered_15 (L : pmL) (S : List Value) (g : pmH) : pmV mX10_isAnswered 15 L S g = zIret mX10_isAnswered S g := ez_ireturn kcX10_isAnswered dX10_isAnswered_15 L S g
theorem eX10_gladdens_0 (L : pmL) (S : List Value) (g : pmH) : pmV mX10_gladdens 0 L S g = zLdA mX10_gladdens 1 0 L S g := ez_aload_n kcX10_gladdens dX10_gladdens_0 rfl rfl L S g
theorem eX10_gladdens_1 (L : pmL) (S : List Value) (g : pmH) : pmV mX10_gladdens 1 L S g = zLdI mX10_gladdens 2 1 L S g := ez_iload_n kcX10_gladdens dX10_gladdens_1 rfl rfl L S g
theorem eX10_gladdens_2 (L : pmL) (S : List Value) (g : pmH) : pmV mX10_gladdens 2 L S g = yV mX10_gladdens 5 1 mX10_whatCame 10 3 L S g := (ez_virtual kcX10_gladdens dX10_gladdens_2 ml_10_108 rfl L S g).trans (zCallV_y rfl rfl (by decide) L S g)
theorem eX10_gladdens_5 (L : pmL) (S : List Value) (g : pmH) : pmV mX10_gladdens 5 L S g = zLdA mX10_gladdens 6 0 L S g := ez_aload_n kcX10_gladdens dX10_gladdens_5 rfl rfl L S g
theorem eX10_gladdens_6 (L : pmL) (S : List Value) (g : pmH) : pmV mX10_gladdens 6 L S g = zGet mX10_gladdens 9 10 0 L S g := ez_getfield kcX10_gladdens dX10_gladdens_6 fl_10_21 rfl L S g
theorem eX10_gladdens_9 (L : pmL) (S : List Value) (g : pmH) : pmV mX10_gladdens 9 L S g = zGet mX10_gladdens 12 4 3 L S g := ez_getfield kcX10_gladdens dX10_gladdens_9 fl_10_111 rfl L S g
theorem eX10_gladdens_12 (L : pmL) (S : List Value) (g : pmH) : pmV mX10_gladdens 12 L S g = zLdI mX10_gladdens 13 2 L S g := ez_iload_n kcX10_gladdens dX10_gladdens_12 rfl rfl L S g
theorem eX10_gladdens_13 (L : pmL) (S : List Value) (g : pmH) : pmV mX10_gladdens 13 L S g = zIald mX10_gladdens 14 L S g := ez_iaload kcX10_gladdens dX10_gladdens_13 rfl L S g
theorem eX10_gladdens_14 (L : pmL) (S : List Value) (g : pmH) : pmV mX10_gladdens 14 L S g = zBne mX10_gladdens 17 21 L S g := ez_icmp_ne kcX10_gladdens dX10_gladdens_14 (by decide) rfl L S g
theorem eX10_gladdens_17 (L : pmL) (S : List Value) (g : pmH) : pmV mX10_gladdens 17 L S g = zPush mX10_gladdens 18 (.int (nI 1)) L S g := ez_iconst kcX10_gladdens dX10_gladdens_17 (by decide) rfl L S g
theorem eX10_gladdens_18 (L : pmL) (S : List Value) (g : pmH) : pmV mX10_gladdens 18 L S g = zNx mX10_gladdens 22 L S g := ez_goto kcX10_gladdens dX10_gladdens_18 (by decide) L S g
theorem eX10_gladdens_21 (L : pmL) (S : List Value) (g : pmH) : pmV mX10_gladdens 21 L S g = zPush mX10_gladdens 22 (.int (nI 0)) L S g := ez_iconst kcX10_gladdens dX10_gladdens_21 (by decide) rfl L S g
theorem eX10_gladdens_22 (L : pmL) (S : List Value) (g : pmH) : pmV mX10_gladdens 22 L S g = zIret mX10_gladdens S g := ez_ireturn kcX10_gladdens dX10_gladdens_22 L S g
theorem eX10_isGlad_0 (L : pmL) (S : List Value) (g : pmH) : pmV mX10_isGlad 0 L S g = zLdA mX10_isGlad 1 0 L S g := ez_aload_n kcX10_isGlad dX10_isGlad_0 rfl rfl L S g
theorem eX10_isGlad_1 (L : pmL) (S : List Value) (g : pmH) : pmV mX10_isGlad 1 L S g = yV mX10_isGlad 4 0 mX10_gladChildren 10 3 L S g := (ez_virtual kcX10_isGlad dX10_isGlad_1 ml_10_114 rfl L S g).trans (zCallV_y rfl rfl (by decide) L S g)
theorem eX10_isGlad_4 (L : pmL) (S : List Value) (g : pmH) : pmV mX10_isGlad 4 L S g = zLdI mX10_isGlad 5 1 L S g := ez_iload_n kcX10_isGlad dX10_isGlad_4 rfl rfl L S g
theorem eX10_isGlad_5 (L : pmL) (S : List Value) (g : pmH) : pmV mX10_isGlad 5 L S g = zShr mX10_isGlad 6 L S g := ez_ishr kcX10_isGlad dX10_isGlad_5 rfl L S g
theorem eX10_isGlad_6 (L : pmL) (S : List Value) (g : pmH) : pmV mX10_isGlad 6 L S g = zPush mX10_isGlad 7 (.int (nI 1)) L S g := ez_iconst kcX10_isGlad dX10_isGlad_6 (by decide) rfl L S g
theorem eX10_isGlad_7 (L : pmL) (S : List Value) (g : pmH) : pmV mX10_isGlad 7 L S g = zAnd mX10_isGlad 8 L S g := ez_iand kcX10_isGlad dX10_isGlad_7 rfl L S g
theorem eX10_isGlad_8 (L : pmL) (S : List Value) (g : pmH) : pmV mX10_isGlad 8 L S g = zCeq mX10_isGlad 11 15 L S g := ez_if_eq kcX10_isGlad dX10_isGlad_8 (by decide) rfl L S g
theorem eX10_isGlad_11 (L : pmL) (S : List Value) (g : pmH) : pmV mX10_isGlad 11 L S g = zPush mX10_isGlad 12 (.int (nI 1)) L S g := ez_iconst kcX10_isGlad dX10_isGlad_11 (by decide) rfl L S g
theorem eX10_isGlad_12 (L : pmL) (S : List Value) (g : pmH) : pmV mX10_isGlad 12 L S g = zNx mX10_isGlad 16 L S g := ez_goto kcX10_isGlad dX10_isGlad_12 (by decide) L S g
theorem eX10_isGlad_15 (L : pmL) (S : List Value) (g : pmH) : pmV mX10_isGlad 15 L S g = zPush mX10_isGlad 16 (.int (nI 0)) L S g := ez_iconst kcX10_isGlad dX10_isGlad_15 (by decide) rfl L S g
theorem eX10_isGlad_16 (L : pmL) (S : List Value) (g : pmH) : pmV mX10_isGlad 16 L S g = zIret mX10_isGlad S g := ez_ireturn kcX10_isGlad dX10_isGlad_16 L S g
theorem eX10_gladChildren_0 (L : pmL) (S : List Value) (g : pmH) : pmV mX10_gladChildren 0 L S g = zPush mX10_gladChildren 1 (.int (nI 0)) L S g := ez_iconst kcX10_gladChildren dX10_gladChildren_0 (by decide) rfl L S g
theorem eX10_gladChildren_1 (L : pmL) (S : List Value) (g : pmH) : pmV mX10_gladChildren 1 L S g = zStI mX10_gladChildren 2 1 L S g := ez_istore_n kcX10_gladChildren dX10_gladChildren_1 rfl rfl L S g
theorem eX10_gladChildren_2 (L : pmL) (S : List Value) (g : pmH) : pmV mX10_gladChildren 2 L S g = zPush mX10_gladChildren 3 (.int (nI 0)) L S g := ez_iconst kcX10_gladChildren dX10_gladChildren_2 (by decide) rfl L S g
theorem eX10_gladChildren_3 (L : pmL) (S : List Value) (g : pmH) : pmV mX10_gladChildren 3 L S g = zStI mX10_gladChildren 4 2 L S g := ez_istore_n kcX10_gladChildren dX10_gladChildren_3 rfl rfl L S g
theorem eX10_gladChildren_4 (L : pmL) (S : List Value) (g : pmH) : pmV mX10_gladChildren 4 L S g = zLdI mX10_gladChildren 5 2 L S g := ez_iload_n kcX10_gladChildren dX10_gladChildren_4 rfl rfl L S g
theorem eX10_gladChildren_5 (L : pmL) (S : List Value) (g : pmH) : pmV mX10_gladChildren 5 L S g = zLdA mX10_gladChildren 6 0 L S g := ez_aload_n kcX10_gladChildren dX10_gladChildren_5 rfl rfl L S g
theorem eX10_gladChildren_6 (L : pmL) (S : List Value) (g : pmH) : pmV mX10_gladChildren 6 L S g = zGet mX10_gladChildren 9 10 0 L S g := ez_getfield kcX10_gladChildren dX10_gladChildren_6 fl_10_21 rfl L S g
theorem eX10_gladChildren_9 (L : pmL) (S : List Value) (g : pmH) : pmV mX10_gladChildren 9 L S g = zGet mX10_gladChildren 12 4 8 L S g := ez_getfield kcX10_gladChildren dX10_gladChildren_9 fl_10_29 rfl L S g
theorem eX10_gladChildren_12 (L : pmL) (S : List Value) (g : pmH) : pmV mX10_gladChildren 12 L S g = zBge mX10_gladChildren 15 52 L S g := ez_icmp_ge kcX10_gladChildren dX10_gladChildren_12 (by decide) rfl L S g
theorem eX10_gladChildren_15 (L : pmL) (S : List Value) (g : pmH) : pmV mX10_gladChildren 15 L S g = zLdA mX10_gladChildren 16 0 L S g := ez_aload_n kcX10_gladChildren dX10_gladChildren_15 rfl rfl L S g
theorem eX10_gladChildren_16 (L : pmL) (S : List Value) (g : pmH) : pmV mX10_gladChildren 16 L S g = zLdI mX10_gladChildren 17 2 L S g := ez_iload_n kcX10_gladChildren dX10_gladChildren_16 rfl rfl L S g
theorem eX10_gladChildren_17 (L : pmL) (S : List Value) (g : pmH) : pmV mX10_gladChildren 17 L S g = zLdA mX10_gladChildren 18 0 L S g := ez_aload_n kcX10_gladChildren dX10_gladChildren_17 rfl rfl L S g
theorem eX10_gladChildren_18 (L : pmL) (S : List Value) (g : pmH) : pmV mX10_gladChildren 18 L S g = zGet mX10_gladChildren 21 10 1 L S g := ez_getfield kcX10_gladChildren dX10_gladChildren_18 fl_10_11 rfl L S g
theorem eX10_gladChildren_21 (L : pmL) (S : List Value) (g : pmH) : pmV mX10_gladChildren 21 L S g = zLdI mX10_gladChildren 22 2 L S g := ez_iload_n kcX10_gladChildren dX10_gladChildren_21 rfl rfl L S g
theorem eX10_gladChildren_22 (L : pmL) (S : List Value) (g : pmH) : pmV mX10_gladChildren 22 L S g = zAald mX10_gladChildren 23 L S g := ez_aaload kcX10_gladChildren dX10_gladChildren_22 rfl L S g
theorem eX10_gladChildren_23 (L : pmL) (S : List Value) (g : pmH) : pmV mX10_gladChildren 23 L S g = zGet mX10_gladChildren 26 1 6 L S g := ez_getfield kcX10_gladChildren dX10_gladChildren_23 fl_10_63 rfl L S g
theorem eX10_gladChildren_26 (L : pmL) (S : List Value) (g : pmH) : pmV mX10_gladChildren 26 L S g = yV mX10_gladChildren 29 2 mX10_gladdens 10 3 L S g := (ez_virtual kcX10_gladChildren dX10_gladChildren_26 ml_10_118 rfl L S g).trans (zCallV_y rfl rfl (by decide) L S g)
theorem eX10_gladChildren_29 (L : pmL) (S : List Value) (g : pmH) : pmV mX10_gladChildren 29 L S g = zCeq mX10_gladChildren 32 46 L S g := ez_if_eq kcX10_gladChildren dX10_gladChildren_29 (by decide) rfl L S g
theorem eX10_gladChildren_32 (L : pmL) (S : List Value) (g : pmH) : pmV mX10_gladChildren 32 L S g = zLdI mX10_gladChildren 33 1 L S g := ez_iload_n kcX10_gladChildren dX10_gladChildren_32 rfl rfl L S g
theorem eX10_gladChildren_33 (L : pmL) (S : List Value) (g : pmH) : pmV mX10_gladChildren 33 L S g = zPush mX10_gladChildren 34 (.int (nI 1)) L S g := ez_iconst kcX10_gladChildren dX10_gladChildren_33 (by decide) rfl L S g
theorem eX10_gladChildren_34 (L : pmL) (S : List Value) (g : pmH) : pmV mX10_gladChildren 34 L S g = zLdA mX10_gladChildren 35 0 L S g := ez_aload_n kcX10_gladChildren dX10_gladChildren_34 rfl rfl L S g
theorem eX10_gladChildren_35 (L : pmL) (S : List Value) (g : pmH) : pmV mX10_gladChildren 35 L S g = zGet mX10_gladChildren 38 10 1 L S g := ez_getfield kcX10_gladChildren dX10_gladChildren_35 fl_10_11 rfl L S g
theorem eX10_gladChildren_38 (L : pmL) (S : List Value) (g : pmH) : pmV mX10_gladChildren 38 L S g = zLdI mX10_gladChildren 39 2 L S g := ez_iload_n kcX10_gladChildren dX10_gladChildren_38 rfl rfl L S g
theorem eX10_gladChildren_39 (L : pmL) (S : List Value) (g : pmH) : pmV mX10_gladChildren 39 L S g = zAald mX10_gladChildren 40 L S g := ez_aaload kcX10_gladChildren dX10_gladChildren_39 rfl L S g
theorem eX10_gladChildren_40 (L : pmL) (S : List Value) (g : pmH) : pmV mX10_gladChildren 40 L S g = zGet mX10_gladChildren 43 1 6 L S g := ez_getfield kcX10_gladChildren dX10_gladChildren_40 fl_10_63 rfl L S g
theorem eX10_gladChildren_43 (L : pmL) (S : List Value) (g : pmH) : pmV mX10_gladChildren 43 L S g = zShl mX10_gladChildren 44 L S g := ez_ishl kcX10_gladChildren dX10_gladChildren_43 rfl L S g
theorem eX10_gladChildren_44 (L : pmL) (S : List Value) (g : pmH) : pmV mX10_gladChildren 44 L S g = zOr mX10_gladChildren 45 L S g := ez_ior kcX10_gladChildren dX10_gladChildren_44 rfl L S g
theorem eX10_gladChildren_45 (L : pmL) (S : List Value) (g : pmH) : pmV mX10_gladChildren 45 L S g = zStI mX10_gladChildren 46 1 L S g := ez_istore_n kcX10_gladChildren dX10_gladChildren_45 rfl rfl L S g
theorem eX10_gladChildren_46 (L : pmL) (S : List Value) (g : pmH) : pmV mX10_gladChildren 46 L S g = zInc mX10_gladChildren 49 2 (nI 1) L S g := ez_iinc kcX10_gladChildren dX10_gladChildren_46 (by decide) rfl L S g
theorem eX10_gladChildren_49 (L : pmL) (S : List Value) (g : pmH) : pmV mX10_gladChildren 49 L S g = zNx mX10_gladChildren 4 L S g := ez_goto kcX10_gladChildren dX10_gladChildren_49 (by decide) L S g
theorem eX10_gladChildren_52 (L : pmL) (S : List Value) (g : pmH) : pmV mX10_gladChildren 52 L S g = zLdI mX10_gladChildren 53 1 L S g := ez_iload_n kcX10_gladChildren dX10_gladChildren_52 rfl rfl L S g
theorem eX10_gladChildren_53 (L : pmL) (S : List Value) (g : pmH) : pmV mX10_gladChildren 53 L S g = zIret mX10_gladChildren S g := ez_ireturn kcX10_gladChildren dX10_gladChildren_53 L S g
theorem eX10_answeredBalloons_0 (L : pmL) (S : List Value) (g : pmH) : pmV mX10_answeredBalloons 0 L S g = zPush mX10_answeredBalloons 1 (.int (nI 0)) L S g := ez_iconst kcX10_answeredBalloons dX10_answeredBalloons_0 (by decide) rfl L S g
theorem eX10_answeredBalloons_1 (L : pmL) (S : List Value) (g : pmH) : pmV mX10_answeredBalloons 1 L S g = zStI mX10_answeredBalloons 2 1 L S g := ez_istore_n kcX10_answeredBalloons dX10_answeredBalloons_1 rfl rfl L S g
theorem eX10_answeredBalloons_2 (L : pmL) (S : List Value) (g : pmH) : pmV mX10_answeredBalloons 2 L S g = zPush mX10_answeredBalloons 3 (.int (nI 0)) L S g := ez_iconst kcX10_answeredBalloons dX10_answeredBalloons_2 (by decide) rfl L S g
theorem eX10_answeredBalloons_3 (L : pmL) (S : List Value) (g : pmH) : pmV mX10_answeredBalloons 3 L S g = zStI mX10_answeredBalloons 4 2 L S g := ez_istore_n kcX10_answeredBalloons dX10_answeredBalloons_3 rfl rfl L S g
theorem eX10_answeredBalloons_4 (L : pmL) (S : List Value) (g : pmH) : pmV mX10_answeredBalloons 4 L S g = zLdI mX10_answeredBalloons 5 2 L S g := ez_iload_n kcX10_answeredBalloons dX10_answeredBalloons_4 rfl rfl L S g
theorem eX10_answeredBalloons_5 (L : pmL) (S : List Value) (g : pmH) : pmV mX10_answeredBalloons 5 L S g = zLdA mX10_answeredBalloons 6 0 L S g := ez_aload_n kcX10_answeredBalloons dX10_answeredBalloons_5 rfl rfl L S g
theorem eX10_answeredBalloons_6 (L : pmL) (S : List Value) (g : pmH) : pmV mX10_answeredBalloons 6 L S g = zGet mX10_answeredBalloons 9 10 0 L S g := ez_getfield kcX10_answeredBalloons dX10_answeredBalloons_6 fl_10_21 rfl L S g
theorem eX10_answeredBalloons_9 (L : pmL) (S : List Value) (g : pmH) : pmV mX10_answeredBalloons 9 L S g = zGet mX10_answeredBalloons 12 4 8 L S g := ez_getfield kcX10_answeredBalloons dX10_answeredBalloons_9 fl_10_29 rfl L S g
theorem eX10_answeredBalloons_12 (L : pmL) (S : List Value) (g : pmH) : pmV mX10_answeredBalloons 12 L S g = zBge mX10_answeredBalloons 15 35 L S g := ez_icmp_ge kcX10_answeredBalloons dX10_answeredBalloons_12 (by decide) rfl L S g
theorem eX10_answeredBalloons_15 (L : pmL) (S : List Value) (g : pmH) : pmV mX10_answeredBalloons 15 L S g = zLdA mX10_answeredBalloons 16 0 L S g := ez_aload_n kcX10_answeredBalloons dX10_answeredBalloons_15 rfl rfl L S g
theorem eX10_answeredBalloons_16 (L : pmL) (S : List Value) (g : pmH) : pmV mX10_answeredBalloons 16 L S g = zLdI mX10_answeredBalloons 17 2 L S g := ez_iload_n kcX10_answeredBalloons dX10_answeredBalloons_16 rfl rfl L S g
theorem eX10_answeredBalloons_17 (L : pmL) (S : List Value) (g : pmH) : pmV mX10_answeredBalloons 17 L S g = yV mX10_answeredBalloons 20 1 mX10_isAnswered 10 2 L S g := (ez_virtual kcX10_answeredBalloons dX10_answeredBalloons_17 ml_10_121 rfl L S g).trans (zCallV_y rfl rfl (by decide) L S g)
theorem eX10_answeredBalloons_20 (L : pmL) (S : List Value) (g : pmH) : pmV mX10_answeredBalloons 20 L S g = zCeq mX10_answeredBalloons 23 29 L S g := ez_if_eq kcX10_answeredBalloons dX10_answeredBalloons_20 (by decide) rfl L S g
theorem eX10_answeredBalloons_23 (L : pmL) (S : List Value) (g : pmH) : pmV mX10_answeredBalloons 23 L S g = zLdI mX10_answeredBalloons 24 1 L S g := ez_iload_n kcX10_answeredBalloons dX10_answeredBalloons_23 rfl rfl L S g
theorem eX10_answeredBalloons_24 (L : pmL) (S : List Value) (g : pmH) : pmV mX10_answeredBalloons 24 L S g = zPush mX10_answeredBalloons 25 (.int (nI 1)) L S g := ez_iconst kcX10_answeredBalloons dX10_answeredBalloons_24 (by decide) rfl L S g
theorem eX10_answeredBalloons_25 (L : pmL) (S : List Value) (g : pmH) : pmV mX10_answeredBalloons 25 L S g = zLdI mX10_answeredBalloons 26 2 L S g := ez_iload_n kcX10_answeredBalloons dX10_answeredBalloons_25 rfl rfl L S g
theorem eX10_answeredBalloons_26 (L : pmL) (S : List Value) (g : pmH) : pmV mX10_answeredBalloons 26 L S g = zShl mX10_answeredBalloons 27 L S g := ez_ishl kcX10_answeredBalloons dX10_answeredBalloons_26 rfl L S g
theorem eX10_answeredBalloons_27 (L : pmL) (S : List Value) (g : pmH) : pmV mX10_answeredBalloons 27 L S g = zOr mX10_answeredBalloons 28 L S g := ez_ior kcX10_answeredBalloons dX10_answeredBalloons_27 rfl L S g
theorem eX10_answeredBalloons_28 (L : pmL) (S : List Value) (g : pmH) : pmV mX10_answeredBalloons 28 L S g = zStI mX10_answeredBalloons 29 1 L S g := ez_istore_n kcX10_answeredBalloons dX10_answeredBalloons_28 rfl rfl L S g
theorem eX10_answeredBalloons_29 (L : pmL) (S : List Value) (g : pmH) : pmV mX10_answeredBalloons 29 L S g = zInc mX10_answeredBalloons 32 2 (nI 1) L S g := ez_iinc kcX10_answeredBalloons dX10_answeredBalloons_29 (by decide) rfl L S g
theorem eX10_answeredBalloons_32 (L : pmL) (S : List Value) (g : pmH) : pmV mX10_answeredBalloons 32 L S g = zNx mX10_answeredBalloons 4 L S g := ez_goto kcX10_answeredBalloons dX10_answeredBalloons_32 (by decide) L S g
theorem eX10_answeredBalloons_35 (L : pmL) (S : List Value) (g : pmH) : pmV mX10_answeredBalloons 35 L S g = zLdI mX10_answeredBalloons 36 1 L S g := ez_iload_n kcX10_answeredBalloons dX10_answeredBalloons_35 rfl rfl L S g
theorem eX10_answeredBalloons_36 (L : pmL) (S : List Value) (g : pmH) : pmV mX10_answeredBalloons 36 L S g = zIret mX10_answeredBalloons S g := ez_ireturn kcX10_answeredBalloons dX10_answeredBalloons_36 L S g
theorem eX10_allThatAre_0 (L : pmL) (S : List Value) (g : pmH) : pmV mX10_allThatAre 0 L S g = zPush mX10_allThatAre 1 (.int (nI 0)) L S g := ez_iconst kcX10_allThatAre dX10_allThatAre_0 (by decide) rfl L S g
theorem eX10_allThatAre_1 (L : pmL) (S : List Value) (g : pmH) : pmV mX10_allThatAre 1 L S g = zStI mX10_allThatAre 2 2 L S g := ez_istore_n kcX10_allThatAre dX10_allThatAre_1 rfl rfl L S g
theorem eX10_allThatAre_2 (L : pmL) (S : List Value) (g : pmH) : pmV mX10_allThatAre 2 L S g = zPush mX10_allThatAre 3 (.int (nI 0)) L S g := ez_iconst kcX10_allThatAre dX10_allThatAre_2 (by decide) rfl L S g
theorem eX10_allThatAre_3 (L : pmL) (S : List Value) (g : pmH) : pmV mX10_allThatAre 3 L S g = zStI mX10_allThatAre 4 3 L S g := ez_istore_n kcX10_allThatAre dX10_allThatAre_3 rfl rfl L S g
theorem eX10_allThatAre_4 (L : pmL) (S : List Value) (g : pmH) : pmV mX10_allThatAre 4 L S g = zLdI mX10_allThatAre 5 3 L S g := ez_iload_n kcX10_allThatAre dX10_allThatAre_4 rfl rfl L S g
theorem eX10_allThatAre_5 (L : pmL) (S : List Value) (g : pmH) : pmV mX10_allThatAre 5 L S g = zLdA mX10_allThatAre 6 0 L S g := ez_aload_n kcX10_allThatAre dX10_allThatAre_5 rfl rfl L S g
theorem eX10_allThatAre_6 (L : pmL) (S : List Value) (g : pmH) : pmV mX10_allThatAre 6 L S g = zGet mX10_allThatAre 9 10 0 L S g := ez_getfield kcX10_allThatAre dX10_allThatAre_6 fl_10_21 rfl L S g
theorem eX10_allThatAre_9 (L : pmL) (S : List Value) (g : pmH) : pmV mX10_allThatAre 9 L S g = zGet mX10_allThatAre 12 4 8 L S g := ez_getfield kcX10_allThatAre dX10_allThatAre_9 fl_10_29 rfl L S g
theorem eX10_allThatAre_12 (L : pmL) (S : List Value) (g : pmH) : pmV mX10_allThatAre 12 L S g = zBge mX10_allThatAre 15 40 L S g := ez_icmp_ge kcX10_allThatAre dX10_allThatAre_12 (by decide) rfl L S g
theorem eX10_allThatAre_15 (L : pmL) (S : List Value) (g : pmH) : pmV mX10_allThatAre 15 L S g = zLdA mX10_allThatAre 16 0 L S g := ez_aload_n kcX10_allThatAre dX10_allThatAre_15 rfl rfl L S g
theorem eX10_allThatAre_16 (L : pmL) (S : List Value) (g : pmH) : pmV mX10_allThatAre 16 L S g = zGet mX10_allThatAre 19 10 1 L S g := ez_getfield kcX10_allThatAre dX10_allThatAre_16 fl_10_11 rfl L S g
theorem eX10_allThatAre_19 (L : pmL) (S : List Value) (g : pmH) : pmV mX10_allThatAre 19 L S g = zLdI mX10_allThatAre 20 3 L S g := ez_iload_n kcX10_allThatAre dX10_allThatAre_19 rfl rfl L S g
theorem eX10_allThatAre_20 (L : pmL) (S : List Value) (g : pmH) : pmV mX10_allThatAre 20 L S g = zAald mX10_allThatAre 21 L S g := ez_aaload kcX10_allThatAre dX10_allThatAre_20 rfl L S g
theorem eX10_allThatAre_21 (L : pmL) (S : List Value) (g : pmH) : pmV mX10_allThatAre 21 L S g = zGet mX10_allThatAre 24 1 2 L S g := ez_getfield kcX10_allThatAre dX10_allThatAre_21 fl_10_52 rfl L S g
theorem eX10_allThatAre_24 (L : pmL) (S : List Value) (g : pmH) : pmV mX10_allThatAre 24 L S g = zLdI mX10_allThatAre 25 1 L S g := ez_iload_n kcX10_allThatAre dX10_allThatAre_24 rfl rfl L S g
theorem eX10_allThatAre_25 (L : pmL) (S : List Value) (g : pmH) : pmV mX10_allThatAre 25 L S g = zBne mX10_allThatAre 28 34 L S g := ez_icmp_ne kcX10_allThatAre dX10_allThatAre_25 (by decide) rfl L S g
theorem eX10_allThatAre_28 (L : pmL) (S : List Value) (g : pmH) : pmV mX10_allThatAre 28 L S g = zLdI mX10_allThatAre 29 2 L S g := ez_iload_n kcX10_allThatAre dX10_allThatAre_28 rfl rfl L S g
theorem eX10_allThatAre_29 (L : pmL) (S : List Value) (g : pmH) : pmV mX10_allThatAre 29 L S g = zPush mX10_allThatAre 30 (.int (nI 1)) L S g := ez_iconst kcX10_allThatAre dX10_allThatAre_29 (by decide) rfl L S g
theorem eX10_allThatAre_30 (L : pmL) (S : List Value) (g : pmH) : pmV mX10_allThatAre 30 L S g = zLdI mX10_allThatAre 31 3 L S g := ez_iload_n kcX10_allThatAre dX10_allThatAre_30 rfl rfl L S g
theorem eX10_allThatAre_31 (L : pmL) (S : List Value) (g : pmH) : pmV mX10_allThatAre 31 L S g = zShl mX10_allThatAre 32 L S g := ez_ishl kcX10_allThatAre dX10_allThatAre_31 rfl L S g
theorem eX10_allThatAre_32 (L : pmL) (S : List Value) (g : pmH) : pmV mX10_allThatAre 32 L S g = zOr mX10_allThatAre 33 L S g := ez_ior kcX10_allThatAre dX10_allThatAre_32 rfl L S g
theorem eX10_allThatAre_33 (L : pmL) (S : List Value) (g : pmH) : pmV mX10_allThatAre 33 L S g = zStI mX10_allThatAre 34 2 L S g := ez_istore_n kcX10_allThatAre dX10_allThatAre_33 rfl rfl L S g
theorem eX10_allThatAre_34 (L : pmL) (S : List Value) (g : pmH) : pmV mX10_allThatAre 34 L S g = zInc mX10_allThatAre 37 3 (nI 1) L S g := ez_iinc kcX10_allThatAre dX10_allThatAre_34 (by decide) rfl L S g
theorem eX10_allThatAre_37 (L : pmL) (S : List Value) (g : pmH) : pmV mX10_allThatAre 37 L S g = zNx mX10_allThatAre 4 L S g := ez_goto kcX10_allThatAre dX10_allThatAre_37 (by decide) L S g
theorem eX10_allThatAre_40 (L : pmL) (S : List Value) (g : pmH) : pmV mX10_allThatAre 40 L S g = zLdI mX10_allThatAre 41 2 L S g := ez_iload_n kcX10_allThatAre dX10_allThatAre_40 rfl rfl L S g
theorem eX10_allThatAre_41 (L : pmL) (S : List Value) (g : pmH) : pmV mX10_allThatAre 41 L S g = zIret mX10_allThatAre S g := ez_ireturn kcX10_allThatAre dX10_allThatAre_41 L S g
theorem eX10_caughtIn_0 (L : pmL) (S : List Value) (g : pmH) : pmV mX10_caughtIn 0 L S g = zPush mX10_caughtIn 1 (.int (nI 0)) L S g := ez_iconst kcX10_caughtIn dX10_caughtIn_0 (by decide) rfl L S g
theorem eX10_caughtIn_1 (L : pmL) (S : List Value) (g : pmH) : pmV mX10_caughtIn 1 L S g = zStI mX10_caughtIn 2 2 L S g := ez_istore_n kcX10_caughtIn dX10_caughtIn_1 rfl rfl L S g
theorem eX10_caughtIn_2 (L : pmL) (S : List Value) (g : pmH) : pmV mX10_caughtIn 2 L S g = zPush mX10_caughtIn 3 (.int (nI 0)) L S g := ez_iconst kcX10_caughtIn dX10_caughtIn_2 (by decide) rfl L S g
theorem eX10_caughtIn_3 (L : pmL) (S : List Value) (g : pmH) : pmV mX10_caughtIn 3 L S g = zStI mX10_caughtIn 4 3 L S g := ez_istore_n kcX10_caughtIn dX10_caughtIn_3 rfl rfl L S g
theorem eX10_caughtIn_4 (L : pmL) (S : List Value) (g : pmH) : pmV mX10_caughtIn 4 L S g = zLdI mX10_caughtIn 5 3 L S g := ez_iload_n kcX10_caughtIn dX10_caughtIn_4 rfl rfl L S g
theorem eX10_caughtIn_5 (L : pmL) (S : List Value) (g : pmH) : pmV mX10_caughtIn 5 L S g = zLdA mX10_caughtIn 6 0 L S g := ez_aload_n kcX10_caughtIn dX10_caughtIn_5 rfl rfl L S g
theorem eX10_caughtIn_6 (L : pmL) (S : List Value) (g : pmH) : pmV mX10_caughtIn 6 L S g = zGet mX10_caughtIn 9 10 0 L S g := ez_getfield kcX10_caughtIn dX10_caughtIn_6 fl_10_21 rfl L S g
theorem eX10_caughtIn_9 (L : pmL) (S : List Value) (g : pmH) : pmV mX10_caughtIn 9 L S g = zGet mX10_caughtIn 12 4 8 L S g := ez_getfield kcX10_caughtIn dX10_caughtIn_9 fl_10_29 rfl L S g
theorem eX10_caughtIn_12 (L : pmL) (S : List Value) (g : pmH) : pmV mX10_caughtIn 12 L S g = zBge mX10_caughtIn 15 40 L S g := ez_icmp_ge kcX10_caughtIn dX10_caughtIn_12 (by decide) rfl L S g
theorem eX10_caughtIn_15 (L : pmL) (S : List Value) (g : pmH) : pmV mX10_caughtIn 15 L S g = zLdA mX10_caughtIn 16 0 L S g := ez_aload_n kcX10_caughtIn dX10_caughtIn_15 rfl rfl L S g
theorem eX10_caughtIn_16 (L : pmL) (S : List Value) (g : pmH) : pmV mX10_caughtIn 16 L S g = zGet mX10_caughtIn 19 10 1 L S g := ez_getfield kcX10_caughtIn dX10_caughtIn_16 fl_10_11 rfl L S g
theorem eX10_caughtIn_19 (L : pmL) (S : List Value) (g : pmH) : pmV mX10_caughtIn 19 L S g = zLdI mX10_caughtIn 20 3 L S g := ez_iload_n kcX10_caughtIn dX10_caughtIn_19 rfl rfl L S g
theorem eX10_caughtIn_20 (L : pmL) (S : List Value) (g : pmH) : pmV mX10_caughtIn 20 L S g = zAald mX10_caughtIn 21 L S g := ez_aaload kcX10_caughtIn dX10_caughtIn_20 rfl L S g
theorem eX10_caughtIn_21 (L : pmL) (S : List Value) (g : pmH) : pmV mX10_caughtIn 21 L S g = zGet mX10_caughtIn 24 1 3 L S g := ez_getfield kcX10_caughtIn dX10_caughtIn_21 fl_10_93 rfl L S g
theorem eX10_caughtIn_24 (L : pmL) (S : List Value) (g : pmH) : pmV mX10_caughtIn 24 L S g = zLdI mX10_caughtIn 25 1 L S g := ez_iload_n kcX10_caughtIn dX10_caughtIn_24 rfl rfl L S g
theorem eX10_caughtIn_25 (L : pmL) (S : List Value) (g : pmH) : pmV mX10_caughtIn 25 L S g = zBne mX10_caughtIn 28 34 L S g := ez_icmp_ne kcX10_caughtIn dX10_caughtIn_25 (by decide) rfl L S g
theorem eX10_caughtIn_28 (L : pmL) (S : List Value) (g : pmH) : pmV mX10_caughtIn 28 L S g = zLdI mX10_caughtIn 29 2 L S g := ez_iload_n kcX10_caughtIn dX10_caughtIn_28 rfl rfl L S g
theorem eX10_caughtIn_29 (L : pmL) (S : List Value) (g : pmH) : pmV mX10_caughtIn 29 L S g = zPush mX10_caughtIn 30 (.int (nI 1)) L S g := ez_iconst kcX10_caughtIn dX10_caughtIn_29 (by decide) rfl L S g
theorem eX10_caughtIn_30 (L : pmL) (S : List Value) (g : pmH) : pmV mX10_caughtIn 30 L S g = zLdI mX10_caughtIn 31 3 L S g := ez_iload_n kcX10_caughtIn dX10_caughtIn_30 rfl rfl L S g
theorem eX10_caughtIn_31 (L : pmL) (S : List Value) (g : pmH) : pmV mX10_caughtIn 31 L S g = zShl mX10_caughtIn 32 L S g := ez_ishl kcX10_caughtIn dX10_caughtIn_31 rfl L S g
theorem eX10_caughtIn_32 (L : pmL) (S : List Value) (g : pmH) : pmV mX10_caughtIn 32 L S g = zOr mX10_caughtIn 33 L S g := ez_ior kcX10_caughtIn dX10_caughtIn_32 rfl L S g
theorem eX10_caughtIn_33 (L : pmL) (S : List Value) (g : pmH) : pmV mX10_caughtIn 33 L S g = zStI mX10_caughtIn 34 2 L S g := ez_istore_n kcX10_caughtIn dX10_caughtIn_33 rfl rfl L S g
theorem eX10_caughtIn_34 (L : pmL) (S : List Value) (g : pmH) : pmV mX10_caughtIn 34 L S g = zInc mX10_caughtIn 37 3 (nI 1) L S g := ez_iinc kcX10_caughtIn dX10_caughtIn_34 (by decide) rfl L S g
theorem eX10_caughtIn_37 (L : pmL) (S : List Value) (g : pmH) : pmV mX10_caughtIn 37 L S g = zNx mX10_caughtIn 4 L S g := ez_goto kcX10_caughtIn dX10_caughtIn_37 (by decide) L S g
theorem eX10_caughtIn_40 (L : pmL) (S : List Value) (g : pmH) : pmV mX10_caughtIn 40 L S g = zLdI mX10_caughtIn 41 2 L S g := ez_iload_n kcX10_caughtIn dX10_caughtIn_40 rfl rfl L S g
theorem eX10_caughtIn_41 (L : pmL) (S : List Value) (g : pmH) : pmV mX10_caughtIn 41 L S g = zIret mX10_caughtIn S g := ez_ireturn kcX10_caughtIn dX10_caughtIn_41 L S g
theorem eX11_init_0 (L : pmL) (S : List Value) (g : pmH) : pmV mX11_init 0 L S g = zLdA mX11_init 1 0 L S g := ez_aload_n kcX11_init dX11_init_0 rfl rfl L S g
theorem eX11_init_1 (L : pmL) (S : List Value) (g : pmH) : pmV mX11_init 1 L S g = zObj mX11_init 4 L S g := ez_objinit kcX11_init dX11_init_1 ol_11_1 rfl L S g
theorem eX11_init_4 (L : pmL) (S : List Value) (g : pmH) : pmV mX11_init 4 L S g = zLdA mX11_init 5 0 L S g := ez_aload_n kcX11_init dX11_init_4 rfl rfl L S g
theorem eX11_init_5 (L : pmL) (S : List Value) (g : pmH) : pmV mX11_init 5 L S g = zPush mX11_init 7 (.int (nI 48)) L S g := ez_bipush kcX11_init dX11_init_5 (by decide) rfl L S g
theorem eX11_init_7 (L : pmL) (S : List Value) (g : pmH) : pmV mX11_init 7 L S g = zNewA mX11_init 9 0 L S g := ez_newarray_int kcX11_init dX11_init_7 rfl L S g
theorem eX11_init_9 (L : pmL) (S : List Value) (g : pmH) : pmV mX11_init 9 L S g = zPut mX11_init 12 11 0 L S g := ez_putfield kcX11_init dX11_init_9 fl_11_9 rfl L S g
theorem eX11_init_12 (L : pmL) (S : List Value) (g : pmH) : pmV mX11_init 12 L S g = zLdA mX11_init 13 0 L S g := ez_aload_n kcX11_init dX11_init_12 rfl rfl L S g
theorem eX11_init_13 (L : pmL) (S : List Value) (g : pmH) : pmV mX11_init 13 L S g = zNew mX11_init 16 4 L S g := ez_new kcX11_init dX11_init_13 cl_11_13 (by decide) rfl L S g
theorem eX11_init_16 (L : pmL) (S : List Value) (g : pmH) : pmV mX11_init 16 L S g = zDup mX11_init 17 L S g := ez_dup kcX11_init dX11_init_16 rfl L S g
theorem eX11_init_17 (L : pmL) (S : List Value) (g : pmH) : pmV mX11_init 17 L S g = yV mX11_init 20 0 mX4_init 4 1 L S g := (ez_special kcX11_init dX11_init_17 nl_11_15 ml_11_15 (by decide) rfl L S g).trans (zCallV_y rfl rfl (by decide) L S g)
theorem eX11_init_20 (L : pmL) (S : List Value) (g : pmH) : pmV mX11_init 20 L S g = zPut mX11_init 23 11 2 L S g := ez_putfield kcX11_init dX11_init_20 fl_11_16 rfl L S g
theorem eX11_init_23 (L : pmL) (S : List Value) (g : pmH) : pmV mX11_init 23 L S g = zLdA mX11_init 24 0 L S g := ez_aload_n kcX11_init dX11_init_23 rfl rfl L S g
theorem eX11_init_24 (L : pmL) (S : List Value) (g : pmH) : pmV mX11_init 24 L S g = zNew mX11_init 27 7 L S g := ez_new kcX11_init dX11_init_24 cl_11_20 (by decide) rfl L S g
theorem eX11_init_27 (L : pmL) (S : List Value) (g : pmH) : pmV mX11_init 27 L S g = zDup mX11_init 28 L S g := ez_dup kcX11_init dX11_init_27 rfl L S g
theorem eX11_init_28 (L : pmL) (S : List Value) (g : pmH) : pmV mX11_init 28 L S g = zLdA mX11_init 29 0 L S g := ez_aload_n kcX11_init dX11_init_28 rfl rfl L S g
theorem eX11_init_29 (L : pmL) (S : List Value) (g : pmH) : pmV mX11_init 29 L S g = zGet mX11_init 32 11 2 L S g := ez_getfield kcX11_init dX11_init_29 fl_11_16 rfl L S g
theorem eX11_init_32 (L : pmL) (S : List Value) (g : pmH) : pmV mX11_init 32 L S g = yV mX11_init 35 1 mX7_init 7 2 L S g := (ez_special kcX11_init dX11_init_32 nl_11_22 ml_11_22 (by decide) rfl L S g).trans (zCallV_y rfl rfl (by decide) L S g)
theorem eX11_init_35 (L : pmL) (S : List Value) (g : pmH) : pmV mX11_init 35 L S g = zPut mX11_init 38 11 3 L S g := ez_putfield kcX11_init dX11_init_35 fl_11_25 rfl L S g
theorem eX11_init_38 (L : pmL) (S : List Value) (g : pmH) : pmV mX11_init 38 L S g = zLdA mX11_init 39 0 L S g := ez_aload_n kcX11_init dX11_init_38 rfl rfl L S g
theorem eX11_init_39 (L : pmL) (S : List Value) (g : pmH) : pmV mX11_init 39 L S g = zNew mX11_init 42 7 L S g := ez_new kcX11_init dX11_init_39 cl_11_20 (by decide) rfl L S g
theorem eX11_init_42 (L : pmL) (S : List Value) (g : pmH) : pmV mX11_init 42 L S g = zDup mX11_init 43 L S g := ez_dup kcX11_init dX11_init_42 rfl L S g
theorem eX11_init_43 (L : pmL) (S : List Value) (g : pmH) : pmV mX11_init 43 L S g = zNew mX11_init 46 4 L S g := ez_new kcX11_init dX11_init_43 cl_11_13 (by decide) rfl L S g
theorem eX11_init_46 (L : pmL) (S : List Value) (g : pmH) : pmV mX11_init 46 L S g = zDup mX11_init 47 L S g := ez_dup kcX11_init dX11_init_46 rfl L S g
theorem eX11_init_47 (L : pmL) (S : List Value) (g : pmH) : pmV mX11_init 47 L S g = yV mX11_init 50 0 mX4_init 4 1 L S g := (ez_special kcX11_init dX11_init_47 nl_11_15 ml_11_15 (by decide) rfl L S g).trans (zCallV_y rfl rfl (by decide) L S g)
theorem eX11_init_50 (L : pmL) (S : List Value) (g : pmH) : pmV mX11_init 50 L S g = yV mX11_init 53 1 mX7_init 7 2 L S g := (ez_special kcX11_init dX11_init_50 nl_11_22 ml_11_22 (by decide) rfl L S g).trans (zCallV_y rfl rfl (by decide) L S g)
theorem eX11_init_53 (L : pmL) (S : List Value) (g : pmH) : pmV mX11_init 53 L S g = zPut mX11_init 56 11 4 L S g := ez_putfield kcX11_init dX11_init_53 fl_11_29 rfl L S g
theorem eX11_init_56 (L : pmL) (S : List Value) (g : pmH) : pmV mX11_init 56 L S g = zLdA mX11_init 57 0 L S g := ez_aload_n kcX11_init dX11_init_56 rfl rfl L S g
theorem eX11_init_57 (L : pmL) (S : List Value) (g : pmH) : pmV mX11_init 57 L S g = zNew mX11_init 60 10 L S g := ez_new kcX11_init dX11_init_57 cl_11_32 (by decide) rfl L S g
theorem eX11_init_60 (L : pmL) (S : List Value) (g : pmH) : pmV mX11_init 60 L S g = zDup mX11_init 61 L S g := ez_dup kcX11_init dX11_init_60 rfl L S g
theorem eX11_init_61 (L : pmL) (S : List Value) (g : pmH) : pmV mX11_init 61 L S g = zLdA mX11_init 62 0 L S g := ez_aload_n kcX11_init dX11_init_61 rfl rfl L S g
theorem eX11_init_62 (L : pmL) (S : List Value) (g : pmH) : pmV mX11_init 62 L S g = zGet mX11_init 65 11 2 L S g := ez_getfield kcX11_init dX11_init_62 fl_11_16 rfl L S g
theorem eX11_init_65 (L : pmL) (S : List Value) (g : pmH) : pmV mX11_init 65 L S g = yV mX11_init 68 1 mX10_init 10 3 L S g := (ez_special kcX11_init dX11_init_65 nl_11_34 ml_11_34 (by decide) rfl L S g).trans (zCallV_y rfl rfl (by decide) L S g)
theorem eX11_init_68 (L : pmL) (S : List Value) (g : pmH) : pmV mX11_init 68 L S g = zPut mX11_init 71 11 5 L S g := ez_putfield kcX11_init dX11_init_68 fl_11_35 rfl L S g
theorem eX11_init_71 (L : pmL) (S : List Value) (g : pmH) : pmV mX11_init 71 L S g = zLdA mX11_init 72 0 L S g := ez_aload_n kcX11_init dX11_init_71 rfl rfl L S g
theorem eX11_init_72 (L : pmL) (S : List Value) (g : pmH) : pmV mX11_init 72 L S g = zNew mX11_init 75 10 L S g := ez_new kcX11_init dX11_init_72 cl_11_32 (by decide) rfl L S g
theorem eX11_init_75 (L : pmL) (S : List Value) (g : pmH) : pmV mX11_init 75 L S g = zDup mX11_init 76 L S g := ez_dup kcX11_init dX11_init_75 rfl L S g
theorem eX11_init_76 (L : pmL) (S : List Value) (g : pmH) : pmV mX11_init 76 L S g = zLdA mX11_init 77 0 L S g := ez_aload_n kcX11_init dX11_init_76 rfl rfl L S g
theorem eX11_init_77 (L : pmL) (S : List Value) (g : pmH) : pmV mX11_init 77 L S g = zGet mX11_init 80 11 2 L S g := ez_getfield kcX11_init dX11_init_77 fl_11_16 rfl L S g
theorem eX11_init_80 (L : pmL) (S : List Value) (g : pmH) : pmV mX11_init 80 L S g = yV mX11_init 83 1 mX10_init 10 3 L S g := (ez_special kcX11_init dX11_init_80 nl_11_34 ml_11_34 (by decide) rfl L S g).trans (zCallV_y rfl rfl (by decide) L S g)
theorem eX11_init_83 (L : pmL) (S : List Value) (g : pmH) : pmV mX11_init 83 L S g = zPut mX11_init 86 11 6 L S g := ez_putfield kcX11_init dX11_init_83 fl_11_39 rfl L S g
theorem eX11_init_86 (L : pmL) (S : List Value) (g : pmH) : pmV mX11_init 86 L S g = zLdA mX11_init 87 0 L S g := ez_aload_n kcX11_init dX11_init_86 rfl rfl L S g
theorem eX11_init_87 (L : pmL) (S : List Value) (g : pmH) : pmV mX11_init 87 L S g = zNew mX11_init 90 0 L S g := ez_new kcX11_init dX11_init_87 cl_11_42 (by decide) rfl L S g
theorem eX11_init_90 (L : pmL) (S : List Value) (g : pmH) : pmV mX11_init 90 L S g = zDup mX11_init 91 L S g := ez_dup kcX11_init dX11_init_90 rfl L S g
theorem eX11_init_91 (L : pmL) (S : List Value) (g : pmH) : pmV mX11_init 91 L S g = zLdA mX11_init 92 0 L S g := ez_aload_n kcX11_init dX11_init_91 rfl rfl L S g
theorem eX11_init_92 (L : pmL) (S : List Value) (g : pmH) : pmV mX11_init 92 L S g = zGet mX11_init 95 11 2 L S g := ez_getfield kcX11_init dX11_init_92 fl_11_16 rfl L S g
theorem eX11_init_95 (L : pmL) (S : List Value) (g : pmH) : pmV mX11_init 95 L S g = yV mX11_init 98 1 mX0_init 0 3 L S g := (ez_special kcX11_init dX11_init_95 nl_11_44 ml_11_44 (by decide) rfl L S g).trans (zCallV_y rfl rfl (by decide) L S g)
theorem eX11_init_98 (L : pmL) (S : List Value) (g : pmH) : pmV mX11_init 98 L S g = zPut mX11_init 101 11 7 L S g := ez_putfield kcX11_init dX11_init_98 fl_11_45 rfl L S g
theorem eX11_init_101 (L : pmL) (S : List Value) (g : pmH) : pmV mX11_init 101 L S g = zLdA mX11_init 102 0 L S g := ez_aload_n kcX11_init dX11_init_101 rfl rfl L S g
theorem eX11_init_102 (L : pmL) (S : List Value) (g : pmH) : pmV mX11_init 102 L S g = zPush mX11_init 103 (.int (nI 2)) L S g := ez_iconst kcX11_init dX11_init_102 (by decide) rfl L S g
theorem eX11_init_103 (L : pmL) (S : List Value) (g : pmH) : pmV mX11_init 103 L S g = zNewQ mX11_init 106 2 L S g := ez_anewarray kcX11_init dX11_init_103 cl_11_32 (by decide) rfl L S g
theorem eX11_init_106 (L : pmL) (S : List Value) (g : pmH) : pmV mX11_init 106 L S g = zPut mX11_init 109 11 8 L S g := ez_putfield kcX11_init dX11_init_106 fl_11_49 rfl L S g
theorem eX11_init_109 (L : pmL) (S : List Value) (g : pmH) : pmV mX11_init 109 L S g = zLdA mX11_init 110 0 L S g := ez_aload_n kcX11_init dX11_init_109 rfl rfl L S g
theorem eX11_init_110 (L : pmL) (S : List Value) (g : pmH) : pmV mX11_init 110 L S g = zPush mX11_init 111 (.int (nI 2)) L S g := ez_iconst kcX11_init dX11_init_110 (by decide) rfl L S g
theorem eX11_init_111 (L : pmL) (S : List Value) (g : pmH) : pmV mX11_init 111 L S g = zNewA mX11_init 113 1 L S g := ez_newarray_boolean kcX11_init dX11_init_111 rfl L S g
theorem eX11_init_113 (L : pmL) (S : List Value) (g : pmH) : pmV mX11_init 113 L S g = zPut mX11_init 116 11 9 L S g := ez_putfield kcX11_init dX11_init_113 fl_11_53 rfl L S g
theorem eX11_init_116 (L : pmL) (S : List Value) (g : pmH) : pmV mX11_init 116 L S g = zLdA mX11_init 117 0 L S g := ez_aload_n kcX11_init dX11_init_116 rfl rfl L S g
theorem eX11_init_117 (L : pmL) (S : List Value) (g : pmH) : pmV mX11_init 117 L S g = zNew mX11_init 120 6 L S g := ez_new kcX11_init dX11_init_117 cl_11_57 (by decide) rfl L S g
theorem eX11_init_120 (L : pmL) (S : List Value) (g : pmH) : pmV mX11_init 120 L S g = zDup mX11_init 121 L S g := ez_dup kcX11_init dX11_init_120 rfl L S g
theorem eX11_init_121 (L : pmL) (S : List Value) (g : pmH) : pmV mX11_init 121 L S g = zLdA mX11_init 122 0 L S g := ez_aload_n kcX11_init dX11_init_121 rfl rfl L S g
theorem eX11_init_122 (L : pmL) (S : List Value) (g : pmH) : pmV mX11_init 122 L S g = zGet mX11_init 125 11 5 L S g := ez_getfield kcX11_init dX11_init_122 fl_11_35 rfl L S g
theorem eX11_init_125 (L : pmL) (S : List Value) (g : pmH) : pmV mX11_init 125 L S g = zLdA mX11_init 126 0 L S g := ez_aload_n kcX11_init dX11_init_125 rfl rfl L S g
theorem eX11_init_126 (L : pmL) (S : List Value) (g : pmH) : pmV mX11_init 126 L S g = zGet mX11_init 129 11 6 L S g := ez_getfield kcX11_init dX11_init_126 fl_11_39 rfl L S g
theorem eX11_init_129 (L : pmL) (S : List Value) (g : pmH) : pmV mX11_init 129 L S g = yV mX11_init 132 2 mX6_init 6 3 L S g := (ez_special kcX11_init dX11_init_129 nl_11_59 ml_11_59 (by decide) rfl L S g).trans (zCallV_y rfl rfl (by decide) L S g)
theorem eX11_init_132 (L : pmL) (S : List Value) (g : pmH) : pmV mX11_init 132 L S g = zPut mX11_init 135 11 10 L S g := ez_putfield kcX11_init dX11_init_132 fl_11_62 rfl L S g
theorem eX11_init_135 (L : pmL) (S : List Value) (g : pmH) : pmV mX11_init 135 L S g = zLdA mX11_init 136 0 L S g := ez_aload_n kcX11_init dX11_init_135 rfl rfl L S g
theorem eX11_init_136 (L : pmL) (S : List Value) (g : pmH) : pmV mX11_init 136 L S g = zNew mX11_init 139 9 L S g := ez_new kcX11_init dX11_init_136 cl_11_66 (by decide) rfl L S g
theorem eX11_init_139 (L : pmL) (S : List Value) (g : pmH) : pmV mX11_init 139 L S g = zDup mX11_init 140 L S g := ez_dup kcX11_init dX11_init_139 rfl L S g
theorem eX11_init_140 (L : pmL) (S : List Value) (g : pmH) : pmV mX11_init 140 L S g = zLdA mX11_init 141 0 L S g := ez_aload_n kcX11_init dX11_init_140 rfl rfl L S g
theorem eX11_init_141 (L : pmL) (S : List Value) (g : pmH) : pmV mX11_init 141 L S g = zGet mX11_init 144 11 6 L S g := ez_getfield kcX11_init dX11_init_141 fl_11_39 rfl L S g
theorem eX11_init_144 (L : pmL) (S : List Value) (g : pmH) : pmV mX11_init 144 L S g = yV mX11_init 147 1 mX9_init 9 2 L S g := (ez_special kcX11_init dX11_init_144 nl_11_68 ml_11_68 (by decide) rfl L S g).trans (zCallV_y rfl rfl (by decide) L S g)
theorem eX11_init_147 (L : pmL) (S : List Value) (g : pmH) : pmV mX11_init 147 L S g = zPut mX11_init 150 11 11 L S g := ez_putfield kcX11_init dX11_init_147 fl_11_71 rfl L S g
theorem eX11_init_150 (L : pmL) (S : List Value) (g : pmH) : pmV mX11_init 150 L S g = zLdA mX11_init 151 0 L S g := ez_aload_n kcX11_init dX11_init_150 rfl rfl L S g
theorem eX11_init_151 (L : pmL) (S : List Value) (g : pmH) : pmV mX11_init 151 L S g = zNew mX11_init 154 5 L S g := ez_new kcX11_init dX11_init_151 cl_11_75 (by decide) rfl L S g
theorem eX11_init_154 (L : pmL) (S : List Value) (g : pmH) : pmV mX11_init 154 L S g = zDup mX11_init 155 L S g := ez_dup kcX11_init dX11_init_154 rfl L S g
theorem eX11_init_155 (L : pmL) (S : List Value) (g : pmH) : pmV mX11_init 155 L S g = zLdA mX11_init 156 0 L S g := ez_aload_n kcX11_init dX11_init_155 rfl rfl L S g
theorem eX11_init_156 (L : pmL) (S : List Value) (g : pmH) : pmV mX11_init 156 L S g = zGet mX11_init 159 11 2 L S g := ez_getfield kcX11_init dX11_init_156 fl_11_16 rfl L S g
theorem eX11_init_159 (L : pmL) (S : List Value) (g : pmH) : pmV mX11_init 159 L S g = yV mX11_init 162 1 mX5_init 5 2 L S g := (ez_special kcX11_init dX11_init_159 nl_11_77 ml_11_77 (by decide) rfl L S g).trans (zCallV_y rfl rfl (by decide) L S g)
theorem eX11_init_162 (L : pmL) (S : List Value) (g : pmH) : pmV mX11_init 162 L S g = zPut mX11_init 165 11 12 L S g := ez_putfield kcX11_init dX11_init_162 fl_11_78 rfl L S g
theorem eX11_init_165 (L : pmL) (S : List Value) (g : pmH) : pmV mX11_init 165 L S g = zLdA mX11_init 166 0 L S g := ez_aload_n kcX11_init dX11_init_165 rfl rfl L S g
theorem eX11_init_166 (L : pmL) (S : List Value) (g : pmH) : pmV mX11_init 166 L S g = zNew mX11_init 169 8 L S g := ez_new kcX11_init dX11_init_166 cl_11_82 (by decide) rfl L S g
theorem eX11_init_169 (L : pmL) (S : List Value) (g : pmH) : pmV mX11_init 169 L S g = zDup mX11_init 170 L S g := ez_dup kcX11_init dX11_init_169 rfl L S g
theorem eX11_init_170 (L : pmL) (S : List Value) (g : pmH) : pmV mX11_init 170 L S g = zLdA mX11_init 171 0 L S g := ez_aload_n kcX11_init dX11_init_170 rfl rfl L S g
theorem eX11_init_171 (L : pmL) (S : List Value) (g : pmH) : pmV mX11_init 171 L S g = zGet mX11_init 174 11 5 L S g := ez_getfield kcX11_init dX11_init_171 fl_11_35 rfl L S g
theorem eX11_init_174 (L : pmL) (S : List Value) (g : pmH) : pmV mX11_init 174 L S g = zLdA mX11_init 175 0 L S g := ez_aload_n kcX11_init dX11_init_174 rfl rfl L S g
theorem eX11_init_175 (L : pmL) (S : List Value) (g : pmH) : pmV mX11_init 175 L S g = zGet mX11_init 178 11 6 L S g := ez_getfield kcX11_init dX11_init_175 fl_11_39 rfl L S g
theorem eX11_init_178 (L : pmL) (S : List Value) (g : pmH) : pmV mX11_init 178 L S g = yV mX11_init 181 2 mX8_init 8 3 L S g := (ez_special kcX11_init dX11_init_178 nl_11_84 ml_11_84 (by decide) rfl L S g).trans (zCallV_y rfl rfl (by decide) L S g)
theorem eX11_init_181 (L : pmL) (S : List Value) (g : pmH) : pmV mX11_init 181 L S g = zPut mX11_init 184 11 13 L S g := ez_putfield kcX11_init dX11_init_181 fl_11_85 rfl L S g
theorem eX11_init_184 (L : pmL) (S : List Value) (g : pmH) : pmV mX11_init 184 L S g = zLdA mX11_init 185 0 L S g := ez_aload_n kcX11_init dX11_init_184 rfl rfl L S g
theorem eX11_init_185 (L : pmL) (S : List Value) (g : pmH) : pmV mX11_init 185 L S g = zNew mX11_init 188 2 L S g := ez_new kcX11_init dX11_init_185 cl_11_89 (by decide) rfl L S g
theorem eX11_init_188 (L : pmL) (S : List Value) (g : pmH) : pmV mX11_init 188 L S g = zDup mX11_init 189 L S g := ez_dup kcX11_init dX11_init_188 rfl L S g
theorem eX11_init_189 (L : pmL) (S : List Value) (g : pmH) : pmV mX11_init 189 L S g = zLdA mX11_init 190 0 L S g := ez_aload_n kcX11_init dX11_init_189 rfl rfl L S g
theorem eX11_init_190 (L : pmL) (S : List Value) (g : pmH) : pmV mX11_init 190 L S g = zGet mX11_init 193 11 5 L S g := ez_getfield kcX11_init dX11_init_190 fl_11_35 rfl L S g
theorem eX11_init_193 (L : pmL) (S : List Value) (g : pmH) : pmV mX11_init 193 L S g = zLdA mX11_init 194 0 L S g := ez_aload_n kcX11_init dX11_init_193 rfl rfl L S g
theorem eX11_init_194 (L : pmL) (S : List Value) (g : pmH) : pmV mX11_init 194 L S g = zGet mX11_init 197 11 6 L S g := ez_getfield kcX11_init dX11_init_194 fl_11_39 rfl L S g
theorem eX11_init_197 (L : pmL) (S : List Value) (g : pmH) : pmV mX11_init 197 L S g = yV mX11_init 200 2 mX2_init 2 3 L S g := (ez_special kcX11_init dX11_init_197 nl_11_91 ml_11_91 (by decide) rfl L S g).trans (zCallV_y rfl rfl (by decide) L S g)
theorem eX11_init_200 (L : pmL) (S : List Value) (g : pmH) : pmV mX11_init 200 L S g = zPut mX11_init 203 11 14 L S g := ez_putfield kcX11_init dX11_init_200 fl_11_92 rfl L S g
theorem eX11_init_203 (L : pmL) (S : List Value) (g : pmH) : pmV mX11_init 203 L S g = zLdA mX11_init 204 0 L S g := ez_aload_n kcX11_init dX11_init_203 rfl rfl L S g
theorem eX11_init_204 (L : pmL) (S : List Value) (g : pmH) : pmV mX11_init 204 L S g = zNew mX11_init 207 3 L S g := ez_new kcX11_init dX11_init_204 cl_11_96 (by decide) rfl L S g
theorem eX11_init_207 (L : pmL) (S : List Value) (g : pmH) : pmV mX11_init 207 L S g = zDup mX11_init 208 L S g := ez_dup kcX11_init dX11_init_207 rfl L S g
theorem eX11_init_208 (L : pmL) (S : List Value) (g : pmH) : pmV mX11_init 208 L S g = zLdA mX11_init 209 0 L S g := ez_aload_n kcX11_init dX11_init_208 rfl rfl L S g
theorem eX11_init_209 (L : pmL) (S : List Value) (g : pmH) : pmV mX11_init 209 L S g = zGet mX11_init 212 11 5 L S g := ez_getfield kcX11_init dX11_init_209 fl_11_35 rfl L S g
theorem eX11_init_212 (L : pmL) (S : List Value) (g : pmH) : pmV mX11_init 212 L S g = zLdA mX11_init 213 0 L S g := ez_aload_n kcX11_init dX11_init_212 rfl rfl L S g
theorem eX11_init_213 (L : pmL) (S : List Value) (g : pmH) : pmV mX11_init 213 L S g = zGet mX11_init 216 11 6 L S g := ez_getfield kcX11_init dX11_init_213 fl_11_39 rfl L S g
theorem eX11_init_216 (L : pmL) (S : List Value) (g : pmH) : pmV mX11_init 216 L S g = yV mX11_init 219 2 mX3_init 3 3 L S g := (ez_special kcX11_init dX11_init_216 nl_11_98 ml_11_98 (by decide) rfl L S g).trans (zCallV_y rfl rfl (by decide) L S g)
theorem eX11_init_219 (L : pmL) (S : List Value) (g : pmH) : pmV mX11_init 219 L S g = zPut mX11_init 222 11 15 L S g := ez_putfield kcX11_init dX11_init_219 fl_11_99 rfl L S g
theorem eX11_init_222 (L : pmL) (S : List Value) (g : pmH) : pmV mX11_init 222 L S g = zPush mX11_init 223 (.int (nI 0)) L S g := ez_iconst kcX11_init dX11_init_222 (by decide) rfl L S g
theorem eX11_init_223 (L : pmL) (S : List Value) (g : pmH) : pmV mX11_init 223 L S g = zStI mX11_init 224 1 L S g := ez_istore_n kcX11_init dX11_init_223 rfl rfl L S g
theorem eX11_init_224 (L : pmL) (S : List Value) (g : pmH) : pmV mX11_init 224 L S g = zLdI mX11_init 225 1 L S g := ez_iload_n kcX11_init dX11_init_224 rfl rfl L S g
theorem eX11_init_225 (L : pmL) (S : List Value) (g : pmH) : pmV mX11_init 225 L S g = zPush mX11_init 226 (.int (nI 2)) L S g := ez_iconst kcX11_init dX11_init_225 (by decide) rfl L S g
theorem eX11_init_226 (L : pmL) (S : List Value) (g : pmH) : pmV mX11_init 226 L S g = zBge mX11_init 229 252 L S g := ez_icmp_ge kcX11_init dX11_init_226 (by decide) rfl L S g
theorem eX11_init_229 (L : pmL) (S : List Value) (g : pmH) : pmV mX11_init 229 L S g = zLdA mX11_init 230 0 L S g := ez_aload_n kcX11_init dX11_init_229 rfl rfl L S g
theorem eX11_init_230 (L : pmL) (S : List Value) (g : pmH) : pmV mX11_init 230 L S g = zGet mX11_init 233 11 8 L S g := ez_getfield kcX11_init dX11_init_230 fl_11_49 rfl L S g
theorem eX11_init_233 (L : pmL) (S : List Value) (g : pmH) : pmV mX11_init 233 L S g = zLdI mX11_init 234 1 L S g := ez_iload_n kcX11_init dX11_init_233 rfl rfl L S g
theorem eX11_init_234 (L : pmL) (S : List Value) (g : pmH) : pmV mX11_init 234 L S g = zNew mX11_init 237 10 L S g := ez_new kcX11_init dX11_init_234 cl_11_32 (by decide) rfl L S g
theorem eX11_init_237 (L : pmL) (S : List Value) (g : pmH) : pmV mX11_init 237 L S g = zDup mX11_init 238 L S g := ez_dup kcX11_init dX11_init_237 rfl L S g
theorem eX11_init_238 (L : pmL) (S : List Value) (g : pmH) : pmV mX11_init 238 L S g = zLdA mX11_init 239 0 L S g := ez_aload_n kcX11_init dX11_init_238 rfl rfl L S g
theorem eX11_init_239 (L : pmL) (S : List Value) (g : pmH) : pmV mX11_init 239 L S g = zGet mX11_init 242 11 2 L S g := ez_getfield kcX11_init dX11_init_239 fl_11_16 rfl L S g
theorem eX11_init_242 (L : pmL) (S : List Value) (g : pmH) : pmV mX11_init 242 L S g = yV mX11_init 245 1 mX10_init 10 3 L S g := (ez_special kcX11_init dX11_init_242 nl_11_34 ml_11_34 (by decide) rfl L S g).trans (zCallV_y rfl rfl (by decide) L S g)
theorem eX11_init_245 (L : pmL) (S : List Value) (g : pmH) : pmV mX11_init 245 L S g = zAast mX11_init 246 L S g := ez_aastore kcX11_init dX11_init_245 rfl L S g
theorem eX11_init_246 (L : pmL) (S : List Value) (g : pmH) : pmV mX11_init 246 L S g = zInc mX11_init 249 1 (nI 1) L S g := ez_iinc kcX11_init dX11_init_246 (by decide) rfl L S g
theorem eX11_init_249 (L : pmL) (S : List Value) (g : pmH) : pmV mX11_init 249 L S g = zNx mX11_init 224 L S g := ez_goto kcX11_init dX11_init_249 (by decide) L S g
theorem eX11_init_252 (L : pmL) (S : List Value) (g : pmH) : pmV mX11_init 252 L S g = zVret S g := ez_return kcX11_init dX11_init_252 rfl L S g
theorem eX11_write_0 (L : pmL) (S : List Value) (g : pmH) : pmV mX11_write 0 L S g = zLdI mX11_write 1 1 L S g := ez_iload_n kcX11_write dX11_write_0 rfl rfl L S g
theorem eX11_write_1 (L : pmL) (S : List Value) (g : pmH) : pmV mX11_write 1 L S g = zClt mX11_write 4 11 L S g := ez_if_lt kcX11_write dX11_write_1 (by decide) rfl L S g
theorem eX11_write_4 (L : pmL) (S : List Value) (g : pmH) : pmV mX11_write 4 L S g = zLdI mX11_write 5 1 L S g := ez_iload_n kcX11_write dX11_write_4 rfl rfl L S g
theorem eX11_write_5 (L : pmL) (S : List Value) (g : pmH) : pmV mX11_write 5 L S g = zPush mX11_write 8 (.int (nI 255)) L S g := ez_sipush kcX11_write dX11_write_5 (by decide) rfl L S g
theorem eX11_write_8 (L : pmL) (S : List Value) (g : pmH) : pmV mX11_write 8 L S g = zBle mX11_write 11 14 L S g := ez_icmp_le kcX11_write dX11_write_8 (by decide) rfl L S g
theorem eX11_write_11 (L : pmL) (S : List Value) (g : pmH) : pmV mX11_write 11 L S g = zPush mX11_write 13 (.int (-2)) L S g := ez_bipush kcX11_write dX11_write_11 (by decide) rfl L S g
theorem eX11_write_13 (L : pmL) (S : List Value) (g : pmH) : pmV mX11_write 13 L S g = zIret mX11_write S g := ez_ireturn kcX11_write dX11_write_13 L S g
theorem eX11_write_14 (L : pmL) (S : List Value) (g : pmH) : pmV mX11_write 14 L S g = zLdA mX11_write 15 0 L S g := ez_aload_n kcX11_write dX11_write_14 rfl rfl L S g
theorem eX11_write_15 (L : pmL) (S : List Value) (g : pmH) : pmV mX11_write 15 L S g = zGet mX11_write 18 11 1 L S g := ez_getfield kcX11_write dX11_write_15 fl_11_103 rfl L S g
theorem eX11_write_18 (L : pmL) (S : List Value) (g : pmH) : pmV mX11_write 18 L S g = zPush mX11_write 20 (.int (nI 48)) L S g := ez_bipush kcX11_write dX11_write_18 (by decide) rfl L S g
theorem eX11_write_20 (L : pmL) (S : List Value) (g : pmH) : pmV mX11_write 20 L S g = zBlt mX11_write 23 26 L S g := ez_icmp_lt kcX11_write dX11_write_20 (by decide) rfl L S g
theorem eX11_write_23 (L : pmL) (S : List Value) (g : pmH) : pmV mX11_write 23 L S g = zPush mX11_write 25 (.int (-4)) L S g := ez_bipush kcX11_write dX11_write_23 (by decide) rfl L S g
theorem eX11_write_25 (L : pmL) (S : List Value) (g : pmH) : pmV mX11_write 25 L S g = zIret mX11_write S g := ez_ireturn kcX11_write dX11_write_25 L S g
theorem eX11_write_26 (L : pmL) (S : List Value) (g : pmH) : pmV mX11_write 26 L S g = zLdA mX11_write 27 0 L S g := ez_aload_n kcX11_write dX11_write_26 rfl rfl L S g
theorem eX11_write_27 (L : pmL) (S : List Value) (g : pmH) : pmV mX11_write 27 L S g = zGet mX11_write 30 11 0 L S g := ez_getfield kcX11_write dX11_write_27 fl_11_9 rfl L S g
theorem eX11_write_30 (L : pmL) (S : List Value) (g : pmH) : pmV mX11_write 30 L S g = zLdA mX11_write 31 0 L S g := ez_aload_n kcX11_write dX11_write_30 rfl rfl L S g
theorem eX11_write_31 (L : pmL) (S : List Value) (g : pmH) : pmV mX11_write 31 L S g = zGet mX11_write 34 11 1 L S g := ez_getfield kcX11_write dX11_write_31 fl_11_103 rfl L S g
theorem eX11_write_34 (L : pmL) (S : List Value) (g : pmH) : pmV mX11_write 34 L S g = zLdI mX11_write 35 1 L S g := ez_iload_n kcX11_write dX11_write_34 rfl rfl L S g
