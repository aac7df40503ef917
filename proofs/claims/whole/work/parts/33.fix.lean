section FIX
variable {X : Nat × (Nat → Int32)} {I : Nat → Nat → Int32} {J : Nat → Int64} {M : pmM} {nx i j k : Nat} {L : pmL} {S : List Value} {x v : Int32} {F : Nat → Int32}
theorem uS : upd F k v k = v := by simp [upd]
theorem uN (h : j ≠ k) : upd F k v j = F j := by simp [upd, h]
theorem o_3 : okO 3 11 = true := by decide +kernel
theorem g_3_0 : zGet M nx 11 0 L (.ref 3 :: S) (hp X I J) = pmV M nx L (.ref 4 :: S) (hp X I J) := zGet_r (by decide +kernel)
theorem f_3_1 : okI 3 11 1 = true := by decide +kernel
theorem g_3_2 : zGet M nx 11 2 L (.ref 3 :: S) (hp X I J) = pmV M nx L (.ref 5 :: S) (hp X I J) := zGet_r (by decide +kernel)
theorem g_3_3 : zGet M nx 11 3 L (.ref 3 :: S) (hp X I J) = pmV M nx L (.ref 13 :: S) (hp X I J) := zGet_r (by decide +kernel)
theorem g_3_4 : zGet M nx 11 4 L (.ref 3 :: S) (hp X I J) = pmV M nx L (.ref 14 :: S) (hp X I J) := zGet_r (by decide +kernel)
theorem g_3_5 : zGet M nx 11 5 L (.ref 3 :: S) (hp X I J) = pmV M nx L (.ref 23 :: S) (hp X I J) := zGet_r (by decide +kernel)
theorem g_3_6 : zGet M nx 11 6 L (.ref 3 :: S) (hp X I J) = pmV M nx L (.ref 30 :: S) (hp X I J) := zGet_r (by decide +kernel)
theorem g_3_7 : zGet M nx 11 7 L (.ref 3 :: S) (hp X I J) = pmV M nx L (.ref 37 :: S) (hp X I J) := zGet_r (by decide +kernel)
theorem g_3_8 : zGet M nx 11 8 L (.ref 3 :: S) (hp X I J) = pmV M nx L (.ref 137 :: S) (hp X I J) := zGet_r (by decide +kernel)
theorem g_3_9 : zGet M nx 11 9 L (.ref 3 :: S) (hp X I J) = pmV M nx L (.ref 138 :: S) (hp X I J) := zGet_r (by decide +kernel)
theorem g_3_10 : zGet M nx 11 10 L (.ref 3 :: S) (hp X I J) = pmV M nx L (.ref 139 :: S) (hp X I J) := zGet_r (by decide +kernel)
theorem g_3_11 : zGet M nx 11 11 L (.ref 3 :: S) (hp X I J) = pmV M nx L (.ref 140 :: S) (hp X I J) := zGet_r (by decide +kernel)
theorem g_3_12 : zGet M nx 11 12 L (.ref 3 :: S) (hp X I J) = pmV M nx L (.ref 142 :: S) (hp X I J) := zGet_r (by decide +kernel)
theorem g_3_13 : zGet M nx 11 13 L (.ref 3 :: S) (hp X I J) = pmV M nx L (.ref 146 :: S) (hp X I J) := zGet_r (by decide +kernel)
theorem g_3_14 : zGet M nx 11 14 L (.ref 3 :: S) (hp X I J) = pmV M nx L (.ref 148 :: S) (hp X I J) := zGet_r (by decide +kernel)
theorem g_3_15 : zGet M nx 11 15 L (.ref 3 :: S) (hp X I J) = pmV M nx L (.ref 151 :: S) (hp X I J) := zGet_r (by decide +kernel)
theorem o_5 : okO 5 4 = true := by decide +kernel
theorem g_5_0 : zGet M nx 4 0 L (.ref 5 :: S) (hp X I J) = pmV M nx L (.ref 6 :: S) (hp X I J) := zGet_r (by decide +kernel)
theorem g_5_1 : zGet M nx 4 1 L (.ref 5 :: S) (hp X I J) = pmV M nx L (.ref 7 :: S) (hp X I J) := zGet_r (by decide +kernel)
theorem g_5_2 : zGet M nx 4 2 L (.ref 5 :: S) (hp X I J) = pmV M nx L (.ref 8 :: S) (hp X I J) := zGet_r (by decide +kernel)
theorem g_5_3 : zGet M nx 4 3 L (.ref 5 :: S) (hp X I J) = pmV M nx L (.ref 9 :: S) (hp X I J) := zGet_r (by decide +kernel)
theorem g_5_4 : zGet M nx 4 4 L (.ref 5 :: S) (hp X I J) = pmV M nx L (.ref 10 :: S) (hp X I J) := zGet_r (by decide +kernel)
theorem g_5_5 : zGet M nx 4 5 L (.ref 5 :: S) (hp X I J) = pmV M nx L (.ref 11 :: S) (hp X I J) := zGet_r (by decide +kernel)
theorem g_5_6 : zGet M nx 4 6 L (.ref 5 :: S) (hp X I J) = pmV M nx L (.ref 12 :: S) (hp X I J) := zGet_r (by decide +kernel)
theorem f_5_7 : okI 5 4 7 = true := by decide +kernel
theorem f_5_8 : okI 5 4 8 = true := by decide +kernel
theorem f_5_9 : okI 5 4 9 = true := by decide +kernel
theorem o_13 : okO 13 7 = true := by decide +kernel
theorem g_13_0 : zGet M nx 7 0 L (.ref 13 :: S) (hp X I J) = pmV M nx L (.ref 5 :: S) (hp X I J) := zGet_r (by decide +kernel)
theorem f_13_1 : okI 13 7 1 = true := by decide +kernel
theorem f_13_2 : okI 13 7 2 = true := by decide +kernel
theorem o_14 : okO 14 7 = true := by decide +kernel
theorem g_14_0 : zGet M nx 7 0 L (.ref 14 :: S) (hp X I J) = pmV M nx L (.ref 15 :: S) (hp X I J) := zGet_r (by decide +kernel)
theorem f_14_1 : okI 14 7 1 = true := by decide +kernel
theorem f_14_2 : okI 14 7 2 = true := by decide +kernel
theorem o_15 : okO 15 4 = true := by decide +kernel
theorem g_15_0 : zGet M nx 4 0 L (.ref 15 :: S) (hp X I J) = pmV M nx L (.ref 16 :: S) (hp X I J) := zGet_r (by decide +kernel)
theorem g_15_1 : zGet M nx 4 1 L (.ref 15 :: S) (hp X I J) = pmV M nx L (.ref 17 :: S) (hp X I J) := zGet_r (by decide +kernel)
theorem g_15_2 : zGet M nx 4 2 L (.ref 15 :: S) (hp X I J) = pmV M nx L (.ref 18 :: S) (hp X I J) := zGet_r (by decide +kernel)
theorem g_15_3 : zGet M nx 4 3 L (.ref 15 :: S) (hp X I J) = pmV M nx L (.ref 19 :: S) (hp X I J) := zGet_r (by decide +kernel)
theorem g_15_4 : zGet M nx 4 4 L (.ref 15 :: S) (hp X I J) = pmV M nx L (.ref 20 :: S) (hp X I J) := zGet_r (by decide +kernel)
theorem g_15_5 : zGet M nx 4 5 L (.ref 15 :: S) (hp X I J) = pmV M nx L (.ref 21 :: S) (hp X I J) := zGet_r (by decide +kernel)
theorem g_15_6 : zGet M nx 4 6 L (.ref 15 :: S) (hp X I J) = pmV M nx L (.ref 22 :: S) (hp X I J) := zGet_r (by decide +kernel)
theorem f_15_7 : okI 15 4 7 = true := by decide +kernel
theorem f_15_8 : okI 15 4 8 = true := by decide +kernel
theorem f_15_9 : okI 15 4 9 = true := by decide +kernel
theorem o_23 : okO 23 10 = true := by decide +kernel
theorem g_23_0 : zGet M nx 10 0 L (.ref 23 :: S) (hp X I J) = pmV M nx L (.ref 5 :: S) (hp X I J) := zGet_r (by decide +kernel)
theorem g_23_1 : zGet M nx 10 1 L (.ref 23 :: S) (hp X I J) = pmV M nx L (.ref 24 :: S) (hp X I J) := zGet_r (by decide +kernel)
theorem f_23_2 : okI 23 10 2 = true := by decide +kernel
theorem f_23_3 : okI 23 10 3 = true := by decide +kernel
theorem o_30 : okO 30 10 = true := by decide +kernel
theorem g_30_0 : zGet M nx 10 0 L (.ref 30 :: S) (hp X I J) = pmV M nx L (.ref 5 :: S) (hp X I J) := zGet_r (by decide +kernel)
theorem g_30_1 : zGet M nx 10 1 L (.ref 30 :: S) (hp X I J) = pmV M nx L (.ref 31 :: S) (hp X I J) := zGet_r (by decide +kernel)
theorem f_30_2 : okI 30 10 2 = true := by decide +kernel
theorem f_30_3 : okI 30 10 3 = true := by decide +kernel
theorem o_37 : okO 37 0 = true := by decide +kernel
theorem g_37_0 : zGet M nx 0 0 L (.ref 37 :: S) (hp X I J) = pmV M nx L (.ref 38 :: S) (hp X I J) := zGet_r (by decide +kernel)
theorem f_37_1 : okI 37 0 1 = true := by decide +kernel
theorem f_37_2 : okI 37 0 2 = true := by decide +kernel
theorem o_139 : okO 139 6 = true := by decide +kernel
theorem g_139_0 : zGet M nx 6 0 L (.ref 139 :: S) (hp X I J) = pmV M nx L (.ref 23 :: S) (hp X I J) := zGet_r (by decide +kernel)
theorem g_139_1 : zGet M nx 6 1 L (.ref 139 :: S) (hp X I J) = pmV M nx L (.ref 30 :: S) (hp X I J) := zGet_r (by decide +kernel)
theorem o_140 : okO 140 9 = true := by decide +kernel
theorem g_140_0 : zGet M nx 9 0 L (.ref 140 :: S) (hp X I J) = pmV M nx L (.ref 30 :: S) (hp X I J) := zGet_r (by decide +kernel)
theorem g_140_1 : zGet M nx 9 1 L (.ref 140 :: S) (hp X I J) = pmV M nx L (.ref 141 :: S) (hp X I J) := zGet_r (by decide +kernel)
theorem f_140_2 : okI 140 9 2 = true := by decide +kernel
theorem f_140_3 : okI 140 9 3 = true := by decide +kernel
theorem o_142 : okO 142 5 = true := by decide +kernel
theorem g_142_0 : zGet M nx 5 0 L (.ref 142 :: S) (hp X I J) = pmV M nx L (.ref 5 :: S) (hp X I J) := zGet_r (by decide +kernel)
theorem g_142_1 : zGet M nx 5 1 L (.ref 142 :: S) (hp X I J) = pmV M nx L (.ref 143 :: S) (hp X I J) := zGet_r (by decide +kernel)
theorem g_142_2 : zGet M nx 5 2 L (.ref 142 :: S) (hp X I J) = pmV M nx L (.ref 144 :: S) (hp X I J) := zGet_r (by decide +kernel)
theorem g_142_3 : zGet M nx 5 3 L (.ref 142 :: S) (hp X I J) = pmV M nx L (.ref 145 :: S) (hp X I J) := zGet_r (by decide +kernel)
theorem f_142_4 : okI 142 5 4 = true := by decide +kernel
theorem o_145 : okO 145 1 = true := by decide +kernel
theorem f_145_0 : okI 145 1 0 = true := by decide +kernel
theorem f_145_1 : okI 145 1 1 = true := by decide +kernel
theorem f_145_2 : okI 145 1 2 = true := by decide +kernel
theorem f_145_3 : okI 145 1 3 = true := by decide +kernel
theorem f_145_4 : okI 145 1 4 = true := by decide +kernel
theorem f_145_5 : okI 145 1 5 = true := by decide +kernel
theorem f_145_6 : okI 145 1 6 = true := by decide +kernel
theorem o_146 : okO 146 8 = true := by decide +kernel
theorem g_146_0 : zGet M nx 8 0 L (.ref 146 :: S) (hp X I J) = pmV M nx L (.ref 23 :: S) (hp X I J) := zGet_r (by decide +kernel)
theorem g_146_1 : zGet M nx 8 1 L (.ref 146 :: S) (hp X I J) = pmV M nx L (.ref 30 :: S) (hp X I J) := zGet_r (by decide +kernel)
theorem g_146_2 : zGet M nx 8 2 L (.ref 146 :: S) (hp X I J) = pmV M nx L (.ref 147 :: S) (hp X I J) := zGet_r (by decide +kernel)
theorem o_148 : okO 148 2 = true := by decide +kernel
theorem g_148_0 : zGet M nx 2 0 L (.ref 148 :: S) (hp X I J) = pmV M nx L (.ref 23 :: S) (hp X I J) := zGet_r (by decide +kernel)
theorem g_148_1 : zGet M nx 2 1 L (.ref 148 :: S) (hp X I J) = pmV M nx L (.ref 30 :: S) (hp X I J) := zGet_r (by decide +kernel)
theorem g_148_2 : zGet M nx 2 2 L (.ref 148 :: S) (hp X I J) = pmV M nx L (.ref 149 :: S) (hp X I J) := zGet_r (by decide +kernel)
theorem g_148_3 : zGet M nx 2 3 L (.ref 148 :: S) (hp X I J) = pmV M nx L (.ref 150 :: S) (hp X I J) := zGet_r (by decide +kernel)
theorem o_151 : okO 151 3 = true := by decide +kernel
theorem g_151_0 : zGet M nx 3 0 L (.ref 151 :: S) (hp X I J) = pmV M nx L (.ref 23 :: S) (hp X I J) := zGet_r (by decide +kernel)
theorem g_151_1 : zGet M nx 3 1 L (.ref 151 :: S) (hp X I J) = pmV M nx L (.ref 30 :: S) (hp X I J) := zGet_r (by decide +kernel)
theorem f_151_2 : okJ 151 3 2 = true := by decide +kernel
theorem o_152 : okO 152 10 = true := by decide +kernel
theorem g_152_0 : zGet M nx 10 0 L (.ref 152 :: S) (hp X I J) = pmV M nx L (.ref 5 :: S) (hp X I J) := zGet_r (by decide +kernel)
theorem g_152_1 : zGet M nx 10 1 L (.ref 152 :: S) (hp X I J) = pmV M nx L (.ref 153 :: S) (hp X I J) := zGet_r (by decide +kernel)
theorem f_152_2 : okI 152 10 2 = true := by decide +kernel
theorem f_152_3 : okI 152 10 3 = true := by decide +kernel
theorem o_159 : okO 159 10 = true := by decide +kernel
theorem g_159_0 : zGet M nx 10 0 L (.ref 159 :: S) (hp X I J) = pmV M nx L (.ref 5 :: S) (hp X I J) := zGet_r (by decide +kernel)
theorem g_159_1 : zGet M nx 10 1 L (.ref 159 :: S) (hp X I J) = pmV M nx L (.ref 160 :: S) (hp X I J) := zGet_r (by decide +kernel)
theorem f_159_2 : okI 159 10 2 = true := by decide +kernel
theorem f_159_3 : okI 159 10 3 = true := by decide +kernel
theorem o_166 : okO 166 12 = true := by decide +kernel
theorem f_166_0 : okI 166 12 0 = true := by decide +kernel
theorem f_166_1 : okI 166 12 1 = true := by decide +kernel
theorem f_166_2 : okI 166 12 2 = true := by decide +kernel
theorem g_166_3 : zGet M nx 12 3 L (.ref 166 :: S) (hp X I J) = pmV M nx L (.ref 167 :: S) (hp X I J) := zGet_r (by decide +kernel)
theorem g_166_4 : zGet M nx 12 4 L (.ref 166 :: S) (hp X I J) = pmV M nx L (.ref 168 :: S) (hp X I J) := zGet_r (by decide +kernel)
theorem g_166_5 : zGet M nx 12 5 L (.ref 166 :: S) (hp X I J) = pmV M nx L (.ref 169 :: S) (hp X I J) := zGet_r (by decide +kernel)
theorem g_166_6 : zGet M nx 12 6 L (.ref 166 :: S) (hp X I J) = pmV M nx L (.ref 170 :: S) (hp X I J) := zGet_r (by decide +kernel)
theorem g_166_7 : zGet M nx 12 7 L (.ref 166 :: S) (hp X I J) = pmV M nx L (.ref 171 :: S) (hp X I J) := zGet_r (by decide +kernel)
theorem g_166_8 : zGet M nx 12 8 L (.ref 166 :: S) (hp X I J) = pmV M nx L (.ref 172 :: S) (hp X I J) := zGet_r (by decide +kernel)
theorem g_166_9 : zGet M nx 12 9 L (.ref 166 :: S) (hp X I J) = pmV M nx L (.ref 173 :: S) (hp X I J) := zGet_r (by decide +kernel)
theorem g_166_10 : zGet M nx 12 10 L (.ref 166 :: S) (hp X I J) = pmV M nx L (.ref 174 :: S) (hp X I J) := zGet_r (by decide +kernel)
theorem g_166_11 : zGet M nx 12 11 L (.ref 166 :: S) (hp X I J) = pmV M nx L (.ref 175 :: S) (hp X I J) := zGet_r (by decide +kernel)
theorem g_166_12 : zGet M nx 12 12 L (.ref 166 :: S) (hp X I J) = pmV M nx L (.ref 176 :: S) (hp X I J) := zGet_r (by decide +kernel)
theorem f_166_13 : okI 166 12 13 = true := by decide +kernel
theorem f_166_14 : okI 166 12 14 = true := by decide +kernel
theorem f_166_15 : okI 166 12 15 = true := by decide +kernel
theorem f_166_16 : okI 166 12 16 = true := by decide +kernel
theorem g_166_17 : zGet M nx 12 17 L (.ref 166 :: S) (hp X I J) = pmV M nx L (.ref 177 :: S) (hp X I J) := zGet_r (by decide +kernel)
theorem f_166_18 : okI 166 12 18 = true := by decide +kernel
theorem f_166_19 : okI 166 12 19 = true := by decide +kernel
theorem f_166_20 : okI 166 12 20 = true := by decide +kernel
theorem f_166_21 : okI 166 12 21 = true := by decide +kernel
theorem f_166_22 : okI 166 12 22 = true := by decide +kernel
theorem f_166_23 : okI 166 12 23 = true := by decide +kernel
theorem g_166_24 : zGet M nx 12 24 L (.ref 166 :: S) (hp X I J) = pmV M nx L (.ref 178 :: S) (hp X I J) := zGet_r (by decide +kernel)
theorem g_166_25 : zGet M nx 12 25 L (.ref 166 :: S) (hp X I J) = pmV M nx L (.ref 179 :: S) (hp X I J) := zGet_r (by decide +kernel)
theorem g_166_26 : zGet M nx 12 26 L (.ref 166 :: S) (hp X I J) = pmV M nx L (.ref 180 :: S) (hp X I J) := zGet_r (by decide +kernel)
theorem f_166_27 : okI 166 12 27 = true := by decide +kernel
theorem g_166_28 : zGet M nx 12 28 L (.ref 166 :: S) (hp X I J) = pmV M nx L (.ref 181 :: S) (hp X I J) := zGet_r (by decide +kernel)
theorem g_166_29 : zGet M nx 12 29 L (.ref 166 :: S) (hp X I J) = pmV M nx L (.ref 182 :: S) (hp X I J) := zGet_r (by decide +kernel)
theorem f_166_30 : okJ 166 12 30 = true := by decide +kernel
theorem g_166_31 : zGet M nx 12 31 L (.ref 166 :: S) (hp X I J) = pmV M nx L (.ref 183 :: S) (hp X I J) := zGet_r (by decide +kernel)
theorem g_166_32 : zGet M nx 12 32 L (.ref 166 :: S) (hp X I J) = pmV M nx L (.ref 184 :: S) (hp X I J) := zGet_r (by decide +kernel)
theorem a_4 (h : i < 48) : zIald M nx L (.int (nI i) :: .ref 4 :: S) (hp X I J) = pmV M nx L (.int (I 4 i) :: S) (hp X I J) := zIald_n (n := 48) (by decide +kernel) h (by decide)
theorem s_4 (h : i < 48) : zIast M nx L (.int x :: .int (nI i) :: .ref 4 :: S) (hp X I J) = pmV M nx L S (hp X (up I 4 i x) J) := zIast_n (n := 48) (by decide +kernel) h (by decide)
theorem a_6 (h : i < 4) : zIald M nx L (.int (nI i) :: .ref 6 :: S) (hp X I J) = pmV M nx L (.int (I 6 i) :: S) (hp X I J) := zIald_n (n := 4) (by decide +kernel) h (by decide)
theorem s_6 (h : i < 4) : zIast M nx L (.int x :: .int (nI i) :: .ref 6 :: S) (hp X I J) = pmV M nx L S (hp X (up I 6 i x) J) := zIast_n (n := 4) (by decide +kernel) h (by decide)
theorem a_7 (h : i < 5) : zIald M nx L (.int (nI i) :: .ref 7 :: S) (hp X I J) = pmV M nx L (.int (I 7 i) :: S) (hp X I J) := zIald_n (n := 5) (by decide +kernel) h (by decide)
theorem s_7 (h : i < 5) : zIast M nx L (.int x :: .int (nI i) :: .ref 7 :: S) (hp X I J) = pmV M nx L S (hp X (up I 7 i x) J) := zIast_n (n := 5) (by decide +kernel) h (by decide)
theorem a_8 (h : i < 5) : zIald M nx L (.int (nI i) :: .ref 8 :: S) (hp X I J) = pmV M nx L (.int (I 8 i) :: S) (hp X I J) := zIald_n (n := 5) (by decide +kernel) h (by decide)
theorem s_8 (h : i < 5) : zIast M nx L (.int x :: .int (nI i) :: .ref 8 :: S) (hp X I J) = pmV M nx L S (hp X (up I 8 i x) J) := zIast_n (n := 5) (by decide +kernel) h (by decide)
theorem a_9 (h : i < 5) : zIald M nx L (.int (nI i) :: .ref 9 :: S) (hp X I J) = pmV M nx L (.int (I 9 i) :: S) (hp X I J) := zIald_n (n := 5) (by decide +kernel) h (by decide)
theorem s_9 (h : i < 5) : zIast M nx L (.int x :: .int (nI i) :: .ref 9 :: S) (hp X I J) = pmV M nx L S (hp X (up I 9 i x) J) := zIast_n (n := 5) (by decide +kernel) h (by decide)
theorem a_10 (h : i < 4) : zIald M nx L (.int (nI i) :: .ref 10 :: S) (hp X I J) = pmV M nx L (.int (I 10 i) :: S) (hp X I J) := zIald_n (n := 4) (by decide +kernel) h (by decide)
theorem s_10 (h : i < 4) : zIast M nx L (.int x :: .int (nI i) :: .ref 10 :: S) (hp X I J) = pmV M nx L S (hp X (up I 10 i x) J) := zIast_n (n := 4) (by decide +kernel) h (by decide)
theorem a_11 (h : i < 4) : zIald M nx L (.int (nI i) :: .ref 11 :: S) (hp X I J) = pmV M nx L (.int (I 11 i) :: S) (hp X I J) := zIald_n (n := 4) (by decide +kernel) h (by decide)
theorem s_11 (h : i < 4) : zIast M nx L (.int x :: .int (nI i) :: .ref 11 :: S) (hp X I J) = pmV M nx L S (hp X (up I 11 i x) J) := zIast_n (n := 4) (by decide +kernel) h (by decide)
theorem a_12 (h : i < 4) : zIald M nx L (.int (nI i) :: .ref 12 :: S) (hp X I J) = pmV M nx L (.int (I 12 i) :: S) (hp X I J) := zIald_n (n := 4) (by decide +kernel) h (by decide)
theorem s_12 (h : i < 4) : zIast M nx L (.int x :: .int (nI i) :: .ref 12 :: S) (hp X I J) = pmV M nx L S (hp X (up I 12 i x) J) := zIast_n (n := 4) (by decide +kernel) h (by decide)
theorem a_16 (h : i < 4) : zIald M nx L (.int (nI i) :: .ref 16 :: S) (hp X I J) = pmV M nx L (.int (I 16 i) :: S) (hp X I J) := zIald_n (n := 4) (by decide +kernel) h (by decide)
theorem s_16 (h : i < 4) : zIast M nx L (.int x :: .int (nI i) :: .ref 16 :: S) (hp X I J) = pmV M nx L S (hp X (up I 16 i x) J) := zIast_n (n := 4) (by decide +kernel) h (by decide)
theorem a_17 (h : i < 5) : zIald M nx L (.int (nI i) :: .ref 17 :: S) (hp X I J) = pmV M nx L (.int (I 17 i) :: S) (hp X I J) := zIald_n (n := 5) (by decide +kernel) h (by decide)
theorem s_17 (h : i < 5) : zIast M nx L (.int x :: .int (nI i) :: .ref 17 :: S) (hp X I J) = pmV M nx L S (hp X (up I 17 i x) J) := zIast_n (n := 5) (by decide +kernel) h (by decide)
theorem a_18 (h : i < 5) : zIald M nx L (.int (nI i) :: .ref 18 :: S) (hp X I J) = pmV M nx L (.int (I 18 i) :: S) (hp X I J) := zIald_n (n := 5) (by decide +kernel) h (by decide)
theorem s_18 (h : i < 5) : zIast M nx L (.int x :: .int (nI i) :: .ref 18 :: S) (hp X I J) = pmV M nx L S (hp X (up I 18 i x) J) := zIast_n (n := 5) (by decide +kernel) h (by decide)
theorem a_19 (h : i < 5) : zIald M nx L (.int (nI i) :: .ref 19 :: S) (hp X I J) = pmV M nx L (.int (I 19 i) :: S) (hp X I J) := zIald_n (n := 5) (by decide +kernel) h (by decide)
theorem s_19 (h : i < 5) : zIast M nx L (.int x :: .int (nI i) :: .ref 19 :: S) (hp X I J) = pmV M nx L S (hp X (up I 19 i x) J) := zIast_n (n := 5) (by decide +kernel) h (by decide)
theorem a_20 (h : i < 4) : zIald M nx L (.int (nI i) :: .ref 20 :: S) (hp X I J) = pmV M nx L (.int (I 20 i) :: S) (hp X I J) := zIald_n (n := 4) (by decide +kernel) h (by decide)
theorem s_20 (h : i < 4) : zIast M nx L (.int x :: .int (nI i) :: .ref 20 :: S) (hp X I J) = pmV M nx L S (hp X (up I 20 i x) J) := zIast_n (n := 4) (by decide +kernel) h (by decide)
theorem a_21 (h : i < 4) : zIald M nx L (.int (nI i) :: .ref 21 :: S) (hp X I J) = pmV M nx L (.int (I 21 i) :: S) (hp X I J) := zIald_n (n := 4) (by decide +kernel) h (by decide)
theorem s_21 (h : i < 4) : zIast M nx L (.int x :: .int (nI i) :: .ref 21 :: S) (hp X I J) = pmV M nx L S (hp X (up I 21 i x) J) := zIast_n (n := 4) (by decide +kernel) h (by decide)
theorem a_22 (h : i < 4) : zIald M nx L (.int (nI i) :: .ref 22 :: S) (hp X I J) = pmV M nx L (.int (I 22 i) :: S) (hp X I J) := zIald_n (n := 4) (by decide +kernel) h (by decide)
theorem s_22 (h : i < 4) : zIast M nx L (.int x :: .int (nI i) :: .ref 22 :: S) (hp X I J) = pmV M nx L S (hp X (up I 22 i x) J) := zIast_n (n := 4) (by decide +kernel) h (by decide)
theorem a_138 (h : i < 2) : zBald M nx L (.int (nI i) :: .ref 138 :: S) (hp X I J) = pmV M nx L (.int (I 138 i) :: S) (hp X I J) := by
  rw [zBald_h (n := 2) (by decide +kernel) (vpi h (by decide)), ncl (by omega)]
theorem s_138 (h : i < 2) : zBast M nx L (.int x :: .int (nI i) :: .ref 138 :: S) (hp X I J) = pmV M nx L S (hp X (up I 138 i (vp_nar .boolean x)) J) := by
  rw [zBast_h (n := 2) (by decide +kernel) (vpi h (by decide)), ncl (by omega)]
theorem a_141 (h : i < 5) : zIald M nx L (.int (nI i) :: .ref 141 :: S) (hp X I J) = pmV M nx L (.int (I 141 i) :: S) (hp X I J) := zIald_n (n := 5) (by decide +kernel) h (by decide)
theorem s_141 (h : i < 5) : zIast M nx L (.int x :: .int (nI i) :: .ref 141 :: S) (hp X I J) = pmV M nx L S (hp X (up I 141 i x) J) := zIast_n (n := 5) (by decide +kernel) h (by decide)
theorem a_143 (h : i < 6) : zIald M nx L (.int (nI i) :: .ref 143 :: S) (hp X I J) = pmV M nx L (.int (I 143 i) :: S) (hp X I J) := zIald_n (n := 6) (by decide +kernel) h (by decide)
theorem s_143 (h : i < 6) : zIast M nx L (.int x :: .int (nI i) :: .ref 143 :: S) (hp X I J) = pmV M nx L S (hp X (up I 143 i x) J) := zIast_n (n := 6) (by decide +kernel) h (by decide)
theorem a_144 (h : i < 6) : zIald M nx L (.int (nI i) :: .ref 144 :: S) (hp X I J) = pmV M nx L (.int (I 144 i) :: S) (hp X I J) := zIald_n (n := 6) (by decide +kernel) h (by decide)
theorem s_144 (h : i < 6) : zIast M nx L (.int x :: .int (nI i) :: .ref 144 :: S) (hp X I J) = pmV M nx L S (hp X (up I 144 i x) J) := zIast_n (n := 6) (by decide +kernel) h (by decide)
theorem a_147 (h : i < 16) : zIald M nx L (.int (nI i) :: .ref 147 :: S) (hp X I J) = pmV M nx L (.int (I 147 i) :: S) (hp X I J) := zIald_n (n := 16) (by decide +kernel) h (by decide)
theorem s_147 (h : i < 16) : zIast M nx L (.int x :: .int (nI i) :: .ref 147 :: S) (hp X I J) = pmV M nx L S (hp X (up I 147 i x) J) := zIast_n (n := 16) (by decide +kernel) h (by decide)
theorem a_149 (h : i < 4) : zIald M nx L (.int (nI i) :: .ref 149 :: S) (hp X I J) = pmV M nx L (.int (I 149 i) :: S) (hp X I J) := zIald_n (n := 4) (by decide +kernel) h (by decide)
theorem s_149 (h : i < 4) : zIast M nx L (.int x :: .int (nI i) :: .ref 149 :: S) (hp X I J) = pmV M nx L S (hp X (up I 149 i x) J) := zIast_n (n := 4) (by decide +kernel) h (by decide)
theorem a_150 (h : i < 4) : zIald M nx L (.int (nI i) :: .ref 150 :: S) (hp X I J) = pmV M nx L (.int (I 150 i) :: S) (hp X I J) := zIald_n (n := 4) (by decide +kernel) h (by decide)
theorem s_150 (h : i < 4) : zIast M nx L (.int x :: .int (nI i) :: .ref 150 :: S) (hp X I J) = pmV M nx L S (hp X (up I 150 i x) J) := zIast_n (n := 4) (by decide +kernel) h (by decide)
theorem a_167 (h : i < 4) : zIald M nx L (.int (nI i) :: .ref 167 :: S) (hp X I J) = pmV M nx L (.int (I 167 i) :: S) (hp X I J) := zIald_n (n := 4) (by decide +kernel) h (by decide)
theorem s_167 (h : i < 4) : zIast M nx L (.int x :: .int (nI i) :: .ref 167 :: S) (hp X I J) = pmV M nx L S (hp X (up I 167 i x) J) := zIast_n (n := 4) (by decide +kernel) h (by decide)
theorem a_168 (h : i < 5) : zIald M nx L (.int (nI i) :: .ref 168 :: S) (hp X I J) = pmV M nx L (.int (I 168 i) :: S) (hp X I J) := zIald_n (n := 5) (by decide +kernel) h (by decide)
theorem s_168 (h : i < 5) : zIast M nx L (.int x :: .int (nI i) :: .ref 168 :: S) (hp X I J) = pmV M nx L S (hp X (up I 168 i x) J) := zIast_n (n := 5) (by decide +kernel) h (by decide)
theorem a_169 (h : i < 5) : zIald M nx L (.int (nI i) :: .ref 169 :: S) (hp X I J) = pmV M nx L (.int (I 169 i) :: S) (hp X I J) := zIald_n (n := 5) (by decide +kernel) h (by decide)
theorem s_169 (h : i < 5) : zIast M nx L (.int x :: .int (nI i) :: .ref 169 :: S) (hp X I J) = pmV M nx L S (hp X (up I 169 i x) J) := zIast_n (n := 5) (by decide +kernel) h (by decide)
theorem a_170 (h : i < 4) : zIald M nx L (.int (nI i) :: .ref 170 :: S) (hp X I J) = pmV M nx L (.int (I 170 i) :: S) (hp X I J) := zIald_n (n := 4) (by decide +kernel) h (by decide)
theorem s_170 (h : i < 4) : zIast M nx L (.int x :: .int (nI i) :: .ref 170 :: S) (hp X I J) = pmV M nx L S (hp X (up I 170 i x) J) := zIast_n (n := 4) (by decide +kernel) h (by decide)
theorem a_171 (h : i < 4) : zIald M nx L (.int (nI i) :: .ref 171 :: S) (hp X I J) = pmV M nx L (.int (I 171 i) :: S) (hp X I J) := zIald_n (n := 4) (by decide +kernel) h (by decide)
theorem s_171 (h : i < 4) : zIast M nx L (.int x :: .int (nI i) :: .ref 171 :: S) (hp X I J) = pmV M nx L S (hp X (up I 171 i x) J) := zIast_n (n := 4) (by decide +kernel) h (by decide)
theorem a_172 (h : i < 4) : zIald M nx L (.int (nI i) :: .ref 172 :: S) (hp X I J) = pmV M nx L (.int (I 172 i) :: S) (hp X I J) := zIald_n (n := 4) (by decide +kernel) h (by decide)
theorem s_172 (h : i < 4) : zIast M nx L (.int x :: .int (nI i) :: .ref 172 :: S) (hp X I J) = pmV M nx L S (hp X (up I 172 i x) J) := zIast_n (n := 4) (by decide +kernel) h (by decide)
theorem a_173 (h : i < 62) : zIald M nx L (.int (nI i) :: .ref 173 :: S) (hp X I J) = pmV M nx L (.int (I 173 i) :: S) (hp X I J) := zIald_n (n := 62) (by decide +kernel) h (by decide)
theorem s_173 (h : i < 62) : zIast M nx L (.int x :: .int (nI i) :: .ref 173 :: S) (hp X I J) = pmV M nx L S (hp X (up I 173 i x) J) := zIast_n (n := 62) (by decide +kernel) h (by decide)
theorem a_174 (h : i < 4) : zIald M nx L (.int (nI i) :: .ref 174 :: S) (hp X I J) = pmV M nx L (.int (I 174 i) :: S) (hp X I J) := zIald_n (n := 4) (by decide +kernel) h (by decide)
theorem s_174 (h : i < 4) : zIast M nx L (.int x :: .int (nI i) :: .ref 174 :: S) (hp X I J) = pmV M nx L S (hp X (up I 174 i x) J) := zIast_n (n := 4) (by decide +kernel) h (by decide)
theorem a_175 (h : i < 15) : zIald M nx L (.int (nI i) :: .ref 175 :: S) (hp X I J) = pmV M nx L (.int (I 175 i) :: S) (hp X I J) := zIald_n (n := 15) (by decide +kernel) h (by decide)
theorem s_175 (h : i < 15) : zIast M nx L (.int x :: .int (nI i) :: .ref 175 :: S) (hp X I J) = pmV M nx L S (hp X (up I 175 i x) J) := zIast_n (n := 15) (by decide +kernel) h (by decide)
theorem a_176 (h : i < 12) : zIald M nx L (.int (nI i) :: .ref 176 :: S) (hp X I J) = pmV M nx L (.int (I 176 i) :: S) (hp X I J) := zIald_n (n := 12) (by decide +kernel) h (by decide)
theorem s_176 (h : i < 12) : zIast M nx L (.int x :: .int (nI i) :: .ref 176 :: S) (hp X I J) = pmV M nx L S (hp X (up I 176 i x) J) := zIast_n (n := 12) (by decide +kernel) h (by decide)
theorem a_177 (h : i < 48) : zIald M nx L (.int (nI i) :: .ref 177 :: S) (hp X I J) = pmV M nx L (.int (I 177 i) :: S) (hp X I J) := zIald_n (n := 48) (by decide +kernel) h (by decide)
theorem s_177 (h : i < 48) : zIast M nx L (.int x :: .int (nI i) :: .ref 177 :: S) (hp X I J) = pmV M nx L S (hp X (up I 177 i x) J) := zIast_n (n := 48) (by decide +kernel) h (by decide)
theorem a_178 (h : i < 434) : zIald M nx L (.int (nI i) :: .ref 178 :: S) (hp X I J) = pmV M nx L (.int (I 178 i) :: S) (hp X I J) := zIald_n (n := 434) (by decide +kernel) h (by decide)
theorem s_178 (h : i < 434) : zIast M nx L (.int x :: .int (nI i) :: .ref 178 :: S) (hp X I J) = pmV M nx L S (hp X (up I 178 i x) J) := zIast_n (n := 434) (by decide +kernel) h (by decide)
theorem a_179 (h : i < 5) : zIald M nx L (.int (nI i) :: .ref 179 :: S) (hp X I J) = pmV M nx L (.int (I 179 i) :: S) (hp X I J) := zIald_n (n := 5) (by decide +kernel) h (by decide)
theorem s_179 (h : i < 5) : zIast M nx L (.int x :: .int (nI i) :: .ref 179 :: S) (hp X I J) = pmV M nx L S (hp X (up I 179 i x) J) := zIast_n (n := 5) (by decide +kernel) h (by decide)
theorem a_180 (h : i < 5) : zIald M nx L (.int (nI i) :: .ref 180 :: S) (hp X I J) = pmV M nx L (.int (I 180 i) :: S) (hp X I J) := zIald_n (n := 5) (by decide +kernel) h (by decide)
theorem s_180 (h : i < 5) : zIast M nx L (.int x :: .int (nI i) :: .ref 180 :: S) (hp X I J) = pmV M nx L S (hp X (up I 180 i x) J) := zIast_n (n := 5) (by decide +kernel) h (by decide)
theorem a_181 (h : i < 6) : zIald M nx L (.int (nI i) :: .ref 181 :: S) (hp X I J) = pmV M nx L (.int (I 181 i) :: S) (hp X I J) := zIald_n (n := 6) (by decide +kernel) h (by decide)
theorem s_181 (h : i < 6) : zIast M nx L (.int x :: .int (nI i) :: .ref 181 :: S) (hp X I J) = pmV M nx L S (hp X (up I 181 i x) J) := zIast_n (n := 6) (by decide +kernel) h (by decide)
theorem a_182 (h : i < 6) : zIald M nx L (.int (nI i) :: .ref 182 :: S) (hp X I J) = pmV M nx L (.int (I 182 i) :: S) (hp X I J) := zIald_n (n := 6) (by decide +kernel) h (by decide)
theorem s_182 (h : i < 6) : zIast M nx L (.int x :: .int (nI i) :: .ref 182 :: S) (hp X I J) = pmV M nx L S (hp X (up I 182 i x) J) := zIast_n (n := 6) (by decide +kernel) h (by decide)
theorem a_183 (h : i < 2) : zBald M nx L (.int (nI i) :: .ref 183 :: S) (hp X I J) = pmV M nx L (.int (I 183 i) :: S) (hp X I J) := by
  rw [zBald_h (n := 2) (by decide +kernel) (vpi h (by decide)), ncl (by omega)]
theorem s_183 (h : i < 2) : zBast M nx L (.int x :: .int (nI i) :: .ref 183 :: S) (hp X I J) = pmV M nx L S (hp X (up I 183 i (vp_nar .boolean x)) J) := by
  rw [zBast_h (n := 2) (by decide +kernel) (vpi h (by decide)), ncl (by omega)]
theorem a_184 (h : i < 62) : zIald M nx L (.int (nI i) :: .ref 184 :: S) (hp X I J) = pmV M nx L (.int (I 184 i) :: S) (hp X I J) := zIald_n (n := 62) (by decide +kernel) h (by decide)
theorem s_184 (h : i < 62) : zIast M nx L (.int x :: .int (nI i) :: .ref 184 :: S) (hp X I J) = pmV M nx L S (hp X (up I 184 i x) J) := zIast_n (n := 62) (by decide +kernel) h (by decide)
end FIX
