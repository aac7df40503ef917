section START
variable {X : Nat × (Nat → Int32)} {I I1 I2 : Nat → Nat → Int32} {J : Nat → Int64}
def rs1 : List va_E := [] ++ [.inl (0, 48, .inl (fun _ => 0))]
def rs2 : List va_E := rs1 ++ cityL 5
def rs3 : List va_E := rs2 ++ [.inr (7, [.ref 5, .int 0, .int 0])]
def rs4 : List va_E := rs3 ++ (.inr (7, [.ref 15, .int 0, .int 0]) :: cityL 15)
def rs5 : List va_E := rs4 ++ skyL 5 23
def rs6 : List va_E := rs5 ++ skyL 5 30
def rs7 (fa : Nat → Option Nat) : List va_E := rs6 ++ actE 37 fa (actT 5 37 14 0)
def rs8 (fa fs : Nat → Option Nat) : List va_E := rs7 fa ++ [.inl (2, 2, .inr (.inr (.inr (.inr fs))))]
def rs9 (fa fs : Nat → Option Nat) : List va_E := rs8 fa fs ++ [.inl (1, 2, .inl (fun _ => 0))]
def rs10 (fa fs : Nat → Option Nat) : List va_E := rs9 fa fs ++ [.inr (6, [.ref 23, .ref 30])]
def rs11 (fa fs : Nat → Option Nat) : List va_E := rs10 fa fs ++ [.inr (9, [.ref 30, .ref 141, .int 0, .int 0]), .inl (0, 5, .inl (fun _ => 0))]
def rs12 (fa fs : Nat → Option Nat) : List va_E := rs11 fa fs ++ [.inr (5, [.ref 5, .ref 143, .ref 144, .ref 145, .int 0]), .inl (0, 6, .inl (fun _ => 0)), .inl (0, 6, .inl (fun _ => 0)), balE]
def rs13 (fa fs : Nat → Option Nat) : List va_E := rs12 fa fs ++ [.inr (8, [.ref 23, .ref 30, .ref 147]), .inl (0, 16, .inl (fun _ => 0))]
def rs14 (fa fs : Nat → Option Nat) : List va_E := rs13 fa fs ++ [.inr (2, [.ref 23, .ref 30, .ref 149, .ref 150]), .inl (0, 4, .inl (fun _ => 0)), .inl (0, 4, .inl (fun _ => 0))]
def rs15 (fa fs : Nat → Option Nat) : List va_E := rs14 fa fs ++ [.inr (3, [.ref 23, .ref 30, .long 0])]
def nA : Nat → Option Nat := actF 37 14 0 (fun _ => none)
def nS : Nat → Option Nat := fun _ => none
theorem rl6 : rs6.length = 33 := rfl
theorem al {fa : Nat → Option Nat} : (actE 37 fa (actT 5 37 14 0)).length = 100 := rfl
theorem rl7 {fa : Nat → Option Nat} : (rs7 fa).length = 133 := by
  unfold rs7
  rw [List.length_append, rl6, al]
theorem rl8 {fa fs : Nat → Option Nat} : (rs8 fa fs).length = 134 := by
  unfold rs8
  rw [List.length_append, rl7]
  rfl
theorem rl9 {fa fs : Nat → Option Nat} : (rs9 fa fs).length = 135 := by
  unfold rs9
  rw [List.length_append, rl8]
  rfl
theorem rl10 {fa fs : Nat → Option Nat} : (rs10 fa fs).length = 136 := by
  unfold rs10
  rw [List.length_append, rl9]
  rfl
theorem rl11 {fa fs : Nat → Option Nat} : (rs11 fa fs).length = 138 := by
  unfold rs11
  rw [List.length_append, rl10]
  rfl
theorem rl12 {fa fs : Nat → Option Nat} : (rs12 fa fs).length = 142 := by
  unfold rs12
  rw [List.length_append, rl11]
  rfl
theorem rl13 {fa fs : Nat → Option Nat} : (rs13 fa fs).length = 144 := by
  unfold rs13
  rw [List.length_append, rl12]
  rfl
theorem rl14 {fa fs : Nat → Option Nat} : (rs14 fa fs).length = 147 := by
  unfold rs14
  rw [List.length_append, rl13]
  rfl
theorem rl15 {fa fs : Nat → Option Nat} : (rs15 fa fs).length = 148 := by
  unfold rs15
  rw [List.length_append, rl14]
  rfl
/-- the cells behind the slots' row -/
def rsB : List va_E := [.inl (1, 2, .inl (fun _ => 0)), .inr (6, [.ref 23, .ref 30]), .inr (9, [.ref 30, .ref 141, .int 0, .int 0]), .inl (0, 5, .inl (fun _ => 0)), .inr (5, [.ref 5, .ref 143, .ref 144, .ref 145, .int 0]), .inl (0, 6, .inl (fun _ => 0)), .inl (0, 6, .inl (fun _ => 0)), balE, .inr (8, [.ref 23, .ref 30, .ref 147]), .inl (0, 16, .inl (fun _ => 0)), .inr (2, [.ref 23, .ref 30, .ref 149, .ref 150]), .inl (0, 4, .inl (fun _ => 0)), .inl (0, 4, .inl (fun _ => 0)), .inr (3, [.ref 23, .ref 30, .long 0])]
theorem rs15_eq {fa fs : Nat → Option Nat} : rs15 fa fs = rs7 fa ++ (.inl (2, 2, .inr (.inr (.inr (.inr fs)))) :: rsB) := by
  unfold rs15 rs14 rs13 rs12 rs11 rs10 rs9 rs8 rsB
  simp only [List.append_assoc, List.cons_append, List.nil_append]
theorem rs15_at {fa fs : Nat → Option Nat} : (rs15 fa fs)[133]? = some (.inl (2, 2, .inr (.inr (.inr (.inr fs))))) := by
  rw [rs15_eq, List.getElem?_append_right (by rw [rl7]; decide), rl7]
  rfl
theorem rs15_set {fa fs fs' : Nat → Option Nat} : (rs15 fa fs).set 133 (.inl (2, 2, .inr (.inr (.inr (.inr fs'))))) = rs15 fa fs' := by
  rw [rs15_eq, rs15_eq, List.set_append_right _ _ (by rw [rl7]; decide), rl7]
  rfl
def nS1 : Nat → Option Nat := va_up nS 0 (some 152)
def nS2 : Nat → Option Nat := va_up nS1 1 (some 159)
set_option maxRecDepth 10000 in
theorem n_X11 : pmV mX11_init 0 (pmEnt 2 [.ref 3]) [] (pmRO X.1 X.2 ++ [.inr (11, pmDef 11)]) = some (none, pmRO X.1 X.2 ++ (objE :: (rs15 nA nS2 ++ skyL 5 152 ++ skyL 5 159))) := by
  have s1 := x11_1 (X := X) (rest := []) rfl
  have s2 := x11_2 (X := X) (rest := rs1) rfl
  have s3 := x11_3 (X := X) (rest := rs2) rfl
  have s4 := x11_4 (X := X) (rest := rs3) rfl
  have s5 := x11_5 (X := X) (rest := rs4) rfl
  have s6 := x11_6 (X := X) (rest := rs5) rfl
  have s7 := x11_7 (X := X) (rest := rs6) rl6
  have s8 := x11_8 (X := X) (rest := rs7 nA) rl7
  have s9 := x11_9 (X := X) (rest := rs8 nA nS) rl8
  have s10 := x11_10 (X := X) (rest := rs9 nA nS) rl9
  have s11 := x11_11 (X := X) (rest := rs10 nA nS) rl10
  have s12 := x11_12 (X := X) (rest := rs11 nA nS) rl11
  have s13 := x11_13 (X := X) (rest := rs12 nA nS) rl12
  have s14 := x11_14 (X := X) (rest := rs13 nA nS) rl13
  have s15 := x11_15 (X := X) (rest := rs14 nA nS) rl14
  have t0 := x11_s (X := X) (i := 0) (f := nS) (rest := rs15 nA nS) rl15 (by decide) (by decide) rs15_at
  rw [show (148 : Nat) + 4 = 152 from rfl, show va_up nS 0 (some 152) = nS1 from rfl, rs15_set] at t0
  have a1 : (rs15 nA nS1 ++ skyL 5 152)[133]? = some (.inl (2, 2, .inr (.inr (.inr (.inr nS1))))) := by
    rw [List.getElem?_append_left (by rw [rl15]; decide)]
    exact rs15_at
  have t1 := x11_s (X := X) (i := 1) (f := nS1) (rest := rs15 nA nS1 ++ skyL 5 152) (r := 155) (by rw [List.length_append, rl15]; rfl) (by decide) (by decide) a1
  rw [show (155 : Nat) + 4 = 159 from rfl, show va_up nS1 1 (some 159) = nS2 from rfl, List.set_append_left _ _ (by rw [rl15]; decide), rs15_set] at t1
  refine s1.trans (s2.trans (s3.trans (s4.trans (s5.trans (s6.trans (s7.trans (s8.trans (s9.trans (s10.trans (s11.trans (s12.trans (s13.trans (s14.trans (s15.trans ?_))))))))))))))
  rw [eX11_init_222]
  simp only [zPush_eq, zNx_eq, zAdd_eq, zSub_eq, zMul_eq, zAnd_eq, zOr_eq, zXor_eq, zShl_eq, zShr_eq, zUshr_eq, zJAdd_eq, zJSub_eq, zJMul_eq, zJAnd_eq, zJOr_eq, zJShl_eq, zJUshr_eq, zNeg_eq, zI2l_eq, zL2i_eq, zLcmp_eq, zDup_i, zDup_a, zDup2_ia, zPop_i, zBeq_eq, zBne_eq, zBlt_eq, zBge_eq, zBgt_eq, zBle_eq, zCeq_eq, zCne_eq, zClt_eq, zCge_eq, zCgt_eq, zCle_eq, zVret_eq, zLret_eq, kb_v, kb_n, ite_not, if_true, if_false, lI_0, lJ_0, lA_0, lI_1, lJ_1, lA_1, lI_2, lJ_2, lA_2, lI_3, lJ_3, lA_3, lI_4, lJ_4, lA_4, lI_5, lJ_5, lA_5, lI_6, lJ_6, lA_6, lI_7, lJ_7, lA_7, lI_8, lJ_8, lA_8, lI_9, lJ_9, lA_9, lI_10, lJ_10, lA_10, lI_11, lJ_11, lA_11, sI_0, sA_0, sJ_0, iI_0, sI_1n, sA_1n, sJ_1n, iI_1n, sI_1i, sA_1i, sJ_1i, iI_1i, sI_1a, sA_1a, sJ_1a, iI_1a, sI_2n, sA_2n, sJ_2n, iI_2n, sI_2i, sA_2i, sJ_2i, iI_2i, sI_2a, sA_2a, sJ_2a, iI_2a, sI_3n, sA_3n, sJ_3n, iI_3n, sI_3i, sA_3i, sJ_3i, iI_3i, sI_3a, sA_3a, sJ_3a, iI_3a, sI_4n, sA_4n, sJ_4n, iI_4n, sI_4i, sA_4i, sJ_4i, iI_4i, sI_4a, sA_4a, sJ_4a, iI_4a, sI_5n, sA_5n, sJ_5n, iI_5n, sI_5i, sA_5i, sJ_5i, iI_5i, sI_5a, sA_5a, sJ_5a, iI_5a, sI_6n, sA_6n, sJ_6n, iI_6n, sI_6i, sA_6i, sJ_6i, iI_6i, sI_6a, sA_6a, sJ_6a, iI_6a, sI_7n, sA_7n, sJ_7n, iI_7n, sI_7i, sA_7i, sJ_7i, iI_7i, sI_7a, sA_7a, sJ_7a, iI_7a, sI_8n, sA_8n, sJ_8n, iI_8n, sI_8i, sA_8i, sJ_8i, iI_8i, sI_8a, sA_8a, sJ_8a, iI_8a, sI_9n, sA_9n, sJ_9n, iI_9n, sI_9i, sA_9i, sJ_9i, iI_9i, sI_9a, sA_9a, sJ_9a, iI_9a, sI_10n, sA_10n, sJ_10n, iI_10n, sI_10i, sA_10i, sJ_10i, iI_10i, sI_10a, sA_10a, sJ_10a, iI_10a, sI_11n, sA_11n, sJ_11n, iI_11n, sI_11i, sA_11i, sJ_11i, iI_11i, sI_11a, sA_11a, sJ_11a, iI_11a, kV_0_0, kV_0_1, kV_0_2, kV_0_3, kV_0_4, kV_1_0, kV_1_1, kV_1_2, kV_1_3, kV_1_4, kV_1a_0, kV_1a_1, kV_1a_2, kV_1a_3, kV_1a_4, kV_2_0, kV_2_1, kV_2_2, kV_2_3, kV_2_4, kV_2a_0, kV_2a_1, kV_2a_2, kV_2a_3, kV_2a_4, kV_2j_0, kV_2j_1, kV_2j_2, kV_2j_3, kV_2j_4, kV_1j_0, kV_1j_1, kV_1j_2, kV_1j_3, kV_1j_4, kV_3_0, kV_3_1, kV_3_2, kV_3_3, kV_3_4, kV_4_0, kV_4_1, kV_4_2, kV_4_3, kV_4_4, kV_5_0, kV_5_1, kV_5_2, kV_5_3, kV_5_4, kS_1_0, kS_1_1, kS_1_2, kS_1_3, kS_1_4, kS_2_0, kS_2_1, kS_2_2, kS_2_3, kS_2_4, kS_3_0, kS_3_1, kS_3_2, kS_3_3, kS_3_4, kS_3j_0, kS_3j_1, kS_3j_2, kS_3j_3, kS_3j_4, eX11_init_0, eX11_init_1, eX11_init_4, eX11_init_5, eX11_init_7, eX11_init_9, eX11_init_12, eX11_init_13, eX11_init_16, eX11_init_17, eX11_init_20, eX11_init_23, eX11_init_24, eX11_init_27, eX11_init_28, eX11_init_29, eX11_init_32, eX11_init_35, eX11_init_38, eX11_init_39, eX11_init_42, eX11_init_43, eX11_init_46, eX11_init_47, eX11_init_50, eX11_init_53, eX11_init_56, eX11_init_57, eX11_init_60, eX11_init_61, eX11_init_62, eX11_init_65, eX11_init_68, eX11_init_71, eX11_init_72, eX11_init_75, eX11_init_76, eX11_init_77, eX11_init_80, eX11_init_83, eX11_init_86, eX11_init_87, eX11_init_90, eX11_init_91, eX11_init_92, eX11_init_95, eX11_init_98, eX11_init_101, eX11_init_102, eX11_init_103, eX11_init_106, eX11_init_109, eX11_init_110, eX11_init_111, eX11_init_113, eX11_init_116, eX11_init_117, eX11_init_120, eX11_init_121, eX11_init_122, eX11_init_125, eX11_init_126, eX11_init_129, eX11_init_132, eX11_init_135, eX11_init_136, eX11_init_139, eX11_init_140, eX11_init_141, eX11_init_144, eX11_init_147, eX11_init_150, eX11_init_151, eX11_init_154, eX11_init_155, eX11_init_156, eX11_init_159, eX11_init_162, eX11_init_165, eX11_init_166, eX11_init_169, eX11_init_170, eX11_init_171, eX11_init_174, eX11_init_175, eX11_init_178, eX11_init_181, eX11_init_184, eX11_init_185, eX11_init_188, eX11_init_189, eX11_init_190, eX11_init_193, eX11_init_194, eX11_init_197, eX11_init_200, eX11_init_203, eX11_init_204, eX11_init_207, eX11_init_208, eX11_init_209, eX11_init_212, eX11_init_213, eX11_init_216, eX11_init_219, eX11_init_223, eX11_init_225, eX11_init_226, eX11_init_229, eX11_init_230, eX11_init_233, eX11_init_234, eX11_init_237, eX11_init_238, eX11_init_239, eX11_init_242, eX11_init_245, eX11_init_246, eX11_init_249, eX11_init_252]
  refine t0.trans (t1.trans ?_)
  rw [eX11_init_224]
  simp only [zPush_eq, zNx_eq, zAdd_eq, zSub_eq, zMul_eq, zAnd_eq, zOr_eq, zXor_eq, zShl_eq, zShr_eq, zUshr_eq, zJAdd_eq, zJSub_eq, zJMul_eq, zJAnd_eq, zJOr_eq, zJShl_eq, zJUshr_eq, zNeg_eq, zI2l_eq, zL2i_eq, zLcmp_eq, zDup_i, zDup_a, zDup2_ia, zPop_i, zBeq_eq, zBne_eq, zBlt_eq, zBge_eq, zBgt_eq, zBle_eq, zCeq_eq, zCne_eq, zClt_eq, zCge_eq, zCgt_eq, zCle_eq, zVret_eq, zLret_eq, kb_v, kb_n, ite_not, if_true, if_false, lI_0, lJ_0, lA_0, lI_1, lJ_1, lA_1, lI_2, lJ_2, lA_2, lI_3, lJ_3, lA_3, lI_4, lJ_4, lA_4, lI_5, lJ_5, lA_5, lI_6, lJ_6, lA_6, lI_7, lJ_7, lA_7, lI_8, lJ_8, lA_8, lI_9, lJ_9, lA_9, lI_10, lJ_10, lA_10, lI_11, lJ_11, lA_11, sI_0, sA_0, sJ_0, iI_0, sI_1n, sA_1n, sJ_1n, iI_1n, sI_1i, sA_1i, sJ_1i, iI_1i, sI_1a, sA_1a, sJ_1a, iI_1a, sI_2n, sA_2n, sJ_2n, iI_2n, sI_2i, sA_2i, sJ_2i, iI_2i, sI_2a, sA_2a, sJ_2a, iI_2a, sI_3n, sA_3n, sJ_3n, iI_3n, sI_3i, sA_3i, sJ_3i, iI_3i, sI_3a, sA_3a, sJ_3a, iI_3a, sI_4n, sA_4n, sJ_4n, iI_4n, sI_4i, sA_4i, sJ_4i, iI_4i, sI_4a, sA_4a, sJ_4a, iI_4a, sI_5n, sA_5n, sJ_5n, iI_5n, sI_5i, sA_5i, sJ_5i, iI_5i, sI_5a, sA_5a, sJ_5a, iI_5a, sI_6n, sA_6n, sJ_6n, iI_6n, sI_6i, sA_6i, sJ_6i, iI_6i, sI_6a, sA_6a, sJ_6a, iI_6a, sI_7n, sA_7n, sJ_7n, iI_7n, sI_7i, sA_7i, sJ_7i, iI_7i, sI_7a, sA_7a, sJ_7a, iI_7a, sI_8n, sA_8n, sJ_8n, iI_8n, sI_8i, sA_8i, sJ_8i, iI_8i, sI_8a, sA_8a, sJ_8a, iI_8a, sI_9n, sA_9n, sJ_9n, iI_9n, sI_9i, sA_9i, sJ_9i, iI_9i, sI_9a, sA_9a, sJ_9a, iI_9a, sI_10n, sA_10n, sJ_10n, iI_10n, sI_10i, sA_10i, sJ_10i, iI_10i, sI_10a, sA_10a, sJ_10a, iI_10a, sI_11n, sA_11n, sJ_11n, iI_11n, sI_11i, sA_11i, sJ_11i, iI_11i, sI_11a, sA_11a, sJ_11a, iI_11a, kV_0_0, kV_0_1, kV_0_2, kV_0_3, kV_0_4, kV_1_0, kV_1_1, kV_1_2, kV_1_3, kV_1_4, kV_1a_0, kV_1a_1, kV_1a_2, kV_1a_3, kV_1a_4, kV_2_0, kV_2_1, kV_2_2, kV_2_3, kV_2_4, kV_2a_0, kV_2a_1, kV_2a_2, kV_2a_3, kV_2a_4, kV_2j_0, kV_2j_1, kV_2j_2, kV_2j_3, kV_2j_4, kV_1j_0, kV_1j_1, kV_1j_2, kV_1j_3, kV_1j_4, kV_3_0, kV_3_1, kV_3_2, kV_3_3, kV_3_4, kV_4_0, kV_4_1, kV_4_2, kV_4_3, kV_4_4, kV_5_0, kV_5_1, kV_5_2, kV_5_3, kV_5_4, kS_1_0, kS_1_1, kS_1_2, kS_1_3, kS_1_4, kS_2_0, kS_2_1, kS_2_2, kS_2_3, kS_2_4, kS_3_0, kS_3_1, kS_3_2, kS_3_3, kS_3_4, kS_3j_0, kS_3j_1, kS_3j_2, kS_3j_3, kS_3j_4, eX11_init_0, eX11_init_1, eX11_init_4, eX11_init_5, eX11_init_7, eX11_init_9, eX11_init_12, eX11_init_13, eX11_init_16, eX11_init_17, eX11_init_20, eX11_init_23, eX11_init_24, eX11_init_27, eX11_init_28, eX11_init_29, eX11_init_32, eX11_init_35, eX11_init_38, eX11_init_39, eX11_init_42, eX11_init_43, eX11_init_46, eX11_init_47, eX11_init_50, eX11_init_53, eX11_init_56, eX11_init_57, eX11_init_60, eX11_init_61, eX11_init_62, eX11_init_65, eX11_init_68, eX11_init_71, eX11_init_72, eX11_init_75, eX11_init_76, eX11_init_77, eX11_init_80, eX11_init_83, eX11_init_86, eX11_init_87, eX11_init_90, eX11_init_91, eX11_init_92, eX11_init_95, eX11_init_98, eX11_init_101, eX11_init_102, eX11_init_103, eX11_init_106, eX11_init_109, eX11_init_110, eX11_init_111, eX11_init_113, eX11_init_116, eX11_init_117, eX11_init_120, eX11_init_121, eX11_init_122, eX11_init_125, eX11_init_126, eX11_init_129, eX11_init_132, eX11_init_135, eX11_init_136, eX11_init_139, eX11_init_140, eX11_init_141, eX11_init_144, eX11_init_147, eX11_init_150, eX11_init_151, eX11_init_154, eX11_init_155, eX11_init_156, eX11_init_159, eX11_init_162, eX11_init_165, eX11_init_166, eX11_init_169, eX11_init_170, eX11_init_171, eX11_init_174, eX11_init_175, eX11_init_178, eX11_init_181, eX11_init_184, eX11_init_185, eX11_init_188, eX11_init_189, eX11_init_190, eX11_init_193, eX11_init_194, eX11_init_197, eX11_init_200, eX11_init_203, eX11_init_204, eX11_init_207, eX11_init_208, eX11_init_209, eX11_init_212, eX11_init_213, eX11_init_216, eX11_init_219, eX11_init_223, eX11_init_225, eX11_init_226, eX11_init_229, eX11_init_230, eX11_init_233, eX11_init_234, eX11_init_237, eX11_init_238, eX11_init_239, eX11_init_242, eX11_init_245, eX11_init_246, eX11_init_249, eX11_init_252, Nat.reduceAdd, Int32.le_refl]
  rfl
/-! the heap as it is then -/
def I0 (a : Nat) : Nat → Int32 := if isSky a = true then (fun k => if k = 3 then -1 else 0) else if (23 ≤ a ∧ a < 37) ∨ (39 ≤ a ∧ a < 137) ∨ (152 ≤ a ∧ a < 166) ∨ a = 145 then enc (fun _ => 0) else if a = 166 then (fun k => if k = 21 then nI 15 else 0) else fun _ => 0
def J0 : Nat → Int64 := fun _ => 0
theorem actA : nA = rsF [39, 46, 53, 60, 67, 74, 81, 88, 95, 102, 109, 116, 123, 130] := by
  funext i
  match i with
  | 0 => rfl
  | 1 => rfl
  | 2 => rfl
  | 3 => rfl
  | 4 => rfl
  | 5 => rfl
  | 6 => rfl
  | 7 => rfl
  | 8 => rfl
  | 9 => rfl
  | 10 => rfl
  | 11 => rfl
  | 12 => rfl
  | 13 => rfl
  | i + 14 => simp [nA, actF, va_up, rsF]
theorem sltA : nS2 = rsF [152, 159] := by
  funext i
  match i with
  | 0 => rfl
  | 1 => rfl
  | i + 2 => simp [nS2, nS1, nS, va_up, rsF]
def mkH (I : Nat → Nat → Int32) (J : Nat → Int64) : List pmShp → Nat → List va_E
  | [], _ => []
  | s :: ss, k => pmFill s (I k) (J k) :: mkH I J ss (k + 1)
theorem mkH_eq : ∀ (ss : List pmShp) (k : Nat), ss.mapIdx (fun i s => pmFill s (I (i + k)) (J (i + k))) = mkH I J ss k
  | [], k => rfl
  | s :: ss, k => by
    rw [List.mapIdx_cons, Nat.zero_add]
    unfold mkH
    rw [← mkH_eq ss (k + 1)]
    congr 1
    congr 1
    funext i s
    rw [show i + 1 + k = i + (k + 1) by omega]
theorem mkH_app : ∀ (a b : List pmShp) (k : Nat), mkH I J (a ++ b) k = mkH I J a k ++ mkH I J b (k + a.length)
  | [], b, k => rfl
  | s :: a, b, k => by
    show pmFill s (I k) (J k) :: mkH I J (a ++ b) (k + 1) = pmFill s (I k) (J k) :: (mkH I J a (k + 1) ++ mkH I J b (k + (a.length + 1)))
    rw [mkH_app a b (k + 1), show k + 1 + a.length = k + (a.length + 1) by omega]
end START
