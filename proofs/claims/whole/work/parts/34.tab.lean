section TAB
variable {L : pmL} {S : List Value} {g : pmH} {x : Int32}
theorem wX6_canBe_12_0 : zTab mX6_canBe 12 89 0 4 #[36, 52, 61, 70, 80] L (.int (nI 0) :: S) g = pmV mX6_canBe 48 L S g := rfl
theorem wX6_canBe_12_1 : zTab mX6_canBe 12 89 0 4 #[36, 52, 61, 70, 80] L (.int (nI 1) :: S) g = pmV mX6_canBe 64 L S g := rfl
theorem wX6_canBe_12_2 : zTab mX6_canBe 12 89 0 4 #[36, 52, 61, 70, 80] L (.int (nI 2) :: S) g = pmV mX6_canBe 73 L S g := rfl
theorem wX6_canBe_12_3 : zTab mX6_canBe 12 89 0 4 #[36, 52, 61, 70, 80] L (.int (nI 3) :: S) g = pmV mX6_canBe 82 L S g := rfl
theorem wX6_canBe_12_4 : zTab mX6_canBe 12 89 0 4 #[36, 52, 61, 70, 80] L (.int (nI 4) :: S) g = pmV mX6_canBe 92 L S g := rfl
theorem wX6_canBe_12_d (h : x < nI 0 ∨ nI 4 < x) : zTab mX6_canBe 12 89 0 4 #[36, 52, 61, 70, 80] L (.int x :: S) g = pmV mX6_canBe 101 L S g := by
  have h2 : x.toInt < 0 ∨ 4 < x.toInt := by
    have e1 : (nI 0).toInt = 0 := by decide
    have e2 : (nI 4).toInt = 4 := by decide
    rw [Int32.lt_iff_toInt_lt, Int32.lt_iff_toInt_lt, e1, e2] at h
    exact h
  show pmU mX6_canBe g (if x.toInt < 0 ∨ 4 < x.toInt then _ else _) = _
  rw [if_pos h2]
  rfl
theorem wX7_takes_4_0 : zLook mX7_takes 4 103 #[(0, 44), (1, 61), (66, 76), (87, 67)] L (.int (nI 0) :: S) g = pmV mX7_takes 48 L S g := rfl
theorem wX7_takes_4_1 : zLook mX7_takes 4 103 #[(0, 44), (1, 61), (66, 76), (87, 67)] L (.int (nI 1) :: S) g = pmV mX7_takes 65 L S g := rfl
theorem wX7_takes_4_66 : zLook mX7_takes 4 103 #[(0, 44), (1, 61), (66, 76), (87, 67)] L (.int (nI 66) :: S) g = pmV mX7_takes 80 L S g := rfl
theorem wX7_takes_4_87 : zLook mX7_takes 4 103 #[(0, 44), (1, 61), (66, 76), (87, 67)] L (.int (nI 87) :: S) g = pmV mX7_takes 71 L S g := rfl
theorem wX7_takes_4_72 : zLook mX7_takes 4 103 #[(0, 44), (1, 61), (66, 76), (87, 67)] L (.int (nI 72) :: S) g = pmV mX7_takes 107 L S g := rfl
theorem wX7_opensPart_11_66 : zLook mX7_opensPart 11 84 #[(66, 50), (72, 67), (87, 33)] L (.int (nI 66) :: S) g = pmV mX7_opensPart 61 L S g := rfl
theorem wX7_opensPart_11_72 : zLook mX7_opensPart 11 84 #[(66, 50), (72, 67), (87, 33)] L (.int (nI 72) :: S) g = pmV mX7_opensPart 78 L S g := rfl
theorem wX7_opensPart_11_87 : zLook mX7_opensPart 11 84 #[(66, 50), (72, 67), (87, 33)] L (.int (nI 87) :: S) g = pmV mX7_opensPart 44 L S g := rfl
theorem wX7_opensPart_11_d (h : ¬ x = nI 66 ∧ ¬ x = nI 72 ∧ ¬ x = nI 87) : zLook mX7_opensPart 11 84 #[(66, 50), (72, 67), (87, 33)] L (.int x :: S) g = pmV mX7_opensPart 95 L S g := by
  have h2 : ∀ k : Int32, ¬ x = k → ¬ x.toInt = k.toInt := fun k q z => q (Int32.toInt_inj.mp z)
  have e0 : ¬ x.toInt = 66 := h2 (nI 66) h.1
  have e1 : ¬ x.toInt = 72 := h2 (nI 72) h.2.1
  have e2 : ¬ x.toInt = 87 := h2 (nI 87) h.2.2
  have hz : Op.lookupswitch.offset [(66, 50), (72, 67), (87, 33)] 84 x.toInt = 84 := by
    simp [Op.lookupswitch.offset, e0, Ne.symm e0, e1, Ne.symm e1, e2, Ne.symm e2]
  show pmU mX7_opensPart g ((pmT 11 (Op.lookupswitch.offset [(66, 50), (72, 67), (87, 33)] 84 x.toInt)).bind _) = _
  rw [hz]
  rfl
theorem wX11_balloon_37_0 : zTab mX11_balloon 37 95 0 6 #[43, 48, 53, 63, 68, 73, 78] L (.int (nI 0) :: S) g = pmV mX11_balloon 80 L S g := rfl
theorem wX11_balloon_37_1 : zTab mX11_balloon 37 95 0 6 #[43, 48, 53, 63, 68, 73, 78] L (.int (nI 1) :: S) g = pmV mX11_balloon 85 L S g := rfl
theorem wX11_balloon_37_2 : zTab mX11_balloon 37 95 0 6 #[43, 48, 53, 63, 68, 73, 78] L (.int (nI 2) :: S) g = pmV mX11_balloon 90 L S g := rfl
theorem wX11_balloon_37_3 : zTab mX11_balloon 37 95 0 6 #[43, 48, 53, 63, 68, 73, 78] L (.int (nI 3) :: S) g = pmV mX11_balloon 100 L S g := rfl
theorem wX11_balloon_37_4 : zTab mX11_balloon 37 95 0 6 #[43, 48, 53, 63, 68, 73, 78] L (.int (nI 4) :: S) g = pmV mX11_balloon 105 L S g := rfl
theorem wX11_balloon_37_5 : zTab mX11_balloon 37 95 0 6 #[43, 48, 53, 63, 68, 73, 78] L (.int (nI 5) :: S) g = pmV mX11_balloon 110 L S g := rfl
theorem wX11_balloon_37_6 : zTab mX11_balloon 37 95 0 6 #[43, 48, 53, 63, 68, 73, 78] L (.int (nI 6) :: S) g = pmV mX11_balloon 115 L S g := rfl
theorem wX11_balloon_37_d (h : x < nI 0 ∨ nI 6 < x) : zTab mX11_balloon 37 95 0 6 #[43, 48, 53, 63, 68, 73, 78] L (.int x :: S) g = pmV mX11_balloon 132 L S g := by
  have h2 : x.toInt < 0 ∨ 6 < x.toInt := by
    have e1 : (nI 0).toInt = 0 := by decide
    have e2 : (nI 6).toInt = 6 := by decide
    rw [Int32.lt_iff_toInt_lt, Int32.lt_iff_toInt_lt, e1, e2] at h
    exact h
  show pmU mX11_balloon g (if x.toInt < 0 ∨ 6 < x.toInt then _ else _) = _
  rw [if_pos h2]
  rfl
theorem wX11_hedge_26_0 : zTab mX11_hedge 26 56 0 2 #[26, 36, 46] L (.int (nI 0) :: S) g = pmV mX11_hedge 52 L S g := rfl
theorem wX11_hedge_26_1 : zTab mX11_hedge 26 56 0 2 #[26, 36, 46] L (.int (nI 1) :: S) g = pmV mX11_hedge 62 L S g := rfl
theorem wX11_hedge_26_2 : zTab mX11_hedge 26 56 0 2 #[26, 36, 46] L (.int (nI 2) :: S) g = pmV mX11_hedge 72 L S g := rfl
theorem wX11_hedge_26_d (h : x < nI 0 ∨ nI 2 < x) : zTab mX11_hedge 26 56 0 2 #[26, 36, 46] L (.int x :: S) g = pmV mX11_hedge 82 L S g := by
  have h2 : x.toInt < 0 ∨ 2 < x.toInt := by
    have e1 : (nI 0).toInt = 0 := by decide
    have e2 : (nI 2).toInt = 2 := by decide
    rw [Int32.lt_iff_toInt_lt, Int32.lt_iff_toInt_lt, e1, e2] at h
    exact h
  show pmU mX11_hedge g (if x.toInt < 0 ∨ 2 < x.toInt then _ else _) = _
  rw [if_pos h2]
  rfl
theorem wX11_count_1_0 : zTab mX11_count 1 191 0 13 #[71, 76, 84, 92, 100, 108, 123, 132, 141, 150, 159, 167, 175, 183] L (.int (nI 0) :: S) g = pmV mX11_count 72 L S g := rfl
theorem wX11_count_1_1 : zTab mX11_count 1 191 0 13 #[71, 76, 84, 92, 100, 108, 123, 132, 141, 150, 159, 167, 175, 183] L (.int (nI 1) :: S) g = pmV mX11_count 77 L S g := rfl
theorem wX11_count_1_2 : zTab mX11_count 1 191 0 13 #[71, 76, 84, 92, 100, 108, 123, 132, 141, 150, 159, 167, 175, 183] L (.int (nI 2) :: S) g = pmV mX11_count 85 L S g := rfl
theorem wX11_count_1_3 : zTab mX11_count 1 191 0 13 #[71, 76, 84, 92, 100, 108, 123, 132, 141, 150, 159, 167, 175, 183] L (.int (nI 3) :: S) g = pmV mX11_count 93 L S g := rfl
theorem wX11_count_1_4 : zTab mX11_count 1 191 0 13 #[71, 76, 84, 92, 100, 108, 123, 132, 141, 150, 159, 167, 175, 183] L (.int (nI 4) :: S) g = pmV mX11_count 101 L S g := rfl
theorem wX11_count_1_5 : zTab mX11_count 1 191 0 13 #[71, 76, 84, 92, 100, 108, 123, 132, 141, 150, 159, 167, 175, 183] L (.int (nI 5) :: S) g = pmV mX11_count 109 L S g := rfl
theorem wX11_count_1_6 : zTab mX11_count 1 191 0 13 #[71, 76, 84, 92, 100, 108, 123, 132, 141, 150, 159, 167, 175, 183] L (.int (nI 6) :: S) g = pmV mX11_count 124 L S g := rfl
theorem wX11_count_1_7 : zTab mX11_count 1 191 0 13 #[71, 76, 84, 92, 100, 108, 123, 132, 141, 150, 159, 167, 175, 183] L (.int (nI 7) :: S) g = pmV mX11_count 133 L S g := rfl
theorem wX11_count_1_8 : zTab mX11_count 1 191 0 13 #[71, 76, 84, 92, 100, 108, 123, 132, 141, 150, 159, 167, 175, 183] L (.int (nI 8) :: S) g = pmV mX11_count 142 L S g := rfl
theorem wX11_count_1_9 : zTab mX11_count 1 191 0 13 #[71, 76, 84, 92, 100, 108, 123, 132, 141, 150, 159, 167, 175, 183] L (.int (nI 9) :: S) g = pmV mX11_count 151 L S g := rfl
theorem wX11_count_1_10 : zTab mX11_count 1 191 0 13 #[71, 76, 84, 92, 100, 108, 123, 132, 141, 150, 159, 167, 175, 183] L (.int (nI 10) :: S) g = pmV mX11_count 160 L S g := rfl
theorem wX11_count_1_11 : zTab mX11_count 1 191 0 13 #[71, 76, 84, 92, 100, 108, 123, 132, 141, 150, 159, 167, 175, 183] L (.int (nI 11) :: S) g = pmV mX11_count 168 L S g := rfl
theorem wX11_count_1_12 : zTab mX11_count 1 191 0 13 #[71, 76, 84, 92, 100, 108, 123, 132, 141, 150, 159, 167, 175, 183] L (.int (nI 12) :: S) g = pmV mX11_count 176 L S g := rfl
theorem wX11_count_1_13 : zTab mX11_count 1 191 0 13 #[71, 76, 84, 92, 100, 108, 123, 132, 141, 150, 159, 167, 175, 183] L (.int (nI 13) :: S) g = pmV mX11_count 184 L S g := rfl
theorem wX11_count_1_d (h : x < nI 0 ∨ nI 13 < x) : zTab mX11_count 1 191 0 13 #[71, 76, 84, 92, 100, 108, 123, 132, 141, 150, 159, 167, 175, 183] L (.int x :: S) g = pmV mX11_count 192 L S g := by
  have h2 : x.toInt < 0 ∨ 13 < x.toInt := by
    have e1 : (nI 0).toInt = 0 := by decide
    have e2 : (nI 13).toInt = 13 := by decide
    rw [Int32.lt_iff_toInt_lt, Int32.lt_iff_toInt_lt, e1, e2] at h
    exact h
  show pmU mX11_count g (if x.toInt < 0 ∨ 13 < x.toInt then _ else _) = _
  rw [if_pos h2]
  rfl
theorem wX12_blown_1_1 : zTab mX12_blown 1 91 1 4 #[31, 47, 62, 76] L (.int (nI 1) :: S) g = pmV mX12_blown 32 L S g := rfl
theorem wX12_blown_1_2 : zTab mX12_blown 1 91 1 4 #[31, 47, 62, 76] L (.int (nI 2) :: S) g = pmV mX12_blown 48 L S g := rfl
theorem wX12_blown_1_3 : zTab mX12_blown 1 91 1 4 #[31, 47, 62, 76] L (.int (nI 3) :: S) g = pmV mX12_blown 63 L S g := rfl
theorem wX12_blown_1_4 : zTab mX12_blown 1 91 1 4 #[31, 47, 62, 76] L (.int (nI 4) :: S) g = pmV mX12_blown 77 L S g := rfl
theorem wX12_blown_1_d (h : x < nI 1 ∨ nI 4 < x) : zTab mX12_blown 1 91 1 4 #[31, 47, 62, 76] L (.int x :: S) g = pmV mX12_blown 92 L S g := by
  have h2 : x.toInt < 1 ∨ 4 < x.toInt := by
    have e1 : (nI 1).toInt = 1 := by decide
    have e2 : (nI 4).toInt = 4 := by decide
    rw [Int32.lt_iff_toInt_lt, Int32.lt_iff_toInt_lt, e1, e2] at h
    exact h
  show pmU mX12_blown g (if x.toInt < 1 ∨ 4 < x.toInt then _ else _) = _
  rw [if_pos h2]
  rfl
theorem wX12_balloon_11_0 : zTab mX12_balloon 11 137 0 7 #[45, 52, 59, 66, 75, 102, 112, 127] L (.int (nI 0) :: S) g = pmV mX12_balloon 56 L S g := rfl
theorem wX12_balloon_11_1 : zTab mX12_balloon 11 137 0 7 #[45, 52, 59, 66, 75, 102, 112, 127] L (.int (nI 1) :: S) g = pmV mX12_balloon 63 L S g := rfl
theorem wX12_balloon_11_2 : zTab mX12_balloon 11 137 0 7 #[45, 52, 59, 66, 75, 102, 112, 127] L (.int (nI 2) :: S) g = pmV mX12_balloon 70 L S g := rfl
theorem wX12_balloon_11_3 : zTab mX12_balloon 11 137 0 7 #[45, 52, 59, 66, 75, 102, 112, 127] L (.int (nI 3) :: S) g = pmV mX12_balloon 77 L S g := rfl
theorem wX12_balloon_11_4 : zTab mX12_balloon 11 137 0 7 #[45, 52, 59, 66, 75, 102, 112, 127] L (.int (nI 4) :: S) g = pmV mX12_balloon 86 L S g := rfl
theorem wX12_balloon_11_5 : zTab mX12_balloon 11 137 0 7 #[45, 52, 59, 66, 75, 102, 112, 127] L (.int (nI 5) :: S) g = pmV mX12_balloon 113 L S g := rfl
theorem wX12_balloon_11_6 : zTab mX12_balloon 11 137 0 7 #[45, 52, 59, 66, 75, 102, 112, 127] L (.int (nI 6) :: S) g = pmV mX12_balloon 123 L S g := rfl
theorem wX12_balloon_11_7 : zTab mX12_balloon 11 137 0 7 #[45, 52, 59, 66, 75, 102, 112, 127] L (.int (nI 7) :: S) g = pmV mX12_balloon 138 L S g := rfl
theorem wX12_balloon_11_d (h : x < nI 0 ∨ nI 7 < x) : zTab mX12_balloon 11 137 0 7 #[45, 52, 59, 66, 75, 102, 112, 127] L (.int x :: S) g = pmV mX12_balloon 148 L S g := by
  have h2 : x.toInt < 0 ∨ 7 < x.toInt := by
    have e1 : (nI 0).toInt = 0 := by decide
    have e2 : (nI 7).toInt = 7 := by decide
    rw [Int32.lt_iff_toInt_lt, Int32.lt_iff_toInt_lt, e1, e2] at h
    exact h
  show pmU mX12_balloon g (if x.toInt < 0 ∨ 7 < x.toInt then _ else _) = _
  rw [if_pos h2]
  rfl
theorem wX12_hedge_11_0 : zTab mX12_hedge 11 56 0 3 #[29, 36, 43, 50] L (.int (nI 0) :: S) g = pmV mX12_hedge 40 L S g := rfl
theorem wX12_hedge_11_1 : zTab mX12_hedge 11 56 0 3 #[29, 36, 43, 50] L (.int (nI 1) :: S) g = pmV mX12_hedge 47 L S g := rfl
theorem wX12_hedge_11_2 : zTab mX12_hedge 11 56 0 3 #[29, 36, 43, 50] L (.int (nI 2) :: S) g = pmV mX12_hedge 54 L S g := rfl
theorem wX12_hedge_11_3 : zTab mX12_hedge 11 56 0 3 #[29, 36, 43, 50] L (.int (nI 3) :: S) g = pmV mX12_hedge 61 L S g := rfl
theorem wX12_hedge_11_d (h : x < nI 0 ∨ nI 3 < x) : zTab mX12_hedge 11 56 0 3 #[29, 36, 43, 50] L (.int x :: S) g = pmV mX12_hedge 67 L S g := by
  have h2 : x.toInt < 0 ∨ 3 < x.toInt := by
    have e1 : (nI 0).toInt = 0 := by decide
    have e2 : (nI 3).toInt = 3 := by decide
    rw [Int32.lt_iff_toInt_lt, Int32.lt_iff_toInt_lt, e1, e2] at h
    exact h
  show pmU mX12_hedge g (if x.toInt < 0 ∨ 3 < x.toInt then _ else _) = _
  rw [if_pos h2]
  rfl
theorem wX12_tryThing_1_0 : zTab mX12_tryThing 1 228 0 4 #[35, 56, 105, 155, 198] L (.int (nI 0) :: S) g = pmV mX12_tryThing 36 L S g := rfl
theorem wX12_tryThing_1_1 : zTab mX12_tryThing 1 228 0 4 #[35, 56, 105, 155, 198] L (.int (nI 1) :: S) g = pmV mX12_tryThing 57 L S g := rfl
theorem wX12_tryThing_1_2 : zTab mX12_tryThing 1 228 0 4 #[35, 56, 105, 155, 198] L (.int (nI 2) :: S) g = pmV mX12_tryThing 106 L S g := rfl
theorem wX12_tryThing_1_3 : zTab mX12_tryThing 1 228 0 4 #[35, 56, 105, 155, 198] L (.int (nI 3) :: S) g = pmV mX12_tryThing 156 L S g := rfl
theorem wX12_tryThing_1_4 : zTab mX12_tryThing 1 228 0 4 #[35, 56, 105, 155, 198] L (.int (nI 4) :: S) g = pmV mX12_tryThing 199 L S g := rfl
theorem wX12_tryThing_1_d (h : x < nI 0 ∨ nI 4 < x) : zTab mX12_tryThing 1 228 0 4 #[35, 56, 105, 155, 198] L (.int x :: S) g = pmV mX12_tryThing 229 L S g := by
  have h2 : x.toInt < 0 ∨ 4 < x.toInt := by
    have e1 : (nI 0).toInt = 0 := by decide
    have e2 : (nI 4).toInt = 4 := by decide
    rw [Int32.lt_iff_toInt_lt, Int32.lt_iff_toInt_lt, e1, e2] at h
    exact h
  show pmU mX12_tryThing g (if x.toInt < 0 ∨ 4 < x.toInt then _ else _) = _
  rw [if_pos h2]
  rfl
theorem wX12_count_1_0 : zTab mX12_count 1 143 0 13 #[71, 76, 81, 86, 91, 99, 111, 111, 111, 111, 121, 127, 133, 138] L (.int (nI 0) :: S) g = pmV mX12_count 72 L S g := rfl
theorem wX12_count_1_1 : zTab mX12_count 1 143 0 13 #[71, 76, 81, 86, 91, 99, 111, 111, 111, 111, 121, 127, 133, 138] L (.int (nI 1) :: S) g = pmV mX12_count 77 L S g := rfl
theorem wX12_count_1_2 : zTab mX12_count 1 143 0 13 #[71, 76, 81, 86, 91, 99, 111, 111, 111, 111, 121, 127, 133, 138] L (.int (nI 2) :: S) g = pmV mX12_count 82 L S g := rfl
theorem wX12_count_1_3 : zTab mX12_count 1 143 0 13 #[71, 76, 81, 86, 91, 99, 111, 111, 111, 111, 121, 127, 133, 138] L (.int (nI 3) :: S) g = pmV mX12_count 87 L S g := rfl
theorem wX12_count_1_4 : zTab mX12_count 1 143 0 13 #[71, 76, 81, 86, 91, 99, 111, 111, 111, 111, 121, 127, 133, 138] L (.int (nI 4) :: S) g = pmV mX12_count 92 L S g := rfl
theorem wX12_count_1_5 : zTab mX12_count 1 143 0 13 #[71, 76, 81, 86, 91, 99, 111, 111, 111, 111, 121, 127, 133, 138] L (.int (nI 5) :: S) g = pmV mX12_count 100 L S g := rfl
theorem wX12_count_1_6 : zTab mX12_count 1 143 0 13 #[71, 76, 81, 86, 91, 99, 111, 111, 111, 111, 121, 127, 133, 138] L (.int (nI 6) :: S) g = pmV mX12_count 112 L S g := rfl
theorem wX12_count_1_7 : zTab mX12_count 1 143 0 13 #[71, 76, 81, 86, 91, 99, 111, 111, 111, 111, 121, 127, 133, 138] L (.int (nI 7) :: S) g = pmV mX12_count 112 L S g := rfl
theorem wX12_count_1_8 : zTab mX12_count 1 143 0 13 #[71, 76, 81, 86, 91, 99, 111, 111, 111, 111, 121, 127, 133, 138] L (.int (nI 8) :: S) g = pmV mX12_count 112 L S g := rfl
theorem wX12_count_1_9 : zTab mX12_count 1 143 0 13 #[71, 76, 81, 86, 91, 99, 111, 111, 111, 111, 121, 127, 133, 138] L (.int (nI 9) :: S) g = pmV mX12_count 112 L S g := rfl
theorem wX12_count_1_10 : zTab mX12_count 1 143 0 13 #[71, 76, 81, 86, 91, 99, 111, 111, 111, 111, 121, 127, 133, 138] L (.int (nI 10) :: S) g = pmV mX12_count 122 L S g := rfl
theorem wX12_count_1_11 : zTab mX12_count 1 143 0 13 #[71, 76, 81, 86, 91, 99, 111, 111, 111, 111, 121, 127, 133, 138] L (.int (nI 11) :: S) g = pmV mX12_count 128 L S g := rfl
theorem wX12_count_1_12 : zTab mX12_count 1 143 0 13 #[71, 76, 81, 86, 91, 99, 111, 111, 111, 111, 121, 127, 133, 138] L (.int (nI 12) :: S) g = pmV mX12_count 134 L S g := rfl
theorem wX12_count_1_13 : zTab mX12_count 1 143 0 13 #[71, 76, 81, 86, 91, 99, 111, 111, 111, 111, 121, 127, 133, 138] L (.int (nI 13) :: S) g = pmV mX12_count 139 L S g := rfl
theorem wX12_count_1_d (h : x < nI 0 ∨ nI 13 < x) : zTab mX12_count 1 143 0 13 #[71, 76, 81, 86, 91, 99, 111, 111, 111, 111, 121, 127, 133, 138] L (.int x :: S) g = pmV mX12_count 144 L S g := by
  have h2 : x.toInt < 0 ∨ 13 < x.toInt := by
    have e1 : (nI 0).toInt = 0 := by decide
    have e2 : (nI 13).toInt = 13 := by decide
    rw [Int32.lt_iff_toInt_lt, Int32.lt_iff_toInt_lt, e1, e2] at h
    exact h
  show pmU mX12_count g (if x.toInt < 0 ∨ 13 < x.toInt then _ else _) = _
  rw [if_pos h2]
  rfl
theorem wL_law_33_0 : zTab mL_law 33 917 0 26 #[123, 146, 159, 172, 185, 218, 251, 274, 287, 310, 343, 356, 399, 422, 445, 468, 531, 564, 577, 600, 649, 692, 771, 825, 848, 871, 894] L (.int (nI 0) :: S) g = pmV mL_law 156 L S g := rfl
theorem wL_law_33_1 : zTab mL_law 33 917 0 26 #[123, 146, 159, 172, 185, 218, 251, 274, 287, 310, 343, 356, 399, 422, 445, 468, 531, 564, 577, 600, 649, 692, 771, 825, 848, 871, 894] L (.int (nI 1) :: S) g = pmV mL_law 179 L S g := rfl
theorem wL_law_33_2 : zTab mL_law 33 917 0 26 #[123, 146, 159, 172, 185, 218, 251, 274, 287, 310, 343, 356, 399, 422, 445, 468, 531, 564, 577, 600, 649, 692, 771, 825, 848, 871, 894] L (.int (nI 2) :: S) g = pmV mL_law 192 L S g := rfl
theorem wL_law_33_3 : zTab mL_law 33 917 0 26 #[123, 146, 159, 172, 185, 218, 251, 274, 287, 310, 343, 356, 399, 422, 445, 468, 531, 564, 577, 600, 649, 692, 771, 825, 848, 871, 894] L (.int (nI 3) :: S) g = pmV mL_law 205 L S g := rfl
theorem wL_law_33_4 : zTab mL_law 33 917 0 26 #[123, 146, 159, 172, 185, 218, 251, 274, 287, 310, 343, 356, 399, 422, 445, 468, 531, 564, 577, 600, 649, 692, 771, 825, 848, 871, 894] L (.int (nI 4) :: S) g = pmV mL_law 218 L S g := rfl
theorem wL_law_33_5 : zTab mL_law 33 917 0 26 #[123, 146, 159, 172, 185, 218, 251, 274, 287, 310, 343, 356, 399, 422, 445, 468, 531, 564, 577, 600, 649, 692, 771, 825, 848, 871, 894] L (.int (nI 5) :: S) g = pmV mL_law 251 L S g := rfl
theorem wL_law_33_6 : zTab mL_law 33 917 0 26 #[123, 146, 159, 172, 185, 218, 251, 274, 287, 310, 343, 356, 399, 422, 445, 468, 531, 564, 577, 600, 649, 692, 771, 825, 848, 871, 894] L (.int (nI 6) :: S) g = pmV mL_law 284 L S g := rfl
theorem wL_law_33_7 : zTab mL_law 33 917 0 26 #[123, 146, 159, 172, 185, 218, 251, 274, 287, 310, 343, 356, 399, 422, 445, 468, 531, 564, 577, 600, 649, 692, 771, 825, 848, 871, 894] L (.int (nI 7) :: S) g = pmV mL_law 307 L S g := rfl
theorem wL_law_33_8 : zTab mL_law 33 917 0 26 #[123, 146, 159, 172, 185, 218, 251, 274, 287, 310, 343, 356, 399, 422, 445, 468, 531, 564, 577, 600, 649, 692, 771, 825, 848, 871, 894] L (.int (nI 8) :: S) g = pmV mL_law 320 L S g := rfl
theorem wL_law_33_9 : zTab mL_law 33 917 0 26 #[123, 146, 159, 172, 185, 218, 251, 274, 287, 310, 343, 356, 399, 422, 445, 468, 531, 564, 577, 600, 649, 692, 771, 825, 848, 871, 894] L (.int (nI 9) :: S) g = pmV mL_law 343 L S g := rfl
theorem wL_law_33_10 : zTab mL_law 33 917 0 26 #[123, 146, 159, 172, 185, 218, 251, 274, 287, 310, 343, 356, 399, 422, 445, 468, 531, 564, 577, 600, 649, 692, 771, 825, 848, 871, 894] L (.int (nI 10) :: S) g = pmV mL_law 376 L S g := rfl
theorem wL_law_33_11 : zTab mL_law 33 917 0 26 #[123, 146, 159, 172, 185, 218, 251, 274, 287, 310, 343, 356, 399, 422, 445, 468, 531, 564, 577, 600, 649, 692, 771, 825, 848, 871, 894] L (.int (nI 11) :: S) g = pmV mL_law 389 L S g := rfl
theorem wL_law_33_12 : zTab mL_law 33 917 0 26 #[123, 146, 159, 172, 185, 218, 251, 274, 287, 310, 343, 356, 399, 422, 445, 468, 531, 564, 577, 600, 649, 692, 771, 825, 848, 871, 894] L (.int (nI 12) :: S) g = pmV mL_law 432 L S g := rfl
theorem wL_law_33_13 : zTab mL_law 33 917 0 26 #[123, 146, 159, 172, 185, 218, 251, 274, 287, 310, 343, 356, 399, 422, 445, 468, 531, 564, 577, 600, 649, 692, 771, 825, 848, 871, 894] L (.int (nI 13) :: S) g = pmV mL_law 455 L S g := rfl
theorem wL_law_33_14 : zTab mL_law 33 917 0 26 #[123, 146, 159, 172, 185, 218, 251, 274, 287, 310, 343, 356, 399, 422, 445, 468, 531, 564, 577, 600, 649, 692, 771, 825, 848, 871, 894] L (.int (nI 14) :: S) g = pmV mL_law 478 L S g := rfl
theorem wL_law_33_15 : zTab mL_law 33 917 0 26 #[123, 146, 159, 172, 185, 218, 251, 274, 287, 310, 343, 356, 399, 422, 445, 468, 531, 564, 577, 600, 649, 692, 771, 825, 848, 871, 894] L (.int (nI 15) :: S) g = pmV mL_law 501 L S g := rfl
theorem wL_law_33_16 : zTab mL_law 33 917 0 26 #[123, 146, 159, 172, 185, 218, 251, 274, 287, 310, 343, 356, 399, 422, 445, 468, 531, 564, 577, 600, 649, 692, 771, 825, 848, 871, 894] L (.int (nI 16) :: S) g = pmV mL_law 564 L S g := rfl
theorem wL_law_33_17 : zTab mL_law 33 917 0 26 #[123, 146, 159, 172, 185, 218, 251, 274, 287, 310, 343, 356, 399, 422, 445, 468, 531, 564, 577, 600, 649, 692, 771, 825, 848, 871, 894] L (.int (nI 17) :: S) g = pmV mL_law 597 L S g := rfl
theorem wL_law_33_18 : zTab mL_law 33 917 0 26 #[123, 146, 159, 172, 185, 218, 251, 274, 287, 310, 343, 356, 399, 422, 445, 468, 531, 564, 577, 600, 649, 692, 771, 825, 848, 871, 894] L (.int (nI 18) :: S) g = pmV mL_law 610 L S g := rfl
theorem wL_law_33_19 : zTab mL_law 33 917 0 26 #[123, 146, 159, 172, 185, 218, 251, 274, 287, 310, 343, 356, 399, 422, 445, 468, 531, 564, 577, 600, 649, 692, 771, 825, 848, 871, 894] L (.int (nI 19) :: S) g = pmV mL_law 633 L S g := rfl
theorem wL_law_33_20 : zTab mL_law 33 917 0 26 #[123, 146, 159, 172, 185, 218, 251, 274, 287, 310, 343, 356, 399, 422, 445, 468, 531, 564, 577, 600, 649, 692, 771, 825, 848, 871, 894] L (.int (nI 20) :: S) g = pmV mL_law 682 L S g := rfl
theorem wL_law_33_21 : zTab mL_law 33 917 0 26 #[123, 146, 159, 172, 185, 218, 251, 274, 287, 310, 343, 356, 399, 422, 445, 468, 531, 564, 577, 600, 649, 692, 771, 825, 848, 871, 894] L (.int (nI 21) :: S) g = pmV mL_law 725 L S g := rfl
theorem wL_law_33_22 : zTab mL_law 33 917 0 26 #[123, 146, 159, 172, 185, 218, 251, 274, 287, 310, 343, 356, 399, 422, 445, 468, 531, 564, 577, 600, 649, 692, 771, 825, 848, 871, 894] L (.int (nI 22) :: S) g = pmV mL_law 804 L S g := rfl
theorem wL_law_33_23 : zTab mL_law 33 917 0 26 #[123, 146, 159, 172, 185, 218, 251, 274, 287, 310, 343, 356, 399, 422, 445, 468, 531, 564, 577, 600, 649, 692, 771, 825, 848, 871, 894] L (.int (nI 23) :: S) g = pmV mL_law 858 L S g := rfl
theorem wL_law_33_24 : zTab mL_law 33 917 0 26 #[123, 146, 159, 172, 185, 218, 251, 274, 287, 310, 343, 356, 399, 422, 445, 468, 531, 564, 577, 600, 649, 692, 771, 825, 848, 871, 894] L (.int (nI 24) :: S) g = pmV mL_law 881 L S g := rfl
theorem wL_law_33_25 : zTab mL_law 33 917 0 26 #[123, 146, 159, 172, 185, 218, 251, 274, 287, 310, 343, 356, 399, 422, 445, 468, 531, 564, 577, 600, 649, 692, 771, 825, 848, 871, 894] L (.int (nI 25) :: S) g = pmV mL_law 904 L S g := rfl
theorem wL_law_33_26 : zTab mL_law 33 917 0 26 #[123, 146, 159, 172, 185, 218, 251, 274, 287, 310, 343, 356, 399, 422, 445, 468, 531, 564, 577, 600, 649, 692, 771, 825, 848, 871, 894] L (.int (nI 26) :: S) g = pmV mL_law 927 L S g := rfl
theorem wL_law_33_d (h : x < nI 0 ∨ nI 26 < x) : zTab mL_law 33 917 0 26 #[123, 146, 159, 172, 185, 218, 251, 274, 287, 310, 343, 356, 399, 422, 445, 468, 531, 564, 577, 600, 649, 692, 771, 825, 848, 871, 894] L (.int x :: S) g = pmV mL_law 950 L S g := by
  have h2 : x.toInt < 0 ∨ 26 < x.toInt := by
    have e1 : (nI 0).toInt = 0 := by decide
    have e2 : (nI 26).toInt = 26 := by decide
    rw [Int32.lt_iff_toInt_lt, Int32.lt_iff_toInt_lt, e1, e2] at h
    exact h
  show pmU mL_law g (if x.toInt < 0 ∨ 26 < x.toInt then _ else _) = _
  rw [if_pos h2]
  rfl
end TAB
