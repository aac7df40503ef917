section READ
variable {X : Nat × (Nat → Int32)} {I I' : Nat → Nat → Int32} {J : Nat → Int64} {a b c t n i w j k v : Nat} {f g : Nat → Nat → Nat} {C C' : Nat → Nat → Nat} {st : Int32} {M : pmM} {nx : Nat} {L : pmL} {R S : List Value} {gg : pmH} {x y : Nat}
def ctM (I : Nat → Nat → Int32) (c : Nat) (C : Nat → Nat → Nat) : Prop := I c 7 = nI (C 0 0) ∧ I c 8 = nI (C 0 1) ∧ I c 9 = nI (C 0 2) ∧ (∀ j, j < 4 → I (c + 1) j = nI (C 1 j)) ∧ (∀ j, j < 5 → I (c + 2) j = nI (C 2 j)) ∧ (∀ j, j < 5 → I (c + 3) j = nI (C 3 j)) ∧ (∀ j, j < 5 → I (c + 4) j = nI (C 4 j)) ∧ (∀ j, j < 4 → I (c + 5) j = nI (C 5 j)) ∧ (∀ j, j < 4 → I (c + 6) j = nI (C 6 j)) ∧ (∀ j, j < 4 → I (c + 7) j = nI (C 7 j))
theorem ctM_5 : ctM I 5 C ↔ cty I C := Iff.rfl
def rng (C : Nat → Nat → Nat) : Prop := (∀ j, C 1 j < 5) ∧ (∀ j, C 2 j < 20) ∧ (∀ j, C 3 j < 4) ∧ (∀ j, C 4 j < 4) ∧ (∀ j, C 5 j < 20) ∧ (∀ j, C 6 j < 10) ∧ (∀ j, C 7 j < 4)
def setC (C : Nat → Nat → Nat) (a j v : Nat) : Nat → Nat → Nat := fun x y => if x = a ∧ y = j then v else C x y
theorem setC_s : setC C a j v a j = v := by simp [setC]
theorem setC_n {x y : Nat} (h : ¬ (x = a ∧ y = j)) : setC C a j v x y = C x y := by simp [setC, h]
theorem ctM_of (h : ∀ x, c ≤ x → x < c + 8 → I' x = I x) (hc : ctM I c C) : ctM I' c C := by
  unfold ctM
  rw [h c (by omega) (by omega), h (c + 1) (by omega) (by omega), h (c + 2) (by omega) (by omega), h (c + 3) (by omega) (by omega), h (c + 4) (by omega) (by omega), h (c + 5) (by omega) (by omega), h (c + 6) (by omega) (by omega), h (c + 7) (by omega) (by omega)]
  exact hc
theorem st_row {q : Nat} {F : Nat → Int32} {G : Nat → Nat} {n : Nat} (h : ∀ y, y < n → F y = nI (G y)) : ∀ y, y < n → upd F j (nI v) y = nI (if y = j then v else G y) := by
  intro y hy
  by_cases z : y = j
  · subst z
    rw [uS, if_pos rfl]
  · rw [uN z, if_neg z]
    exact h y hy
theorem setC_row {y : Nat} : setC C a j v a y = if y = j then v else C a y := by
  by_cases z : y = j <;> simp [setC, z]
theorem ctM_set (ha : 1 ≤ a ∧ a ≤ 7) (h : ctM I c C) : ctM (upR I (c + a) (upd (I (c + a)) j (nI v))) c (setC C a j v) := by
  obtain ⟨h1, h2, h3, h4, h5, h6, h7, h8, h9, h10⟩ := h
  have e0 : ∀ k, setC C a j v 0 k = C 0 k := fun k => setC_n (by omega)
  have eo : ∀ b k, b ≠ a → setC C a j v b k = C b k := fun b k hb => setC_n (fun q => hb q.1)
  have n0 : (upR I (c + a) (upd (I (c + a)) j (nI v))) c = I c := upR_ne (by omega)
  have key : ∀ (b n : Nat), 1 ≤ b → (∀ y, y < n → I (c + b) y = nI (C b y)) → ∀ y, y < n → (upR I (c + a) (upd (I (c + a)) j (nI v))) (c + b) y = nI (setC C a j v b y) := by
    intro b n hb hh y hy
    by_cases z : b = a
    · subst z
      rw [upR_same, setC_row]
      exact st_row (q := 0) hh y hy
    · rw [upR_ne (by omega), eo b y z]
      exact hh y hy
  unfold ctM
  rw [n0, e0, e0, e0]
  exact ⟨h1, h2, h3, key 1 4 (by decide) h4, key 2 5 (by decide) h5, key 3 5 (by decide) h6, key 4 5 (by decide) h7, key 5 4 (by decide) h8, key 6 4 (by decide) h9, key 7 4 (by decide) h10⟩
theorem ctM_cnt (hk : k < 3) (h : ctM I c C) : ctM (upR I c (upd (I c) (7 + k) (nI v))) c (setC C 0 k v) := by
  obtain ⟨h1, h2, h3, h4, h5, h6, h7, h8, h9, h10⟩ := h
  have eo : ∀ b j, b ≠ 0 → setC C 0 k v b j = C b j := fun b k hb => setC_n (fun q => hb q.1)
  have n0 : ∀ b, 1 ≤ b → (upR I c (upd (I c) (7 + k) (nI v))) (c + b) = I (c + b) := fun b hb => upR_ne (by omega)
  unfold ctM
  rw [upR_same, n0 1 (by decide), n0 2 (by decide), n0 3 (by decide), n0 4 (by decide), n0 5 (by decide), n0 6 (by decide), n0 7 (by decide)]
  refine ⟨?_, ?_, ?_, ?_, ?_, ?_, ?_, ?_, ?_, ?_⟩
  · rw [setC_row]
    by_cases z : 0 = k
    · subst z
      rw [if_pos rfl, uS]
    · rw [if_neg z, uN (by omega)]
      exact h1
  · rw [setC_row]
    by_cases z : 1 = k
    · subst z
      rw [if_pos rfl, uS]
    · rw [if_neg z, uN (by omega)]
      exact h2
  · rw [setC_row]
    by_cases z : 2 = k
    · subst z
      rw [if_pos rfl, uS]
    · rw [if_neg z, uN (by omega)]
      exact h3
  · intro j hj; rw [eo 1 j (by decide)]; exact h4 j hj
  · intro j hj; rw [eo 2 j (by decide)]; exact h5 j hj
  · intro j hj; rw [eo 3 j (by decide)]; exact h6 j hj
  · intro j hj; rw [eo 4 j (by decide)]; exact h7 j hj
  · intro j hj; rw [eo 5 j (by decide)]; exact h8 j hj
  · intro j hj; rw [eo 6 j (by decide)]; exact h9 j hj
  · intro j hj; rw [eo 7 j (by decide)]; exact h10 j hj
/-! one letter more: the part (0, 1, or its letter), the place in it, the city so far -/
def rdT (p pl : Nat) (C : Nat → Nat → Nat) (x : Nat) : Option (Nat × Nat × (Nat → Nat → Nat)) :=
  if p = 0 then (if x = 67 then some (1, 0, C) else none)
  else if p = 1 then
    (if x = 87 then (if C 0 0 < 4 then some (87, 0, C) else none)
    else if x = 66 then (if C 0 1 < 5 then some (66, 0, C) else none)
    else if x = 72 then (if C 0 2 < 4 then some (72, 0, C) else none) else none)
  else if p = 87 then (if 48 ≤ x ∧ x ≤ 52 then some (1, 0, setC (setC C 1 (C 0 0) (x - 48)) 0 0 (C 0 0 + 1)) else none)
  else if p = 66 then
    (if pl = 0 then (if 97 ≤ x ∧ x < 117 then some (66, 1, setC C 2 (C 0 1) (x - 97)) else none)
    else if pl = 1 then (if 48 ≤ x ∧ x ≤ 51 then some (66, 2, setC C 3 (C 0 1) (x - 48)) else none)
    else (if 48 ≤ x ∧ x ≤ 51 then some (1, 0, setC (setC C 4 (C 0 1) (x - 48)) 0 1 (C 0 1 + 1)) else none))
  else
    (if pl = 0 then (if 97 ≤ x ∧ x < 117 ∧ hgA (fun j => decide (C 5 j = x - 97)) (C 0 2) 0 = none then some (72, 1, setC C 5 (C 0 2) (x - 97)) else none)
    else if pl = 1 then (if 48 ≤ x ∧ x ≤ 57 then some (72, 2, setC C 6 (C 0 2) (x - 48)) else none)
    else (if 48 ≤ x ∧ x ≤ 51 then some (1, 0, setC (setC C 7 (C 0 2) (x - 48)) 0 2 (C 0 2 + 1)) else none))
/-- what holds between letters -/
def rdI (p pl : Nat) (C : Nat → Nat → Nat) : Prop := C 0 0 ≤ 4 ∧ C 0 1 ≤ 5 ∧ C 0 2 ≤ 4 ∧ rng C ∧ (∀ i j, i < j → j < C 0 2 → C 5 i ≠ C 5 j) ∧ (p = 0 ∨ p = 1 ∨ (p = 87 ∧ C 0 0 < 4) ∨ (p = 66 ∧ pl < 3 ∧ C 0 1 < 5) ∨ (p = 72 ∧ pl < 3 ∧ C 0 2 < 4 ∧ (0 < pl → ∀ j, j < C 0 2 → C 5 j ≠ C 5 (C 0 2))))
theorem rng_set (ha : 1 ≤ a) (h : rng C) (hv : v < (if a = 1 then 5 else if a = 2 then 20 else if a = 3 then 4 else if a = 4 then 4 else if a = 5 then 20 else if a = 6 then 10 else 4)) : rng (setC C a j v) := by
  obtain ⟨h1, h2, h3, h4, h5, h6, h7⟩ := h
  refine ⟨fun y => ?_, fun y => ?_, fun y => ?_, fun y => ?_, fun y => ?_, fun y => ?_, fun y => ?_⟩
  all_goals
    unfold setC
    split
    · rename_i z
      obtain ⟨z1, z2⟩ := z
      subst z1
      simpa using hv
    · apply_assumption
theorem rng_cnt (h : rng C) : rng (setC C 0 k v) := by
  obtain ⟨h1, h2, h3, h4, h5, h6, h7⟩ := h
  refine ⟨fun y => ?_, fun y => ?_, fun y => ?_, fun y => ?_, fun y => ?_, fun y => ?_, fun y => ?_⟩
  all_goals
    rw [setC_n (fun q => absurd q.1 (by decide))]
    apply_assumption
theorem hgA_none {P : Nat → Bool} : ∀ (m k : Nat), hgA P m k = none → ∀ j, k ≤ j → j < k + m → P j = false
  | 0, _, _, j, h1, h2 => absurd h2 (by omega)
  | m + 1, k, h, j, h1, h2 => by
    unfold hgA at h
    split at h
    · cases h
    · rename_i z
      by_cases y : j = k
      · subst y
        simpa using z
      · exact hgA_none m (k + 1) h j (by omega) (by omega)
theorem rdI_ok {p pl x p' pl' : Nat} {D : Nat → Nat → Nat} (h : rdI p pl C) (hq : rdT p pl C x = some (p', pl', D)) : rdI p' pl' D := by
  obtain ⟨h0, h1, h2, hr, hd, hs⟩ := h
  unfold rdT at hq
  rcases hs with rfl | rfl | ⟨rfl, hs⟩ | ⟨rfl, hs, hs2⟩ | ⟨rfl, hs, hs2, hs3⟩
  · simp only [if_true] at hq
    split at hq
    · cases hq
      exact ⟨h0, h1, h2, hr, hd, Or.inr (Or.inl rfl)⟩
    · cases hq
  · simp only [if_true, Nat.one_ne_zero, if_false] at hq
    repeat' split at hq
    all_goals first | (cases hq; done) | skip
    · cases hq
      rename_i z
      exact ⟨h0, h1, h2, hr, hd, Or.inr (Or.inr (Or.inl ⟨rfl, z⟩))⟩
    · cases hq
      rename_i z
      exact ⟨h0, h1, h2, hr, hd, Or.inr (Or.inr (Or.inr (Or.inl ⟨rfl, by decide, z⟩)))⟩
    · cases hq
      rename_i z
      exact ⟨h0, h1, h2, hr, hd, Or.inr (Or.inr (Or.inr (Or.inr ⟨rfl, by decide, z, fun q => absurd q (by decide)⟩)))⟩
  · simp only [show ¬ (87 : Nat) = 0 by decide, show ¬ (87 : Nat) = 1 by decide, if_false, if_true] at hq
    split at hq
    · rename_i z
      cases hq
      have e5 : ∀ j, setC (setC C 1 (C 0 0) (x - 48)) 0 0 (C 0 0 + 1) 5 j = C 5 j := fun j => by rw [setC_n (by omega), setC_n (by omega)]
      have e01 : setC (setC C 1 (C 0 0) (x - 48)) 0 0 (C 0 0 + 1) 0 1 = C 0 1 := by rw [setC_n (by omega), setC_n (by omega)]
      have e02 : setC (setC C 1 (C 0 0) (x - 48)) 0 0 (C 0 0 + 1) 0 2 = C 0 2 := by rw [setC_n (by omega), setC_n (by omega)]
      refine ⟨?_, ?_, ?_, rng_cnt (rng_set (by decide) hr (by simp; omega)), ?_, Or.inr (Or.inl rfl)⟩
      · show setC (setC C 1 (C 0 0) (x - 48)) 0 0 (C 0 0 + 1) 0 0 ≤ 4
        rw [setC_s]
        omega
      · show setC (setC C 1 (C 0 0) (x - 48)) 0 0 (C 0 0 + 1) 0 1 ≤ 5
        rw [e01]
        exact h1
      · show setC (setC C 1 (C 0 0) (x - 48)) 0 0 (C 0 0 + 1) 0 2 ≤ 4
        rw [e02]
        exact h2
      · show ∀ i j, i < j → j < setC (setC C 1 (C 0 0) (x - 48)) 0 0 (C 0 0 + 1) 0 2 → setC (setC C 1 (C 0 0) (x - 48)) 0 0 (C 0 0 + 1) 5 i ≠ setC (setC C 1 (C 0 0) (x - 48)) 0 0 (C 0 0 + 1) 5 j
        intro i j
        rw [e02, e5, e5]
        exact hd i j
    · cases hq
  · simp only [show ¬ (66 : Nat) = 0 by decide, show ¬ (66 : Nat) = 1 by decide, show ¬ (66 : Nat) = 87 by decide, if_false, if_true] at hq
    repeat' split at hq
    all_goals first | (cases hq; done) | skip
    · rename_i z
      cases hq
      refine ⟨by rw [setC_n (by omega)]; exact h0, by rw [setC_n (by omega)]; exact h1, by rw [setC_n (by omega)]; exact h2, rng_set (by decide) hr (by simp; omega), ?_, Or.inr (Or.inr (Or.inr (Or.inl ⟨rfl, by decide, by rw [setC_n (by omega)]; exact hs2⟩)))⟩
      intro i j
      rw [setC_n (by omega), setC_n (by omega), setC_n (by omega)]
      exact hd i j
    · rename_i z
      cases hq
      refine ⟨by rw [setC_n (by omega)]; exact h0, by rw [setC_n (by omega)]; exact h1, by rw [setC_n (by omega)]; exact h2, rng_set (by decide) hr (by simp; omega), ?_, Or.inr (Or.inr (Or.inr (Or.inl ⟨rfl, by decide, by rw [setC_n (by omega)]; exact hs2⟩)))⟩
      intro i j
      rw [setC_n (by omega), setC_n (by omega), setC_n (by omega)]
      exact hd i j
    · rename_i z
      cases hq
      refine ⟨by rw [setC_n (by omega), setC_n (by omega)]; exact h0, by rw [setC_s]; omega, by rw [setC_n (by omega), setC_n (by omega)]; exact h2, rng_cnt (rng_set (by decide) hr (by simp; omega)), ?_, Or.inr (Or.inl rfl)⟩
      intro i j
      rw [setC_n (by omega), setC_n (by omega), setC_n (by omega), setC_n (by omega), setC_n (by omega), setC_n (by omega)]
      exact hd i j
  · simp only [show ¬ (72 : Nat) = 0 by decide, show ¬ (72 : Nat) = 1 by decide, show ¬ (72 : Nat) = 87 by decide, show ¬ (72 : Nat) = 66 by decide, if_false] at hq
    repeat' split at hq
    all_goals first | (cases hq; done) | skip
    · rename_i z
      cases hq
      have e5 : ∀ j, j < C 0 2 → setC C 5 (C 0 2) (x - 97) 5 j = C 5 j := fun j hj => setC_n (by omega)
      refine ⟨by rw [setC_n (by omega)]; exact h0, by rw [setC_n (by omega)]; exact h1, by rw [setC_n (by omega)]; exact h2, rng_set (by decide) hr (by simp; omega), ?_, Or.inr (Or.inr (Or.inr (Or.inr ⟨rfl, by decide, by rw [setC_n (by omega)]; exact hs2, fun _ => ?_⟩)))⟩
      · intro i j hij
        rw [setC_n (by omega)]
        intro hj
        rw [e5 i (by omega), e5 j hj]
        exact hd i j hij hj
      · show ∀ j, j < setC C 5 (C 0 2) (x - 97) 0 2 → setC C 5 (C 0 2) (x - 97) 5 j ≠ setC C 5 (C 0 2) (x - 97) 5 (setC C 5 (C 0 2) (x - 97) 0 2)
        rw [setC_n (show ¬ ((0 : Nat) = 5 ∧ 2 = C 0 2) by omega), setC_s]
        intro j hj
        rw [e5 j hj]
        have := hgA_none _ _ z.2.2 j (by omega) (by omega)
        simpa using this
    · rename_i z
      cases hq
      have hpl : 0 < pl := by omega
      refine ⟨by rw [setC_n (by omega)]; exact h0, by rw [setC_n (by omega)]; exact h1, by rw [setC_n (by omega)]; exact h2, rng_set (by decide) hr (by simp; omega), ?_, Or.inr (Or.inr (Or.inr (Or.inr ⟨rfl, by decide, by rw [setC_n (by omega)]; exact hs2, fun _ => ?_⟩)))⟩
      · intro i j
        rw [setC_n (by omega), setC_n (by omega), setC_n (by omega)]
        exact hd i j
      · show ∀ j, j < setC C 6 (C 0 2) (x - 48) 0 2 → setC C 6 (C 0 2) (x - 48) 5 j ≠ setC C 6 (C 0 2) (x - 48) 5 (setC C 6 (C 0 2) (x - 48) 0 2)
        rw [setC_n (show ¬ ((0 : Nat) = 6 ∧ 2 = C 0 2) by omega)]
        intro j hj
        rw [setC_n (by omega), setC_n (by omega)]
        exact hs3 hpl j hj
    · rename_i z
      cases hq
      have hpl : 0 < pl := by omega
      refine ⟨by rw [setC_n (by omega), setC_n (by omega)]; exact h0, by rw [setC_n (by omega), setC_n (by omega)]; exact h1, by rw [setC_s]; omega, rng_cnt (rng_set (by decide) hr (by simp; omega)), ?_, Or.inr (Or.inl rfl)⟩
      intro i j hij
      rw [setC_s, setC_n (by omega), setC_n (by omega), setC_n (by omega), setC_n (by omega)]
      intro hj
      by_cases u : j = C 0 2
      · subst u
        exact hs3 hpl i hij
      · exact hd i j hij (by omega)
end READ
