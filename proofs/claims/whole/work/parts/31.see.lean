section SEE
variable {X : Nat × (Nat → Int32)} {I : Nat → Nat → Int32} {J : Nat → Int64} {a b t n i w : Nat} {f g : Nat → Nat → Nat} {C : Nat → Nat → Nat} {st : Int32}
/-- the sky at a: hour t, standing st, balloons as f says (those that the city has) -/
def skB (I : Nat → Nat → Int32) (a : Nat) (C : Nat → Nat → Nat) (st : Int32) (t : Nat) (f : Nat → Nat → Nat) : Prop := I a 2 = nI t ∧ I a 3 = st ∧ ∃ g : Nat → Nat → Nat, (∀ i, i < 5 → I (bA a i) = enc (g i)) ∧ ∀ i, i < C 0 1 → g i = f i
def skJ (I : Nat → Nat → Int32) (a : Nat) : Prop := ∃ (t : Nat) (g : Nat → Nat → Nat), I a 2 = nI t ∧ ∀ i, i < 5 → I (bA a i) = enc (g i)
def fr (a : Nat) (I I' : Nat → Nat → Int32) : Prop := ∀ x, x < a ∨ a + 7 ≤ x → I' x = I x
theorem skB_J (h : skB I a C st t f) : skJ I a := ⟨t, h.2.2.choose, h.1, h.2.2.choose_spec.1⟩
theorem skB_el (h : skB I a C st t f) : ∃ g : Nat → Nat → Nat, skU I a t g = I ∧ (∀ i, i < C 0 1 → g i = f i) ∧ I a 3 = st := by
  obtain ⟨h1, h2, g, h3, h4⟩ := h
  exact ⟨g, skU_self h1 h3, h4, h2⟩
theorem skJ_el (h : skJ I a) : ∃ (t : Nat) (g : Nat → Nat → Nat), skU I a t g = I := by
  obtain ⟨t, g, h1, h2⟩ := h
  exact ⟨t, g, skU_self h1 h2⟩
theorem skB_in (hg : ∀ i, i < C 0 1 → g i = f i) (h3 : I a 3 = st) : skB (skU I a t g) a C st t f := ⟨skU_2, by rw [skU_3]; exact h3, g, fun _ hi => skU_b hi, hg⟩
theorem fr_skU : fr a I (skU I a t g) := fun x hx => skU_o (by omega)
theorem fr_refl : fr a I I := fun _ _ => rfl
theorem fr_trans {I1 I2 : Nat → Nat → Int32} (h1 : fr a I I1) (h2 : fr a I1 I2) : fr a I I2 := fun x hx => (h2 x hx).trans (h1 x hx)
theorem fr_st {s : Int32} : fr a I (upR I a (upd (I a) 3 s)) := fun x hx => upR_ne (by omega)
theorem sky_ge (ha : isSky a = true) : 23 ≤ a ∧ a + 7 ≤ 166 := by
  simp only [isSky, Bool.or_eq_true, Bool.and_eq_true, beq_iff_eq, decide_eq_true_eq] at ha
  omega
theorem cty_fr {I' : Nat → Nat → Int32} (ha : isSky a = true) (h : fr a I I') (hc : cty I C) : cty I' C := by
  have := sky_ge ha
  unfold cty
  rw [h 5 (by omega), h 6 (by omega), h 7 (by omega), h 8 (by omega), h 9 (by omega), h 10 (by omega), h 11 (by omega), h 12 (by omega)]
  exact hc
theorem skB_fr {I' : Nat → Nat → Int32} (ha : isSky a = true) (hb : isSky b = true) (hab : a ≠ b) (h : fr a I I') (hk : skB I b C st t f) : skB I' b C st t f := by
  have := sky_far ha hb hab
  obtain ⟨h1, h2, g, h3, h4⟩ := hk
  refine ⟨by rw [h b (by omega)]; exact h1, by rw [h b (by omega)]; exact h2, g, fun i hi => ?_, h4⟩
  rw [h (bA b i) (by unfold bA; omega)]
  exact h3 i hi
theorem skJ_fr {I' : Nat → Nat → Int32} (ha : isSky a = true) (hb : isSky b = true) (hab : a ≠ b) (h : fr a I I') (hk : skJ I b) : skJ I' b := by
  have := sky_far ha hb hab
  obtain ⟨t, g, h1, h3⟩ := hk
  refine ⟨t, g, by rw [h b (by omega)]; exact h1, fun i hi => ?_⟩
  rw [h (bA b i) (by unfold bA; omega)]
  exact h3 i hi
theorem skB_congr (hg : ∀ i, i < C 0 1 → f i = g i) (h : skB I a C st t f) : skB I a C st t g := by
  obtain ⟨h1, h2, g', h3, h4⟩ := h
  exact ⟨h1, h2, g', h3, fun i hi => (h4 i hi).trans (hg i hi)⟩
/-! what each does balloon by balloon -/
theorem stepF_pt {w : Nat} (h : g i = f i) : stepF C st w t g i = stepF C st w t f i := by
  have e : F1 g w t (C 0 1) i = F1 f w t (C 0 1) i := by unfold F1; rw [h]
  unfold stepF F2
  rw [e]
theorem runF_pt : ∀ (m t : Nat) (f g : Nat → Nat → Nat), g i = f i → runF C st m t g i = runF C st m t f i
  | 0, _, _, _, h => h
  | m + 1, t, f, g, h => runF_pt m (t + 1) _ _ (stepF_pt h)
theorem cnt_congr {P Q : Nat → Bool} : ∀ (k : Nat), (∀ i, i < k → P i = Q i) → cnt P k = cnt Q k
  | 0, _ => rfl
  | k + 1, h => by
    have ih := cnt_congr k (fun i hi => h i (by omega))
    unfold cnt
    rw [ih, h k (by omega)]
theorem bitsB_congr {P Q : Nat → Bool} : ∀ (k : Nat), (∀ i, i < k → P i = Q i) → bitsB P k = bitsB Q k
  | 0, _ => rfl
  | k + 1, h => by
    have ih := bitsB_congr k (fun i hi => h i (by omega))
    unfold bitsB
    rw [ih, h k (by omega)]
theorem gladB_congr : ∀ (k : Nat), (∀ i, i < k → g i = f i) → gladB C t g k = gladB C t f k
  | 0, _ => rfl
  | k + 1, h => by
    have ih := gladB_congr k (fun i hi => h i (by omega))
    unfold gladB
    rw [ih, h k (by omega)]
theorem stepC_congr {w : Nat} (h : ∀ i, i < C 0 1 → g i = f i) : stepC C st w t g = stepC C st w t f := by
  unfold stepC
  refine cnt_congr _ (fun i hi => ?_)
  have e : F1 g w t (C 0 1) i = F1 f w t (C 0 1) i := by unfold F1; rw [h i hi]
  unfold caughtB
  rw [e]
/-- a sky that can be -/
def okS (C : Nat → Nat → Nat) (t : Nat) (f : Nat → Nat → Nat) : Prop := (∀ i, i < C 0 1 → rowG C t (f i) ∧ f i 0 = C 3 i) ∧ (∀ i j, i < C 0 1 → j < C 0 1 → f i 6 = f j 6 → i = j)
theorem okS_congr (hg : ∀ i, i < C 0 1 → g i = f i) (h : okS C t f) : okS C t g := by
  refine ⟨fun i hi => by rw [hg i hi]; exact h.1 i hi, fun i j hi hj => ?_⟩
  rw [hg i hi, hg j hj]
  exact h.2 i j hi hj
theorem goN_k {r : Nat → Nat} {w k : Nat} (h1 : k ≠ 1) (h2 : k ≠ 2) : goN r w k = r k := by
  unfold goN
  repeat' split
  all_goals simp [updN, h1, h2]
theorem goB_k {r : Nat → Nat} {w k : Nat} (h1 : k ≠ 1) (h2 : k ≠ 2) (h5 : k ≠ 5) : goB r w t k = r k := by
  unfold goB
  repeat' split
  all_goals simp [goN_k h1 h2, updN, h5]
theorem goB_2 {r : Nat → Nat} {w : Nat} (h : goB r w t 2 = 2) : r 2 = 2 := by
  unfold goB at h
  by_cases z : ¬ r 2 = 1 ∨ (r 0 = 2 ∧ t % 2 = 1)
  · rw [if_pos z] at h
    exact h
  · rw [if_neg z] at h
    have z2 : r 2 = 1 := Decidable.byContradiction (fun y => z (Or.inl y))
    exfalso
    have z5 : updN r 5 w 2 = 1 := by simpa [updN] using z2
    revert h
    repeat' split
    · intro h
      rcases goN_2 (w := w) z5 with y | y <;> omega
    · intro h
      rcases goN_2 (w := r 5) z2 with y | y <;> omega
    · rename_i y
      intro h
      rcases goN_2 (w := w) y with u | u <;> omega
    · intro h
      rcases goN_2 (w := w) z2 with y | y <;> omega
    · intro h
      rcases goN_2 (w := w) z2 with y | y <;> omega
theorem goB_rG {r : Nat → Nat} {w : Nat} (hw : w < 5) (h : rowG C t r) : rowG C t (goB r w t) := by
  obtain ⟨h1, h2, h3⟩ := h
  refine ⟨goB_ok h1 hw, fun z => ?_, ?_⟩
  · have := h2 (goB_2 z)
    rw [goB_k (by decide) (by decide) (by decide), goB_k (by decide) (by decide) (by decide)]
    exact this
  · rw [goB_k (by decide) (by decide) (by decide)]
    exact h3
theorem rowG_le {r : Nat → Nat} {t' : Nat} (h : rowG C t r) (ht : t ≤ t') : rowG C t' r := ⟨h.1, fun z => ⟨(h.2.1 z).1, Nat.le_trans (h.2.1 z).2 ht⟩, h.2.2⟩
theorem ctR_rG {r : Nat → Nat} (h : rowG C t r) : rowG C t (ctR C st r t) ∧ ctR C st r t 0 = r 0 ∧ ctR C st r t 6 = r 6 := by
  have hk := ctR_ok (C := C) (st := st) (t := t) h.1
  revert hk
  unfold ctR
  cases hq : hkC C st (r 1) with
  | none => exact fun _ => ⟨h, rfl, rfl⟩
  | some j =>
    intro hk
    have hj : j < C 0 2 := by
      unfold hkC at hq
      split at hq
      · cases hq
      · rename_i y he
        split at hq
        · cases hq
          have := hgA_lt he
          omega
        · cases hq
    exact ⟨⟨hk, fun _ => ⟨by simpa [updN] using hj, by simp [updN]⟩, by simpa [updN] using h.2.2⟩, by simp [updN], by simp [updN]⟩
theorem stepF_rG {w : Nat} (hw : w < 5) (hi : i < C 0 1) (h : rowG C t (f i)) : rowG C (t + 1) (stepF C st w t f i) ∧ stepF C st w t f i 0 = f i 0 ∧ stepF C st w t f i 6 = f i 6 := by
  have e : F1 f w t (C 0 1) i = goB (f i) w t := by simp [F1, hi]
  have h1 := rowG_le (goB_rG hw h) (Nat.le_succ t)
  have e0 : goB (f i) w t 0 = f i 0 := goB_k (by decide) (by decide) (by decide)
  have e6 : goB (f i) w t 6 = f i 6 := goB_k (by decide) (by decide) (by decide)
  unfold stepF F2
  rw [e]
  split
  · have := ctR_rG (st := st) h1
    rw [e0, e6] at this
    exact this
  · exact ⟨h1, e0, e6⟩
theorem okS_step {w : Nat} (hw : w < 5) (h : okS C t f) : okS C (t + 1) (stepF C st w t f) := by
  refine ⟨fun i hi => ?_, fun i j hi hj => ?_⟩
  · have := stepF_rG (st := st) hw hi (h.1 i hi).1
    exact ⟨this.1, this.2.1.trans (h.1 i hi).2⟩
  · rw [(stepF_rG (st := st) hw hi (h.1 i hi).1).2.2, (stepF_rG (st := st) hw hj (h.1 j hj).1).2.2]
    exact h.2 i j hi hj
theorem okS_run (hC : okC C) : ∀ (m t : Nat) (f : Nat → Nat → Nat), okS C t f → okS C (t + m) (runF C st m t f)
  | 0, _, _, h => h
  | m + 1, t, f, h => by
    have := okS_run hC m (t + 1) _ (okS_step (st := st) (windC_lt hC (t := t)) h)
    rw [show t + 1 + m = t + (m + 1) by omega] at this
    exact this
theorem okS_le {t' : Nat} (h : okS C t f) (ht : t ≤ t') : okS C t' f := ⟨fun i hi => ⟨rowG_le (h.1 i hi).1 ht, (h.1 i hi).2⟩, h.2⟩
theorem okS_upd {r : Nat → Nat} (h : okS C t f) (hr : i < C 0 1 → rowG C t r) (h0 : r 0 = f i 0) (h6 : r 6 = f i 6) : okS C t (updF f i r) := by
  have e : ∀ j, updF f i r j 0 = f j 0 ∧ updF f i r j 6 = f j 6 := by
    intro j
    by_cases z : j = i
    · subst z
      rw [updF_s]
      exact ⟨h0, h6⟩
    · rw [updF_n z]
      exact ⟨rfl, rfl⟩
  refine ⟨fun j hj => ⟨?_, by rw [(e j).1]; exact (h.1 j hj).2⟩, fun k j hk hj => by rw [(e k).2, (e j).2]; exact h.2 k j hk hj⟩
  by_cases z : j = i
  · subst z
    rw [updF_s]
    exact hr hj
  · rw [updF_n z]
    exact (h.1 j hj).1
theorem rowG_w {r : Nat → Nat} {v : Nat} (h : rowG C t r) (hv : v < 4) (h2 : v ≠ 2) : rowG C t (updN r 2 v) := by
  obtain ⟨⟨h0, h1, h3, h5⟩, h6, h7⟩ := h
  exact ⟨⟨by simpa [updN] using h0, by simpa [updN] using h1, by simpa [updN] using hv, by simpa [updN] using h5⟩, fun z => absurd (by simpa [updN] using z) h2, by simpa [updN] using h7⟩
theorem okS_w {v : Nat} (h : okS C t f) (hv : v < 4) (h2 : v ≠ 2) : okS C t (updF f i (updN (f i) 2 v)) := okS_upd h (fun hi => rowG_w (h.1 i hi).1 hv h2) (by simp [updN]) (by simp [updN])
theorem swF_at {j k : Nat} (hij : i ≠ j) : swF f i j k = if k = i then updN (f i) 6 (f j 6) else if k = j then updN (f j) 6 (f i 6) else f k := by
  unfold swF updF
  by_cases z : k = j
  · subst z
    rw [if_pos rfl, if_neg (fun q : k = i => hij q.symm), if_pos rfl]
  · simp [z]
theorem okS_sw {j : Nat} (h : okS C t f) (hi : i < C 0 1) (hj : j < C 0 1) (hij : i ≠ j) : okS C t (swF f i j) := by
  have r6 : ∀ {r : Nat → Nat} {v : Nat}, rowG C t r → v < C 0 1 → rowG C t (updN r 6 v) := by
    intro r v q hv
    obtain ⟨⟨h0, h1, h3, h5⟩, h6, h7⟩ := q
    exact ⟨⟨by simpa [updN] using h0, by simpa [updN] using h1, by simpa [updN] using h3, by simpa [updN] using h5⟩, by simpa [updN] using h6, by simpa [updN] using hv⟩
  have hi6 := (h.1 i hi).1.2.2
  have hj6 := (h.1 j hj).1.2.2
  refine ⟨fun k hk => ?_, fun k l hk hl => ?_⟩
  · rw [swF_at hij]
    split
    · rename_i z
      subst z
      exact ⟨r6 (h.1 k hk).1 hj6, by simpa [updN] using (h.1 k hk).2⟩
    · split
      · rename_i z
        subst z
        exact ⟨r6 (h.1 k hk).1 hi6, by simpa [updN] using (h.1 k hk).2⟩
      · exact h.1 k hk
  · have e : ∀ k, swF f i j k 6 = if k = i then f j 6 else if k = j then f i 6 else f k 6 := by
      intro k
      rw [swF_at hij]
      repeat' split
      all_goals simp [updN]
    rw [e k, e l]
    have q1 := h.2 k l hk hl
    have q2 := h.2 i l hi hl
    have q3 := h.2 j l hj hl
    have q4 := h.2 k i hk hi
    have q5 := h.2 k j hk hj
    have q6 := h.2 i j hi hj
    have q7 := h.2 j i hj hi
    repeat' split
    all_goals intro u
    all_goals first | omega | (have := q1 u; omega) | (have := q2 u; omega) | (have := q3 u; omega) | (have := q4 u; omega) | (have := q5 u; omega) | (have := q6 u; omega) | (have := q7 u; omega)
theorem okS_lv {st : Int32} (h : okS C t f) : okS C t (fun i => lvR st (f i)) := by
  have e : ∀ i, i < C 0 1 → rowG C t (lvR st (f i)) ∧ lvR st (f i) 0 = f i 0 ∧ lvR st (f i) 6 = f i 6 := by
    intro i hi
    unfold lvR
    split
    · exact ⟨rowG_w (h.1 i hi).1 (by decide) (by decide), by simp [updN], by simp [updN]⟩
    · exact ⟨(h.1 i hi).1, rfl, rfl⟩
  refine ⟨fun i hi => ⟨(e i hi).1, (e i hi).2.1.trans (h.1 i hi).2⟩, fun i j hi hj => ?_⟩
  show lvR st (f i) 6 = lvR st (f j) 6 → _
  rw [(e i hi).2.2, (e j hj).2.2]
  exact h.2 i j hi hj
theorem bgR_at {i : Nat} : bgR C i 0 = C 3 i ∧ bgR C i 1 = C 2 i ∧ bgR C i 2 = 0 ∧ bgR C i 5 = 0 ∧ bgR C i 6 = i := ⟨rfl, rfl, rfl, rfl, rfl⟩
theorem okS_bg (hC : okC C) : okS C 0 (bgR C) := by
  refine ⟨fun i hi => ⟨⟨⟨hC.2.2.2.2.2.1 i, hC.2.2.2.2.1 i, by show 0 < 4; decide, by show 0 < 5; decide⟩, fun z => ?_, hi⟩, rfl⟩, fun i j _ _ h => h⟩
  have : (0 : Nat) = 2 := z
  omega
end SEE
