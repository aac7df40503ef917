section DOING
variable {X : Nat × (Nat → Int32)} {I : Nat → Nat → Int32} {J : Nat → Int64} {a b t n i w : Nat} {f g : Nat → Nat → Nat} {C : Nat → Nat → Nat} {st : Int32}
theorem okS_ok (hg : ∀ i, i < C 0 1 → g i = f i) (h : okS C t f) : ∀ i, i < C 0 1 → rowOK (g i) := fun i hi => by rw [hg i hi]; exact (h.1 i hi).1.1
theorem okS_G (hg : ∀ i, i < C 0 1 → g i = f i) (h : okS C t f) : ∀ i, i < C 0 1 → rowG C t (g i) := fun i hi => by rw [hg i hi]; exact (h.1 i hi).1
theorem mix_lt {k : Nat} {f' : Nat → Nat → Nat} (h : i < k) : mixF f' f k i = f' i := by simp [mixF, h]
theorem w_take (ha : isSky a = true) (hb : isSky b = true) (hab : a ≠ b) (hc : cty I C) (hC : okC C) (hA : skJ I a) (hB : skB I b C st t f) : ∃ I', pmV mX10_takeFrom 0 (pmEnt 3 [.ref a, .ref b]) [] (hp X I J) = some (none, hp X I' J) ∧ skB I' a C st t f ∧ fr a I I' := by
  obtain ⟨t0, g0, e0⟩ := skJ_el hA
  obtain ⟨h1, h2, g, h3, h4⟩ := hB
  have := v_take (X := X) (J := J) (t := t0) (f := g0) ha hb hab hc.2.1 hC.2.1 h1 h2 h3
  rw [e0] at this
  refine ⟨_, this, skB_in (fun i hi => ?_) (by rw [upR_same]; simp [upd]), fr_trans fr_st fr_skU⟩
  rw [mix_lt hi]
  exact h4 i hi
theorem w_begin (ha : isSky a = true) (hc : cty I C) (hC : okC C) (hA : skJ I a) : ∃ I', pmV mX10_begin 0 (pmEnt 2 [.ref a]) [] (hp X I J) = some (none, hp X I' J) ∧ skB I' a C (-1) 0 (bgR C) ∧ fr a I I' := by
  obtain ⟨t0, g0, e0⟩ := skJ_el hA
  have := v_begin (X := X) (J := J) (t := t0) (f := g0) ha hc hC
  rw [e0] at this
  exact ⟨_, this, skB_in (fun i hi => mix_lt hi) (by rw [upR_same]; simp [upd]), fr_trans fr_st fr_skU⟩
theorem w_leave {s : Int32} (ha : isSky a = true) (hc : cty I C) (hC : okC C) (h : skB I a C st t f) (hS : okS C t f) : ∃ I', pmV mX10_leaveStanding 0 (pmEnt 3 [.ref a, .int s]) [] (hp X I J) = some (none, hp X I' J) ∧ skB I' a C s t (fun i => lvR s (f i)) ∧ fr a I I' := by
  obtain ⟨g, e, hg, h3⟩ := skB_el h
  have h4 := hC.2.2.1
  have := v_leave (X := X) (J := J) (t := t) (f := g) (s := s) ha hc.2.1 hC.2.1 (fun i hi z => by have := ((okS_G hg hS i hi).2.1 z).1; omega)
  rw [e] at this
  refine ⟨_, this, skB_in (fun i hi => ?_) (by rw [upR_same]; simp [upd]), fr_trans fr_st fr_skU⟩
  rw [mix_lt hi, hg i hi]
theorem w_passHourBy (ha : isSky a = true) (hc : cty I C) (hC : okC C) (hw : w < 5) (ht : t < 2000000000) (h : skB I a C st t f) (hS : okS C t f) : ∃ I', pmV mX10_passHourBy 0 (pmEnt 4 [.ref a, .int (nI w)]) [] (hp X I J) = some (some (.int (nI (stepC C st w t f))), hp X I' J) ∧ skB I' a C st (t + 1) (stepF C st w t f) ∧ fr a I I' := by
  obtain ⟨g, e, hg, h3⟩ := skB_el h
  have := v_passHourBy (X := X) (J := J) (t := t) (f := g) ha hc hC hw ht (okS_ok hg hS)
  rw [e, h3, stepC_congr hg] at this
  exact ⟨_, this, skB_in (fun i hi => stepF_pt (hg i hi)) h3, fr_skU⟩
theorem w_passHour (ha : isSky a = true) (hc : cty I C) (hC : okC C) (ht : t < 2000000000) (h : skB I a C st t f) (hS : okS C t f) : ∃ I', pmV mX10_passHour 0 (pmEnt 1 [.ref a]) [] (hp X I J) = some (some (.int (nI (stepC C st (windC C t) t f))), hp X I' J) ∧ skB I' a C st (t + 1) (stepF C st (windC C t) t f) ∧ fr a I I' := by
  obtain ⟨g, e, hg, h3⟩ := skB_el h
  have := v_passHour (X := X) (J := J) (t := t) (f := g) ha hc hC ht (okS_ok hg hS)
  rw [e, h3, stepC_congr hg] at this
  exact ⟨_, this, skB_in (fun i hi => stepF_pt (hg i hi)) h3, fr_skU⟩
theorem w_passHours (ha : isSky a = true) (hc : cty I C) (hC : okC C) (hn : n < 1000000) (ht : t + n < 2000000000) (h : skB I a C st t f) (hS : okS C t f) : ∃ I', pmV mX10_passHours 0 (pmEnt 3 [.ref a, .int (nI n)]) [] (hp X I J) = some (none, hp X I' J) ∧ skB I' a C st (t + n) (runF C st n t f) ∧ fr a I I' := by
  obtain ⟨g, e, hg, h3⟩ := skB_el h
  have := v_passHours (X := X) (J := J) (t := t) (f := g) ha hc hC hn ht (okS_ok hg hS)
  rw [e, h3] at this
  exact ⟨_, this, skB_in (fun i hi => runF_pt n t _ _ (hg i hi)) h3, fr_skU⟩
theorem skB_upd {r r' : Nat → Nat} (hg : ∀ i, i < C 0 1 → g i = f i) (hr : i < C 0 1 → r = r') : ∀ j, j < C 0 1 → updF g i r j = updF f i r' j := by
  intro j hj
  unfold updF
  split
  · rename_i z
    subst z
    exact hr hj
  · exact hg j hj
theorem w_letGo (ha : isSky a = true) (hc : cty I C) (hC : okC C) (h : skB I a C st t f) (hS : okS C t f) (hi : i < C 0 1) : ∃ I', pmV mX10_letGo 0 (pmEnt 2 [.ref a, .int (nI i)]) [] (hp X I J) = some (some (.int (bI (decide (f i 2 = 0)))), hp X I' J) ∧ skB I' a C st t (if f i 2 = 0 then updF f i (updN (f i) 2 1) else f) ∧ fr a I I' := by
  obtain ⟨g, e, hg, h3⟩ := skB_el h
  have := v_letGo (X := X) (J := J) (t := t) (f := g) ha hc.2.1 hC.2.1 hi (okS_ok hg hS i hi).2.2.1
  rw [e, hg i hi] at this
  by_cases z : f i 2 = 0
  · rw [if_pos z] at this ⊢
    rw [decide_eq_true z]
    exact ⟨_, this, skB_in (skB_upd hg (fun _ => rfl)) h3, fr_skU⟩
  · rw [if_neg z] at this ⊢
    rw [decide_eq_false z]
    exact ⟨_, this, h, fr_refl⟩
theorem w_setFree (ha : isSky a = true) (hc : cty I C) (hC : okC C) (h : skB I a C st t f) (hS : okS C t f) (hi : i < C 0 1) : ∃ I', pmV mX10_setFree 0 (pmEnt 2 [.ref a, .int (nI i)]) [] (hp X I J) = some (some (.int (bI (decide (f i 2 = 2)))), hp X I' J) ∧ skB I' a C st t (if f i 2 = 2 then updF f i (updN (f i) 2 1) else f) ∧ fr a I I' := by
  obtain ⟨g, e, hg, h3⟩ := skB_el h
  have := v_setFree (X := X) (J := J) (t := t) (f := g) ha hc.2.1 hC.2.1 hi (okS_ok hg hS i hi).2.2.1
  rw [e, hg i hi] at this
  by_cases z : f i 2 = 2
  · rw [if_pos z] at this ⊢
    rw [decide_eq_true z]
    exact ⟨_, this, skB_in (skB_upd hg (fun _ => rfl)) h3, fr_skU⟩
  · rw [if_neg z] at this ⊢
    rw [decide_eq_false z]
    exact ⟨_, this, h, fr_refl⟩
theorem w_putRight {j : Nat} (ha : isSky a = true) (hc : cty I C) (hC : okC C) (h : skB I a C st t f) (hi : i < C 0 1) (hj : j < C 0 1) (hij : i ≠ j) : ∃ I', pmV mX10_putRight 0 (pmEnt 4 [.ref a, .int (nI i), .int (nI j)]) [] (hp X I J) = some (some (.int (bI true)), hp X I' J) ∧ skB I' a C st t (swF f i j) ∧ fr a I I' := by
  obtain ⟨g, e, hg, h3⟩ := skB_el h
  have := v_putRight (X := X) (J := J) (t := t) (f := g) ha hc.2.1 hC.2.1 hi hj hij
  rw [e] at this
  refine ⟨_, this, skB_in (fun k hk => ?_) h3, fr_skU⟩
  rw [swF_at hij, swF_at hij, hg i hi, hg j hj, hg k hk]
theorem w_putRightNo {x y : Int32} (ha : isSky a = true) (hc : cty I C) (h : skB I a C st t f) (hx : (x < nI 0 ∨ nI (C 0 1) ≤ x) ∨ (y < nI 0 ∨ nI (C 0 1) ≤ y) ∨ x = y) : pmV mX10_putRight 0 (pmEnt 4 [.ref a, .int x, .int y]) [] (hp X I J) = some (some (.int (bI false)), hp X I J) := by
  obtain ⟨g, e, hg, h3⟩ := skB_el h
  have := v_putRightNo (X := X) (J := J) (t := t) (f := g) ha hc.2.1 hx
  rw [e] at this
  exact this
theorem w_letGoNo {x : Int32} (ha : isSky a = true) (hc : cty I C) (h : skB I a C st t f) (hx : x < nI 0 ∨ nI (C 0 1) ≤ x) : pmV mX10_letGo 0 (pmEnt 2 [.ref a, .int x]) [] (hp X I J) = some (some (.int (bI false)), hp X I J) := by
  obtain ⟨g, e, hg, h3⟩ := skB_el h
  have := v_letGoNo (X := X) (J := J) (t := t) (f := g) ha hc.2.1 hx
  rw [e] at this
  exact this
theorem w_setFreeNo {x : Int32} (ha : isSky a = true) (hc : cty I C) (h : skB I a C st t f) (hx : x < nI 0 ∨ nI (C 0 1) ≤ x) : pmV mX10_setFree 0 (pmEnt 2 [.ref a, .int x]) [] (hp X I J) = some (some (.int (bI false)), hp X I J) := by
  obtain ⟨g, e, hg, h3⟩ := skB_el h
  have := v_setFreeNo (X := X) (J := J) (t := t) (f := g) ha hc.2.1 hx
  rw [e] at this
  exact this
theorem w_has {x : Int32} (ha : isSky a = true) (hc : cty I C) (h : skJ I a) : pmV mX10_hasBalloon 0 (pmEnt 2 [.ref a, .int x]) [] (hp X I J) = some (some (.int (bI (decide (¬ x < nI 0 ∧ ¬ nI (C 0 1) ≤ x)))), hp X I J) := by
  obtain ⟨t, g, e⟩ := skJ_el h
  have := v_hasBalloon (X := X) (J := J) (t := t) (f := g) (x := x) ha hc.2.1
  rw [e] at this
  exact this
theorem w_is {v : Nat} (ha : isSky a = true) (hc : cty I C) (hC : okC C) (h : skB I a C st t f) (hS : okS C t f) (hi : i < C 0 1) (hv : v < 10) : pmV mX10_is 0 (pmEnt 3 [.ref a, .int (nI i), .int (nI v)]) [] (hp X I J) = some (some (.int (bI (decide (f i 2 = v)))), hp X I J) := by
  obtain ⟨g, e, hg, h3⟩ := skB_el h
  have := v_is (X := X) (J := J) (t := t) (f := g) (v := v) ha hc.2.1 hC.2.1 hi hv (okS_ok hg hS i hi).2.2.1
  rw [e, hg i hi] at this
  exact this
theorem w_came (ha : isSky a = true) (hc : cty I C) (hC : okC C) (ht : t < 2000000000) (h : skB I a C st t f) (hS : okS C t f) (hi : i < C 0 1) : pmV mX10_isAnswered 0 (pmEnt 2 [.ref a, .int (nI i)]) [] (hp X I J) = some (some (.int (bI (cameC C t (f i)).isSome)), hp X I J) := by
  obtain ⟨g, e, hg, h3⟩ := skB_el h
  have hn := hC.2.1
  have hG := okS_G hg hS i hi
  have := v_isAnswered (X := X) (J := J) (t := t) (f := g) ha hc hC (show i < 5 by omega) ht ⟨hG.1.2.2.1, hG.2.1⟩
  rw [e, hg i hi] at this
  exact this
theorem w_gladdens {c : Nat} (ha : isSky a = true) (hc : cty I C) (hC : okC C) (ht : t < 2000000000) (h : skB I a C st t f) (hS : okS C t f) (hi : i < C 0 1) (hcc : c < 5) : pmV mX10_gladdens 0 (pmEnt 3 [.ref a, .int (nI i), .int (nI c)]) [] (hp X I J) = some (some (.int (bI (decide (cameC C t (f i) = some (C 4 c))))), hp X I J) := by
  obtain ⟨g, e, hg, h3⟩ := skB_el h
  have hn := hC.2.1
  have hG := okS_G hg hS i hi
  have := v_gladdens (X := X) (J := J) (t := t) (f := g) (c := c) ha hc hC (show i < 5 by omega) hcc ht ⟨hG.1.2.2.1, hG.2.1⟩
  rw [e, hg i hi] at this
  exact this
theorem w_all {v : Nat} (ha : isSky a = true) (hc : cty I C) (hC : okC C) (h : skB I a C st t f) (hS : okS C t f) (hv : v < 10) : pmV mX10_allThatAre 0 (pmEnt 4 [.ref a, .int (nI v)]) [] (hp X I J) = some (some (.int (nI (bitsB (fun j => decide (f j 2 = v)) (C 0 1)))), hp X I J) := by
  obtain ⟨g, e, hg, h3⟩ := skB_el h
  have := v_allThatAre (X := X) (J := J) (t := t) (f := g) (v := v) ha hc.2.1 hC.2.1 hv (fun i hi => (okS_ok hg hS i hi).2.2.1)
  rw [e, bitsB_congr (P := fun j => decide (g j 2 = v)) (Q := fun j => decide (f j 2 = v)) _ (fun i hi => by show decide (g i 2 = v) = decide (f i 2 = v); rw [hg i hi])] at this
  exact this
theorem w_caughtIn {v : Nat} (ha : isSky a = true) (hc : cty I C) (hC : okC C) (h : skB I a C st t f) (hS : okS C t f) (hv : v < 10) : pmV mX10_caughtIn 0 (pmEnt 4 [.ref a, .int (nI v)]) [] (hp X I J) = some (some (.int (nI (bitsB (fun j => decide (f j 2 = 2 ∧ f j 3 = v)) (C 0 1)))), hp X I J) := by
  obtain ⟨g, e, hg, h3⟩ := skB_el h
  have h4 := hC.2.2.1
  have := v_caughtIn (X := X) (J := J) (t := t) (f := g) (v := v) ha hc.2.1 hC.2.1 hv (fun i hi z => by have := ((okS_G hg hS i hi).2.1 z).1; omega)
  rw [e, bitsB_congr (P := fun j => decide (g j 2 = 2 ∧ g j 3 = v)) (Q := fun j => decide (f j 2 = 2 ∧ f j 3 = v)) _ (fun i hi => by show decide (g i 2 = 2 ∧ g i 3 = v) = decide (f i 2 = 2 ∧ f i 3 = v); rw [hg i hi])] at this
  exact this
theorem w_answered (ha : isSky a = true) (hc : cty I C) (hC : okC C) (ht : t < 2000000000) (h : skB I a C st t f) (hS : okS C t f) : pmV mX10_answeredBalloons 0 (pmEnt 3 [.ref a]) [] (hp X I J) = some (some (.int (nI (bitsB (fun j => (cameC C t (f j)).isSome) (C 0 1)))), hp X I J) := by
  obtain ⟨g, e, hg, h3⟩ := skB_el h
  have := v_answered (X := X) (J := J) (t := t) (f := g) ha hc hC ht (okS_G hg hS)
  rw [e, bitsB_congr (P := fun j => (cameC C t (g j)).isSome) (Q := fun j => (cameC C t (f j)).isSome) _ (fun i hi => by show (cameC C t (g i)).isSome = (cameC C t (f i)).isSome; rw [hg i hi])] at this
  exact this
theorem w_glad (ha : isSky a = true) (hc : cty I C) (hC : okC C) (ht : t < 2000000000) (h : skB I a C st t f) (hS : okS C t f) : pmV mX10_gladChildren 0 (pmEnt 3 [.ref a]) [] (hp X I J) = some (some (.int (nI (gladB C t f (C 0 1)))), hp X I J) := by
  obtain ⟨g, e, hg, h3⟩ := skB_el h
  have := v_glad (X := X) (J := J) (t := t) (f := g) ha hc hC ht (okS_G hg hS)
  rw [e, gladB_congr _ hg] at this
  exact this
theorem w_isGlad {c : Nat} (ha : isSky a = true) (hc : cty I C) (hC : okC C) (ht : t < 2000000000) (h : skB I a C st t f) (hS : okS C t f) (hcc : c < 32) : pmV mX10_isGlad 0 (pmEnt 2 [.ref a, .int (nI c)]) [] (hp X I J) = some (some (.int (bI (tb (gladB C t f (C 0 1)) c))), hp X I J) := by
  obtain ⟨g, e, hg, h3⟩ := skB_el h
  have := v_isGlad (X := X) (J := J) (t := t) (f := g) (c := c) ha hc hC ht (okS_G hg hS) hcc
  rw [e, gladB_congr _ hg] at this
  exact this
theorem okS_if {p : Prop} [Decidable p] {f' : Nat → Nat → Nat} (h1 : p → okS C t f') (h2 : okS C t f) : okS C t (if p then f' else f) := by
  split
  · exact h1 (by assumption)
  · exact h2
/-- an int within bounds is a number -/
theorem inN {x : Int32} {n : Nat} (hn : n < 2147483648) (h : ¬ x < nI 0 ∧ ¬ nI n ≤ x) : ∃ i, i < n ∧ x = nI i := by
  have h0 : 0 ≤ x.toInt := by
    have := h.1
    rw [Int32.lt_iff_toInt_lt] at this
    have e : (nI 0).toInt = 0 := by decide
    omega
  have hx : x = nI x.toInt.toNat := by
    apply Int32.toInt_inj.mp
    have e2 := Int32.toInt_lt x
    rw [nI_toInt (by omega)]
    omega
  refine ⟨x.toInt.toNat, ?_, hx⟩
  have h2 := h.2
  rw [hx, nI_leI hn (by have := Int32.toInt_lt x; omega)] at h2
  omega
theorem outN {x : Int32} {n : Nat} (h : ¬ (¬ x < nI 0 ∧ ¬ nI n ≤ x)) : x < nI 0 ∨ nI n ≤ x := by
  by_cases z : x < nI 0
  · exact Or.inl z
  · exact Or.inr (Decidable.byContradiction (fun y => h ⟨z, y⟩))
theorem isN {i n : Nat} (hn : n < 2147483648) (h : i < n) : ¬ nI i < nI 0 ∧ ¬ nI n ≤ nI i := by
  rw [nI_ltI (by omega) (by omega), nI_leI hn (by omega)]
  omega
end DOING
