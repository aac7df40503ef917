section CLAIM
variable {X : Nat × (Nat → Int32)} {I I1 I2 : Nat → Nat → Int32} {J : Nat → Int64}
set_option maxRecDepth 100000 in
set_option maxHeartbeats 4000000 in
theorem cells_eq : (objE :: (rs15 (rsF [39, 46, 53, 60, 67, 74, 81, 88, 95, 102, 109, 116, 123, 130]) (rsF [152, 159]) ++ skyL 5 152 ++ skyL 5 159)) ++ modL 166 = mkH I0 J0 shpL 3 := rfl
theorem heap_eq : pmRO X.1 X.2 ++ (objE :: (rs15 nA nS2 ++ skyL 5 152 ++ skyL 5 159)) ++ modL 166 = hp X I0 J0 := by
  unfold hp
  rw [mkH_eq shpL 3, ← cells_eq, actA, sltA, List.append_assoc]
/-! what holds of it -/
theorem i0_sky {a : Nat} (h : isSky a = true) : I0 a = fun k => if k = 3 then -1 else 0 := if_pos h
theorem i0_bal {a i : Nat} (h : isSky a = true) (hi : i < 5) : I0 (bA a i) = enc (fun _ => 0) := by
  have h1 : isSky (bA a i) = false := by
    unfold isSky bA at *
    simp only [Bool.or_eq_true, Bool.and_eq_true, beq_iff_eq, decide_eq_true_eq, Bool.or_eq_false_iff, Bool.and_eq_false_iff, beq_eq_false_iff_ne, decide_eq_false_iff_not] at *
    omega
  have h2 : (23 ≤ bA a i ∧ bA a i < 37) ∨ (39 ≤ bA a i ∧ bA a i < 137) ∨ (152 ≤ bA a i ∧ bA a i < 166) ∨ bA a i = 145 := by
    unfold isSky at h
    unfold bA
    simp only [Bool.or_eq_true, Bool.and_eq_true, beq_iff_eq, decide_eq_true_eq] at h
    omega
  unfold I0
  rw [if_neg (by rw [h1]; decide), if_pos h2]
theorem i0_B {a : Nat} {C : Nat → Nat → Nat} (h : isSky a = true) : skB I0 a C (-1) 0 (fun _ _ => 0) := by
  refine ⟨by rw [i0_sky h]; rfl, by rw [i0_sky h]; rfl, fun _ _ => 0, fun i hi => i0_bal h hi, fun _ _ => rfl⟩
theorem i0_J {a : Nat} (h : isSky a = true) : skJ I0 a := skB_J (C := fun _ _ => 0) (i0_B h)
theorem okC0 : okC (fun _ _ => 0) := ⟨by decide, by decide, by decide, fun _ => Nat.succ_pos _, fun _ => Nat.succ_pos _, fun _ => Nat.succ_pos _, fun _ => Nat.succ_pos _, fun _ => Nat.succ_pos _, fun _ => Nat.succ_pos _, fun _ => Nat.succ_pos _, fun _ _ _ h => absurd h (Nat.not_lt_zero _)⟩
theorem inv0 : inv 0 I0 J0 := by
  refine ⟨(fun _ _ => 0, 0, fun _ _ => 0, 0, fun _ => 0, 0, fun _ => (0, fun _ _ => 0), 0, fun _ => 0, fun _ => 0, 0, fun _ => false, fun _ => (0, fun _ _ => 0)), ?_, ?_, ?_⟩
  · refine ⟨⟨rfl, rfl, rfl, fun _ _ => rfl, fun _ _ => rfl, fun _ _ => rfl, fun _ _ => rfl, fun _ _ => rfl, fun _ _ => rfl, fun _ _ => rfl⟩, i0_B rfl, i0_J rfl, ⟨0, by decide, by decide, rfl, rfl, fun j hj => absurd hj (Nat.not_lt_zero _)⟩, fun i hi => i0_J (act_sky hi), fun k hk => ⟨i0_J (slot_sky hk), rfl, fun w => absurd (show false = true from w) (by decide)⟩, ⟨rfl, fun j hj => absurd hj (Nat.not_lt_zero _)⟩, ⟨rfl, by decide, fun j hj => absurd hj (Nat.not_lt_zero _), fun j hj => absurd hj (Nat.not_lt_zero _), fun j hj => absurd hj (Nat.not_lt_zero _)⟩, ⟨fun _ => 0, rfl⟩, rfl, fun _ _ => 0, ⟨rfl, rfl, rfl, fun _ _ => rfl, fun _ _ => rfl, fun _ _ => rfl, fun _ _ => rfl, fun _ _ => rfl, fun _ _ => rfl, fun _ _ => rfl⟩, ⟨fun _ => Nat.succ_pos _, fun _ => Nat.succ_pos _, fun _ => Nat.succ_pos _, fun _ => Nat.succ_pos _, fun _ => Nat.succ_pos _, fun _ => Nat.succ_pos _, fun _ => Nat.succ_pos _⟩⟩
  · refine ⟨⟨rfl, rfl, rfl, fun j hj => absurd hj (Nat.not_lt_zero _), fun j hj => absurd hj (Nat.not_lt_zero _), fun j hj => absurd hj (Nat.not_lt_zero _), fun j hj => absurd hj (Nat.not_lt_zero _), fun j hj => absurd hj (Nat.not_lt_zero _), fun j hj => absurd hj (Nat.not_lt_zero _)⟩, rfl, ⟨rfl, fun b hb => absurd hb (Nat.not_lt_zero _)⟩, ⟨0, by decide, by decide, rfl, rfl, fun j hj => absurd hj (Nat.not_lt_zero _)⟩, fun k hk => ⟨rfl, fun w => absurd (show false = true from w) (by decide)⟩, ⟨rfl, fun j hj => absurd hj (Nat.not_lt_zero _)⟩, ⟨rfl, by decide, fun j hj => absurd hj (Nat.not_lt_zero _), fun j hj => absurd hj (Nat.not_lt_zero _), fun j hj => absurd hj (Nat.not_lt_zero _)⟩, rfl⟩
  · exact ⟨okC0, ⟨fun i hi => absurd hi (Nat.not_lt_zero _), fun i j hi => absurd hi (Nat.not_lt_zero _)⟩, by omega, ⟨by decide, fun j hj => absurd hj (Nat.not_lt_zero _)⟩, fun j hj => absurd hj (Nat.not_lt_zero _), fun k hk w => absurd (show false = true from w) (by decide), by decide⟩
/-! the room -/
def szS (s : pmShp) : Nat := match s with
  | .inl (ci, _) => pmNF ci
  | .inr (.inl (_, n)) => n
  | .inr (.inr (_, rs)) => rs.length
theorem sz_fill {s : pmShp} {F : Nat → Int32} {j : Int64} : pmSzE (pmFill s F j) = szS s := by
  rcases s with ⟨ci, fs⟩ | ⟨t, n⟩ | ⟨t, rs⟩ <;> rfl
theorem sz_mk : ∀ (ss : List pmShp) (k : Nat), (mkH I J ss k).map pmSzE = ss.map szS
  | [], _ => rfl
  | s :: ss, k => by
    show pmSzE (pmFill s (I k) (J k)) :: (mkH I J ss (k + 1)).map pmSzE = szS s :: ss.map szS
    rw [sz_fill, sz_mk ss (k + 1)]
theorem sz_all : (shpL.map szS).sum ≤ 100000 := by decide +kernel
theorem sz_hp : pmSz (hp X I J) ≤ pmSz (pmRO X.1 X.2) + 7302250 := by
  unfold hp
  rw [mkH_eq shpL 3]
  unfold pmSz
  rw [List.map_append, List.sum_append, sz_mk]
  have := sz_all
  omega
theorem law_start : pmV mL_law 0 [some (.ref 0), none, none, none] [] (pmRO X.1 X.2) = pmV mL_law 18 [some (.ref 0), some (.ref 3), some (.ref 166), some (.int (nI 0))] [] (hp X I0 J0) := by
  rw [eL_law_0, nw, eL_law_3, zDup_a, eL_law_4, show (pmRO X.1 X.2).length = 3 from rfl]
  rw [yv0 (io (fs := pmDef 11) rfl (by show 3 ≤ 3; decide)) (by simp) (by decide) (n_X11 (X := X))]
  have h3 : 3 ≤ (pmRO X.1 X.2 ++ (objE :: (rs15 nA nS2 ++ skyL 5 152 ++ skyL 5 159))).length := by rw [pmRO_len]; omega
  have hL : (pmRO X.1 X.2 ++ (objE :: (rs15 nA nS2 ++ skyL 5 152 ++ skyL 5 159))).length = 166 := by
    rw [pmRO_len, List.length_cons, List.length_append, List.length_append, rl15]
    rfl
  rw [eL_law_7, sA_1a]
  rw [eL_law_8, nw, eL_law_11, zDup_a, eL_law_12]
  rw [yv0 (io (fs := pmDef 12) (lg0.trans rfl) h3) (by simp) (by decide) (n_X12 h3), hL, heap_eq]
  rw [eL_law_15, sA_2a, eL_law_16, zPush_eq, eL_law_17, sI_3a]
theorem pm_claim : pmClaim := by
  intro L xs hL
  obtain ⟨I2, J2, h⟩ := law_l (X := (L, xs)) hL L 0 I0 J0 (by show L ≤ 6 * 0 + L; omega) (by decide) inv0
  refine ⟨hp (L, xs) I2 J2, ?_, by rw [hp_len]; decide, sz_hp⟩
  exact (law_start (X := (L, xs))).trans h
end CLAIM
