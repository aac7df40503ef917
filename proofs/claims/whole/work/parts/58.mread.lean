section MREAD
variable {X : Nat × (Nat → Int32)} {I I' I1 I2 I3 I5 : Nat → Nat → Int32} {J : Nat → Int64} {a b c t n i w l k v s j x y p mo tk v1 v2 v3 rc q : Nat} {f g F : Nat → Nat → Nat} {C D : Nat → Nat → Nat} {st : Int32} {M : pmM} {nx : Nat} {L : pmL} {S : List Value} {gg : pmH} {T : Nat → Nat} {e : Option Nat}
theorem m_figE (hn : n ≤ 48) (hT : ∀ j, j < n → T j < 256) (ha : a ≤ n) (hq : q ≤ n) (hmo : mo < 10) (h : txM I n T a (some q)) : ∃ I', pmV mX12_figureOf 0 (pmEnt 4 [.ref 166, .int (nI mo)]) [] (hp X I J) = some (some (.int (nI 0)), hp X I' J) ∧ txM I' n T a (some q) ∧ tkI I I' := by
  obtain ⟨I1, g1, g2, g3⟩ := m_fig (X := X) (J := J) hn hT ha (fun r hr => by cases hr; exact hq) hmo h
  obtain ⟨p1, p2⟩ := g2 (fun z => absurd z.1 (by simp))
  exact ⟨I1, p1, p2, g3⟩
theorem frT_e {G H : Nat → Int32} (hF : frT I I5) (hq : q = 174 ∨ q = 175 ∨ q = 176) (hH : ∀ k, k < 13 ∨ k = 17 ∨ k = 18 ∨ 20 < k → H k = I5 166 k) : frT I (upR (upR I5 q G) 166 H) :=
  ⟨fun y a b c d => by rw [upR_ne a, upR_ne (by omega)]; exact hF.1 y a b c d, fun k hk => by rw [upR_same, hH k hk]; exact hF.2 k hk⟩
/-- three letters read: what is left, whatever they were -/
theorem m_three (hn : n ≤ 48) (hT : ∀ j, j < n → T j < 256) (ha : a < n) (h : txM I n T a none) (hq : q = 175 ∨ q = 176) (htk : tk < 1048576) (hmo : mo < 10) : ∃ I1 I3 I5 v1 v2 v3 a' e', v1 < 20 ∧ pmV mX12_cellOf 0 (pmEnt 4 [.ref 166, .int (nI tk)]) [] (hp X (upR I 166 (upd (I 166) 19 (nI (a + 1)))) J) = some (some (.int (nI v1)), hp X I1 J) ∧ pmV mX12_figureOf 0 (pmEnt 4 [.ref 166, .int (nI mo)]) [] (hp X (upR I1 q (upd (I1 q) (3 * b) (nI v1))) J) = some (some (.int (nI v2)), hp X I3 J) ∧ pmV mX12_figureOf 0 (pmEnt 4 [.ref 166, .int (nI 3)]) [] (hp X (upR I3 q (upd (I3 q) (3 * b + 1) (nI v2))) J) = some (some (.int (nI v3)), hp X I5 J) ∧ (∀ k, k ≠ 19 → k ≠ 20 → I1 166 k = I 166 k ∧ I3 166 k = I 166 k ∧ I5 166 k = I 166 k) ∧ frT I I5 ∧ (∀ y, y ≠ 166 → y ≠ q → I5 y = I y) ∧ I5 q = upd (upd (I q) (3 * b) (nI v1)) (3 * b + 1) (nI v2) ∧ txM I5 n T a' e' ∧ ((¬ clC n T tk (a + 1) none ∧ e' = some (a + 1)) ∨ (clC n T tk (a + 1) none ∧ v1 = T (a + 1) - 97 ∧ ((¬ fgC n T mo (a + 2) none ∧ e' = some (a + 2)) ∨ (fgC n T mo (a + 2) none ∧ v2 = T (a + 2) - 48 ∧ ((¬ fgC n T 3 (a + 3) none ∧ e' = some (a + 3)) ∨ (fgC n T 3 (a + 3) none ∧ v3 = T (a + 3) - 48 ∧ e' = none ∧ a' = a + 4)))))) := by
  obtain ⟨I1, g1, g2, g3⟩ := m_cell (X := X) (J := J) (tk := tk) hn hT (show a + 1 ≤ n by omega) noE (by omega) (tx_next h)
  have q6 : 166 ≠ q := by omega
  have hq3 : q = 174 ∨ q = 175 ∨ q = 176 := by omega
  have k1 : ∀ k, k ≠ 19 → k ≠ 20 → I1 166 k = I 166 k := fun k h1 h2 => by rw [g3.2 k h1 h2, upR_same, uN h1]
  have y1 : ∀ y, y ≠ 166 → I1 y = I y := fun y hy => by rw [g3.1 y hy, upR_ne hy]
  have fr1 : frT I I1 := frT_tr (frT_6 (by omega)) (frT_tk g3)
  have rest : ∀ (v1 v2 v3 : Nat) (I3 I5 : Nat → Nat → Int32), tkI (upR I1 q (upd (I1 q) (3 * b) (nI v1))) I3 → tkI (upR I3 q (upd (I3 q) (3 * b + 1) (nI v2))) I5 → (∀ k, k ≠ 19 → k ≠ 20 → I1 166 k = I 166 k ∧ I3 166 k = I 166 k ∧ I5 166 k = I 166 k) ∧ frT I I5 ∧ (∀ y, y ≠ 166 → y ≠ q → I5 y = I y) ∧ I5 q = upd (upd (I q) (3 * b) (nI v1)) (3 * b + 1) (nI v2) := by
    intro v1 v2 v3 I3 I5 t3 t5
    have k3 : ∀ k, k ≠ 19 → k ≠ 20 → I3 166 k = I 166 k := fun k h1 h2 => by rw [t3.2 k h1 h2, upR_ne q6, k1 k h1 h2]
    have k5 : ∀ k, k ≠ 19 → k ≠ 20 → I5 166 k = I 166 k := fun k h1 h2 => by rw [t5.2 k h1 h2, upR_ne q6, k3 k h1 h2]
    refine ⟨fun k h1 h2 => ⟨k1 k h1 h2, k3 k h1 h2, k5 k h1 h2⟩, frT_tr fr1 (frT_tr (frT_u hq3) (frT_tr (frT_tk t3) (frT_tr (frT_u hq3) (frT_tk t5)))), fun y hy hyq => ?_, ?_⟩
    · rw [t5.1 y hy, upR_ne hyq, t3.1 y hy, upR_ne hyq, y1 y hy]
    · rw [t5.1 q (Ne.symm q6), upR_same, t3.1 q (Ne.symm q6), upR_same, y1 q (Ne.symm q6)]
  by_cases z1 : clC n T tk (a + 1) none
  · obtain ⟨p1, x1⟩ := g1 z1
    have l1 := z1.2.1
    have b1 := z1.2.2.2.1
    obtain ⟨I3, m1, m2, t3⟩ := m_fig (X := X) (J := J) (mo := mo) hn hT (show a + 1 + 1 ≤ n by omega) noE hmo (tx_u (q := q) (G := upd (I1 q) (3 * b) (nI (T (a + 1) - 97))) hq3 x1)
    by_cases z2 : fgC n T mo (a + 2) none
    · obtain ⟨p2, x3⟩ := m1 z2
      have l2 := z2.2.1
      obtain ⟨I5, m1', m2', t5⟩ := m_fig (X := X) (J := J) (mo := 3) hn hT (show a + 1 + 1 + 1 ≤ n by omega) noE (by decide) (tx_u (q := q) (G := upd (I3 q) (3 * b + 1) (nI (T (a + 2) - 48))) hq3 x3)
      by_cases z3 : fgC n T 3 (a + 3) none
      · obtain ⟨p3, x5⟩ := m1' z3
        obtain ⟨r1, r2, r3, r4⟩ := rest (T (a + 1) - 97) (T (a + 2) - 48) (T (a + 3) - 48) I3 I5 t3 t5
        exact ⟨I1, I3, I5, _, _, _, a + 4, none, by omega, p1, p2, p3, r1, r2, r3, r4, x5, Or.inr ⟨z1, rfl, Or.inr ⟨z2, rfl, Or.inr ⟨z3, rfl, rfl, rfl⟩⟩⟩⟩
      · obtain ⟨p3, x5⟩ := m2' z3
        obtain ⟨r1, r2, r3, r4⟩ := rest (T (a + 1) - 97) (T (a + 2) - 48) 0 I3 I5 t3 t5
        exact ⟨I1, I3, I5, _, _, _, a + 3, some (a + 3), by omega, p1, p2, p3, r1, r2, r3, r4, x5, Or.inr ⟨z1, rfl, Or.inr ⟨z2, rfl, Or.inl ⟨z3, rfl⟩⟩⟩⟩
    · obtain ⟨p2, x3⟩ := m2 z2
      have x3 : txM I3 n T (a + 2) (some (a + 2)) := x3
      obtain ⟨I5, p3, x5, t5⟩ := m_figE (X := X) (J := J) (mo := 3) hn hT (show a + 2 ≤ n by omega) (show a + 2 ≤ n by omega) (by decide) (tx_u (q := q) (G := upd (I3 q) (3 * b + 1) (nI 0)) hq3 x3)
      obtain ⟨r1, r2, r3, r4⟩ := rest (T (a + 1) - 97) 0 0 I3 I5 t3 t5
      exact ⟨I1, I3, I5, _, _, _, a + 2, some (a + 2), by omega, p1, p2, p3, r1, r2, r3, r4, x5, Or.inr ⟨z1, rfl, Or.inl ⟨z2, rfl⟩⟩⟩
  · obtain ⟨p1, x1⟩ := g2 z1
    have x1 : txM I1 n T (a + 1) (some (a + 1)) := x1
    obtain ⟨I3, p2, x3, t3⟩ := m_figE (X := X) (J := J) (mo := mo) hn hT (show a + 1 ≤ n by omega) (show a + 1 ≤ n by omega) hmo (tx_u (q := q) (G := upd (I1 q) (3 * b) (nI 0)) hq3 x1)
    obtain ⟨I5, p3, x5, t5⟩ := m_figE (X := X) (J := J) (mo := 3) hn hT (show a + 1 ≤ n by omega) (show a + 1 ≤ n by omega) (by decide) (tx_u (q := q) (G := upd (I3 q) (3 * b + 1) (nI 0)) hq3 x3)
    obtain ⟨r1, r2, r3, r4⟩ := rest 0 0 0 I3 I5 t3 t5
    exact ⟨I1, I3, I5, _, _, _, a + 1, some (a + 1), by omega, p1, p2, p3, r1, r2, r3, r4, x5, Or.inl ⟨z1, rfl⟩⟩
theorem tb_0 : tb 0 v = false := by simp [tb]
set_option maxHeartbeats 1000000 in
theorem m_partB (hn : n ≤ 48) (hT : ∀ j, j < n → T j < 256) (ha : a < n) (h : txM I n T a none) (hD : rcM I D) (hI : rdI 1 0 D) (hl : T a = 66) (h5 : D 0 1 < 5) : ∃ I', pmV mX12_readPart 0 (pmEnt 2 [.ref 166, .int (nI (T a))]) [] (hp X I J) = some (none, hp X I' J) ∧ frT I I' ∧ ptR n T a D I' := by
  obtain ⟨I1, I3, I5, v1, v2, v3, a', e', hv1, p1, p2, p3, hk, hfr, hy, h175, x5, hcase⟩ := m_three (X := X) (J := J) (q := 175) (b := D 0 1) (tk := 0) (mo := 3) hn hT ha h (Or.inl rfl) (by decide) (by decide)
  have q1 : rdT 1 0 D (T a) = some (66, 0, D) := by rw [hl]; simp [rdT, h5]
  have e14 := hD.2.1
  obtain ⟨f1, f3, f5⟩ := hk 14 (by decide) (by decide)
  rw [e14] at f1 f3 f5
  have run := m_runB h.2.2.1 hD.1 hI.1 e14 h5 p1 f1 p2 f3 p3 f5
  rw [hl]
  refine ⟨_, run, frT_e hfr (Or.inr (Or.inl rfl)) (fun k hk' => uN (by omega)), ?_⟩
  have e20 : (upR (upR I5 175 (upd (I5 175) (3 * D 0 1 + 2) (nI v3))) 166 (upd (I5 166) 14 (nI (D 0 1 + 1)))) 166 20 = opI e' := by
    rw [upR_same, uN (by decide)]
    exact x5.2.2.2
  rcases hcase with ⟨z1, rfl⟩ | ⟨z1, rfl, hcase⟩
  · refine Or.inl ⟨a + 1, ?_, by omega, e20⟩
    rw [rd_st ha q1]
    refine rd_f (by omega) (by decide) (fun hlt => ?_)
    unfold rdT
    rw [if_neg (by decide), if_neg (by decide), if_neg (by decide), if_pos rfl, if_pos rfl, if_neg (fun u => z1 ⟨rfl, hlt, u.1, u.2, tb_0⟩)]
  have l1 := z1.2.1
  have q2 : rdT 66 0 D (T (a + 1)) = some (66, 1, setC D 2 (D 0 1) (T (a + 1) - 97)) := by
    unfold rdT
    rw [if_neg (by decide), if_neg (by decide), if_neg (by decide), if_pos rfl, if_pos rfl, if_pos ⟨z1.2.2.1, z1.2.2.2.1⟩]
  have d1 : setC D 2 (D 0 1) (T (a + 1) - 97) 0 1 = D 0 1 := setC_a (by decide)
  rcases hcase with ⟨z2, rfl⟩ | ⟨z2, rfl, hcase⟩
  · refine Or.inl ⟨a + 2, ?_, by omega, e20⟩
    rw [rd_st ha q1, rd_st l1 q2]
    refine rd_f (by omega) (by decide) (fun hlt => ?_)
    unfold rdT
    rw [if_neg (by decide), if_neg (by decide), if_neg (by decide), if_pos rfl, if_neg (by decide), if_pos rfl, if_neg (fun u => z2 ⟨rfl, hlt, u.1, u.2⟩)]
  have l2 := z2.2.1
  have q3 : rdT 66 1 (setC D 2 (D 0 1) (T (a + 1) - 97)) (T (a + 2)) = some (66, 2, setC (setC D 2 (D 0 1) (T (a + 1) - 97)) 3 (D 0 1) (T (a + 2) - 48)) := by
    unfold rdT
    rw [if_neg (by decide), if_neg (by decide), if_neg (by decide), if_pos rfl, if_neg (by decide), if_pos rfl, if_pos ⟨z2.2.2.1, z2.2.2.2⟩, d1]
  have d2 : setC (setC D 2 (D 0 1) (T (a + 1) - 97)) 3 (D 0 1) (T (a + 2) - 48) 0 1 = D 0 1 := by rw [setC_a (by decide), d1]
  rcases hcase with ⟨z3, rfl⟩ | ⟨z3, rfl, rfl, rfl⟩
  · refine Or.inl ⟨a + 3, ?_, by omega, e20⟩
    rw [rd_st ha q1, rd_st l1 q2, rd_st l2 q3]
    refine rd_f (by omega) (by decide) (fun hlt => ?_)
    unfold rdT
    rw [if_neg (by decide), if_neg (by decide), if_neg (by decide), if_pos rfl, if_neg (by decide), if_neg (by decide), if_neg (fun u => z3 ⟨rfl, hlt, u.1, u.2⟩)]
  have l3 := z3.2.1
  have q4 : rdT 66 2 (setC (setC D 2 (D 0 1) (T (a + 1) - 97)) 3 (D 0 1) (T (a + 2) - 48)) (T (a + 3)) = some (1, 0, setC (setC (setC (setC D 2 (D 0 1) (T (a + 1) - 97)) 3 (D 0 1) (T (a + 2) - 48)) 4 (D 0 1) (T (a + 3) - 48)) 0 1 (D 0 1 + 1)) := by
    unfold rdT
    rw [if_neg (by decide), if_neg (by decide), if_neg (by decide), if_pos rfl, if_neg (by decide), if_neg (by decide), if_pos ⟨z3.2.2.1, z3.2.2.2⟩, d2]
  refine Or.inr ⟨a + 4, _, by omega, by omega, ((rd_st ha q1).trans (rd_st l1 q2)).trans ((rd_st l2 q3).trans (rd_st l3 q4)), ?_, e20, ?_, rdI_ok (rdI_ok (rdI_ok (rdI_ok hI q1) q2) q3) q4⟩
  · rw [upR_same, uN (by decide)]
    exact x5.2.2.1
  · obtain ⟨r1, r2, r3, r4, r5, r6, rc, r7, r8, r9⟩ := hD
    have kk : ∀ k, k ≠ 19 → k ≠ 20 → k ≠ 14 → (upR (upR I5 175 (upd (I5 175) (3 * D 0 1 + 2) (nI (T (a + 3) - 48)))) 166 (upd (I5 166) 14 (nI (D 0 1 + 1)))) 166 k = I 166 k := fun k k1 k2 k3 => by rw [upR_same, uN k3, (hk k k1 k2).2.2]
    have e174 : (upR (upR I5 175 (upd (I5 175) (3 * D 0 1 + 2) (nI (T (a + 3) - 48)))) 166 (upd (I5 166) 14 (nI (D 0 1 + 1)))) 174 = I 174 := by rw [upR_ne (by decide), upR_ne (by decide), hy 174 (by decide) (by decide)]
    have e176 : (upR (upR I5 175 (upd (I5 175) (3 * D 0 1 + 2) (nI (T (a + 3) - 48)))) 166 (upd (I5 166) 14 (nI (D 0 1 + 1)))) 176 = I 176 := by rw [upR_ne (by decide), upR_ne (by decide), hy 176 (by decide) (by decide)]
    have e175 : (upR (upR I5 175 (upd (I5 175) (3 * D 0 1 + 2) (nI (T (a + 3) - 48)))) 166 (upd (I5 166) 14 (nI (D 0 1 + 1)))) 175 = upd (upd (upd (I 175) (3 * D 0 1) (nI (T (a + 1) - 97))) (3 * D 0 1 + 1) (nI (T (a + 2) - 48))) (3 * D 0 1 + 2) (nI (T (a + 3) - 48)) := by rw [upR_ne (by decide), upR_same, h175]
    have e14' : (upR (upR I5 175 (upd (I5 175) (3 * D 0 1 + 2) (nI (T (a + 3) - 48)))) 166 (upd (I5 166) 14 (nI (D 0 1 + 1)))) 166 14 = nI (D 0 1 + 1) := by rw [upR_same, uS]
    unfold rcM
    rw [kk 13 (by decide) (by decide) (by decide), kk 15 (by decide) (by decide) (by decide), kk 16 (by decide) (by decide) (by decide), e14', e174, e175, e176]
    refine ⟨by simp [setC, r1], by simp [setC], by simp [setC, r3], fun j hj => ?_, fun j hj => ?_, fun j hj => ?_, rc, r7, r8, fun v hv => ?_⟩
    · have := r4 j (by simpa [setC] using hj)
      simpa [setC] using this
    · have hj' : j < D 0 1 + 1 := by simpa [setC] using hj
      obtain ⟨u1, u2, u3, u4⟩ := tri (G := I 175) (b := D 0 1) (x1 := nI (T (a + 1) - 97)) (x2 := nI (T (a + 2) - 48)) (x3 := nI (T (a + 3) - 48))
      by_cases u : j = D 0 1
      · subst u
        rw [u1, u2, u3]
        simp [setC]
      · obtain ⟨w1, w2, w3⟩ := u4 j u
        rw [w1, w2, w3]
        have := r5 j (by omega)
        simpa [setC, u] using this
    · have := r6 j (by simpa [setC] using hj)
      simpa [setC] using this
    · have := r9 v hv
      simpa [setC] using this
theorem hg_tb (h9 : ∀ v, v < 20 → (tb rc v = true ↔ ∃ j, j < D 0 2 ∧ D 5 j = v)) (hv : v < 20) : tb rc v = false ↔ hgA (fun j => decide (D 5 j = v)) (D 0 2) 0 = none := by
  constructor
  · intro z
    cases u : hgA (fun j => decide (D 5 j = v)) (D 0 2) 0 with
    | none => rfl
    | some j =>
      obtain ⟨u1, u2, u3⟩ := hgA_lt u
      have := (h9 v hv).mpr ⟨j, by omega, of_decide_eq_true u3⟩
      rw [z] at this
      cases this
  · intro z
    cases u : tb rc v with
    | false => rfl
    | true =>
      obtain ⟨j, j1, j2⟩ := (h9 v hv).mp u
      have := hgA_none _ _ z j (by omega) (by omega)
      simp [j2] at this
set_option maxHeartbeats 1000000 in
theorem m_partH (hn : n ≤ 48) (hT : ∀ j, j < n → T j < 256) (ha : a < n) (h : txM I n T a none) (hD : rcM I D) (hI : rdI 1 0 D) (hl : T a = 72) (h5 : D 0 2 < 4) : ∃ I', pmV mX12_readPart 0 (pmEnt 2 [.ref 166, .int (nI (T a))]) [] (hp X I J) = some (none, hp X I' J) ∧ frT I I' ∧ ptR n T a D I' := by
  obtain ⟨r1, r2, r3, r4, r5, r6, rc, r7, r8, r9⟩ := id hD
  obtain ⟨I1, I3, I5, v1, v2, v3, a', e', hv1, p1, p2, p3, hk, hfr, hy, h176, x5, hcase⟩ := m_three (X := X) (J := J) (q := 176) (b := D 0 2) (tk := rc) (mo := 9) hn hT ha h (Or.inr rfl) r7 (by decide)
  have q1 : rdT 1 0 D (T a) = some (72, 0, D) := by rw [hl]; simp [rdT, h5]
  obtain ⟨f1, f3, f5⟩ := hk 15 (by decide) (by decide)
  rw [r3] at f1 f3 f5
  have g5 := (hk 16 (by decide) (by decide)).2.2
  rw [r8] at g5
  have h5' : I5 176 (3 * D 0 2) = nI v1 := by rw [h176, uN (by omega), uS]
  have run := m_runH h.2.2.1 r1 hI.1 r2 hI.2.1 r3 h5 r8 p1 f1 p2 f3 p3 f5 g5 h5' hv1
  rw [hl]
  refine ⟨_, run, frT_e hfr (Or.inr (Or.inr rfl)) (fun k hk' => by rw [uN (by omega), uN (by omega)]), ?_⟩
  have e20 : (upR (upR I5 176 (upd (I5 176) (3 * D 0 2 + 2) (nI v3))) 166 (upd (upd (I5 166) 16 (nI (rc ||| 2 ^ v1))) 15 (nI (D 0 2 + 1)))) 166 20 = opI e' := by
    rw [upR_same, uN (by decide), uN (by decide)]
    exact x5.2.2.2
  rcases hcase with ⟨z1, rfl⟩ | ⟨z1, rfl, hcase⟩
  · refine Or.inl ⟨a + 1, ?_, by omega, e20⟩
    rw [rd_st ha q1]
    refine rd_f (by omega) (by decide) (fun hlt => ?_)
    unfold rdT
    rw [if_neg (by decide), if_neg (by decide), if_neg (by decide), if_neg (by decide), if_pos rfl, if_neg (fun u => z1 ⟨rfl, hlt, u.1, u.2.1, (hg_tb r9 (by omega)).mpr u.2.2⟩)]
  have l1 := z1.2.1
  have b1 := z1.2.2.2.1
  have q2 : rdT 72 0 D (T (a + 1)) = some (72, 1, setC D 5 (D 0 2) (T (a + 1) - 97)) := by
    unfold rdT
    rw [if_neg (by decide), if_neg (by decide), if_neg (by decide), if_neg (by decide), if_pos rfl, if_pos ⟨z1.2.2.1, z1.2.2.2.1, (hg_tb r9 (by omega)).mp z1.2.2.2.2⟩]
  have d1 : setC D 5 (D 0 2) (T (a + 1) - 97) 0 2 = D 0 2 := setC_a (by decide)
  rcases hcase with ⟨z2, rfl⟩ | ⟨z2, rfl, hcase⟩
  · refine Or.inl ⟨a + 2, ?_, by omega, e20⟩
    rw [rd_st ha q1, rd_st l1 q2]
    refine rd_f (by omega) (by decide) (fun hlt => ?_)
    unfold rdT
    rw [if_neg (by decide), if_neg (by decide), if_neg (by decide), if_neg (by decide), if_neg (by decide), if_pos rfl, if_neg (fun u => z2 ⟨rfl, hlt, u.1, u.2⟩)]
  have l2 := z2.2.1
  have q3 : rdT 72 1 (setC D 5 (D 0 2) (T (a + 1) - 97)) (T (a + 2)) = some (72, 2, setC (setC D 5 (D 0 2) (T (a + 1) - 97)) 6 (D 0 2) (T (a + 2) - 48)) := by
    unfold rdT
    rw [if_neg (by decide), if_neg (by decide), if_neg (by decide), if_neg (by decide), if_neg (by decide), if_pos rfl, if_pos ⟨z2.2.2.1, z2.2.2.2⟩, d1]
  have d2 : setC (setC D 5 (D 0 2) (T (a + 1) - 97)) 6 (D 0 2) (T (a + 2) - 48) 0 2 = D 0 2 := by rw [setC_a (by decide), d1]
  rcases hcase with ⟨z3, rfl⟩ | ⟨z3, rfl, rfl, rfl⟩
  · refine Or.inl ⟨a + 3, ?_, by omega, e20⟩
    rw [rd_st ha q1, rd_st l1 q2, rd_st l2 q3]
    refine rd_f (by omega) (by decide) (fun hlt => ?_)
    unfold rdT
    rw [if_neg (by decide), if_neg (by decide), if_neg (by decide), if_neg (by decide), if_neg (by decide), if_neg (by decide), if_neg (fun u => z3 ⟨rfl, hlt, u.1, u.2⟩)]
  have l3 := z3.2.1
  have q4 : rdT 72 2 (setC (setC D 5 (D 0 2) (T (a + 1) - 97)) 6 (D 0 2) (T (a + 2) - 48)) (T (a + 3)) = some (1, 0, setC (setC (setC (setC D 5 (D 0 2) (T (a + 1) - 97)) 6 (D 0 2) (T (a + 2) - 48)) 7 (D 0 2) (T (a + 3) - 48)) 0 2 (D 0 2 + 1)) := by
    unfold rdT
    rw [if_neg (by decide), if_neg (by decide), if_neg (by decide), if_neg (by decide), if_neg (by decide), if_neg (by decide), if_pos ⟨z3.2.2.1, z3.2.2.2⟩, d2]
  refine Or.inr ⟨a + 4, _, by omega, by omega, ((rd_st ha q1).trans (rd_st l1 q2)).trans ((rd_st l2 q3).trans (rd_st l3 q4)), ?_, e20, ?_, rdI_ok (rdI_ok (rdI_ok (rdI_ok hI q1) q2) q3) q4⟩
  · rw [upR_same, uN (by decide), uN (by decide)]
    exact x5.2.2.1
  · generalize hG : (upR (upR I5 176 (upd (I5 176) (3 * D 0 2 + 2) (nI (T (a + 3) - 48)))) 166 (upd (upd (I5 166) 16 (nI (rc ||| 2 ^ (T (a + 1) - 97)))) 15 (nI (D 0 2 + 1)))) = G
    have kk : ∀ k, k ≠ 19 → k ≠ 20 → k ≠ 15 → k ≠ 16 → G 166 k = I 166 k := fun k k1 k2 k3 k4 => by rw [← hG, upR_same, uN k3, uN k4, (hk k k1 k2).2.2]
    have e174 : G 174 = I 174 := by rw [← hG, upR_ne (by decide), upR_ne (by decide), hy 174 (by decide) (by decide)]
    have e175 : G 175 = I 175 := by rw [← hG, upR_ne (by decide), upR_ne (by decide), hy 175 (by decide) (by decide)]
    have e176 : G 176 = upd (upd (upd (I 176) (3 * D 0 2) (nI (T (a + 1) - 97))) (3 * D 0 2 + 1) (nI (T (a + 2) - 48))) (3 * D 0 2 + 2) (nI (T (a + 3) - 48)) := by rw [← hG, upR_ne (by decide), upR_same, h176]
    have e15' : G 166 15 = nI (D 0 2 + 1) := by rw [← hG, upR_same, uS]
    have e16' : G 166 16 = nI (rc ||| 2 ^ (T (a + 1) - 97)) := by rw [← hG, upR_same, uN (by decide), uS]
    unfold rcM
    rw [kk 13 (by decide) (by decide) (by decide) (by decide), kk 14 (by decide) (by decide) (by decide) (by decide), e15', e16', e174, e175, e176]
    refine ⟨by simp [setC, r1], by simp [setC, r2], by simp [setC], fun j hj => ?_, fun j hj => ?_, fun j hj => ?_, rc ||| 2 ^ (T (a + 1) - 97), ?_, rfl, fun v hv => ?_⟩
    · have := r4 j (by simpa [setC] using hj)
      simpa [setC] using this
    · have := r5 j (by simpa [setC] using hj)
      simpa [setC] using this
    · have hj' : j < D 0 2 + 1 := by simpa [setC] using hj
      obtain ⟨u1, u2, u3, u4⟩ := tri (G := I 176) (b := D 0 2) (x1 := nI (T (a + 1) - 97)) (x2 := nI (T (a + 2) - 48)) (x3 := nI (T (a + 3) - 48))
      by_cases u : j = D 0 2
      · subst u
        rw [u1, u2, u3]
        simp [setC]
      · obtain ⟨w1, w2, w3⟩ := u4 j u
        rw [w1, w2, w3]
        have := r6 j (by omega)
        simpa [setC, u] using this
    · exact Nat.or_lt_two_pow (n := 20) r7 (Nat.pow_lt_pow_right (by decide) (by omega))
    · rw [tb_or, Bool.or_eq_true, r9 v hv]
      have e5 : ∀ j, setC (setC (setC (setC D 5 (D 0 2) (T (a + 1) - 97)) 6 (D 0 2) (T (a + 2) - 48)) 7 (D 0 2) (T (a + 3) - 48)) 0 2 (D 0 2 + 1) 5 j = if j = D 0 2 then T (a + 1) - 97 else D 5 j := fun j => by simp [setC]
      have e02 : setC (setC (setC (setC D 5 (D 0 2) (T (a + 1) - 97)) 6 (D 0 2) (T (a + 2) - 48)) 7 (D 0 2) (T (a + 3) - 48)) 0 2 (D 0 2 + 1) 0 2 = D 0 2 + 1 := by simp [setC]
      rw [e02]
      constructor
      · rintro (⟨j, j1, j2⟩ | z)
        · exact ⟨j, by omega, by rw [e5, if_neg (by omega)]; exact j2⟩
        · exact ⟨D 0 2, by omega, by rw [e5, if_pos rfl]; exact of_decide_eq_true z⟩
      · rintro ⟨j, j1, j2⟩
        rw [e5] at j2
        by_cases u : j = D 0 2
        · rw [if_pos u] at j2
          exact Or.inr (decide_eq_true j2)
        · rw [if_neg u] at j2
          exact Or.inl ⟨j, by omega, j2⟩
theorem m_part (hn : n ≤ 48) (hT : ∀ j, j < n → T j < 256) (ha : a < n) (h : txM I n T a none) (hD : rcM I D) (hI : rdI 1 0 D) : ∃ I', pmV mX12_readPart 0 (pmEnt 2 [.ref 166, .int (nI (T a))]) [] (hp X I J) = some (none, hp X I' J) ∧ frT I I' ∧ ptR n T a D I' := by
  cases hr : rdT 1 0 D (T a) with
  | none => exact m_partN ha h hD hI (hT a ha) hr
  | some q =>
    unfold rdT at hr
    rw [if_neg (by decide), if_pos rfl] at hr
    by_cases z1 : T a = 87
    · by_cases u : D 0 0 < 4
      · exact m_partW hn hT ha h hD hI z1 u
      · rw [if_pos z1, if_neg u] at hr
        cases hr
    rw [if_neg z1] at hr
    by_cases z2 : T a = 66
    · by_cases u : D 0 1 < 5
      · exact m_partB hn hT ha h hD hI z2 u
      · rw [if_pos z2, if_neg u] at hr
        cases hr
    rw [if_neg z2] at hr
    by_cases z3 : T a = 72
    · by_cases u : D 0 2 < 4
      · exact m_partH hn hT ha h hD hI z3 u
      · rw [if_pos z3, if_neg u] at hr
        cases hr
    rw [if_neg z3] at hr
    cases hr
theorem tx_fr (h : frT I I') (hx : I' 166 19 = nI i) (hy : I' 166 20 = opI e) (ht : txM I n T a e) : txM I' n T i e := by
  obtain ⟨h1, h2, -, -⟩ := ht
  exact ⟨by rw [h.2 18 (by omega)]; exact h1, by rw [h.1 177 (by decide) (by decide) (by decide) (by decide)]; exact h2, hx, hy⟩
theorem m_rdW (hn : n ≤ 48) (hT : ∀ j, j < n → T j < 256) : ∀ (q a : Nat) (D : Nat → Nat → Nat) (I : Nat → Nat → Int32), n - a ≤ q → a ≤ n → txM I n T a none → rcM I D → rdI 1 0 D → ∃ I', pmV mX12_readText 56 [some (.ref 166)] [] (hp X I J) = some (some (.int (opI (rdL n T (n - a) a 1 0 D).1)), hp X I' J) ∧ frT I I' ∧ ((rdL n T (n - a) a 1 0 D).1 = none → rcM I' (rdL n T (n - a) a 1 0 D).2) := by
  intro q
  induction q with
  | zero =>
    intro a D I hq ha h hD hI
    obtain rfl : a = n := by omega
    have e19 := h.2.2.1
    have e18 := h.1
    have e20 : I 166 20 = -9 := h.2.2.2
    refine ⟨I, ?_, frT_refl, ?_⟩
    · rw [eX12_readText_56, show a - a = 0 by omega]
      simp only [rdL, if_true, opI]
      (have q_3 := o_3; have q_5 := o_5; have q_13 := o_13; have q_14 := o_14; have q_15 := o_15; have q_23 := o_23; have q_30 := o_30; have q_37 := o_37; have q_139 := o_139; have q_140 := o_140; have q_142 := o_142; have q_145 := o_145; have q_146 := o_146; have q_148 := o_148; have q_151 := o_151; have q_152 := o_152; have q_159 := o_159; have q_166 := o_166; simp (config := { decide := true }) (disch := first | assumption | omega) only [zPush_eq, zNx_eq, zAdd_eq, zSub_eq, zMul_eq, zAnd_eq, zOr_eq, zXor_eq, zShl_eq, zShr_eq, zUshr_eq, zJAdd_eq, zJSub_eq, zJMul_eq, zJAnd_eq, zJOr_eq, zJShl_eq, zJUshr_eq, zNeg_eq, zI2l_eq, zL2i_eq, zLcmp_eq, zDup_i, zDup_a, zDup2_ia, zPop_i, zBeq_eq, zBne_eq, zBlt_eq, zBge_eq, zBgt_eq, zBle_eq, zCeq_eq, zCne_eq, zClt_eq, zCge_eq, zCgt_eq, zCle_eq, zVret_eq, zLret_eq, kb_v, kb_n, ite_not, if_true, if_false, lI_0, lJ_0, lA_0, lI_1, lJ_1, lA_1, lI_2, lJ_2, lA_2, lI_3, lJ_3, lA_3, lI_4, lJ_4, lA_4, lI_5, lJ_5, lA_5, lI_6, lJ_6, lA_6, lI_7, lJ_7, lA_7, lI_8, lJ_8, lA_8, lI_9, lJ_9, lA_9, lI_10, lJ_10, lA_10, lI_11, lJ_11, lA_11, sI_0, sA_0, sJ_0, iI_0, sI_1n, sA_1n, sJ_1n, iI_1n, sI_1i, sA_1i, sJ_1i, iI_1i, sI_1a, sA_1a, sJ_1a, iI_1a, sI_2n, sA_2n, sJ_2n, iI_2n, sI_2i, sA_2i, sJ_2i, iI_2i, sI_2a, sA_2a, sJ_2a, iI_2a, sI_3n, sA_3n, sJ_3n, iI_3n, sI_3i, sA_3i, sJ_3i, iI_3i, sI_3a, sA_3a, sJ_3a, iI_3a, sI_4n, sA_4n, sJ_4n, iI_4n, sI_4i, sA_4i, sJ_4i, iI_4i, sI_4a, sA_4a, sJ_4a, iI_4a, sI_5n, sA_5n, sJ_5n, iI_5n, sI_5i, sA_5i, sJ_5i, iI_5i, sI_5a, sA_5a, sJ_5a, iI_5a, sI_6n, sA_6n, sJ_6n, iI_6n, sI_6i, sA_6i, sJ_6i, iI_6i, sI_6a, sA_6a, sJ_6a, iI_6a, sI_7n, sA_7n, sJ_7n, iI_7n, sI_7i, sA_7i, sJ_7i, iI_7i, sI_7a, sA_7a, sJ_7a, iI_7a, sI_8n, sA_8n, sJ_8n, iI_8n, sI_8i, sA_8i, sJ_8i, iI_8i, sI_8a, sA_8a, sJ_8a, iI_8a, sI_9n, sA_9n, sJ_9n, iI_9n, sI_9i, sA_9i, sJ_9i, iI_9i, sI_9a, sA_9a, sJ_9a, iI_9a, sI_10n, sA_10n, sJ_10n, iI_10n, sI_10i, sA_10i, sJ_10i, iI_10i, sI_10a, sA_10a, sJ_10a, iI_10a, sI_11n, sA_11n, sJ_11n, iI_11n, sI_11i, sA_11i, sJ_11i, iI_11i, sI_11a, sA_11a, sJ_11a, iI_11a, kV_0_0, kV_0_1, kV_0_2, kV_0_3, kV_0_4, kV_1_0, kV_1_1, kV_1_2, kV_1_3, kV_1_4, kV_1a_0, kV_1a_1, kV_1a_2, kV_1a_3, kV_1a_4, kV_2_0, kV_2_1, kV_2_2, kV_2_3, kV_2_4, kV_2a_0, kV_2a_1, kV_2a_2, kV_2a_3, kV_2a_4, kV_2j_0, kV_2j_1, kV_2j_2, kV_2j_3, kV_2j_4, kV_1j_0, kV_1j_1, kV_1j_2, kV_1j_3, kV_1j_4, kV_3_0, kV_3_1, kV_3_2, kV_3_3, kV_3_4, kV_4_0, kV_4_1, kV_4_2, kV_4_3, kV_4_4, kV_5_0, kV_5_1, kV_5_2, kV_5_3, kV_5_4, kS_1_0, kS_1_1, kS_1_2, kS_1_3, kS_1_4, kS_2_0, kS_2_1, kS_2_2, kS_2_3, kS_2_4, kS_3_0, kS_3_1, kS_3_2, kS_3_3, kS_3_4, kS_3j_0, kS_3j_1, kS_3j_2, kS_3j_3, kS_3j_4, eX12_readText_0, eX12_readText_1, eX12_readText_2, eX12_readText_5, eX12_readText_6, eX12_readText_8, eX12_readText_11, eX12_readText_12, eX12_readText_13, eX12_readText_16, eX12_readText_17, eX12_readText_18, eX12_readText_21, eX12_readText_22, eX12_readText_23, eX12_readText_26, eX12_readText_27, eX12_readText_28, eX12_readText_31, eX12_readText_32, eX12_readText_35, eX12_readText_38, eX12_readText_39, eX12_readText_42, eX12_readText_43, eX12_readText_44, eX12_readText_46, eX12_readText_49, eX12_readText_50, eX12_readText_51, eX12_readText_52, eX12_readText_53, eX12_readText_57, eX12_readText_60, eX12_readText_62, eX12_readText_65, eX12_readText_66, eX12_readText_69, eX12_readText_70, eX12_readText_73, eX12_readText_76, eX12_readText_77, eX12_readText_78, eX12_readText_81, eX12_readText_82, eX12_readText_85, eX12_readText_86, eX12_readText_89, eX12_readText_92, eX12_readText_93, eX12_readText_96, rX12_readText, zGet_i, zPut_i, up, upR_same, upR_upR, nI_add, pk_mul, nsub, ndiv, nlt, nle, neq, uS, uN, g_3_0, f_3_1, p_3_1, g_3_2, g_3_3, g_3_4, g_3_5, g_3_6, g_3_7, g_3_8, g_3_9, g_3_10, g_3_11, g_3_12, g_3_13, g_3_14, g_3_15, g_5_0, g_5_1, g_5_2, g_5_3, g_5_4, g_5_5, g_5_6, f_5_7, p_5_7, f_5_8, p_5_8, f_5_9, p_5_9, g_13_0, f_13_1, p_13_1, f_13_2, p_13_2, g_14_0, f_14_1, p_14_1, f_14_2, p_14_2, g_15_0, g_15_1, g_15_2, g_15_3, g_15_4, g_15_5, g_15_6, f_15_7, p_15_7, f_15_8, p_15_8, f_15_9, p_15_9, g_23_0, g_23_1, f_23_2, p_23_2, f_23_3, p_23_3, g_30_0, g_30_1, f_30_2, p_30_2, f_30_3, p_30_3, g_37_0, f_37_1, p_37_1, f_37_2, p_37_2, g_139_0, g_139_1, g_140_0, g_140_1, f_140_2, p_140_2, f_140_3, p_140_3, g_142_0, g_142_1, g_142_2, g_142_3, f_142_4, p_142_4, f_145_0, p_145_0, f_145_1, p_145_1, f_145_2, p_145_2, f_145_3, p_145_3, f_145_4, p_145_4, f_145_5, p_145_5, f_145_6, p_145_6, g_146_0, g_146_1, g_146_2, g_148_0, g_148_1, g_148_2, g_148_3, g_151_0, g_151_1, f_151_2, p_151_2, g_152_0, g_152_1, f_152_2, p_152_2, f_152_3, p_152_3, g_159_0, g_159_1, f_159_2, p_159_2, f_159_3, p_159_3, f_166_0, p_166_0, f_166_1, p_166_1, f_166_2, p_166_2, g_166_3, g_166_4, g_166_5, g_166_6, g_166_7, g_166_8, g_166_9, g_166_10, g_166_11, g_166_12, f_166_13, p_166_13, f_166_14, p_166_14, f_166_15, p_166_15, f_166_16, p_166_16, g_166_17, f_166_18, p_166_18, f_166_19, p_166_19, f_166_20, p_166_20, f_166_21, p_166_21, f_166_22, p_166_22, f_166_23, p_166_23, g_166_24, g_166_25, g_166_26, f_166_27, p_166_27, g_166_28, g_166_29, f_166_30, p_166_30, g_166_31, g_166_32, a_4, s_4, a_6, s_6, a_7, s_7, a_8, s_8, a_9, s_9, a_10, s_10, a_11, s_11, a_12, s_12, a_16, s_16, a_17, s_17, a_18, s_18, a_19, s_19, a_20, s_20, a_21, s_21, a_22, s_22, a_138, s_138, a_141, s_141, a_143, s_143, a_144, s_144, a_147, s_147, a_149, s_149, a_150, s_150, a_167, s_167, a_168, s_168, a_169, s_169, a_170, s_170, a_171, s_171, a_172, s_172, a_173, s_173, a_174, s_174, a_175, s_175, a_176, s_176, a_177, s_177, a_178, s_178, a_179, s_179, a_180, s_180, a_181, s_181, a_182, s_182, a_183, s_183, a_184, s_184, zRem_n, zDiv_n, e18, e19, e20, Nat.le_refl])
    · intro _
      rw [show a - a = 0 by omega]
      exact hD
  | succ q ih =>
    intro a D I hq ha h hD hI
    by_cases z : a = n
    · subst z
      have e19 := h.2.2.1
      have e18 := h.1
      have e20 : I 166 20 = -9 := h.2.2.2
      refine ⟨I, ?_, frT_refl, ?_⟩
      · rw [eX12_readText_56, show a - a = 0 by omega]
        simp only [rdL, if_true, opI]
        (have q_3 := o_3; have q_5 := o_5; have q_13 := o_13; have q_14 := o_14; have q_15 := o_15; have q_23 := o_23; have q_30 := o_30; have q_37 := o_37; have q_139 := o_139; have q_140 := o_140; have q_142 := o_142; have q_145 := o_145; have q_146 := o_146; have q_148 := o_148; have q_151 := o_151; have q_152 := o_152; have q_159 := o_159; have q_166 := o_166; simp (config := { decide := true }) (disch := first | assumption | omega) only [zPush_eq, zNx_eq, zAdd_eq, zSub_eq, zMul_eq, zAnd_eq, zOr_eq, zXor_eq, zShl_eq, zShr_eq, zUshr_eq, zJAdd_eq, zJSub_eq, zJMul_eq, zJAnd_eq, zJOr_eq, zJShl_eq, zJUshr_eq, zNeg_eq, zI2l_eq, zL2i_eq, zLcmp_eq, zDup_i, zDup_a, zDup2_ia, zPop_i, zBeq_eq, zBne_eq, zBlt_eq, zBge_eq, zBgt_eq, zBle_eq, zCeq_eq, zCne_eq, zClt_eq, zCge_eq, zCgt_eq, zCle_eq, zVret_eq, zLret_eq, kb_v, kb_n, ite_not, if_true, if_false, lI_0, lJ_0, lA_0, lI_1, lJ_1, lA_1, lI_2, lJ_2, lA_2, lI_3, lJ_3, lA_3, lI_4, lJ_4, lA_4, lI_5, lJ_5, lA_5, lI_6, lJ_6, lA_6, lI_7, lJ_7, lA_7, lI_8, lJ_8, lA_8, lI_9, lJ_9, lA_9, lI_10, lJ_10, lA_10, lI_11, lJ_11, lA_11, sI_0, sA_0, sJ_0, iI_0, sI_1n, sA_1n, sJ_1n, iI_1n, sI_1i, sA_1i, sJ_1i, iI_1i, sI_1a, sA_1a, sJ_1a, iI_1a, sI_2n, sA_2n, sJ_2n, iI_2n, sI_2i, sA_2i, sJ_2i, iI_2i, sI_2a, sA_2a, sJ_2a, iI_2a, sI_3n, sA_3n, sJ_3n, iI_3n, sI_3i, sA_3i, sJ_3i, iI_3i, sI_3a, sA_3a, sJ_3a, iI_3a, sI_4n, sA_4n, sJ_4n, iI_4n, sI_4i, sA_4i, sJ_4i, iI_4i, sI_4a, sA_4a, sJ_4a, iI_4a, sI_5n, sA_5n, sJ_5n, iI_5n, sI_5i, sA_5i, sJ_5i, iI_5i, sI_5a, sA_5a, sJ_5a, iI_5a, sI_6n, sA_6n, sJ_6n, iI_6n, sI_6i, sA_6i, sJ_6i, iI_6i, sI_6a, sA_6a, sJ_6a, iI_6a, sI_7n, sA_7n, sJ_7n, iI_7n, sI_7i, sA_7i, sJ_7i, iI_7i, sI_7a, sA_7a, sJ_7a, iI_7a, sI_8n, sA_8n, sJ_8n, iI_8n, sI_8i, sA_8i, sJ_8i, iI_8i, sI_8a, sA_8a, sJ_8a, iI_8a, sI_9n, sA_9n, sJ_9n, iI_9n, sI_9i, sA_9i, sJ_9i, iI_9i, sI_9a, sA_9a, sJ_9a, iI_9a, sI_10n, sA_10n, sJ_10n, iI_10n, sI_10i, sA_10i, sJ_10i, iI_10i, sI_10a, sA_10a, sJ_10a, iI_10a, sI_11n, sA_11n, sJ_11n, iI_11n, sI_11i, sA_11i, sJ_11i, iI_11i, sI_11a, sA_11a, sJ_11a, iI_11a, kV_0_0, kV_0_1, kV_0_2, kV_0_3, kV_0_4, kV_1_0, kV_1_1, kV_1_2, kV_1_3, kV_1_4, kV_1a_0, kV_1a_1, kV_1a_2, kV_1a_3, kV_1a_4, kV_2_0, kV_2_1, kV_2_2, kV_2_3, kV_2_4, kV_2a_0, kV_2a_1, kV_2a_2, kV_2a_3, kV_2a_4, kV_2j_0, kV_2j_1, kV_2j_2, kV_2j_3, kV_2j_4, kV_1j_0, kV_1j_1, kV_1j_2, kV_1j_3, kV_1j_4, kV_3_0, kV_3_1, kV_3_2, kV_3_3, kV_3_4, kV_4_0, kV_4_1, kV_4_2, kV_4_3, kV_4_4, kV_5_0, kV_5_1, kV_5_2, kV_5_3, kV_5_4, kS_1_0, kS_1_1, kS_1_2, kS_1_3, kS_1_4, kS_2_0, kS_2_1, kS_2_2, kS_2_3, kS_2_4, kS_3_0, kS_3_1, kS_3_2, kS_3_3, kS_3_4, kS_3j_0, kS_3j_1, kS_3j_2, kS_3j_3, kS_3j_4, eX12_readText_0, eX12_readText_1, eX12_readText_2, eX12_readText_5, eX12_readText_6, eX12_readText_8, eX12_readText_11, eX12_readText_12, eX12_readText_13, eX12_readText_16, eX12_readText_17, eX12_readText_18, eX12_readText_21, eX12_readText_22, eX12_readText_23, eX12_readText_26, eX12_readText_27, eX12_readText_28, eX12_readText_31, eX12_readText_32, eX12_readText_35, eX12_readText_38, eX12_readText_39, eX12_readText_42, eX12_readText_43, eX12_readText_44, eX12_readText_46, eX12_readText_49, eX12_readText_50, eX12_readText_51, eX12_readText_52, eX12_readText_53, eX12_readText_57, eX12_readText_60, eX12_readText_62, eX12_readText_65, eX12_readText_66, eX12_readText_69, eX12_readText_70, eX12_readText_73, eX12_readText_76, eX12_readText_77, eX12_readText_78, eX12_readText_81, eX12_readText_82, eX12_readText_85, eX12_readText_86, eX12_readText_89, eX12_readText_92, eX12_readText_93, eX12_readText_96, rX12_readText, zGet_i, zPut_i, up, upR_same, upR_upR, nI_add, pk_mul, nsub, ndiv, nlt, nle, neq, uS, uN, g_3_0, f_3_1, p_3_1, g_3_2, g_3_3, g_3_4, g_3_5, g_3_6, g_3_7, g_3_8, g_3_9, g_3_10, g_3_11, g_3_12, g_3_13, g_3_14, g_3_15, g_5_0, g_5_1, g_5_2, g_5_3, g_5_4, g_5_5, g_5_6, f_5_7, p_5_7, f_5_8, p_5_8, f_5_9, p_5_9, g_13_0, f_13_1, p_13_1, f_13_2, p_13_2, g_14_0, f_14_1, p_14_1, f_14_2, p_14_2, g_15_0, g_15_1, g_15_2, g_15_3, g_15_4, g_15_5, g_15_6, f_15_7, p_15_7, f_15_8, p_15_8, f_15_9, p_15_9, g_23_0, g_23_1, f_23_2, p_23_2, f_23_3, p_23_3, g_30_0, g_30_1, f_30_2, p_30_2, f_30_3, p_30_3, g_37_0, f_37_1, p_37_1, f_37_2, p_37_2, g_139_0, g_139_1, g_140_0, g_140_1, f_140_2, p_140_2, f_140_3, p_140_3, g_142_0, g_142_1, g_142_2, g_142_3, f_142_4, p_142_4, f_145_0, p_145_0, f_145_1, p_145_1, f_145_2, p_145_2, f_145_3, p_145_3, f_145_4, p_145_4, f_145_5, p_145_5, f_145_6, p_145_6, g_146_0, g_146_1, g_146_2, g_148_0, g_148_1, g_148_2, g_148_3, g_151_0, g_151_1, f_151_2, p_151_2, g_152_0, g_152_1, f_152_2, p_152_2, f_152_3, p_152_3, g_159_0, g_159_1, f_159_2, p_159_2, f_159_3, p_159_3, f_166_0, p_166_0, f_166_1, p_166_1, f_166_2, p_166_2, g_166_3, g_166_4, g_166_5, g_166_6, g_166_7, g_166_8, g_166_9, g_166_10, g_166_11, g_166_12, f_166_13, p_166_13, f_166_14, p_166_14, f_166_15, p_166_15, f_166_16, p_166_16, g_166_17, f_166_18, p_166_18, f_166_19, p_166_19, f_166_20, p_166_20, f_166_21, p_166_21, f_166_22, p_166_22, f_166_23, p_166_23, g_166_24, g_166_25, g_166_26, f_166_27, p_166_27, g_166_28, g_166_29, f_166_30, p_166_30, g_166_31, g_166_32, a_4, s_4, a_6, s_6, a_7, s_7, a_8, s_8, a_9, s_9, a_10, s_10, a_11, s_11, a_12, s_12, a_16, s_16, a_17, s_17, a_18, s_18, a_19, s_19, a_20, s_20, a_21, s_21, a_22, s_22, a_138, s_138, a_141, s_141, a_143, s_143, a_144, s_144, a_147, s_147, a_149, s_149, a_150, s_150, a_167, s_167, a_168, s_168, a_169, s_169, a_170, s_170, a_171, s_171, a_172, s_172, a_173, s_173, a_174, s_174, a_175, s_175, a_176, s_176, a_177, s_177, a_178, s_178, a_179, s_179, a_180, s_180, a_181, s_181, a_182, s_182, a_183, s_183, a_184, s_184, zRem_n, zDiv_n, e18, e19, e20, Nat.le_refl])
      · intro _
        rw [show a - a = 0 by omega]
        exact hD
    have hlt : a < n := by omega
    have hlt' : ¬ n ≤ a := by omega
    have e19 := h.2.2.1
    have e18 := h.1
    have e20 : I 166 20 = -9 := h.2.2.2
    have e177 := h.2.1 a hlt
    obtain ⟨I1, p1, p2, p3⟩ := m_part (X := X) (J := J) hn hT hlt h hD hI
    have step : pmV mX12_readText 56 [some (.ref 166)] [] (hp X I J) = pmV mX12_readText 56 [some (.ref 166)] [] (hp X I1 J) := by
      rw [eX12_readText_56]
      (have q_3 := o_3; have q_5 := o_5; have q_13 := o_13; have q_14 := o_14; have q_15 := o_15; have q_23 := o_23; have q_30 := o_30; have q_37 := o_37; have q_139 := o_139; have q_140 := o_140; have q_142 := o_142; have q_145 := o_145; have q_146 := o_146; have q_148 := o_148; have q_151 := o_151; have q_152 := o_152; have q_159 := o_159; have q_166 := o_166; simp (config := { decide := true }) (disch := first | assumption | omega) only [zPush_eq, zNx_eq, zAdd_eq, zSub_eq, zMul_eq, zAnd_eq, zOr_eq, zXor_eq, zShl_eq, zShr_eq, zUshr_eq, zJAdd_eq, zJSub_eq, zJMul_eq, zJAnd_eq, zJOr_eq, zJShl_eq, zJUshr_eq, zNeg_eq, zI2l_eq, zL2i_eq, zLcmp_eq, zDup_i, zDup_a, zDup2_ia, zPop_i, zBeq_eq, zBne_eq, zBlt_eq, zBge_eq, zBgt_eq, zBle_eq, zCeq_eq, zCne_eq, zClt_eq, zCge_eq, zCgt_eq, zCle_eq, zVret_eq, zLret_eq, kb_v, kb_n, ite_not, if_true, if_false, lI_0, lJ_0, lA_0, lI_1, lJ_1, lA_1, lI_2, lJ_2, lA_2, lI_3, lJ_3, lA_3, lI_4, lJ_4, lA_4, lI_5, lJ_5, lA_5, lI_6, lJ_6, lA_6, lI_7, lJ_7, lA_7, lI_8, lJ_8, lA_8, lI_9, lJ_9, lA_9, lI_10, lJ_10, lA_10, lI_11, lJ_11, lA_11, sI_0, sA_0, sJ_0, iI_0, sI_1n, sA_1n, sJ_1n, iI_1n, sI_1i, sA_1i, sJ_1i, iI_1i, sI_1a, sA_1a, sJ_1a, iI_1a, sI_2n, sA_2n, sJ_2n, iI_2n, sI_2i, sA_2i, sJ_2i, iI_2i, sI_2a, sA_2a, sJ_2a, iI_2a, sI_3n, sA_3n, sJ_3n, iI_3n, sI_3i, sA_3i, sJ_3i, iI_3i, sI_3a, sA_3a, sJ_3a, iI_3a, sI_4n, sA_4n, sJ_4n, iI_4n, sI_4i, sA_4i, sJ_4i, iI_4i, sI_4a, sA_4a, sJ_4a, iI_4a, sI_5n, sA_5n, sJ_5n, iI_5n, sI_5i, sA_5i, sJ_5i, iI_5i, sI_5a, sA_5a, sJ_5a, iI_5a, sI_6n, sA_6n, sJ_6n, iI_6n, sI_6i, sA_6i, sJ_6i, iI_6i, sI_6a, sA_6a, sJ_6a, iI_6a, sI_7n, sA_7n, sJ_7n, iI_7n, sI_7i, sA_7i, sJ_7i, iI_7i, sI_7a, sA_7a, sJ_7a, iI_7a, sI_8n, sA_8n, sJ_8n, iI_8n, sI_8i, sA_8i, sJ_8i, iI_8i, sI_8a, sA_8a, sJ_8a, iI_8a, sI_9n, sA_9n, sJ_9n, iI_9n, sI_9i, sA_9i, sJ_9i, iI_9i, sI_9a, sA_9a, sJ_9a, iI_9a, sI_10n, sA_10n, sJ_10n, iI_10n, sI_10i, sA_10i, sJ_10i, iI_10i, sI_10a, sA_10a, sJ_10a, iI_10a, sI_11n, sA_11n, sJ_11n, iI_11n, sI_11i, sA_11i, sJ_11i, iI_11i, sI_11a, sA_11a, sJ_11a, iI_11a, kV_0_0, kV_0_1, kV_0_2, kV_0_3, kV_0_4, kV_1_0, kV_1_1, kV_1_2, kV_1_3, kV_1_4, kV_1a_0, kV_1a_1, kV_1a_2, kV_1a_3, kV_1a_4, kV_2_0, kV_2_1, kV_2_2, kV_2_3, kV_2_4, kV_2a_0, kV_2a_1, kV_2a_2, kV_2a_3, kV_2a_4, kV_2j_0, kV_2j_1, kV_2j_2, kV_2j_3, kV_2j_4, kV_1j_0, kV_1j_1, kV_1j_2, kV_1j_3, kV_1j_4, kV_3_0, kV_3_1, kV_3_2, kV_3_3, kV_3_4, kV_4_0, kV_4_1, kV_4_2, kV_4_3, kV_4_4, kV_5_0, kV_5_1, kV_5_2, kV_5_3, kV_5_4, kS_1_0, kS_1_1, kS_1_2, kS_1_3, kS_1_4, kS_2_0, kS_2_1, kS_2_2, kS_2_3, kS_2_4, kS_3_0, kS_3_1, kS_3_2, kS_3_3, kS_3_4, kS_3j_0, kS_3j_1, kS_3j_2, kS_3j_3, kS_3j_4, eX12_readText_0, eX12_readText_1, eX12_readText_2, eX12_readText_5, eX12_readText_6, eX12_readText_8, eX12_readText_11, eX12_readText_12, eX12_readText_13, eX12_readText_16, eX12_readText_17, eX12_readText_18, eX12_readText_21, eX12_readText_22, eX12_readText_23, eX12_readText_26, eX12_readText_27, eX12_readText_28, eX12_readText_31, eX12_readText_32, eX12_readText_35, eX12_readText_38, eX12_readText_39, eX12_readText_42, eX12_readText_43, eX12_readText_44, eX12_readText_46, eX12_readText_49, eX12_readText_50, eX12_readText_51, eX12_readText_52, eX12_readText_53, eX12_readText_57, eX12_readText_60, eX12_readText_62, eX12_readText_65, eX12_readText_66, eX12_readText_69, eX12_readText_70, eX12_readText_73, eX12_readText_76, eX12_readText_77, eX12_readText_78, eX12_readText_81, eX12_readText_82, eX12_readText_85, eX12_readText_86, eX12_readText_89, eX12_readText_92, eX12_readText_93, eX12_readText_96, rX12_readText, zGet_i, zPut_i, up, upR_same, upR_upR, nI_add, pk_mul, nsub, ndiv, nlt, nle, neq, uS, uN, g_3_0, f_3_1, p_3_1, g_3_2, g_3_3, g_3_4, g_3_5, g_3_6, g_3_7, g_3_8, g_3_9, g_3_10, g_3_11, g_3_12, g_3_13, g_3_14, g_3_15, g_5_0, g_5_1, g_5_2, g_5_3, g_5_4, g_5_5, g_5_6, f_5_7, p_5_7, f_5_8, p_5_8, f_5_9, p_5_9, g_13_0, f_13_1, p_13_1, f_13_2, p_13_2, g_14_0, f_14_1, p_14_1, f_14_2, p_14_2, g_15_0, g_15_1, g_15_2, g_15_3, g_15_4, g_15_5, g_15_6, f_15_7, p_15_7, f_15_8, p_15_8, f_15_9, p_15_9, g_23_0, g_23_1, f_23_2, p_23_2, f_23_3, p_23_3, g_30_0, g_30_1, f_30_2, p_30_2, f_30_3, p_30_3, g_37_0, f_37_1, p_37_1, f_37_2, p_37_2, g_139_0, g_139_1, g_140_0, g_140_1, f_140_2, p_140_2, f_140_3, p_140_3, g_142_0, g_142_1, g_142_2, g_142_3, f_142_4, p_142_4, f_145_0, p_145_0, f_145_1, p_145_1, f_145_2, p_145_2, f_145_3, p_145_3, f_145_4, p_145_4, f_145_5, p_145_5, f_145_6, p_145_6, g_146_0, g_146_1, g_146_2, g_148_0, g_148_1, g_148_2, g_148_3, g_151_0, g_151_1, f_151_2, p_151_2, g_152_0, g_152_1, f_152_2, p_152_2, f_152_3, p_152_3, g_159_0, g_159_1, f_159_2, p_159_2, f_159_3, p_159_3, f_166_0, p_166_0, f_166_1, p_166_1, f_166_2, p_166_2, g_166_3, g_166_4, g_166_5, g_166_6, g_166_7, g_166_8, g_166_9, g_166_10, g_166_11, g_166_12, f_166_13, p_166_13, f_166_14, p_166_14, f_166_15, p_166_15, f_166_16, p_166_16, g_166_17, f_166_18, p_166_18, f_166_19, p_166_19, f_166_20, p_166_20, f_166_21, p_166_21, f_166_22, p_166_22, f_166_23, p_166_23, g_166_24, g_166_25, g_166_26, f_166_27, p_166_27, g_166_28, g_166_29, f_166_30, p_166_30, g_166_31, g_166_32, a_4, s_4, a_6, s_6, a_7, s_7, a_8, s_8, a_9, s_9, a_10, s_10, a_11, s_11, a_12, s_12, a_16, s_16, a_17, s_17, a_18, s_18, a_19, s_19, a_20, s_20, a_21, s_21, a_22, s_22, a_138, s_138, a_141, s_141, a_143, s_143, a_144, s_144, a_147, s_147, a_149, s_149, a_150, s_150, a_167, s_167, a_168, s_168, a_169, s_169, a_170, s_170, a_171, s_171, a_172, s_172, a_173, s_173, a_174, s_174, a_175, s_175, a_176, s_176, a_177, s_177, a_178, s_178, a_179, s_179, a_180, s_180, a_181, s_181, a_182, s_182, a_183, s_183, a_184, s_184, zRem_n, zDiv_n, e18, e19, e20, e177, hlt', p1])
    rcases p3 with ⟨e, u1, u2, u3⟩ | ⟨a', D', u1, u2, u3, u4, u5, u6, u7⟩
    · refine ⟨I1, ?_, p2, fun w => by rw [u1] at w; cases w⟩
      have h9 : (nI e = -9) = False := nm9 (by omega)
      rw [step, eX12_readText_56, u1]
      (have q_3 := o_3; have q_5 := o_5; have q_13 := o_13; have q_14 := o_14; have q_15 := o_15; have q_23 := o_23; have q_30 := o_30; have q_37 := o_37; have q_139 := o_139; have q_140 := o_140; have q_142 := o_142; have q_145 := o_145; have q_146 := o_146; have q_148 := o_148; have q_151 := o_151; have q_152 := o_152; have q_159 := o_159; have q_166 := o_166; simp (config := { decide := true }) (disch := first | assumption | omega) only [zPush_eq, zNx_eq, zAdd_eq, zSub_eq, zMul_eq, zAnd_eq, zOr_eq, zXor_eq, zShl_eq, zShr_eq, zUshr_eq, zJAdd_eq, zJSub_eq, zJMul_eq, zJAnd_eq, zJOr_eq, zJShl_eq, zJUshr_eq, zNeg_eq, zI2l_eq, zL2i_eq, zLcmp_eq, zDup_i, zDup_a, zDup2_ia, zPop_i, zBeq_eq, zBne_eq, zBlt_eq, zBge_eq, zBgt_eq, zBle_eq, zCeq_eq, zCne_eq, zClt_eq, zCge_eq, zCgt_eq, zCle_eq, zVret_eq, zLret_eq, kb_v, kb_n, ite_not, if_true, if_false, lI_0, lJ_0, lA_0, lI_1, lJ_1, lA_1, lI_2, lJ_2, lA_2, lI_3, lJ_3, lA_3, lI_4, lJ_4, lA_4, lI_5, lJ_5, lA_5, lI_6, lJ_6, lA_6, lI_7, lJ_7, lA_7, lI_8, lJ_8, lA_8, lI_9, lJ_9, lA_9, lI_10, lJ_10, lA_10, lI_11, lJ_11, lA_11, sI_0, sA_0, sJ_0, iI_0, sI_1n, sA_1n, sJ_1n, iI_1n, sI_1i, sA_1i, sJ_1i, iI_1i, sI_1a, sA_1a, sJ_1a, iI_1a, sI_2n, sA_2n, sJ_2n, iI_2n, sI_2i, sA_2i, sJ_2i, iI_2i, sI_2a, sA_2a, sJ_2a, iI_2a, sI_3n, sA_3n, sJ_3n, iI_3n, sI_3i, sA_3i, sJ_3i, iI_3i, sI_3a, sA_3a, sJ_3a, iI_3a, sI_4n, sA_4n, sJ_4n, iI_4n, sI_4i, sA_4i, sJ_4i, iI_4i, sI_4a, sA_4a, sJ_4a, iI_4a, sI_5n, sA_5n, sJ_5n, iI_5n, sI_5i, sA_5i, sJ_5i, iI_5i, sI_5a, sA_5a, sJ_5a, iI_5a, sI_6n, sA_6n, sJ_6n, iI_6n, sI_6i, sA_6i, sJ_6i, iI_6i, sI_6a, sA_6a, sJ_6a, iI_6a, sI_7n, sA_7n, sJ_7n, iI_7n, sI_7i, sA_7i, sJ_7i, iI_7i, sI_7a, sA_7a, sJ_7a, iI_7a, sI_8n, sA_8n, sJ_8n, iI_8n, sI_8i, sA_8i, sJ_8i, iI_8i, sI_8a, sA_8a, sJ_8a, iI_8a, sI_9n, sA_9n, sJ_9n, iI_9n, sI_9i, sA_9i, sJ_9i, iI_9i, sI_9a, sA_9a, sJ_9a, iI_9a, sI_10n, sA_10n, sJ_10n, iI_10n, sI_10i, sA_10i, sJ_10i, iI_10i, sI_10a, sA_10a, sJ_10a, iI_10a, sI_11n, sA_11n, sJ_11n, iI_11n, sI_11i, sA_11i, sJ_11i, iI_11i, sI_11a, sA_11a, sJ_11a, iI_11a, kV_0_0, kV_0_1, kV_0_2, kV_0_3, kV_0_4, kV_1_0, kV_1_1, kV_1_2, kV_1_3, kV_1_4, kV_1a_0, kV_1a_1, kV_1a_2, kV_1a_3, kV_1a_4, kV_2_0, kV_2_1, kV_2_2, kV_2_3, kV_2_4, kV_2a_0, kV_2a_1, kV_2a_2, kV_2a_3, kV_2a_4, kV_2j_0, kV_2j_1, kV_2j_2, kV_2j_3, kV_2j_4, kV_1j_0, kV_1j_1, kV_1j_2, kV_1j_3, kV_1j_4, kV_3_0, kV_3_1, kV_3_2, kV_3_3, kV_3_4, kV_4_0, kV_4_1, kV_4_2, kV_4_3, kV_4_4, kV_5_0, kV_5_1, kV_5_2, kV_5_3, kV_5_4, kS_1_0, kS_1_1, kS_1_2, kS_1_3, kS_1_4, kS_2_0, kS_2_1, kS_2_2, kS_2_3, kS_2_4, kS_3_0, kS_3_1, kS_3_2, kS_3_3, kS_3_4, kS_3j_0, kS_3j_1, kS_3j_2, kS_3j_3, kS_3j_4, eX12_readText_0, eX12_readText_1, eX12_readText_2, eX12_readText_5, eX12_readText_6, eX12_readText_8, eX12_readText_11, eX12_readText_12, eX12_readText_13, eX12_readText_16, eX12_readText_17, eX12_readText_18, eX12_readText_21, eX12_readText_22, eX12_readText_23, eX12_readText_26, eX12_readText_27, eX12_readText_28, eX12_readText_31, eX12_readText_32, eX12_readText_35, eX12_readText_38, eX12_readText_39, eX12_readText_42, eX12_readText_43, eX12_readText_44, eX12_readText_46, eX12_readText_49, eX12_readText_50, eX12_readText_51, eX12_readText_52, eX12_readText_53, eX12_readText_57, eX12_readText_60, eX12_readText_62, eX12_readText_65, eX12_readText_66, eX12_readText_69, eX12_readText_70, eX12_readText_73, eX12_readText_76, eX12_readText_77, eX12_readText_78, eX12_readText_81, eX12_readText_82, eX12_readText_85, eX12_readText_86, eX12_readText_89, eX12_readText_92, eX12_readText_93, eX12_readText_96, rX12_readText, zGet_i, zPut_i, up, upR_same, upR_upR, nI_add, pk_mul, nsub, ndiv, nlt, nle, neq, uS, uN, g_3_0, f_3_1, p_3_1, g_3_2, g_3_3, g_3_4, g_3_5, g_3_6, g_3_7, g_3_8, g_3_9, g_3_10, g_3_11, g_3_12, g_3_13, g_3_14, g_3_15, g_5_0, g_5_1, g_5_2, g_5_3, g_5_4, g_5_5, g_5_6, f_5_7, p_5_7, f_5_8, p_5_8, f_5_9, p_5_9, g_13_0, f_13_1, p_13_1, f_13_2, p_13_2, g_14_0, f_14_1, p_14_1, f_14_2, p_14_2, g_15_0, g_15_1, g_15_2, g_15_3, g_15_4, g_15_5, g_15_6, f_15_7, p_15_7, f_15_8, p_15_8, f_15_9, p_15_9, g_23_0, g_23_1, f_23_2, p_23_2, f_23_3, p_23_3, g_30_0, g_30_1, f_30_2, p_30_2, f_30_3, p_30_3, g_37_0, f_37_1, p_37_1, f_37_2, p_37_2, g_139_0, g_139_1, g_140_0, g_140_1, f_140_2, p_140_2, f_140_3, p_140_3, g_142_0, g_142_1, g_142_2, g_142_3, f_142_4, p_142_4, f_145_0, p_145_0, f_145_1, p_145_1, f_145_2, p_145_2, f_145_3, p_145_3, f_145_4, p_145_4, f_145_5, p_145_5, f_145_6, p_145_6, g_146_0, g_146_1, g_146_2, g_148_0, g_148_1, g_148_2, g_148_3, g_151_0, g_151_1, f_151_2, p_151_2, g_152_0, g_152_1, f_152_2, p_152_2, f_152_3, p_152_3, g_159_0, g_159_1, f_159_2, p_159_2, f_159_3, p_159_3, f_166_0, p_166_0, f_166_1, p_166_1, f_166_2, p_166_2, g_166_3, g_166_4, g_166_5, g_166_6, g_166_7, g_166_8, g_166_9, g_166_10, g_166_11, g_166_12, f_166_13, p_166_13, f_166_14, p_166_14, f_166_15, p_166_15, f_166_16, p_166_16, g_166_17, f_166_18, p_166_18, f_166_19, p_166_19, f_166_20, p_166_20, f_166_21, p_166_21, f_166_22, p_166_22, f_166_23, p_166_23, g_166_24, g_166_25, g_166_26, f_166_27, p_166_27, g_166_28, g_166_29, f_166_30, p_166_30, g_166_31, g_166_32, a_4, s_4, a_6, s_6, a_7, s_7, a_8, s_8, a_9, s_9, a_10, s_10, a_11, s_11, a_12, s_12, a_16, s_16, a_17, s_17, a_18, s_18, a_19, s_19, a_20, s_20, a_21, s_21, a_22, s_22, a_138, s_138, a_141, s_141, a_143, s_143, a_144, s_144, a_147, s_147, a_149, s_149, a_150, s_150, a_167, s_167, a_168, s_168, a_169, s_169, a_170, s_170, a_171, s_171, a_172, s_172, a_173, s_173, a_174, s_174, a_175, s_175, a_176, s_176, a_177, s_177, a_178, s_178, a_179, s_179, a_180, s_180, a_181, s_181, a_182, s_182, a_183, s_183, a_184, s_184, zRem_n, zDiv_n, u3, h9, opI])
    · obtain ⟨I2, w1, w2, w3⟩ := ih a' D' I1 (by omega) u2 (tx_fr p2 u4 u5 h) u6 u7
      rw [u3]
      exact ⟨I2, step.trans w1, frT_tr p2 w2, w3⟩
theorem m_readText (hn : n ≤ 48) (hT : ∀ j, j < n → T j < 256) (h18 : I 166 18 = nI n) (h177 : ∀ j, j < n → I 177 j = nI (T j)) (hz : D 0 0 = 0 ∧ D 0 1 = 0 ∧ D 0 2 = 0) (hI : rdI 0 0 D) : ∃ I', pmV mX12_readText 0 (pmEnt 1 [.ref 166]) [] (hp X I J) = some (some (.int (opI (rdL n T n 0 0 0 D).1)), hp X I' J) ∧ frT I I' ∧ ((rdL n T n 0 0 0 D).1 = none → rcM I' (rdL n T n 0 0 0 D).2) := by
  show ∃ I', pmV mX12_readText 0 [some (.ref 166)] [] (hp X I J) = _ ∧ _
  by_cases z : n = 0
  · subst z
    refine ⟨upR I 166 (upd (upd (upd (upd (upd (upd (I 166) 19 (nI 0)) 20 (-9)) 13 (nI 0)) 14 (nI 0)) 15 (nI 0)) 16 (nI 0)), ?_, ⟨fun y hy _ _ _ => upR_ne hy, fun k hk => by rw [upR_same, uN (by omega), uN (by omega), uN (by omega), uN (by omega), uN (by omega), uN (by omega)]⟩, fun w => ?_⟩
    · simp only [rdL, opI]
      (have q_3 := o_3; have q_5 := o_5; have q_13 := o_13; have q_14 := o_14; have q_15 := o_15; have q_23 := o_23; have q_30 := o_30; have q_37 := o_37; have q_139 := o_139; have q_140 := o_140; have q_142 := o_142; have q_145 := o_145; have q_146 := o_146; have q_148 := o_148; have q_151 := o_151; have q_152 := o_152; have q_159 := o_159; have q_166 := o_166; simp (config := { decide := true }) (disch := first | assumption | omega) only [zPush_eq, zNx_eq, zAdd_eq, zSub_eq, zMul_eq, zAnd_eq, zOr_eq, zXor_eq, zShl_eq, zShr_eq, zUshr_eq, zJAdd_eq, zJSub_eq, zJMul_eq, zJAnd_eq, zJOr_eq, zJShl_eq, zJUshr_eq, zNeg_eq, zI2l_eq, zL2i_eq, zLcmp_eq, zDup_i, zDup_a, zDup2_ia, zPop_i, zBeq_eq, zBne_eq, zBlt_eq, zBge_eq, zBgt_eq, zBle_eq, zCeq_eq, zCne_eq, zClt_eq, zCge_eq, zCgt_eq, zCle_eq, zVret_eq, zLret_eq, kb_v, kb_n, ite_not, if_true, if_false, lI_0, lJ_0, lA_0, lI_1, lJ_1, lA_1, lI_2, lJ_2, lA_2, lI_3, lJ_3, lA_3, lI_4, lJ_4, lA_4, lI_5, lJ_5, lA_5, lI_6, lJ_6, lA_6, lI_7, lJ_7, lA_7, lI_8, lJ_8, lA_8, lI_9, lJ_9, lA_9, lI_10, lJ_10, lA_10, lI_11, lJ_11, lA_11, sI_0, sA_0, sJ_0, iI_0, sI_1n, sA_1n, sJ_1n, iI_1n, sI_1i, sA_1i, sJ_1i, iI_1i, sI_1a, sA_1a, sJ_1a, iI_1a, sI_2n, sA_2n, sJ_2n, iI_2n, sI_2i, sA_2i, sJ_2i, iI_2i, sI_2a, sA_2a, sJ_2a, iI_2a, sI_3n, sA_3n, sJ_3n, iI_3n, sI_3i, sA_3i, sJ_3i, iI_3i, sI_3a, sA_3a, sJ_3a, iI_3a, sI_4n, sA_4n, sJ_4n, iI_4n, sI_4i, sA_4i, sJ_4i, iI_4i, sI_4a, sA_4a, sJ_4a, iI_4a, sI_5n, sA_5n, sJ_5n, iI_5n, sI_5i, sA_5i, sJ_5i, iI_5i, sI_5a, sA_5a, sJ_5a, iI_5a, sI_6n, sA_6n, sJ_6n, iI_6n, sI_6i, sA_6i, sJ_6i, iI_6i, sI_6a, sA_6a, sJ_6a, iI_6a, sI_7n, sA_7n, sJ_7n, iI_7n, sI_7i, sA_7i, sJ_7i, iI_7i, sI_7a, sA_7a, sJ_7a, iI_7a, sI_8n, sA_8n, sJ_8n, iI_8n, sI_8i, sA_8i, sJ_8i, iI_8i, sI_8a, sA_8a, sJ_8a, iI_8a, sI_9n, sA_9n, sJ_9n, iI_9n, sI_9i, sA_9i, sJ_9i, iI_9i, sI_9a, sA_9a, sJ_9a, iI_9a, sI_10n, sA_10n, sJ_10n, iI_10n, sI_10i, sA_10i, sJ_10i, iI_10i, sI_10a, sA_10a, sJ_10a, iI_10a, sI_11n, sA_11n, sJ_11n, iI_11n, sI_11i, sA_11i, sJ_11i, iI_11i, sI_11a, sA_11a, sJ_11a, iI_11a, kV_0_0, kV_0_1, kV_0_2, kV_0_3, kV_0_4, kV_1_0, kV_1_1, kV_1_2, kV_1_3, kV_1_4, kV_1a_0, kV_1a_1, kV_1a_2, kV_1a_3, kV_1a_4, kV_2_0, kV_2_1, kV_2_2, kV_2_3, kV_2_4, kV_2a_0, kV_2a_1, kV_2a_2, kV_2a_3, kV_2a_4, kV_2j_0, kV_2j_1, kV_2j_2, kV_2j_3, kV_2j_4, kV_1j_0, kV_1j_1, kV_1j_2, kV_1j_3, kV_1j_4, kV_3_0, kV_3_1, kV_3_2, kV_3_3, kV_3_4, kV_4_0, kV_4_1, kV_4_2, kV_4_3, kV_4_4, kV_5_0, kV_5_1, kV_5_2, kV_5_3, kV_5_4, kS_1_0, kS_1_1, kS_1_2, kS_1_3, kS_1_4, kS_2_0, kS_2_1, kS_2_2, kS_2_3, kS_2_4, kS_3_0, kS_3_1, kS_3_2, kS_3_3, kS_3_4, kS_3j_0, kS_3j_1, kS_3j_2, kS_3j_3, kS_3j_4, eX12_readText_0, eX12_readText_1, eX12_readText_2, eX12_readText_5, eX12_readText_6, eX12_readText_8, eX12_readText_11, eX12_readText_12, eX12_readText_13, eX12_readText_16, eX12_readText_17, eX12_readText_18, eX12_readText_21, eX12_readText_22, eX12_readText_23, eX12_readText_26, eX12_readText_27, eX12_readText_28, eX12_readText_31, eX12_readText_32, eX12_readText_35, eX12_readText_38, eX12_readText_39, eX12_readText_42, eX12_readText_43, eX12_readText_44, eX12_readText_46, eX12_readText_49, eX12_readText_50, eX12_readText_51, eX12_readText_52, eX12_readText_53, eX12_readText_56, eX12_readText_57, eX12_readText_60, eX12_readText_62, eX12_readText_65, eX12_readText_66, eX12_readText_69, eX12_readText_70, eX12_readText_73, eX12_readText_76, eX12_readText_77, eX12_readText_78, eX12_readText_81, eX12_readText_82, eX12_readText_85, eX12_readText_86, eX12_readText_89, eX12_readText_92, eX12_readText_93, eX12_readText_96, rX12_readText, zGet_i, zPut_i, up, upR_same, upR_upR, nI_add, pk_mul, nsub, ndiv, nlt, nle, neq, uS, uN, g_3_0, f_3_1, p_3_1, g_3_2, g_3_3, g_3_4, g_3_5, g_3_6, g_3_7, g_3_8, g_3_9, g_3_10, g_3_11, g_3_12, g_3_13, g_3_14, g_3_15, g_5_0, g_5_1, g_5_2, g_5_3, g_5_4, g_5_5, g_5_6, f_5_7, p_5_7, f_5_8, p_5_8, f_5_9, p_5_9, g_13_0, f_13_1, p_13_1, f_13_2, p_13_2, g_14_0, f_14_1, p_14_1, f_14_2, p_14_2, g_15_0, g_15_1, g_15_2, g_15_3, g_15_4, g_15_5, g_15_6, f_15_7, p_15_7, f_15_8, p_15_8, f_15_9, p_15_9, g_23_0, g_23_1, f_23_2, p_23_2, f_23_3, p_23_3, g_30_0, g_30_1, f_30_2, p_30_2, f_30_3, p_30_3, g_37_0, f_37_1, p_37_1, f_37_2, p_37_2, g_139_0, g_139_1, g_140_0, g_140_1, f_140_2, p_140_2, f_140_3, p_140_3, g_142_0, g_142_1, g_142_2, g_142_3, f_142_4, p_142_4, f_145_0, p_145_0, f_145_1, p_145_1, f_145_2, p_145_2, f_145_3, p_145_3, f_145_4, p_145_4, f_145_5, p_145_5, f_145_6, p_145_6, g_146_0, g_146_1, g_146_2, g_148_0, g_148_1, g_148_2, g_148_3, g_151_0, g_151_1, f_151_2, p_151_2, g_152_0, g_152_1, f_152_2, p_152_2, f_152_3, p_152_3, g_159_0, g_159_1, f_159_2, p_159_2, f_159_3, p_159_3, f_166_0, p_166_0, f_166_1, p_166_1, f_166_2, p_166_2, g_166_3, g_166_4, g_166_5, g_166_6, g_166_7, g_166_8, g_166_9, g_166_10, g_166_11, g_166_12, f_166_13, p_166_13, f_166_14, p_166_14, f_166_15, p_166_15, f_166_16, p_166_16, g_166_17, f_166_18, p_166_18, f_166_19, p_166_19, f_166_20, p_166_20, f_166_21, p_166_21, f_166_22, p_166_22, f_166_23, p_166_23, g_166_24, g_166_25, g_166_26, f_166_27, p_166_27, g_166_28, g_166_29, f_166_30, p_166_30, g_166_31, g_166_32, a_4, s_4, a_6, s_6, a_7, s_7, a_8, s_8, a_9, s_9, a_10, s_10, a_11, s_11, a_12, s_12, a_16, s_16, a_17, s_17, a_18, s_18, a_19, s_19, a_20, s_20, a_21, s_21, a_22, s_22, a_138, s_138, a_141, s_141, a_143, s_143, a_144, s_144, a_147, s_147, a_149, s_149, a_150, s_150, a_167, s_167, a_168, s_168, a_169, s_169, a_170, s_170, a_171, s_171, a_172, s_172, a_173, s_173, a_174, s_174, a_175, s_175, a_176, s_176, a_177, s_177, a_178, s_178, a_179, s_179, a_180, s_180, a_181, s_181, a_182, s_182, a_183, s_183, a_184, s_184, zRem_n, zDiv_n, h18])
    · simp [rdL] at w
  have hlt : 0 < n := by omega
  have e0 := h177 0 hlt
  have t0 := hT 0 hlt
  by_cases u : T 0 = 67
  · have q0 : rdT 0 0 D (T 0) = some (1, 0, D) := by simp [rdT, u]
    generalize hG : upR I 166 (upd (upd (upd (upd (upd (upd (upd (I 166) 19 (nI 0)) 20 (-9)) 13 (nI 0)) 14 (nI 0)) 15 (nI 0)) 16 (nI 0)) 19 (nI 1)) = G
    have f0 : frT I G := by
      rw [← hG]
      exact ⟨fun y hy _ _ _ => upR_ne hy, fun k hk => by rw [upR_same, uN (by omega), uN (by omega), uN (by omega), uN (by omega), uN (by omega), uN (by omega), uN (by omega)]⟩
    have x0 : txM G n T 1 none := by
      refine ⟨by rw [f0.2 18 (by omega)]; exact h18, by rw [f0.1 177 (by decide) (by decide) (by decide) (by decide)]; exact h177, ?_, ?_⟩
      · rw [← hG, upR_same, uS]
      · rw [← hG, upR_same, uN (by decide), uN (by decide), uN (by decide), uN (by decide), uN (by decide), uS]
        rfl
    have c0 : rcM G D := by
      unfold rcM
      rw [hz.1, hz.2.1, hz.2.2]
      refine ⟨?_, ?_, ?_, fun j hj => absurd hj (by omega), fun j hj => absurd hj (by omega), fun j hj => absurd hj (by omega), 0, by decide, ?_, fun v hv => ⟨fun w => absurd (tb_0.symm.trans w) (by decide), fun ⟨j, j1, _⟩ => absurd j1 (by omega)⟩⟩
      · rw [← hG, upR_same, uN (by decide), uN (by decide), uN (by decide), uN (by decide), uS]
      · rw [← hG, upR_same, uN (by decide), uN (by decide), uN (by decide), uS]
      · rw [← hG, upR_same, uN (by decide), uN (by decide), uS]
      · rw [← hG, upR_same, uN (by decide), uS]
    obtain ⟨I1, p1, p2, p3⟩ := m_rdW (X := X) (J := J) hn hT (n - 1) 1 D G (Nat.le_refl _) (by omega) x0 c0 (rdI_ok hI q0)
    have er : rdL n T n 0 0 0 D = rdL n T (n - 1) 1 1 0 D := rd_st (a := 0) hlt q0
    rw [er]
    refine ⟨I1, ?_, frT_tr f0 p2, p3⟩
    rw [← p1, ← hG]
    (have q_3 := o_3; have q_5 := o_5; have q_13 := o_13; have q_14 := o_14; have q_15 := o_15; have q_23 := o_23; have q_30 := o_30; have q_37 := o_37; have q_139 := o_139; have q_140 := o_140; have q_142 := o_142; have q_145 := o_145; have q_146 := o_146; have q_148 := o_148; have q_151 := o_151; have q_152 := o_152; have q_159 := o_159; have q_166 := o_166; simp (config := { decide := true }) (disch := first | assumption | omega) only [zPush_eq, zNx_eq, zAdd_eq, zSub_eq, zMul_eq, zAnd_eq, zOr_eq, zXor_eq, zShl_eq, zShr_eq, zUshr_eq, zJAdd_eq, zJSub_eq, zJMul_eq, zJAnd_eq, zJOr_eq, zJShl_eq, zJUshr_eq, zNeg_eq, zI2l_eq, zL2i_eq, zLcmp_eq, zDup_i, zDup_a, zDup2_ia, zPop_i, zBeq_eq, zBne_eq, zBlt_eq, zBge_eq, zBgt_eq, zBle_eq, zCeq_eq, zCne_eq, zClt_eq, zCge_eq, zCgt_eq, zCle_eq, zVret_eq, zLret_eq, kb_v, kb_n, ite_not, if_true, if_false, lI_0, lJ_0, lA_0, lI_1, lJ_1, lA_1, lI_2, lJ_2, lA_2, lI_3, lJ_3, lA_3, lI_4, lJ_4, lA_4, lI_5, lJ_5, lA_5, lI_6, lJ_6, lA_6, lI_7, lJ_7, lA_7, lI_8, lJ_8, lA_8, lI_9, lJ_9, lA_9, lI_10, lJ_10, lA_10, lI_11, lJ_11, lA_11, sI_0, sA_0, sJ_0, iI_0, sI_1n, sA_1n, sJ_1n, iI_1n, sI_1i, sA_1i, sJ_1i, iI_1i, sI_1a, sA_1a, sJ_1a, iI_1a, sI_2n, sA_2n, sJ_2n, iI_2n, sI_2i, sA_2i, sJ_2i, iI_2i, sI_2a, sA_2a, sJ_2a, iI_2a, sI_3n, sA_3n, sJ_3n, iI_3n, sI_3i, sA_3i, sJ_3i, iI_3i, sI_3a, sA_3a, sJ_3a, iI_3a, sI_4n, sA_4n, sJ_4n, iI_4n, sI_4i, sA_4i, sJ_4i, iI_4i, sI_4a, sA_4a, sJ_4a, iI_4a, sI_5n, sA_5n, sJ_5n, iI_5n, sI_5i, sA_5i, sJ_5i, iI_5i, sI_5a, sA_5a, sJ_5a, iI_5a, sI_6n, sA_6n, sJ_6n, iI_6n, sI_6i, sA_6i, sJ_6i, iI_6i, sI_6a, sA_6a, sJ_6a, iI_6a, sI_7n, sA_7n, sJ_7n, iI_7n, sI_7i, sA_7i, sJ_7i, iI_7i, sI_7a, sA_7a, sJ_7a, iI_7a, sI_8n, sA_8n, sJ_8n, iI_8n, sI_8i, sA_8i, sJ_8i, iI_8i, sI_8a, sA_8a, sJ_8a, iI_8a, sI_9n, sA_9n, sJ_9n, iI_9n, sI_9i, sA_9i, sJ_9i, iI_9i, sI_9a, sA_9a, sJ_9a, iI_9a, sI_10n, sA_10n, sJ_10n, iI_10n, sI_10i, sA_10i, sJ_10i, iI_10i, sI_10a, sA_10a, sJ_10a, iI_10a, sI_11n, sA_11n, sJ_11n, iI_11n, sI_11i, sA_11i, sJ_11i, iI_11i, sI_11a, sA_11a, sJ_11a, iI_11a, kV_0_0, kV_0_1, kV_0_2, kV_0_3, kV_0_4, kV_1_0, kV_1_1, kV_1_2, kV_1_3, kV_1_4, kV_1a_0, kV_1a_1, kV_1a_2, kV_1a_3, kV_1a_4, kV_2_0, kV_2_1, kV_2_2, kV_2_3, kV_2_4, kV_2a_0, kV_2a_1, kV_2a_2, kV_2a_3, kV_2a_4, kV_2j_0, kV_2j_1, kV_2j_2, kV_2j_3, kV_2j_4, kV_1j_0, kV_1j_1, kV_1j_2, kV_1j_3, kV_1j_4, kV_3_0, kV_3_1, kV_3_2, kV_3_3, kV_3_4, kV_4_0, kV_4_1, kV_4_2, kV_4_3, kV_4_4, kV_5_0, kV_5_1, kV_5_2, kV_5_3, kV_5_4, kS_1_0, kS_1_1, kS_1_2, kS_1_3, kS_1_4, kS_2_0, kS_2_1, kS_2_2, kS_2_3, kS_2_4, kS_3_0, kS_3_1, kS_3_2, kS_3_3, kS_3_4, kS_3j_0, kS_3j_1, kS_3j_2, kS_3j_3, kS_3j_4, eX12_readText_0, eX12_readText_1, eX12_readText_2, eX12_readText_5, eX12_readText_6, eX12_readText_8, eX12_readText_11, eX12_readText_12, eX12_readText_13, eX12_readText_16, eX12_readText_17, eX12_readText_18, eX12_readText_21, eX12_readText_22, eX12_readText_23, eX12_readText_26, eX12_readText_27, eX12_readText_28, eX12_readText_31, eX12_readText_32, eX12_readText_35, eX12_readText_38, eX12_readText_39, eX12_readText_42, eX12_readText_43, eX12_readText_44, eX12_readText_46, eX12_readText_49, eX12_readText_50, eX12_readText_51, eX12_readText_52, eX12_readText_53, eX12_readText_57, eX12_readText_60, eX12_readText_62, eX12_readText_65, eX12_readText_66, eX12_readText_69, eX12_readText_70, eX12_readText_73, eX12_readText_76, eX12_readText_77, eX12_readText_78, eX12_readText_81, eX12_readText_82, eX12_readText_85, eX12_readText_86, eX12_readText_89, eX12_readText_92, eX12_readText_93, eX12_readText_96, rX12_readText, zGet_i, zPut_i, up, upR_same, upR_upR, nI_add, pk_mul, nsub, ndiv, nlt, nle, neq, uS, uN, g_3_0, f_3_1, p_3_1, g_3_2, g_3_3, g_3_4, g_3_5, g_3_6, g_3_7, g_3_8, g_3_9, g_3_10, g_3_11, g_3_12, g_3_13, g_3_14, g_3_15, g_5_0, g_5_1, g_5_2, g_5_3, g_5_4, g_5_5, g_5_6, f_5_7, p_5_7, f_5_8, p_5_8, f_5_9, p_5_9, g_13_0, f_13_1, p_13_1, f_13_2, p_13_2, g_14_0, f_14_1, p_14_1, f_14_2, p_14_2, g_15_0, g_15_1, g_15_2, g_15_3, g_15_4, g_15_5, g_15_6, f_15_7, p_15_7, f_15_8, p_15_8, f_15_9, p_15_9, g_23_0, g_23_1, f_23_2, p_23_2, f_23_3, p_23_3, g_30_0, g_30_1, f_30_2, p_30_2, f_30_3, p_30_3, g_37_0, f_37_1, p_37_1, f_37_2, p_37_2, g_139_0, g_139_1, g_140_0, g_140_1, f_140_2, p_140_2, f_140_3, p_140_3, g_142_0, g_142_1, g_142_2, g_142_3, f_142_4, p_142_4, f_145_0, p_145_0, f_145_1, p_145_1, f_145_2, p_145_2, f_145_3, p_145_3, f_145_4, p_145_4, f_145_5, p_145_5, f_145_6, p_145_6, g_146_0, g_146_1, g_146_2, g_148_0, g_148_1, g_148_2, g_148_3, g_151_0, g_151_1, f_151_2, p_151_2, g_152_0, g_152_1, f_152_2, p_152_2, f_152_3, p_152_3, g_159_0, g_159_1, f_159_2, p_159_2, f_159_3, p_159_3, f_166_0, p_166_0, f_166_1, p_166_1, f_166_2, p_166_2, g_166_3, g_166_4, g_166_5, g_166_6, g_166_7, g_166_8, g_166_9, g_166_10, g_166_11, g_166_12, f_166_13, p_166_13, f_166_14, p_166_14, f_166_15, p_166_15, f_166_16, p_166_16, g_166_17, f_166_18, p_166_18, f_166_19, p_166_19, f_166_20, p_166_20, f_166_21, p_166_21, f_166_22, p_166_22, f_166_23, p_166_23, g_166_24, g_166_25, g_166_26, f_166_27, p_166_27, g_166_28, g_166_29, f_166_30, p_166_30, g_166_31, g_166_32, a_4, s_4, a_6, s_6, a_7, s_7, a_8, s_8, a_9, s_9, a_10, s_10, a_11, s_11, a_12, s_12, a_16, s_16, a_17, s_17, a_18, s_18, a_19, s_19, a_20, s_20, a_21, s_21, a_22, s_22, a_138, s_138, a_141, s_141, a_143, s_143, a_144, s_144, a_147, s_147, a_149, s_149, a_150, s_150, a_167, s_167, a_168, s_168, a_169, s_169, a_170, s_170, a_171, s_171, a_172, s_172, a_173, s_173, a_174, s_174, a_175, s_175, a_176, s_176, a_177, s_177, a_178, s_178, a_179, s_179, a_180, s_180, a_181, s_181, a_182, s_182, a_183, s_183, a_184, s_184, zRem_n, zDiv_n, h18, z, e0, u, upR_ne])
  · refine ⟨upR I 166 (upd (upd (upd (upd (upd (upd (I 166) 19 (nI 0)) 20 (-9)) 13 (nI 0)) 14 (nI 0)) 15 (nI 0)) 16 (nI 0)), ?_, ⟨fun y hy _ _ _ => upR_ne hy, fun k hk => by rw [upR_same, uN (by omega), uN (by omega), uN (by omega), uN (by omega), uN (by omega), uN (by omega)]⟩, ?_⟩
    · have er : (rdL n T n 0 0 0 D).1 = some 0 := rd_no (a := 0) hlt (by simp [rdT, u])
      rw [er]
      simp only [opI]
      (have q_3 := o_3; have q_5 := o_5; have q_13 := o_13; have q_14 := o_14; have q_15 := o_15; have q_23 := o_23; have q_30 := o_30; have q_37 := o_37; have q_139 := o_139; have q_140 := o_140; have q_142 := o_142; have q_145 := o_145; have q_146 := o_146; have q_148 := o_148; have q_151 := o_151; have q_152 := o_152; have q_159 := o_159; have q_166 := o_166; simp (config := { decide := true }) (disch := first | assumption | omega) only [zPush_eq, zNx_eq, zAdd_eq, zSub_eq, zMul_eq, zAnd_eq, zOr_eq, zXor_eq, zShl_eq, zShr_eq, zUshr_eq, zJAdd_eq, zJSub_eq, zJMul_eq, zJAnd_eq, zJOr_eq, zJShl_eq, zJUshr_eq, zNeg_eq, zI2l_eq, zL2i_eq, zLcmp_eq, zDup_i, zDup_a, zDup2_ia, zPop_i, zBeq_eq, zBne_eq, zBlt_eq, zBge_eq, zBgt_eq, zBle_eq, zCeq_eq, zCne_eq, zClt_eq, zCge_eq, zCgt_eq, zCle_eq, zVret_eq, zLret_eq, kb_v, kb_n, ite_not, if_true, if_false, lI_0, lJ_0, lA_0, lI_1, lJ_1, lA_1, lI_2, lJ_2, lA_2, lI_3, lJ_3, lA_3, lI_4, lJ_4, lA_4, lI_5, lJ_5, lA_5, lI_6, lJ_6, lA_6, lI_7, lJ_7, lA_7, lI_8, lJ_8, lA_8, lI_9, lJ_9, lA_9, lI_10, lJ_10, lA_10, lI_11, lJ_11, lA_11, sI_0, sA_0, sJ_0, iI_0, sI_1n, sA_1n, sJ_1n, iI_1n, sI_1i, sA_1i, sJ_1i, iI_1i, sI_1a, sA_1a, sJ_1a, iI_1a, sI_2n, sA_2n, sJ_2n, iI_2n, sI_2i, sA_2i, sJ_2i, iI_2i, sI_2a, sA_2a, sJ_2a, iI_2a, sI_3n, sA_3n, sJ_3n, iI_3n, sI_3i, sA_3i, sJ_3i, iI_3i, sI_3a, sA_3a, sJ_3a, iI_3a, sI_4n, sA_4n, sJ_4n, iI_4n, sI_4i, sA_4i, sJ_4i, iI_4i, sI_4a, sA_4a, sJ_4a, iI_4a, sI_5n, sA_5n, sJ_5n, iI_5n, sI_5i, sA_5i, sJ_5i, iI_5i, sI_5a, sA_5a, sJ_5a, iI_5a, sI_6n, sA_6n, sJ_6n, iI_6n, sI_6i, sA_6i, sJ_6i, iI_6i, sI_6a, sA_6a, sJ_6a, iI_6a, sI_7n, sA_7n, sJ_7n, iI_7n, sI_7i, sA_7i, sJ_7i, iI_7i, sI_7a, sA_7a, sJ_7a, iI_7a, sI_8n, sA_8n, sJ_8n, iI_8n, sI_8i, sA_8i, sJ_8i, iI_8i, sI_8a, sA_8a, sJ_8a, iI_8a, sI_9n, sA_9n, sJ_9n, iI_9n, sI_9i, sA_9i, sJ_9i, iI_9i, sI_9a, sA_9a, sJ_9a, iI_9a, sI_10n, sA_10n, sJ_10n, iI_10n, sI_10i, sA_10i, sJ_10i, iI_10i, sI_10a, sA_10a, sJ_10a, iI_10a, sI_11n, sA_11n, sJ_11n, iI_11n, sI_11i, sA_11i, sJ_11i, iI_11i, sI_11a, sA_11a, sJ_11a, iI_11a, kV_0_0, kV_0_1, kV_0_2, kV_0_3, kV_0_4, kV_1_0, kV_1_1, kV_1_2, kV_1_3, kV_1_4, kV_1a_0, kV_1a_1, kV_1a_2, kV_1a_3, kV_1a_4, kV_2_0, kV_2_1, kV_2_2, kV_2_3, kV_2_4, kV_2a_0, kV_2a_1, kV_2a_2, kV_2a_3, kV_2a_4, kV_2j_0, kV_2j_1, kV_2j_2, kV_2j_3, kV_2j_4, kV_1j_0, kV_1j_1, kV_1j_2, kV_1j_3, kV_1j_4, kV_3_0, kV_3_1, kV_3_2, kV_3_3, kV_3_4, kV_4_0, kV_4_1, kV_4_2, kV_4_3, kV_4_4, kV_5_0, kV_5_1, kV_5_2, kV_5_3, kV_5_4, kS_1_0, kS_1_1, kS_1_2, kS_1_3, kS_1_4, kS_2_0, kS_2_1, kS_2_2, kS_2_3, kS_2_4, kS_3_0, kS_3_1, kS_3_2, kS_3_3, kS_3_4, kS_3j_0, kS_3j_1, kS_3j_2, kS_3j_3, kS_3j_4, eX12_readText_0, eX12_readText_1, eX12_readText_2, eX12_readText_5, eX12_readText_6, eX12_readText_8, eX12_readText_11, eX12_readText_12, eX12_readText_13, eX12_readText_16, eX12_readText_17, eX12_readText_18, eX12_readText_21, eX12_readText_22, eX12_readText_23, eX12_readText_26, eX12_readText_27, eX12_readText_28, eX12_readText_31, eX12_readText_32, eX12_readText_35, eX12_readText_38, eX12_readText_39, eX12_readText_42, eX12_readText_43, eX12_readText_44, eX12_readText_46, eX12_readText_49, eX12_readText_50, eX12_readText_51, eX12_readText_52, eX12_readText_53, eX12_readText_56, eX12_readText_57, eX12_readText_60, eX12_readText_62, eX12_readText_65, eX12_readText_66, eX12_readText_69, eX12_readText_70, eX12_readText_73, eX12_readText_76, eX12_readText_77, eX12_readText_78, eX12_readText_81, eX12_readText_82, eX12_readText_85, eX12_readText_86, eX12_readText_89, eX12_readText_92, eX12_readText_93, eX12_readText_96, rX12_readText, zGet_i, zPut_i, up, upR_same, upR_upR, nI_add, pk_mul, nsub, ndiv, nlt, nle, neq, uS, uN, g_3_0, f_3_1, p_3_1, g_3_2, g_3_3, g_3_4, g_3_5, g_3_6, g_3_7, g_3_8, g_3_9, g_3_10, g_3_11, g_3_12, g_3_13, g_3_14, g_3_15, g_5_0, g_5_1, g_5_2, g_5_3, g_5_4, g_5_5, g_5_6, f_5_7, p_5_7, f_5_8, p_5_8, f_5_9, p_5_9, g_13_0, f_13_1, p_13_1, f_13_2, p_13_2, g_14_0, f_14_1, p_14_1, f_14_2, p_14_2, g_15_0, g_15_1, g_15_2, g_15_3, g_15_4, g_15_5, g_15_6, f_15_7, p_15_7, f_15_8, p_15_8, f_15_9, p_15_9, g_23_0, g_23_1, f_23_2, p_23_2, f_23_3, p_23_3, g_30_0, g_30_1, f_30_2, p_30_2, f_30_3, p_30_3, g_37_0, f_37_1, p_37_1, f_37_2, p_37_2, g_139_0, g_139_1, g_140_0, g_140_1, f_140_2, p_140_2, f_140_3, p_140_3, g_142_0, g_142_1, g_142_2, g_142_3, f_142_4, p_142_4, f_145_0, p_145_0, f_145_1, p_145_1, f_145_2, p_145_2, f_145_3, p_145_3, f_145_4, p_145_4, f_145_5, p_145_5, f_145_6, p_145_6, g_146_0, g_146_1, g_146_2, g_148_0, g_148_1, g_148_2, g_148_3, g_151_0, g_151_1, f_151_2, p_151_2, g_152_0, g_152_1, f_152_2, p_152_2, f_152_3, p_152_3, g_159_0, g_159_1, f_159_2, p_159_2, f_159_3, p_159_3, f_166_0, p_166_0, f_166_1, p_166_1, f_166_2, p_166_2, g_166_3, g_166_4, g_166_5, g_166_6, g_166_7, g_166_8, g_166_9, g_166_10, g_166_11, g_166_12, f_166_13, p_166_13, f_166_14, p_166_14, f_166_15, p_166_15, f_166_16, p_166_16, g_166_17, f_166_18, p_166_18, f_166_19, p_166_19, f_166_20, p_166_20, f_166_21, p_166_21, f_166_22, p_166_22, f_166_23, p_166_23, g_166_24, g_166_25, g_166_26, f_166_27, p_166_27, g_166_28, g_166_29, f_166_30, p_166_30, g_166_31, g_166_32, a_4, s_4, a_6, s_6, a_7, s_7, a_8, s_8, a_9, s_9, a_10, s_10, a_11, s_11, a_12, s_12, a_16, s_16, a_17, s_17, a_18, s_18, a_19, s_19, a_20, s_20, a_21, s_21, a_22, s_22, a_138, s_138, a_141, s_141, a_143, s_143, a_144, s_144, a_147, s_147, a_149, s_149, a_150, s_150, a_167, s_167, a_168, s_168, a_169, s_169, a_170, s_170, a_171, s_171, a_172, s_172, a_173, s_173, a_174, s_174, a_175, s_175, a_176, s_176, a_177, s_177, a_178, s_178, a_179, s_179, a_180, s_180, a_181, s_181, a_182, s_182, a_183, s_183, a_184, s_184, zRem_n, zDiv_n, h18, z, e0, u, upR_ne])
    · intro w
      have er : (rdL n T n 0 0 0 D).1 = some 0 := rd_no (a := 0) hlt (by simp [rdT, u])
      rw [er] at w
      cases w
end MREAD
