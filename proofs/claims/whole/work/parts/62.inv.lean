section INV
variable {X : Nat × (Nat → Int32)} {I I' I1 I2 : Nat → Nat → Int32} {J J' : Nat → Int64} {B t n s q : Nat} {f : Nat → Nat → Nat} {C : Nat → Nat → Nat} {T fc fh : Nat → Nat} {h : Nat → Nat × (Nat → Nat → Nat)} {sd : Int64} {kp : Nat → Bool} {ks : Nat → Nat × (Nat → Nat → Nat)}
/-- city, hour, rows, letters, acts, findings, seed, slots -/
abbrev gS : Type := (Nat → Nat → Nat) × Nat × (Nat → Nat → Nat) × Nat × (Nat → Nat) × Nat × (Nat → Nat × (Nat → Nat → Nat)) × Nat × (Nat → Nat) × (Nat → Nat) × Int64 × (Nat → Bool) × (Nat → Nat × (Nat → Nat → Nat))
def cI (I : Nat → Nat → Int32) (J : Nat → Int64) (g : gS) : Prop := match g with
  | (C, t, f, n, T, s, h, q, fc, fh, sd, kp, ks) => cty I C ∧ skB I 23 C (-1) t f ∧ skJ I 30 ∧ acI I C s h ∧ (∀ i, i < 14 → skJ I (39 + 7 * i)) ∧ (∀ k, k < 2 → skJ I (152 + 7 * k) ∧ I 138 k = bI (kp k) ∧ (kp k = true → skB I (152 + 7 * k) C (-1) (ks k).1 (ks k).2)) ∧ (I 3 1 = nI n ∧ ∀ j, j < n → I 4 j = nI (T j)) ∧ fnI I q fc fh ∧ (∃ p, I 145 = enc p) ∧ J 151 = sd ∧ (∃ D, ctM I 15 D ∧ rng D)
def mI (I : Nat → Nat → Int32) (J : Nat → Int64) (g : gS) : Prop := match g with
  | (C, t, f, n, T, s, h, q, fc, fh, sd, kp, ks) => mC I C ∧ I 166 21 = nI 15 ∧ mS I 0 C t f ∧ mA I C s h ∧ (∀ k, k < 2 → I 183 k = bI (kp k) ∧ (kp k = true → mSN (I 184) k C (ks k).1 (ks k).2)) ∧ (I 166 18 = nI n ∧ ∀ j, j < n → I 177 j = nI (T j)) ∧ fnM I q fc fh ∧ J 166 = sd
def pI (B : Nat) (g : gS) : Prop := match g with
  | (C, t, f, n, T, s, h, q, fc, fh, sd, kp, ks) => okC C ∧ okS C t f ∧ t ≤ B ∧ (n ≤ 48 ∧ ∀ j, j < n → T j < 256) ∧ (∀ j, j < s → okS C (h j).1 (h j).2 ∧ (h j).1 ≤ B) ∧ (∀ k, k < 2 → kp k = true → okS C (ks k).1 (ks k).2 ∧ (ks k).1 ≤ B) ∧ s ≤ 14
def inv (B : Nat) (I : Nat → Nat → Int32) (J : Nat → Int64) : Prop := ∃ g : gS, cI I J g ∧ mI I J g ∧ pI B g
theorem acI_of (hx : ∀ x, 37 ≤ x → x < 137 → I' x = I x) (ha : acI I C s h) : acI I' C s h := by
  obtain ⟨o, h1, h2, h3, h4, h5⟩ := ha
  refine ⟨o, h1, h2, by rw [hx 37 (by omega) (by omega)]; exact h3, by rw [hx 37 (by omega) (by omega)]; exact h4, fun j hj => skB_of (fun x a b => hx x (by omega) (by omega)) (h5 j hj)⟩
theorem mA_of (h6 : I' 166 22 = I 166 22 ∧ I' 166 23 = I 166 23) (h8 : I' 178 = I 178) (ha : mA I C s h) : mA I' C s h := by
  obtain ⟨o, h1, h2, h3, h4, h5⟩ := ha
  exact ⟨o, h1, h2, by rw [h6.1]; exact h3, by rw [h6.2]; exact h4, by rw [h8]; exact h5⟩
theorem fnM_of (h6 : I' 166 27 = I 166 27) (h1 : I' 181 = I 181) (h2 : I' 182 = I 182) (hf : fnM I q fc fh) : fnM I' q fc fh := by
  unfold fnM
  rw [h6, h1, h2]
  exact hf
theorem cI_of {g : gS} (hx : ∀ x, x < 166 → I' x = I x) (hJ : J' 151 = J 151) (hc : cI I J g) : cI I' J' g := by
  obtain ⟨C, t, f, n, T, s, h, q, fc, fh, sd, kp, ks⟩ := g
  obtain ⟨c1, c2, c3, c4, c5, c6, c7, c8, c9, c10, D, c11, c12⟩ := hc
  refine ⟨cty_of (fun x a => hx x (by omega)) c1, skB_of (fun x a b => hx x (by omega)) c2, skJ_of (fun x a b => hx x (by omega)) c3, acI_of (fun x a b => hx x (by omega)) c4, fun i hi => skJ_of (fun x a b => hx x (by omega)) (c5 i hi), fun k hk => ?_, ?_, fnI_of (fun x a b => hx x (by omega)) c8, by rw [hx 145 (by omega)]; exact c9, by rw [hJ]; exact c10, D, ctM_of (fun x a b => hx x (by omega)) c11, c12⟩
  · obtain ⟨k1, k2, k3⟩ := c6 k hk
    exact ⟨skJ_of (fun x a b => hx x (by omega)) k1, by rw [hx 138 (by omega)]; exact k2, fun z => skB_of (fun x a b => hx x (by omega)) (k3 z)⟩
  · rw [hx 3 (by omega), hx 4 (by omega)]
    exact c7
theorem mI_of {g : gS} (hx : ∀ x, 166 ≤ x → I' x = I x) (hJ : J' 166 = J 166) (hm : mI I J g) : mI I' J' g := by
  obtain ⟨C, t, f, n, T, s, h, q, fc, fh, sd, kp, ks⟩ := g
  obtain ⟨m1, m2, m3, m4, m5, m6, m7, m8⟩ := hm
  have e := hx 166 (by omega)
  refine ⟨mC_of (fun x a b => hx x (by omega)) (by rw [e]; exact ⟨rfl, rfl, rfl⟩) m1, by rw [e]; exact m2, by unfold mS; rw [hx 173 (by omega)]; exact m3, mA_of (by rw [e]; exact ⟨rfl, rfl⟩) (hx 178 (by omega)) m4, by rw [hx 183 (by omega), hx 184 (by omega)]; exact m5, by rw [e, hx 177 (by omega)]; exact m6, fnM_of (by rw [e]) (hx 181 (by omega)) (hx 182 (by omega)) m7, by rw [hJ]; exact m8⟩
theorem pI_up {g : gS} (hp' : pI B g) : pI (B + 1) g := by
  obtain ⟨C, t, f, n, T, s, h, q, fc, fh, sd, kp, ks⟩ := g
  obtain ⟨p1, p2, p3, p4, p5, p6, p7⟩ := hp'
  exact ⟨p1, p2, by omega, p4, fun j hj => ⟨(p5 j hj).1, by have := (p5 j hj).2; omega⟩, fun k hk z => ⟨(p6 k hk z).1, by have := (p6 k hk z).2; omega⟩, p7⟩
/-- two runs of one call, with one answer -/
def bothI (X : Nat × (Nat → Int32)) (N N' : pmM) (a a' : pmL) (I : Nat → Nat → Int32) (J : Nat → Int64) (B : Nat) : Prop := ∃ (r : Int32) (I1 : Nat → Nat → Int32) (J1 : Nat → Int64) (I2 : Nat → Nat → Int32) (J2 : Nat → Int64), pmV N 0 a [] (hp X I J) = some (some (.int r), hp X I1 J1) ∧ pmV N' 0 a' [] (hp X I1 J1) = some (some (.int r), hp X I2 J2) ∧ inv (B + 1) I2 J2
theorem both_of {N N' : pmM} {a a' : pmL} {r : Int32} {g g' : gS} (hm : mI I J g) (h1 : ∃ I1 J1, pmV N 0 a [] (hp X I J) = some (some (.int r), hp X I1 J1) ∧ cI I1 J1 g' ∧ (∀ x, 166 ≤ x → I1 x = I x) ∧ J1 166 = J 166) (h2 : ∀ I1 J1, mI I1 J1 g → ∃ I2 J2, pmV N' 0 a' [] (hp X I1 J1) = some (some (.int r), hp X I2 J2) ∧ mI I2 J2 g' ∧ (∀ x, x < 166 → I2 x = I1 x) ∧ J2 151 = J1 151) (hp' : pI (B + 1) g') : bothI X N N' a a' I J B := by
  obtain ⟨I1, J1, p1, p2, p3, p4⟩ := h1
  obtain ⟨I2, J2, q1, q2, q3, q4⟩ := h2 I1 J1 (mI_of p3 p4 hm)
  exact ⟨r, I1, J1, I2, J2, p1, q1, g', cI_of q3 q4 p2, q2, hp'⟩
theorem both_no {N N' : pmM} {a a' : pmL} {r : Int32} (hi : inv B I J) (h1 : pmV N 0 a [] (hp X I J) = some (some (.int r), hp X I J)) (h2 : pmV N' 0 a' [] (hp X I J) = some (some (.int r), hp X I J)) : bothI X N N' a a' I J B := by
  obtain ⟨g, g1, g2, g3⟩ := hi
  exact ⟨r, I, J, I, J, h1, h2, g, g1, g2, pI_up g3⟩
/-- what a question may change in the class -/
def scC (I I' : Nat → Nat → Int32) : Prop := skJ I' 30 ∧ ∀ x, x < 30 ∨ 37 ≤ x → x ≠ 140 → x ≠ 141 → x ≠ 147 → x ≠ 149 → x ≠ 150 → I' x = I x
def scM (I I' : Nat → Nat → Int32) : Prop := (∀ y, y ≠ 173 → y ≠ 179 → y ≠ 180 → I' y = I y) ∧ ∀ k, k < 31 → I' 173 k = I 173 k
theorem scM_tN (h : tN I I') : scM I I' := ⟨fun y a _ _ => h.1 y a, h.2⟩
theorem scM_tr (h1 : scM I I1) (h2 : scM I1 I2) : scM I I2 := ⟨fun y a b c => (h2.1 y a b c).trans (h1.1 y a b c), fun k hk => (h2.2 k hk).trans (h1.2 k hk)⟩
theorem scC_fr (h0 : skJ I' 30) (h : fr 30 I I') : scC I I' := ⟨h0, fun x a _ _ _ _ _ => h x a⟩
theorem scC_id (h0 : skJ I 30) : scC I I := ⟨h0, fun _ _ _ _ _ _ _ => rfl⟩
theorem cI_sc {g : gS} (hs : scC I I') (hc : cI I J g) : cI I' J g := by
  obtain ⟨C, t, f, n, T, s, h, q, fc, fh, sd, kp, ks⟩ := g
  obtain ⟨c1, c2, c3, c4, c5, c6, c7, c8, c9, c10, D, c11, c12⟩ := hc
  obtain ⟨s1, s2⟩ := hs
  have hx : ∀ x, x < 30 ∨ (37 ≤ x ∧ x < 140) ∨ (142 ≤ x ∧ x < 147) ∨ 151 ≤ x → I' x = I x := fun x a => s2 x (by omega) (by omega) (by omega) (by omega) (by omega) (by omega)
  refine ⟨cty_of (fun x a => hx x (by omega)) c1, skB_of (fun x a b => hx x (by omega)) c2, s1, acI_of (fun x a b => hx x (by omega)) c4, fun i hi => skJ_of (fun x a b => hx x (by omega)) (c5 i hi), fun k hk => ?_, ?_, fnI_of (fun x a b => hx x (by omega)) c8, by rw [hx 145 (by omega)]; exact c9, c10, D, ctM_of (fun x a b => hx x (by omega)) c11, c12⟩
  · obtain ⟨k1, k2, k3⟩ := c6 k hk
    exact ⟨skJ_of (fun x a b => hx x (by omega)) k1, by rw [hx 138 (by omega)]; exact k2, fun z => skB_of (fun x a b => hx x (by omega)) (k3 z)⟩
  · rw [hx 3 (by omega), hx 4 (by omega)]
    exact c7
theorem mI_sc {g : gS} (hp' : pI B g) (hs : scM I I') (hm : mI I J g) : mI I' J g := by
  obtain ⟨C, t, f, n, T, s, h, q, fc, fh, sd, kp, ks⟩ := g
  obtain ⟨m1, m2, m3, m4, m5, m6, m7, m8⟩ := hm
  obtain ⟨s1, s2⟩ := hs
  have hx : ∀ x, x < 173 ∨ (174 ≤ x ∧ x < 179) ∨ 181 ≤ x → I' x = I x := fun x a => s1 x (by omega) (by omega) (by omega)
  have e := hx 166 (by omega)
  have m3' : mS I' 0 C t f := mSN_of (l := 0) hp'.1 (fun k _ hk => s2 k (by omega)) m3
  exact ⟨mC_of (fun x a b => hx x (by omega)) (by rw [e]; exact ⟨rfl, rfl, rfl⟩) m1, by rw [e]; exact m2, m3', mA_of (by rw [e]; exact ⟨rfl, rfl⟩) (hx 178 (by omega)) m4, by rw [hx 183 (by omega), hx 184 (by omega)]; exact m5, by rw [e, hx 177 (by omega)]; exact m6, fnM_of (by rw [e]) (hx 181 (by omega)) (hx 182 (by omega)) m7, m8⟩
theorem both_q {N N' : pmM} {a a' : pmL} {r : Int32} {g : gS} (hc : cI I J g) (hm : mI I J g) (hp' : pI B g) (h1 : ∃ I1, pmV N 0 a [] (hp X I J) = some (some (.int r), hp X I1 J) ∧ scC I I1) (h2 : ∀ I1, mI I1 J g → ∃ I2, pmV N' 0 a' [] (hp X I1 J) = some (some (.int r), hp X I2 J) ∧ scM I1 I2) : bothI X N N' a a' I J B := by
  obtain ⟨I1, p1, p2⟩ := h1
  have m1 : mI I1 J g := mI_of (fun x hx => p2.2 x (by omega) (by omega) (by omega) (by omega) (by omega) (by omega)) rfl hm
  obtain ⟨I2, q1, q2⟩ := h2 I1 m1
  exact ⟨r, I1, J, I2, J, p1, q1, g, cI_of (fun x hx => q2.1 x (by omega) (by omega) (by omega)) rfl (cI_sc p2 hc), mI_sc hp' q2 m1, pI_up hp'⟩
theorem hasB {x : Int32} (h : cI I J (C, t, f, n, T, s, h, q, fc, fh, sd, kp, ks)) : pmV mX10_hasBalloon 0 (pmEnt 2 [.ref 23, .int x]) [] (hp X I J) = some (some (.int (bI (decide (¬ x < nI 0 ∧ ¬ nI (C 0 1) ≤ x)))), hp X I J) := w_has sky23 h.1 (skB_J h.2.1)
end INV
