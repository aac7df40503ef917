section PERM
variable {n i k l q v m : Nat} {p p' c : Nat → Nat} {K : Nat × Nat → Prop}
def dg5 (N b : Nat) : Nat := N / 5 ^ b % 5
def metN (N : Nat) : Nat → Nat
  | 0 => 0
  | k + 1 => metN N k ||| 2 ^ dg5 N k
def isO (n N : Nat) : Bool := decide (N / 5 ^ n = 0 ∧ metN N n = 2 ^ n - 1)
def cyW (p : Nat → Nat) : Nat → Nat → Nat → Nat → Nat × Nat
  | 0, met, _, sz => (met, sz)
  | q + 1, met, k, sz => if tb met k = true then (met, sz) else cyW p q (met ||| 2 ^ k) (p k) (sz + 1)
def exL (p : Nat → Nat) : Nat → Nat → Nat → Nat → Nat
  | 0, _, _, e => e
  | m + 1, b, met, e => exL p m (b + 1) (cyW p 32 met b 0).1 (e + ((cyW p 32 met b 0).2 - 1))
theorem cyW_cg (h : ∀ k, k < n → p k = p' k ∧ p k < n) : ∀ (q met k sz : Nat), k < n → cyW p q met k sz = cyW p' q met k sz
  | 0, met, k, sz, hk => rfl
  | q + 1, met, k, sz, hk => by
    unfold cyW
    have hh := h k hk
    rw [← hh.1, cyW_cg h q (met ||| 2 ^ k) (p k) (sz + 1) hh.2]
theorem exL_cg (h : ∀ k, k < n → p k = p' k ∧ p k < n) : ∀ (m b met e : Nat), b + m ≤ n → exL p m b met e = exL p' m b met e
  | 0, b, met, e, hb => rfl
  | m + 1, b, met, e, hb => by
    unfold exL
    rw [cyW_cg h 32 met b 0 (by omega)]
    exact exL_cg h m (b + 1) _ _ (by omega)
/-- p takes the first n numbers to the first n, each to another -/
def pmB (n : Nat) (p : Nat → Nat) : Bool := (List.range n).all (fun k => decide (p k < n) && (List.range n).all (fun l => !(p k == p l) || k == l))
theorem pmB_iff : pmB n p = true ↔ ∀ k, k < n → p k < n ∧ ∀ l, l < n → p k = p l → k = l := by
  unfold pmB
  simp only [List.all_eq_true, List.mem_range, Bool.and_eq_true, decide_eq_true_eq, Bool.or_eq_true, Bool.not_eq_true', beq_eq_false_iff_ne, beq_iff_eq]
  constructor
  · intro h k hk
    refine ⟨(h k hk).1, fun l hl he => ?_⟩
    rcases (h k hk).2 l hl with z | z
    · exact absurd he z
    · exact z
  · intro h k hk
    refine ⟨(h k hk).1, fun l hl => ?_⟩
    by_cases z : p k = p l
    · exact Or.inr ((h k hk).2 l hl z)
    · exact Or.inl z
def enc5 (p : Nat → Nat) : Nat → Nat
  | 0 => 0
  | k + 1 => enc5 p k + p k * 5 ^ k
theorem enc_dg : ∀ (n : Nat), (∀ k, k < n → p k < 5) → enc5 p n < 5 ^ n ∧ ∀ k, k < n → dg5 (enc5 p n) k = p k
  | 0, _ => ⟨by show 0 < 5 ^ 0; decide, fun k hk => absurd hk (by omega)⟩
  | n + 1, h => by
    obtain ⟨h1, h2⟩ := enc_dg n (fun k hk => h k (by omega))
    have hn := h n (by omega)
    have h5 : 0 < 5 ^ n := Nat.pow_pos (by decide)
    have hm : p n * 5 ^ n ≤ 4 * 5 ^ n := Nat.mul_le_mul_right _ (by omega)
    refine ⟨?_, fun k hk => ?_⟩
    · show enc5 p n + p n * 5 ^ n < 5 ^ (n + 1)
      rw [Nat.pow_succ]
      omega
    · show (enc5 p n + p n * 5 ^ n) / 5 ^ k % 5 = p k
      by_cases z : k = n
      · subst z
        rw [Nat.add_mul_div_right _ _ h5, Nat.div_eq_of_lt h1, Nat.zero_add, Nat.mod_eq_of_lt hn]
      · have e : 5 ^ n = 5 ^ k * (5 * 5 ^ (n - k - 1)) := by
          rw [← Nat.pow_succ', ← Nat.pow_add]
          congr 1
          omega
        have hk5 : 0 < 5 ^ k := Nat.pow_pos (by decide)
        rw [e, Nat.mul_left_comm, Nat.add_mul_div_left _ _ hk5, Nat.mul_left_comm, Nat.add_mul_mod_self_left]
        exact h2 k (by omega)
def tbL (n : Nat) : List Nat := match n with
  | 0 => [0]
  | 1 => [0]
  | 2 => [5, 1]
  | 3 => [55, 51, 7, 35, 11, 27]
  | 4 => [430, 426, 382, 58, 410, 386, 402, 38, 190, 66, 142, 178, 330, 326, 82, 258, 210, 86, 202, 138, 290, 266, 42, 278]
  | _ => [2930, 2926, 2882, 2558, 434, 2910, 2886, 2902, 2538, 414, 2690, 2566, 2642, 2678, 194, 1070, 446, 1022, 698, 1054, 2830, 2826, 2582, 2758, 334, 2710, 2586, 2702, 2638, 214, 2790, 2766, 2542, 2778, 294, 970, 346, 722, 898, 954, 1730, 1726, 482, 1358, 1634, 1110, 486, 1102, 738, 1014, 1490, 1366, 242, 1478, 1394, 1670, 1646, 422, 1298, 1654, 2430, 2426, 2382, 558, 1934, 2410, 2386, 2402, 538, 1914, 1190, 566, 1142, 1178, 694, 2070, 1946, 2022, 198, 2054, 1830, 1826, 582, 1758, 1334, 1210, 586, 1202, 1138, 714, 1790, 1766, 542, 1778, 1294, 1470, 1346, 222, 1398, 1454, 2230, 2226, 1982, 358, 2134, 2110, 1986, 2102, 238, 2014, 990, 366, 742, 978, 894, 2170, 2146, 1922, 298, 2154]

def surB (n : Nat) (p : Nat → Nat) : Bool := (List.range n).all (fun ch => (List.range n).any (fun k => p k == ch))
theorem f1_all : (List.range 6).all (fun n => (List.range (5 ^ n)).all (fun N => !isO n N || pmB n (dg5 N))) = true := by decide +kernel
theorem f2_all : (List.range 6).all (fun n => (List.range (5 ^ n)).all (fun N => !pmB n (dg5 N) || (isO n N && surB n (dg5 N) && (tbL n).elem N))) = true := by decide +kernel
theorem f3_all : (List.range 6).all (fun n => decide ((tbL n).length = facN n) && (List.range (facN n)).all (fun i => (List.range n).all (fun k => dg5 ((tbL n).getD i 0) k == (lay n i).1 k) && pmB n (lay n i).1 && exL (lay n i).1 n 0 0 0 == (lay n i).2)) = true := by decide +kernel
theorem isO_pm (hn : n < 6) (h : isO n v = true) : pmB n (dg5 v) = true := by
  have hv : v < 5 ^ n := by
    have := (of_decide_eq_true h).1
    have h5 : 0 < 5 ^ n := Nat.pow_pos (by decide)
    rcases Nat.div_eq_zero_iff.mp this with z | z
    · omega
    · exact z
  have := List.all_eq_true.mp (List.all_eq_true.mp f1_all n (List.mem_range.mpr hn)) v (List.mem_range.mpr hv)
  simpa [h] using this
theorem pm_all (hn : n < 6) (hv : v < 5 ^ n) (h : pmB n (dg5 v) = true) : isO n v = true ∧ surB n (dg5 v) = true ∧ v ∈ tbL n := by
  have := List.all_eq_true.mp (List.all_eq_true.mp f2_all n (List.mem_range.mpr hn)) v (List.mem_range.mpr hv)
  rw [h] at this
  simp only [Bool.not_true, Bool.false_or, Bool.and_eq_true] at this
  exact ⟨this.1.1, this.1.2, List.elem_iff.mp this.2⟩
theorem lay_all (hn : n < 6) (hi : i < facN n) : (∀ k, k < n → dg5 ((tbL n).getD i 0) k = (lay n i).1 k) ∧ pmB n (lay n i).1 = true ∧ exL (lay n i).1 n 0 0 0 = (lay n i).2 := by
  have := List.all_eq_true.mp f3_all n (List.mem_range.mpr hn)
  rw [Bool.and_eq_true] at this
  have := List.all_eq_true.mp this.2 i (List.mem_range.mpr hi)
  rw [Bool.and_eq_true, Bool.and_eq_true] at this
  refine ⟨fun k hk => ?_, this.1.2, beq_iff_eq.mp this.2⟩
  exact beq_iff_eq.mp (List.all_eq_true.mp this.1.1 k (List.mem_range.mpr hk))
theorem tbL_len (hn : n < 6) : (tbL n).length = facN n := by
  have := List.all_eq_true.mp f3_all n (List.mem_range.mpr hn)
  rw [Bool.and_eq_true] at this
  exact of_decide_eq_true this.1
theorem pmB_cg (h : ∀ k, k < n → p k = p' k) (hp : pmB n p = true) : pmB n p' = true := by
  rw [pmB_iff] at hp ⊢
  intro k hk
  rw [← h k hk]
  refine ⟨(hp k hk).1, fun l hl he => (hp k hk).2 l hl ?_⟩
  rw [← h l hl] at he
  exact he
theorem pm_sur (hn : n < 6) (hp : pmB n c = true) (hv : v < n) : ∃ k, k < n ∧ c k = v := by
  obtain ⟨h1, h2⟩ := enc_dg (p := c) n (fun k hk => by have := (pmB_iff.mp hp k hk).1; omega)
  have h3 := (pm_all hn h1 (pmB_cg (fun k hk => (h2 k hk).symm) hp)).2.1
  obtain ⟨k, hk, he⟩ := List.any_eq_true.mp (List.all_eq_true.mp h3 v (List.mem_range.mpr hv))
  have hk := List.mem_range.mp hk
  exact ⟨k, hk, by rw [← h2 k hk]; exact beq_iff_eq.mp he⟩
theorem pm_lay (hn : n < 6) (hp : pmB n p = true) : ∃ i, i < facN n ∧ (∀ k, k < n → (lay n i).1 k = p k) ∧ exL p n 0 0 0 = (lay n i).2 := by
  obtain ⟨h1, h2⟩ := enc_dg (p := p) n (fun k hk => by have := (pmB_iff.mp hp k hk).1; omega)
  have h3 := (pm_all hn h1 (pmB_cg (fun k hk => (h2 k hk).symm) hp)).2.2
  obtain ⟨i, hi, he⟩ := List.getElem_of_mem h3
  have hi' : i < facN n := by rw [← tbL_len hn]; exact hi
  obtain ⟨l1, l2, l3⟩ := lay_all hn hi'
  have hg : (tbL n).getD i 0 = enc5 p n := by rw [← he]; simp [List.getD, hi]
  have hk : ∀ k, k < n → (lay n i).1 k = p k := fun k hk => by rw [← l1 k hk, hg, h2 k hk]
  refine ⟨i, hi', hk, ?_⟩
  rw [← l3]
  exact exL_cg (n := n) (fun k hk' => ⟨(hk k hk').symm, (pmB_iff.mp hp k hk').1⟩) n 0 0 0 (by omega)
/-- the balloon whose child is v -/
def bTo (c : Nat → Nat) (v : Nat) : Nat → Nat
  | 0 => 0
  | k + 1 => if c k = v then k else bTo c v k
theorem bTo_lt : ∀ (k : Nat), 0 < k → bTo c v k < k
  | 0, h => absurd h (by omega)
  | k + 1, _ => by
    unfold bTo
    split
    · omega
    · by_cases z : k = 0
      · subst z
        simp [bTo]
      · have := bTo_lt k (by omega)
        omega
theorem bTo_le : ∀ (k : Nat), bTo c v k ≤ k
  | 0 => by simp [bTo]
  | k + 1 => Nat.le_of_lt (bTo_lt (k + 1) (by omega))
theorem bTo_eq (hp : ∀ k, k < n → ∀ l, l < n → c k = c l → k = l) : ∀ (m : Nat), m ≤ n → q < m → bTo c (c q) m = q
  | 0, _, h => absurd h (by omega)
  | m + 1, hm, h => by
    unfold bTo
    by_cases z : q = m
    · subst z
      rw [if_pos rfl]
    · rw [if_neg (fun he => z (hp m (by omega) q (by omega) he).symm)]
      exact bTo_eq hp m (by omega) (by omega)
/-! the best of some -/
def bst (K : Nat × Nat → Prop) (s : Nat × Nat) : Prop := K s ∧ ∀ r, K r → r.1 < s.1 ∨ (r.1 = s.1 ∧ s.2 ≤ r.2)
theorem bst_uniq {s r : Nat × Nat} (h1 : bst K s) (h2 : bst K r) : s = r := by
  have a := h1.2 r h2.1
  have b := h2.2 s h1.1
  refine Prod.ext ?_ ?_ <;> omega
def upS (s : Nat × Nat) (g e : Nat) : Nat × Nat := if s.1 < g ∨ (g = s.1 ∧ e < s.2) then (g, e) else s
theorem bst_up {s : Nat × Nat} {g e : Nat} {K' : Nat × Nat → Prop} (h : bst K s) (hk : ∀ r, K' r ↔ K r ∨ r = (g, e)) : bst K' (upS s g e) := by
  unfold upS
  by_cases z : s.1 < g ∨ (g = s.1 ∧ e < s.2)
  · rw [if_pos z]
    refine ⟨(hk _).mpr (Or.inr rfl), fun r hr => ?_⟩
    rcases (hk r).mp hr with u | u
    · have := h.2 r u
      show r.1 < g ∨ (r.1 = g ∧ e ≤ r.2)
      omega
    · subst u
      exact Or.inr ⟨rfl, Nat.le_refl _⟩
  · rw [if_neg z]
    refine ⟨(hk _).mpr (Or.inl h.1), fun r hr => ?_⟩
    rcases (hk r).mp hr with u | u
    · exact h.2 r u
    · subst u
      show g < s.1 ∨ (g = s.1 ∧ s.2 ≤ e)
      omega
def Kc (G E : Nat → Nat) (o : Nat) (r : Nat × Nat) : Prop := ∃ i, i < o ∧ r = (G i, E i)
theorem Kc_s {G E : Nat → Nat} {o : Nat} (r : Nat × Nat) : Kc G E (o + 1) r ↔ Kc G E o r ∨ r = (G o, E o) := by
  constructor
  · rintro ⟨i, hi, he⟩
    by_cases z : i = o
    · subst z
      exact Or.inr he
    · exact Or.inl ⟨i, by omega, he⟩
  · rintro (⟨i, hi, he⟩ | he)
    · exact ⟨i, by omega, he⟩
    · exact ⟨o, by omega, he⟩
theorem bstO_b {C : Nat → Nat → Nat} {t : Nat} {f : Nat → Nat → Nat} : ∀ (m o : Nat) (s : Nat × Nat), bst (Kc (gO C t f) (fun i => (lay (C 0 1) i).2) o) s → ∃ r, bstO C t f m o (some s) = some r ∧ bst (Kc (gO C t f) (fun i => (lay (C 0 1) i).2) (o + m)) r
  | 0, o, s, h => ⟨s, rfl, h⟩
  | m + 1, o, s, h => by
    have e : upB (some s) (gO C t f o) (lay (C 0 1) o).2 = some (upS s (gO C t f o) (lay (C 0 1) o).2) := by
      obtain ⟨a, b⟩ := s
      rw [upB_s]
      unfold upS
      split <;> rfl
    obtain ⟨r, r1, r2⟩ := bstO_b m (o + 1) _ (bst_up h Kc_s)
    unfold bstO
    rw [e]
    rw [show o + 1 + m = o + (m + 1) by omega] at r2
    exact ⟨r, r1, r2⟩
theorem bstO_all {C : Nat → Nat → Nat} {t : Nat} {f : Nat → Nat → Nat} (hm : 0 < m) : ∃ r, bstO C t f m 0 none = some r ∧ bst (Kc (gO C t f) (fun i => (lay (C 0 1) i).2) m) r := by
  obtain ⟨q, rfl⟩ : ∃ q, m = q + 1 := ⟨m - 1, by omega⟩
  obtain ⟨r, r1, r2⟩ := bstO_b (C := C) (t := t) (f := f) q 1 (gO C t f 0, (lay (C 0 1) 0).2) ⟨⟨0, by omega, rfl⟩, fun r ⟨i, hi, he⟩ => by
    obtain rfl : i = 0 := by omega
    subst he
    exact Or.inr ⟨rfl, Nat.le_refl _⟩⟩
  rw [Nat.add_comm 1 q] at r2
  exact ⟨r, r1, r2⟩
def bsM (n : Nat) (G E : Nat → Nat) : Nat → Nat → Nat × Nat → Nat × Nat
  | 0, _, s => s
  | m + 1, N, s => bsM n G E m (N + 1) (if isO n N = true then upS s (G N) (E N) else s)
def Km (n : Nat) (G E : Nat → Nat) (N : Nat) (r : Nat × Nat) : Prop := r = (0, 0) ∨ ∃ i, i < N ∧ isO n i = true ∧ r = (G i, E i)
theorem bsM_b {G E : Nat → Nat} : ∀ (m N : Nat) (s : Nat × Nat), bst (Km n G E N) s → bst (Km n G E (N + m)) (bsM n G E m N s)
  | 0, N, s, h => h
  | m + 1, N, s, h => by
    unfold bsM
    rw [show N + (m + 1) = N + 1 + m by omega]
    refine bsM_b m (N + 1) _ ?_
    by_cases z : isO n N = true
    · rw [if_pos z]
      refine bst_up h (fun r => ?_)
      constructor
      · rintro (u | ⟨i, hi, h1, h2⟩)
        · exact Or.inl (Or.inl u)
        · by_cases w : i = N
          · subst w
            exact Or.inr h2
          · exact Or.inl (Or.inr ⟨i, by omega, h1, h2⟩)
      · rintro ((u | ⟨i, hi, h1, h2⟩) | u)
        · exact Or.inl u
        · exact Or.inr ⟨i, by omega, h1, h2⟩
        · exact Or.inr ⟨N, by omega, z, u⟩
    · rw [if_neg z]
      have e : ∀ r, Km n G E (N + 1) r ↔ Km n G E N r := fun r => by
        constructor
        · rintro (u | ⟨i, hi, h1, h2⟩)
          · exact Or.inl u
          · by_cases w : i = N
            · subst w
              exact absurd h1 z
            · exact Or.inr ⟨i, by omega, h1, h2⟩
        · rintro (u | ⟨i, hi, h1, h2⟩)
          · exact Or.inl u
          · exact Or.inr ⟨i, by omega, h1, h2⟩
      exact ⟨(e s).mpr h.1, fun r hr => h.2 r ((e r).mp hr)⟩
def Gm (C : Nat → Nat → Nat) (t : Nat) (f : Nat → Nat → Nat) (N : Nat) : Nat := cnt (gBy C t f (dg5 N)) (C 0 1)
def Em (n : Nat) (c : Nat → Nat) (N : Nat) : Nat := exL (fun k => bTo c (dg5 N k) n) n 0 0 0
theorem lay_0 : ∀ n, n < 6 → (lay n 0).2 = 0 := by decide +kernel
theorem most_eq {C : Nat → Nat → Nat} {t : Nat} {f : Nat → Nat → Nat} (hn : C 0 1 < 6) (hc : pmB (C 0 1) c = true) (hf : ∀ i, i < C 0 1 → f i 6 = c i) : bstO C t f (facN (C 0 1)) 0 none = some (bsM (C 0 1) (Gm C t f) (Em (C 0 1) c) 3125 0 (0, 0)) := by
  have h1 := (facN_lt (C 0 1) hn).1
  obtain ⟨r, r1, r2⟩ := bstO_all (C := C) (t := t) (f := f) h1
  have b := bsM_b (n := C 0 1) (G := Gm C t f) (E := Em (C 0 1) c) 3125 0 (0, 0) ⟨Or.inl rfl, fun r hr => by
    rcases hr with u | ⟨i, hi, _⟩
    · subst u
      exact Or.inr ⟨rfl, Nat.le_refl _⟩
    · exact absurd hi (by omega)⟩
  rw [Nat.zero_add] at b
  have inj := fun k hk l hl he => (pmB_iff.mp hc k hk).2 l hl he
  have gg : ∀ i N, (∀ k, k < C 0 1 → (lay (C 0 1) i).1 k < C 0 1 ∧ dg5 N k = c ((lay (C 0 1) i).1 k)) → Gm C t f N = gO C t f i := by
    intro i N h
    unfold Gm gO
    refine cnt_congr _ (fun k hk => ?_)
    obtain ⟨u1, u2⟩ := h k hk
    unfold gBy
    rw [u2, ← hf _ u1]
  have toM : ∀ r, Kc (gO C t f) (fun i => (lay (C 0 1) i).2) (facN (C 0 1)) r → Km (C 0 1) (Gm C t f) (Em (C 0 1) c) 3125 r := by
    rintro r ⟨i, hi, he⟩
    obtain ⟨l1, l2, l3⟩ := lay_all hn hi
    have ll := pmB_iff.mp l2
    have lt : ∀ k, k < C 0 1 → (lay (C 0 1) i).1 k < C 0 1 := fun k hk => (ll k hk).1
    obtain ⟨e1, e2⟩ := enc_dg (p := fun k => c ((lay (C 0 1) i).1 k)) (C 0 1) (fun k hk => by have := (pmB_iff.mp hc _ (lt k hk)).1; omega)
    have hp : pmB (C 0 1) (dg5 (enc5 (fun k => c ((lay (C 0 1) i).1 k)) (C 0 1))) = true := by
      rw [pmB_iff]
      intro k hk
      rw [e2 k hk]
      refine ⟨(pmB_iff.mp hc _ (lt k hk)).1, fun l hl he' => ?_⟩
      rw [e2 l hl] at he'
      exact (ll k hk).2 l hl (inj _ (lt k hk) _ (lt l hl) he')
    have h5 : 5 ^ C 0 1 ≤ 3125 := Nat.pow_le_pow_right (show 0 < 5 by decide) (show C 0 1 ≤ 5 by omega)
    refine Or.inr ⟨_, Nat.lt_of_lt_of_le e1 h5, (pm_all hn e1 hp).1, ?_⟩
    rw [he, gg i _ (fun k hk => ⟨lt k hk, e2 k hk⟩)]
    congr 1
    unfold Em
    show (lay (C 0 1) i).2 = _
    rw [← l3]
    refine exL_cg (n := C 0 1) (fun k hk => ⟨?_, lt k hk⟩) _ 0 0 0 (by omega)
    rw [e2 k hk]
    exact (bTo_eq inj _ (Nat.le_refl _) (lt k hk)).symm
  have toC : ∀ i, i < 3125 → isO (C 0 1) i = true → Kc (gO C t f) (fun i => (lay (C 0 1) i).2) (facN (C 0 1)) (Gm C t f i, Em (C 0 1) c i) := by
    intro N hN hO
    have hp := pmB_iff.mp (isO_pm hn hO)
    have hbt : ∀ k, k < C 0 1 → bTo c (dg5 N k) (C 0 1) < C 0 1 ∧ c (bTo c (dg5 N k) (C 0 1)) = dg5 N k := by
      intro k hk
      obtain ⟨j, hj, he⟩ := pm_sur hn hc (hp k hk).1
      rw [← he, bTo_eq inj _ (Nat.le_refl _) hj]
      exact ⟨hj, rfl⟩
    have hpp : pmB (C 0 1) (fun k => bTo c (dg5 N k) (C 0 1)) = true := by
      rw [pmB_iff]
      intro k hk
      refine ⟨(hbt k hk).1, fun l hl he => (hp k hk).2 l hl ?_⟩
      rw [← (hbt k hk).2, ← (hbt l hl).2, he]
    obtain ⟨i, hi, h2, h3⟩ := pm_lay hn hpp
    refine ⟨i, hi, ?_⟩
    rw [gg i N (fun k hk => by rw [h2 k hk]; exact ⟨(hbt k hk).1, (hbt k hk).2.symm⟩)]
    congr 1
  have bb : bst (Kc (gO C t f) (fun i => (lay (C 0 1) i).2) (facN (C 0 1))) (bsM (C 0 1) (Gm C t f) (Em (C 0 1) c) 3125 0 (0, 0)) := by
    refine ⟨?_, fun q hq => b.2 q (toM q hq)⟩
    rcases b.1 with u | ⟨i, hi, h2, h3⟩
    · have k0 : Kc (gO C t f) (fun i => (lay (C 0 1) i).2) (facN (C 0 1)) (gO C t f 0, (lay (C 0 1) 0).2) := ⟨0, h1, rfl⟩
      have := b.2 _ (toM _ k0)
      rw [u] at this ⊢
      have g0 : gO C t f 0 = 0 := by
        rcases this with w | w
        · exact absurd w (Nat.not_lt_zero _)
        · exact w.1
      rw [g0, lay_0 _ hn] at k0
      exact k0
    · rw [h3]
      exact toC i hi h2
  rw [r1, bst_uniq r2 bb]
end PERM
