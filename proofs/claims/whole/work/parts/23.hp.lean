/-! ===== the heap of the run: what never changes (shp), and the numbers in it: I address place, J address ===== -/
abbrev pmShp : Type := (Nat × List (Option (Option Nat))) ⊕ (Nat × Nat) ⊕ (Nat × List Nat)
def shpL_0 : List pmShp := [.inl (11, [some (some 4), none, some (some 5), some (some 13), some (some 14), some (some 23), some (some 30), some (some 37), some (some 137), some (some 138), some (some 139), some (some 140), some (some 142), some (some 146), some (some 148), some (some 151)]), .inr (.inl (0, 48)), .inl (4, [some (some 6), some (some 7), some (some 8), some (some 9), some (some 10), some (some 11), some (some 12), none, none, none]), .inr (.inl (0, 4)), .inr (.inl (0, 5)), .inr (.inl (0, 5)), .inr (.inl (0, 5)), .inr (.inl (0, 4)), .inr (.inl (0, 4)), .inr (.inl (0, 4)), .inl (7, [some (some 5), none, none]), .inl (7, [some (some 15), none, none]), .inl (4, [some (some 16), some (some 17), some (some 18), some (some 19), some (some 20), some (some 21), some (some 22), none, none, none]), .inr (.inl (0, 4)), .inr (.inl (0, 5)), .inr (.inl (0, 5)), .inr (.inl (0, 5)), .inr (.inl (0, 4)), .inr (.inl (0, 4)), .inr (.inl (0, 4)), .inl (10, [some (some 5), some (some 24), none, none]), .inr (.inr (3, [25, 26, 27, 28, 29])), .inl (1, [none, none, none, none, none, none, none]), .inl (1, [none, none, none, none, none, none, none]), .inl (1, [none, none, none, none, none, none, none]), .inl (1, [none, none, none, none, none, none, none]), .inl (1, [none, none, none, none, none, none, none]), .inl (10, [some (some 5), some (some 31), none, none]), .inr (.inr (3, [32, 33, 34, 35, 36])), .inl (1, [none, none, none, none, none, none, none]), .inl (1, [none, none, none, none, none, none, none])]
def shpL_1 : List pmShp := [.inl (1, [none, none, none, none, none, none, none]), .inl (1, [none, none, none, none, none, none, none]), .inl (1, [none, none, none, none, none, none, none]), .inl (0, [some (some 38), none, none]), .inr (.inr (2, [39, 46, 53, 60, 67, 74, 81, 88, 95, 102, 109, 116, 123, 130])), .inl (10, [some (some 5), some (some 40), none, none]), .inr (.inr (3, [41, 42, 43, 44, 45])), .inl (1, [none, none, none, none, none, none, none]), .inl (1, [none, none, none, none, none, none, none]), .inl (1, [none, none, none, none, none, none, none]), .inl (1, [none, none, none, none, none, none, none]), .inl (1, [none, none, none, none, none, none, none]), .inl (10, [some (some 5), some (some 47), none, none]), .inr (.inr (3, [48, 49, 50, 51, 52])), .inl (1, [none, none, none, none, none, none, none]), .inl (1, [none, none, none, none, none, none, none]), .inl (1, [none, none, none, none, none, none, none]), .inl (1, [none, none, none, none, none, none, none]), .inl (1, [none, none, none, none, none, none, none]), .inl (10, [some (some 5), some (some 54), none, none]), .inr (.inr (3, [55, 56, 57, 58, 59])), .inl (1, [none, none, none, none, none, none, none]), .inl (1, [none, none, none, none, none, none, none]), .inl (1, [none, none, none, none, none, none, none]), .inl (1, [none, none, none, none, none, none, none]), .inl (1, [none, none, none, none, none, none, none]), .inl (10, [some (some 5), some (some 61), none, none]), .inr (.inr (3, [62, 63, 64, 65, 66])), .inl (1, [none, none, none, none, none, none, none]), .inl (1, [none, none, none, none, none, none, none]), .inl (1, [none, none, none, none, none, none, none])]
def shpL_2 : List pmShp := [.inl (1, [none, none, none, none, none, none, none]), .inl (1, [none, none, none, none, none, none, none]), .inl (10, [some (some 5), some (some 68), none, none]), .inr (.inr (3, [69, 70, 71, 72, 73])), .inl (1, [none, none, none, none, none, none, none]), .inl (1, [none, none, none, none, none, none, none]), .inl (1, [none, none, none, none, none, none, none]), .inl (1, [none, none, none, none, none, none, none]), .inl (1, [none, none, none, none, none, none, none]), .inl (10, [some (some 5), some (some 75), none, none]), .inr (.inr (3, [76, 77, 78, 79, 80])), .inl (1, [none, none, none, none, none, none, none]), .inl (1, [none, none, none, none, none, none, none]), .inl (1, [none, none, none, none, none, none, none]), .inl (1, [none, none, none, none, none, none, none]), .inl (1, [none, none, none, none, none, none, none]), .inl (10, [some (some 5), some (some 82), none, none]), .inr (.inr (3, [83, 84, 85, 86, 87])), .inl (1, [none, none, none, none, none, none, none]), .inl (1, [none, none, none, none, none, none, none]), .inl (1, [none, none, none, none, none, none, none]), .inl (1, [none, none, none, none, none, none, none]), .inl (1, [none, none, none, none, none, none, none]), .inl (10, [some (some 5), some (some 89), none, none]), .inr (.inr (3, [90, 91, 92, 93, 94])), .inl (1, [none, none, none, none, none, none, none]), .inl (1, [none, none, none, none, none, none, none]), .inl (1, [none, none, none, none, none, none, none]), .inl (1, [none, none, none, none, none, none, none]), .inl (1, [none, none, none, none, none, none, none]), .inl (10, [some (some 5), some (some 96), none, none])]
def shpL_3 : List pmShp := [.inr (.inr (3, [97, 98, 99, 100, 101])), .inl (1, [none, none, none, none, none, none, none]), .inl (1, [none, none, none, none, none, none, none]), .inl (1, [none, none, none, none, none, none, none]), .inl (1, [none, none, none, none, none, none, none]), .inl (1, [none, none, none, none, none, none, none]), .inl (10, [some (some 5), some (some 103), none, none]), .inr (.inr (3, [104, 105, 106, 107, 108])), .inl (1, [none, none, none, none, none, none, none]), .inl (1, [none, none, none, none, none, none, none]), .inl (1, [none, none, none, none, none, none, none]), .inl (1, [none, none, none, none, none, none, none]), .inl (1, [none, none, none, none, none, none, none]), .inl (10, [some (some 5), some (some 110), none, none]), .inr (.inr (3, [111, 112, 113, 114, 115])), .inl (1, [none, none, none, none, none, none, none]), .inl (1, [none, none, none, none, none, none, none]), .inl (1, [none, none, none, none, none, none, none]), .inl (1, [none, none, none, none, none, none, none]), .inl (1, [none, none, none, none, none, none, none]), .inl (10, [some (some 5), some (some 117), none, none]), .inr (.inr (3, [118, 119, 120, 121, 122])), .inl (1, [none, none, none, none, none, none, none]), .inl (1, [none, none, none, none, none, none, none]), .inl (1, [none, none, none, none, none, none, none]), .inl (1, [none, none, none, none, none, none, none]), .inl (1, [none, none, none, none, none, none, none]), .inl (10, [some (some 5), some (some 124), none, none]), .inr (.inr (3, [125, 126, 127, 128, 129])), .inl (1, [none, none, none, none, none, none, none]), .inl (1, [none, none, none, none, none, none, none])]
def shpL_4 : List pmShp := [.inl (1, [none, none, none, none, none, none, none]), .inl (1, [none, none, none, none, none, none, none]), .inl (1, [none, none, none, none, none, none, none]), .inl (10, [some (some 5), some (some 131), none, none]), .inr (.inr (3, [132, 133, 134, 135, 136])), .inl (1, [none, none, none, none, none, none, none]), .inl (1, [none, none, none, none, none, none, none]), .inl (1, [none, none, none, none, none, none, none]), .inl (1, [none, none, none, none, none, none, none]), .inl (1, [none, none, none, none, none, none, none]), .inr (.inr (2, [152, 159])), .inr (.inl (1, 2)), .inl (6, [some (some 23), some (some 30)]), .inl (9, [some (some 30), some (some 141), none, none]), .inr (.inl (0, 5)), .inl (5, [some (some 5), some (some 143), some (some 144), some (some 145), none]), .inr (.inl (0, 6)), .inr (.inl (0, 6)), .inl (1, [none, none, none, none, none, none, none]), .inl (8, [some (some 23), some (some 30), some (some 147)]), .inr (.inl (0, 16)), .inl (2, [some (some 23), some (some 30), some (some 149), some (some 150)]), .inr (.inl (0, 4)), .inr (.inl (0, 4)), .inl (3, [some (some 23), some (some 30), some none]), .inl (10, [some (some 5), some (some 153), none, none]), .inr (.inr (3, [154, 155, 156, 157, 158])), .inl (1, [none, none, none, none, none, none, none]), .inl (1, [none, none, none, none, none, none, none]), .inl (1, [none, none, none, none, none, none, none]), .inl (1, [none, none, none, none, none, none, none])]
def shpL_5 : List pmShp := [.inl (1, [none, none, none, none, none, none, none]), .inl (10, [some (some 5), some (some 160), none, none]), .inr (.inr (3, [161, 162, 163, 164, 165])), .inl (1, [none, none, none, none, none, none, none]), .inl (1, [none, none, none, none, none, none, none]), .inl (1, [none, none, none, none, none, none, none]), .inl (1, [none, none, none, none, none, none, none]), .inl (1, [none, none, none, none, none, none, none]), .inl (12, [none, none, none, some (some 167), some (some 168), some (some 169), some (some 170), some (some 171), some (some 172), some (some 173), some (some 174), some (some 175), some (some 176), none, none, none, none, some (some 177), none, none, none, none, none, none, some (some 178), some (some 179), some (some 180), none, some (some 181), some (some 182), some none, some (some 183), some (some 184)]), .inr (.inl (0, 4)), .inr (.inl (0, 5)), .inr (.inl (0, 5)), .inr (.inl (0, 4)), .inr (.inl (0, 4)), .inr (.inl (0, 4)), .inr (.inl (0, 62)), .inr (.inl (0, 4)), .inr (.inl (0, 15)), .inr (.inl (0, 12)), .inr (.inl (0, 48)), .inr (.inl (0, 434)), .inr (.inl (0, 5)), .inr (.inl (0, 5)), .inr (.inl (0, 6)), .inr (.inl (0, 6)), .inr (.inl (1, 2)), .inr (.inl (0, 62))]
def shpL : List pmShp := shpL_0 ++ (shpL_1 ++ (shpL_2 ++ (shpL_3 ++ (shpL_4 ++ (shpL_5)))))
def pmFill (s : pmShp) (F : Nat → Int32) (j : Int64) : va_E := match s with
  | .inl (ci, fs) => .inr (ci, fs.mapIdx (fun k f => match f with
    | none => .int (F k)
    | some none => .long j
    | some (some r) => .ref r))
  | .inr (.inl (t, n)) => .inl (t, n, .inl F)
  | .inr (.inr (t, rs)) => .inl (t, rs.length, .inr (.inr (.inr (.inr (fun i => rs[i]?)))))
def hp (X : Nat × (Nat → Int32)) (I : Nat → Nat → Int32) (J : Nat → Int64) : pmH := pmRO X.1 X.2 ++ shpL.mapIdx (fun k s => pmFill s (I (k + 3)) (J (k + 3)))
def shA (a : Nat) : Option pmShp := match a with
  | k + 3 => shpL[k]?
  | _ => none
def upR {α : Type} (I : Nat → α) (a : Nat) (F : α) : Nat → α := fun x => if x = a then F else I x
def up (I : Nat → Nat → Int32) (a k : Nat) (v : Int32) : Nat → Nat → Int32 := upR I a (upd (I a) k v)
section HP
variable {X : Nat × (Nat → Int32)} {I : Nat → Nat → Int32} {J : Nat → Int64} {M N : pmM} {nx a ci k n r : Nat} {L : pmL} {S : List Value}
theorem hp_at {s : pmShp} (h : shA a = some s) : (hp X I J)[a]? = some (pmFill s (I a) (J a)) ∧ 3 ≤ a := by
  unfold shA at h
  split at h
  · rename_i b
    refine ⟨?_, by omega⟩
    unfold hp
    rw [pmRO_at, List.getElem?_mapIdx, h]
    rfl
  · cases h
theorem hp_len : (hp X I J).length = 185 := by
  unfold hp
  rw [pmRO_len, List.length_mapIdx]
  rfl
theorem hp_set {s : pmShp} {F : Nat → Int32} (h : shA a = some s) : (hp X I J).set a (pmFill s F (J a)) = hp X (upR I a F) J := by
  unfold shA at h
  split at h
  · rename_i b
    unfold hp
    rw [pmRO_set]
    refine congrArg (fun z => pmRO X.1 X.2 ++ z) (List.ext_getElem? fun i => ?_)
    rw [List.getElem?_set, List.getElem?_mapIdx, List.getElem?_mapIdx, List.length_mapIdx]
    by_cases hi : b = i
    · subst hi
      rw [if_pos rfl, if_pos (List.getElem?_eq_some_iff.mp h).1, h]
      simp [upR]
    · rw [if_neg hi]
      have : ¬ (i = b) := fun z => hi z.symm
      simp [upR, this]
  · cases h
theorem hp_setJ {s : pmShp} {j : Int64} (h : shA a = some s) : (hp X I J).set a (pmFill s (I a) j) = hp X I (upR J a j) := by
  unfold shA at h
  split at h
  · rename_i b
    unfold hp
    rw [pmRO_set]
    refine congrArg (fun z => pmRO X.1 X.2 ++ z) (List.ext_getElem? fun i => ?_)
    rw [List.getElem?_set, List.getElem?_mapIdx, List.getElem?_mapIdx, List.length_mapIdx]
    by_cases hi : b = i
    · subst hi
      rw [if_pos rfl, if_pos (List.getElem?_eq_some_iff.mp h).1, h]
      simp [upR]
    · rw [if_neg hi]
      have : ¬ (i = b) := fun z => hi z.symm
      simp [upR, this]
  · cases h
/-- a is an object of class ci whose field k is an int (not final) -/
def okI (a ci k : Nat) : Bool := match shA a with
  | some (.inl (c, fs)) => c == ci && decide (fs[k]? = some none) && decide (k < pmNF ci) && decide (pmTy ci k = .int) && decide ((pmTX ci k).2.2.2 = false)
  | _ => false
def okJ (a ci k : Nat) : Bool := match shA a with
  | some (.inl (c, fs)) => c == ci && decide (fs[k]? = some (some none)) && decide (k < pmNF ci) && decide (pmTy ci k = .long) && decide ((pmTX ci k).2.2.2 = false) && decide (∀ i, i < fs.length → fs[i]? = some (some none) → i = k)
  | _ => false
def okR (a ci k r : Nat) : Bool := match shA a with
  | some (.inl (c, fs)) => c == ci && decide (fs[k]? = some (some (some r))) && decide (k < pmNF ci)
  | _ => false
def okO (a ci : Nat) : Bool := match shA a with
  | some (.inl (c, _)) => c == ci
  | _ => false
def okA (a n : Nat) : Bool := decide (shA a = some (.inr (.inl (0, n))))
def okZ (a n : Nat) : Bool := decide (shA a = some (.inr (.inl (1, n))))
def okQ (a i r : Nat) : Bool := match shA a with
  | some (.inr (.inr (t, rs))) => (t == 2 || t == 3) && decide (rs[i]? = some r) && decide (rs.length < 100)
  | _ => false
theorem hp_obj (h : okO a ci = true) : pmIsObj (hp X I J) ci (some (.ref a)) = true := by
  unfold okO at h
  split at h
  · rename_i c fs hs
    obtain ⟨h1, h2⟩ := hp_at (X := X) (I := I) (J := J) hs
    unfold pmIsObj
    simp only [h1, pmFill, Bool.and_eq_true, decide_eq_true_eq]
    exact ⟨h, h2⟩
  · cases h
theorem zGet_i (h : okI a ci k = true) : zGet M nx ci k L (.ref a :: S) (hp X I J) = pmV M nx L (.int (I a k) :: S) (hp X I J) := by
  unfold okI at h
  split at h
  · rename_i c fs hs
    simp only [Bool.and_eq_true, decide_eq_true_eq, beq_iff_eq] at h
    obtain ⟨⟨⟨⟨rfl, h2⟩, h3⟩, h4⟩, h5⟩ := h
    obtain ⟨g1, g2⟩ := hp_at (X := X) (I := I) (J := J) hs
    unfold zGet
    simp only [g1, pmFill]
    rw [if_pos ⟨trivial, g2, h3⟩, List.getElem?_mapIdx, h2]
    rfl
  · cases h
theorem zGet_j (h : okJ a ci k = true) : zGet M nx ci k L (.ref a :: S) (hp X I J) = pmV M nx L (.long (J a) :: S) (hp X I J) := by
  unfold okJ at h
  split at h
  · rename_i c fs hs
    simp only [Bool.and_eq_true, decide_eq_true_eq, beq_iff_eq] at h
    obtain ⟨⟨⟨⟨⟨rfl, h2⟩, h3⟩, h4⟩, h5⟩, h6⟩ := h
    obtain ⟨g1, g2⟩ := hp_at (X := X) (I := I) (J := J) hs
    unfold zGet
    simp only [g1, pmFill]
    rw [if_pos ⟨trivial, g2, h3⟩, List.getElem?_mapIdx, h2]
    rfl
  · cases h
theorem zGet_r (h : okR a ci k r = true) : zGet M nx ci k L (.ref a :: S) (hp X I J) = pmV M nx L (.ref r :: S) (hp X I J) := by
  unfold okR at h
  split at h
  · rename_i c fs hs
    simp only [Bool.and_eq_true, decide_eq_true_eq, beq_iff_eq] at h
    obtain ⟨⟨rfl, h2⟩, h3⟩ := h
    obtain ⟨g1, g2⟩ := hp_at (X := X) (I := I) (J := J) hs
    unfold zGet
    simp only [g1, pmFill]
    rw [if_pos ⟨trivial, g2, h3⟩, List.getElem?_mapIdx, h2]
    rfl
  · cases h
theorem zPut_i {v : Int32} (h : okI a ci k = true) : zPut M nx ci k L (.int v :: .ref a :: S) (hp X I J) = pmV M nx L S (hp X (up I a k v) J) := by
  unfold okI at h
  split at h
  · rename_i c fs hs
    simp only [Bool.and_eq_true, decide_eq_true_eq, beq_iff_eq] at h
    obtain ⟨⟨⟨⟨rfl, h2⟩, h3⟩, h4⟩, h5⟩ := h
    obtain ⟨g1, g2⟩ := hp_at (X := X) (I := I) (J := J) hs
    have hk : k < fs.length := (List.getElem?_eq_some_iff.mp h2).1
    unfold zPut
    simp only [g1, pmFill]
    rw [if_pos ⟨trivial, g2, h3, by rw [List.length_mapIdx]; exact hk, by rw [h4]; rfl, Or.inl h5⟩]
    have e : (Sum.inr (c, (fs.mapIdx (fun k f => match f with
      | none => Value.int (I a k)
      | some none => .long (J a)
      | some (some r) => .ref r)).set k (.int v)) : va_E) = pmFill (.inl (c, fs)) (upd (I a) k v) (J a) := by
      unfold pmFill
      simp only
      congr 2
      refine List.ext_getElem? fun i => ?_
      rw [List.getElem?_set, List.getElem?_mapIdx, List.getElem?_mapIdx, List.length_mapIdx]
      by_cases hi : k = i
      · subst hi
        rw [if_pos rfl, if_pos hk, h2]
        simp [upd]
      · rw [if_neg hi]
        cases fs[i]? with
        | none => rfl
        | some o =>
          cases o with
          | none => simp [upd, Ne.symm hi]
          | some o => cases o <;> rfl
    rw [e, hp_set hs]
    rfl
  · cases h
theorem zPut_j {v : Int64} (h : okJ a ci k = true) : zPut M nx ci k L (.long v :: .ref a :: S) (hp X I J) = pmV M nx L S (hp X I (upR J a v)) := by
  unfold okJ at h
  split at h
  · rename_i c fs hs
    simp only [Bool.and_eq_true, decide_eq_true_eq, beq_iff_eq] at h
    obtain ⟨⟨⟨⟨⟨rfl, h2⟩, h3⟩, h4⟩, h5⟩, h6⟩ := h
    obtain ⟨g1, g2⟩ := hp_at (X := X) (I := I) (J := J) hs
    have hk : k < fs.length := (List.getElem?_eq_some_iff.mp h2).1
    unfold zPut
    simp only [g1, pmFill]
    rw [if_pos ⟨trivial, g2, h3, by rw [List.length_mapIdx]; exact hk, by rw [h4]; rfl, Or.inl h5⟩]
    have e : (Sum.inr (c, (fs.mapIdx (fun k f => match f with
      | none => Value.int (I a k)
      | some none => .long (J a)
      | some (some r) => .ref r)).set k (.long v)) : va_E) = pmFill (.inl (c, fs)) (I a) v := by
      unfold pmFill
      simp only
      congr 2
      refine List.ext_getElem? fun i => ?_
      rw [List.getElem?_set, List.getElem?_mapIdx, List.getElem?_mapIdx, List.length_mapIdx]
      by_cases hi : k = i
      · subst hi
        rw [if_pos rfl, if_pos hk, h2]
        rfl
      · rw [if_neg hi]
        cases hf : fs[i]? with
        | none => rfl
        | some o =>
          cases o with
          | none => rfl
          | some o =>
            cases o with
            | none => exact absurd (h6 i (List.getElem?_eq_some_iff.mp hf).1 hf).symm hi
            | some r => rfl
    rw [e, hp_setJ hs]
  · cases h
theorem zIald_h {i : Int32} (h : okA a n = true) (hi : vp_in i n) : zIald M nx L (.int i :: .ref a :: S) (hp X I J) = pmV M nx L (.int (I a i.toNatClampNeg) :: S) (hp X I J) := by
  obtain ⟨g1, g2⟩ := hp_at (X := X) (I := I) (J := J) (of_decide_eq_true h)
  unfold zIald
  simp only [g1, pmFill]
  exact if_pos ⟨trivial, decide_eq_true hi⟩
theorem zIast_h {i x : Int32} (h : okA a n = true) (hi : vp_in i n) : zIast M nx L (.int x :: .int i :: .ref a :: S) (hp X I J) = pmV M nx L S (hp X (up I a i.toNatClampNeg x) J) := by
  have hs : shA a = _ := of_decide_eq_true h
  obtain ⟨g1, g2⟩ := hp_at (X := X) (I := I) (J := J) hs
  unfold zIast
  simp only [g1, pmFill]
  rw [if_pos ⟨trivial, g2, decide_eq_true hi⟩]
  have e : (Sum.inl (0, n, Sum.inl (upd (I a) i.toNatClampNeg x)) : va_E) = pmFill (.inr (.inl (0, n))) (upd (I a) i.toNatClampNeg x) (J a) := rfl
  rw [e, hp_set hs]
  rfl
theorem zBald_h {i : Int32} (h : okZ a n = true) (hi : vp_in i n) : zBald M nx L (.int i :: .ref a :: S) (hp X I J) = pmV M nx L (.int (I a i.toNatClampNeg) :: S) (hp X I J) := by
  obtain ⟨g1, g2⟩ := hp_at (X := X) (I := I) (J := J) (of_decide_eq_true h)
  unfold zBald
  simp only [g1, pmFill]
  exact if_pos ⟨trivial, g2, decide_eq_true hi⟩
theorem zBast_h {i x : Int32} (h : okZ a n = true) (hi : vp_in i n) : zBast M nx L (.int x :: .int i :: .ref a :: S) (hp X I J) = pmV M nx L S (hp X (up I a i.toNatClampNeg (vp_nar .boolean x)) J) := by
  have hs : shA a = _ := of_decide_eq_true h
  obtain ⟨g1, g2⟩ := hp_at (X := X) (I := I) (J := J) hs
  unfold zBast
  simp only [g1, pmFill]
  rw [if_pos ⟨trivial, g2, decide_eq_true hi⟩]
  have e : (Sum.inl (1, n, Sum.inl (upd (I a) i.toNatClampNeg (vp_nar .boolean x))) : va_E) = pmFill (.inr (.inl (1, n))) (upd (I a) i.toNatClampNeg (vp_nar .boolean x)) (J a) := rfl
  rw [e, hp_set hs]
  rfl
theorem zAald_h {i : Nat} (h : okQ a i r = true) : zAald M nx L (.int (nI i) :: .ref a :: S) (hp X I J) = pmV M nx L (.ref r :: S) (hp X I J) := by
  unfold okQ at h
  split at h
  · rename_i t rs hs
    simp only [Bool.and_eq_true, Bool.or_eq_true, decide_eq_true_eq, beq_iff_eq] at h
    obtain ⟨⟨h1, h2⟩, h3⟩ := h
    have hlt := (List.getElem?_eq_some_iff.mp h2).1
    obtain ⟨g1, g2⟩ := hp_at (X := X) (I := I) (J := J) hs
    unfold zAald
    simp only [g1, pmFill]
    rw [if_pos ⟨h1, g2, decide_eq_true (nI_in hlt (by omega))⟩, nI_clamp (by omega), h2]
    rfl
  · cases h
theorem zLen_h (h : okA a n = true) : zLen M nx L (.ref a :: S) (hp X I J) = pmV M nx L (.int (nI n) :: S) (hp X I J) := by
  obtain ⟨g1, g2⟩ := hp_at (X := X) (I := I) (J := J) (of_decide_eq_true h)
  unfold zLen
  simp only [g1, pmFill]
  exact if_pos ⟨trivial, Or.inr g2⟩
/-! the two tables and the script -/
theorem zIald_s {i : Int32} (hi : vp_in i X.1) : zIald M nx L (.int i :: .ref 0 :: S) (hp X I J) = pmV M nx L (.int (X.2 i.toNatClampNeg) :: S) (hp X I J) := by
  show (if (0 : Nat) = 0 ∧ pmIn i X.1 = true then pmV M nx L (.int (X.2 i.toNatClampNeg) :: S) (hp X I J) else none) = _
  exact if_pos ⟨rfl, decide_eq_true hi⟩
theorem zLen_s : zLen M nx L (.ref 0 :: S) (hp X I J) = pmV M nx L (.int (nI X.1) :: S) (hp X I J) := by
  show (if (0 : Nat) = 0 ∧ ((0 : Nat) = 0 ∨ 3 ≤ 0) then pmV M nx L (.int (nI X.1) :: S) (hp X I J) else none) = _
  exact if_pos ⟨rfl, Or.inl rfl⟩
theorem zIald_f {i : Nat} (hi : i < 6) : zIald M nx L (.int (nI i) :: .ref 1 :: S) (hp X I J) = pmV M nx L (.int (pmFac i) :: S) (hp X I J) := by
  show (if (0 : Nat) = 0 ∧ pmIn (nI i) 6 = true then pmV M nx L (.int (pmFac (nI i).toNatClampNeg) :: S) (hp X I J) else none) = _
  rw [if_pos ⟨rfl, decide_eq_true (nI_in hi (by omega))⟩, nI_clamp (by omega)]
theorem zLald_t {i : Nat} (hi : i < 5) : zLald M nx L (.int (nI i) :: .ref 2 :: S) (hp X I J) = pmV M nx L (.long (pmTho i) :: S) (hp X I J) := by
  show (if (4 : Nat) = 4 ∧ (2 : Nat) = 2 ∧ pmIn (nI i) 5 = true then pmV M nx L (.long (pmTho (nI i).toNatClampNeg) :: S) (hp X I J) else none) = _
  rw [if_pos ⟨rfl, rfl, decide_eq_true (nI_in hi (by omega))⟩, nI_clamp (by omega)]
end HP
